
/-! ===== the small heap: (how many cells the machine has, slots used, kinds: (tag, length), contents) ===== -/
abbrev jm_H : Type := Nat × Nat × (Nat → Nat × Nat) × (Nat → Nat → Value)
def jm_o (c : Nat) : Nat := 2 * c + 2
def jm_a (t : Nat) : Nat := 2 * t + 1
def jm_put (h : jm_H) (a k : Nat) (v : Value) : jm_H := (h.1, h.2.1, h.2.2.1, fun b j => if b = a ∧ j = k then v else h.2.2.2 b j)
def jm_new (h : jm_H) (t n : Nat) (f : Nat → Value) : jm_H := (h.1 + 1, h.2.1 + n, fun b => if b = h.1 then (t, n) else h.2.2.1 b, fun b j => if b = h.1 then f j else h.2.2.2 b j)
theorem jm_o_inj {a b : Nat} (h : jm_o a = jm_o b) : a = b := by unfold jm_o at h; omega
theorem jm_a_inj {a b : Nat} (h : jm_a a = jm_a b) : a = b := by unfold jm_a at h; omega
theorem jm_oa {a b : Nat} (h : jm_o a = jm_a b) : False := by unfold jm_o jm_a at h; omega
/-- the world: numbers of classes and slots, numbers of array classes, the first cell that is ours -/
abbrev jm_G : Type := va_G × (Nat → ClassId) × Nat
def jm_A (G : jm_G) : Nat → Prop := fun q => G.2.2 ≤ q
def jm_K (G : jm_G) (U : State) : Prop := (∀ (c : Nat) (q : vw_C), jm_cl[c]? = some q → u_Kn U q.1 q.2.1 q.2.2 (G.1.1 c) (G.1.2 c)) ∧ ∀ t : Nat, t < jm_nt → ArrOfT U (G.2.1 t) (jm_ty t) ∧ va_RA U (G.2.1 t) (jm_ty t)
theorem jm_K.moved {G : jm_G} {u U : State} (hvm : u.vm.Alike U.vm) (h : jm_K G u) : jm_K G U := ⟨fun c q hq => u_Kn_moved hvm (h.1 c q hq), fun t ht => ⟨arrOfT_moved hvm (h.2 t ht).1, (h.2 t ht).2.moved hvm⟩⟩
/-- the part below ours: the first cell that is ours is there; what has kind 0 and a length below it is an array of int that nobody writes -/
def jm_B (G : jm_G) (h : jm_H) (H : Heap) : Prop := G.2.2 ≤ H.size ∧ ∀ a n : Nat, a < G.2.2 → h.2.2.1 a = (0, n + 1) → ∃ cell : Cell, H[a]? = some cell ∧ cell.cls = G.2.1 5 ∧ (∀ k, cell.vm ≠ .statics k) ∧ cell.vm ≠ .unknown ∧ cell.slots.size = n ∧ ∀ j : Nat, j < n → cell.slots[j]? = some (h.2.2.2 a j)
def jm_R (G : jm_G) (h : jm_H) (H : Heap) : Prop := h.1 = H.size ∧ jm_B G h H ∧
  (∀ a c n : Nat, h.2.2.1 a = (jm_o c, n) → G.2.2 ≤ a ∧ ∃ r : vw_C, jm_cl[c]? = some r ∧ t_OB a (G.1.1 c) r.2.2 (G.1.2 c) H (h.2.2.2 a)) ∧
  ∀ a t n : Nat, h.2.2.1 a = (jm_a t, n) → G.2.2 ≤ a ∧ t < jm_nt ∧ H[a]? = some (arrV (G.2.1 t) n (h.2.2.2 a))
theorem jm_put_at (h : jm_H) (a k : Nat) (v : Value) : (jm_put h a k v).2.2.2 a = updV (h.2.2.2 a) k v := by
  funext j
  simp [jm_put, updV]
theorem jm_put_ne (h : jm_H) {a b : Nat} (k : Nat) (v : Value) (hb : b ≠ a) : (jm_put h a k v).2.2.2 b = h.2.2.2 b := by
  funext j
  simp [jm_put, hb]
theorem jm_new_at (h : jm_H) (t n : Nat) (f : Nat → Value) : (jm_new h t n f).2.2.2 h.1 = f := by
  funext j
  simp [jm_new]
theorem jm_new_ne (h : jm_H) (t n : Nat) (f : Nat → Value) {b : Nat} (hb : b ≠ h.1) : (jm_new h t n f).2.2.2 b = h.2.2.2 b := by
  funext j
  simp [jm_new, hb]
theorem jm_B.put {G : jm_G} {h : jm_H} {H H1 : Heap} {a k : Nat} {v : Value} (hB : jm_B G h H) (hz : H1.size = H.size) (hq : ∀ q : Nat, q ≠ a → H1[q]? = H[q]?) (ha : G.2.2 ≤ a) : jm_B G (jm_put h a k v) H1 := by
  refine ⟨by rw [hz]; exact hB.1, fun b n hb hk => ?_⟩
  have e : b ≠ a := by omega
  rw [jm_put_ne h k v e, hq b e]
  exact hB.2 b n hb hk
theorem jm_B.new {G : jm_G} {h : jm_H} {H H1 : Heap} {t n : Nat} {f : Nat → Value} (hB : jm_B G h H) (h1 : h.1 = H.size) (hz : H1.size = h.1 + 1) (hq : ∀ q : Nat, q < h.1 → H1[q]? = H[q]?) : jm_B G (jm_new h t n f) H1 := by
  have h2 := hB.1
  refine ⟨by rw [hz, h1]; omega, fun b n' hb hk => ?_⟩
  have e : b ≠ h.1 := by omega
  have hk' : h.2.2.1 b = (0, n' + 1) := by
    simp only [jm_new, if_neg e] at hk
    exact hk
  rw [jm_new_ne h _ _ f e, hq b (by omega)]
  exact hB.2 b n' hb hk'
theorem jm_R.lt {G : jm_G} {h : jm_H} {H : Heap} (hR : jm_R G h H) {a c n : Nat} (hk : h.2.2.1 a = (jm_o c, n)) : a < H.size := by
  obtain ⟨-, r, -, cell, h1, -⟩ := hR.2.2.1 a c n hk
  exact (Array.getElem?_eq_some_iff.mp h1).1
theorem jm_R.ltA {G : jm_G} {h : jm_H} {H : Heap} (hR : jm_R G h H) {a t n : Nat} (hk : h.2.2.1 a = (jm_a t, n)) : a < H.size :=
  (Array.getElem?_eq_some_iff.mp (hR.2.2.2 a t n hk).2.2).1
/-- a field was written -/
theorem jm_R.putO {G : jm_G} {h : jm_H} {H H1 : Heap} (hR : jm_R G h H) {a c n k : Nat} {v : Value} (hk : h.2.2.1 a = (jm_o c, n)) (hz : H1.size = H.size) (hq : ∀ q : Nat, q ≠ a → H1[q]? = H[q]?)
    (hn : ∀ r : vw_C, jm_cl[c]? = some r → t_OB a (G.1.1 c) r.2.2 (G.1.2 c) H1 (updV (h.2.2.2 a) k v)) : jm_R G (jm_put h a k v) H1 := by
  obtain ⟨h1, h2, h3, h4⟩ := hR
  refine ⟨h1.trans hz.symm, h2.put hz hq (h3 a c n hk).1, fun b c' n' hb => ?_, fun b t n' hb => ?_⟩
  · obtain ⟨g1, r, g2, g3⟩ := h3 b c' n' hb
    refine ⟨g1, r, g2, ?_⟩
    by_cases e : b = a
    · subst e
      have e2 : c' = c := jm_o_inj (Prod.mk.inj (hb.symm.trans hk)).1
      subst e2
      rw [jm_put_at]
      exact hn r g2
    · rw [jm_put_ne h k v e]
      exact g3.kept (hq b e)
  · have e : b ≠ a := fun e => by
      subst e
      exact jm_oa (Prod.mk.inj (hk.symm.trans hb)).1
    obtain ⟨g1, g2, g3⟩ := h4 b t n' hb
    refine ⟨g1, g2, ?_⟩
    rw [jm_put_ne h k v e, hq b e]
    exact g3
/-- an element was written -/
theorem jm_R.putA {G : jm_G} {h : jm_H} {H H1 : Heap} (hR : jm_R G h H) {a t n k : Nat} {v : Value} (hk : h.2.2.1 a = (jm_a t, n)) (hz : H1.size = H.size) (hq : ∀ q : Nat, q ≠ a → H1[q]? = H[q]?)
    (hn : H1[a]? = some (arrV (G.2.1 t) n (updV (h.2.2.2 a) k v))) : jm_R G (jm_put h a k v) H1 := by
  obtain ⟨h1, h2, h3, h4⟩ := hR
  refine ⟨h1.trans hz.symm, h2.put hz hq (h4 a t n hk).1, fun b c' n' hb => ?_, fun b t' n' hb => ?_⟩
  · have e : b ≠ a := fun e => by
      subst e
      exact jm_oa (Prod.mk.inj (hb.symm.trans hk)).1
    obtain ⟨g1, r, g2, g3⟩ := h3 b c' n' hb
    refine ⟨g1, r, g2, ?_⟩
    rw [jm_put_ne h k v e]
    exact g3.kept (hq b e)
  · obtain ⟨g1, g2, g3⟩ := h4 b t' n' hb
    refine ⟨g1, g2, ?_⟩
    by_cases e : b = a
    · subst e
      have e2 := Prod.mk.inj (hb.symm.trans hk)
      have e3 := jm_a_inj e2.1
      have e4 := e2.2
      subst e3; subst e4
      rw [jm_put_at]
      exact hn
    · rw [jm_put_ne h k v e, hq b e]
      exact g3
theorem jm_R.kd {G : jm_G} {h : jm_H} {H : Heap} (hR : jm_R G h H) {c n : Nat} : h.2.2.1 h.1 ≠ (jm_o c, n) := fun hk => by
  have h1 := hR.lt hk
  rw [hR.1] at h1
  exact Nat.lt_irrefl _ h1
/-- an object was made -/
theorem jm_R.newO {G : jm_G} {h : jm_H} {H H1 : Heap} (hR : jm_R G h H) {c n : Nat} {f : Nat → Value} {r : vw_C} (hc : jm_cl[c]? = some r) (hz : H1.size = h.1 + 1) (hq : ∀ q : Nat, q < h.1 → H1[q]? = H[q]?)
    (hn : t_OB h.1 (G.1.1 c) r.2.2 (G.1.2 c) H1 f) : jm_R G (jm_new h (jm_o c) n f) H1 := by
  have hlt := @jm_R.lt G h H hR
  have hltA := @jm_R.ltA G h H hR
  obtain ⟨h1, h2, h3, h4⟩ := hR
  refine ⟨hz.symm, h2.new h1 hz hq, fun b c' n' hb => ?_, fun b t n' hb => ?_⟩
  · by_cases e : b = h.1
    · subst e
      have hb' : (jm_o c, n) = (jm_o c', n') := by
        have := hb
        simp only [jm_new, if_true] at this
        exact this
      have e2 := jm_o_inj (Prod.mk.inj hb').1
      subst e2
      refine ⟨by rw [h1]; exact h2.1, r, hc, ?_⟩
      rw [jm_new_at]
      exact hn
    · have hb' : h.2.2.1 b = (jm_o c', n') := by
        have := hb
        simp only [jm_new, if_neg e] at this
        exact this
      obtain ⟨g1, r', g2, g3⟩ := h3 b c' n' hb'
      refine ⟨g1, r', g2, ?_⟩
      rw [jm_new_ne h _ _ f e]
      exact g3.kept (hq b (by rw [h1]; exact hlt hb'))
  · have e : b ≠ h.1 := fun e => by
      subst e
      have := hb
      simp only [jm_new, if_true] at this
      exact jm_oa (Prod.mk.inj this).1
    have hb' : h.2.2.1 b = (jm_a t, n') := by
      have := hb
      simp only [jm_new, if_neg e] at this
      exact this
    obtain ⟨g1, g2, g3⟩ := h4 b t n' hb'
    refine ⟨g1, g2, ?_⟩
    rw [jm_new_ne h _ _ f e, hq b (by rw [h1]; exact hltA hb')]
    exact g3
/-- an array was made -/
theorem jm_R.newA {G : jm_G} {h : jm_H} {H H1 : Heap} (hR : jm_R G h H) {t n : Nat} {f : Nat → Value} (ht : t < jm_nt) (hz : H1.size = h.1 + 1) (hq : ∀ q : Nat, q < h.1 → H1[q]? = H[q]?)
    (hn : H1[h.1]? = some (arrV (G.2.1 t) n f)) : jm_R G (jm_new h (jm_a t) n f) H1 := by
  have hlt := @jm_R.lt G h H hR
  have hltA := @jm_R.ltA G h H hR
  obtain ⟨h1, h2, h3, h4⟩ := hR
  refine ⟨hz.symm, h2.new h1 hz hq, fun b c' n' hb => ?_, fun b t' n' hb => ?_⟩
  · have e : b ≠ h.1 := fun e => by
      subst e
      have := hb
      simp only [jm_new, if_true] at this
      exact jm_oa (Prod.mk.inj this.symm).1
    have hb' : h.2.2.1 b = (jm_o c', n') := by
      have := hb
      simp only [jm_new, if_neg e] at this
      exact this
    obtain ⟨g1, r', g2, g3⟩ := h3 b c' n' hb'
    refine ⟨g1, r', g2, ?_⟩
    rw [jm_new_ne h _ _ f e]
    exact g3.kept (hq b (by rw [h1]; exact hlt hb'))
  · by_cases e : b = h.1
    · subst e
      have hb' : (jm_a t, n) = (jm_a t', n') := by
        have := hb
        simp only [jm_new, if_true] at this
        exact this
      have e2 := jm_a_inj (Prod.mk.inj hb').1
      have e3 := (Prod.mk.inj hb').2
      subst e2; subst e3
      refine ⟨by rw [h1]; exact h2.1, ht, ?_⟩
      rw [jm_new_at]
      exact hn
    · have hb' : h.2.2.1 b = (jm_a t', n') := by
        have := hb
        simp only [jm_new, if_neg e] at this
        exact this
      obtain ⟨g1, g2, g3⟩ := h4 b t' n' hb'
      refine ⟨g1, g2, ?_⟩
      rw [jm_new_ne h _ _ f e, hq b (by rw [h1]; exact hltA hb')]
      exact g3

/-! ===== what else the machine's tables and statics say (words that not every state keeps) ===== -/
def jm_NW : List (String × Nat × MethodName) := [("CellWorks", 11, ⟨"CellWorks$Reader", "<init>", "()V"⟩), ("CellWorks$Reader", 11, ⟨"CellWorks$Tape", "<init>", "()V"⟩), ("CellWorks$Reader", 20, ⟨"CellWorks$Formula", "<init>", "()V"⟩), ("CellWorks", 18, ⟨"CellWorks$Cells", "<init>", "()V"⟩), ("CellWorks", 25, ⟨"CellWorks$Builder", "<init>", "()V"⟩), ("CellWorks$Builder", 11, ⟨"CellWorks$Work", "<init>", "()V"⟩), ("CellWorks", 171, ⟨"CellWorks$Formula", "<init>", "()V"⟩)]
def jm_NC : List String := ["java/lang/UnsupportedOperationException", "java/lang/IllegalArgumentException", "java/util/NoSuchElementException", "java/lang/IndexOutOfBoundsException"]
def jm_ND : List MethodName := [⟨"java/lang/RuntimeException", "<init>", "()V"⟩, ⟨"java/lang/RuntimeException", "<init>", "(Ljava/lang/String;)V"⟩, ⟨"java/lang/Exception", "<init>", "()V"⟩, ⟨"java/lang/Exception", "<init>", "(Ljava/lang/String;)V"⟩, ⟨"java/lang/Throwable", "<init>", "()V"⟩, ⟨"java/lang/Throwable", "<init>", "(Ljava/lang/String;)V"⟩]
def jm_NS : List (Nat × String) := [(42, "the tape would have more than 2000 bytes"), (53, "the tape has not so many bytes"), (146, "the tape is no NAME"), (123, "there is no such name or byte"), (139, "what is none of 0 to 4")]
/-- a static reference of Throwable: where it lies, and that it holds a reference or null -/
def jm_St (n d : String) (A : Nat → Prop) (U : State) (H : Heap) : Prop := ∃ (c : ClassId) (k : Class) (i : Nat) (f : Field) (a : Nat) (cell : Cell) (v : Value), U.vm.findClass "java/lang/Throwable" = some c ∧ U.fieldFound? "java/lang/Throwable" n d = some (c, k, i, f) ∧ f.isStatic = true ∧ k.statics = some a ∧ H[a]? = some cell ∧ cell.vm.isStatics = true ∧ cell.cls = c ∧ f.slot < cell.slots.size ∧ k.staticTypes[f.slot]? = some f.type ∧ cell.slots[f.slot]? = some v ∧ v.isRef = true ∧ ¬ A a
theorem jm_St.moved {n d : String} {A : Nat → Prop} {u U : State} {H : Heap} (hvm : u.vm.Alike U.vm) (h : jm_St n d A u H) : jm_St n d A U H := by
  obtain ⟨c, k, i, f, a, cell, v, h1, h2, h3, h4, h5, h6, h7, h8, h9, h10⟩ := h
  obtain ⟨k', hi', he⟩ := State.fieldFound?_setVm hvm h2
  exact ⟨c, k', i, f, a, cell, v, by rw [hvm.findClass]; exact h1, hi', h3, by rw [he]; exact h4, h5, h6, h7, h8, by rw [he]; exact h9, h10⟩
theorem jm_St.kept {n d : String} {A : Nat → Prop} {U : State} {H H1 : Heap} (h : jm_St n d A U H) (hq : ∀ a : Nat, a < H.size → ¬ A a → H1[a]? = H[a]?) : jm_St n d A U H1 := by
  obtain ⟨c, k, i, f, a, cell, v, h1, h2, h3, h4, h5, h6, h7, h8, h9, h10, h11, h12⟩ := h
  exact ⟨c, k, i, f, a, cell, v, h1, h2, h3, h4, by rw [hq a (Array.getElem?_eq_some_iff.mp h5).1 h12]; exact h5, h6, h7, h8, h9, h10, h11, h12⟩
def jm_N (G : jm_G) (U : State) (H : Heap) : Prop := (∀ q ∈ jm_NW, va_Nw (.methodLinkNest q.1 q.2.1 q.2.2 "CellWorks") U) ∧ (va_AO "CellWorks$Cell" U ∧ ArrOfT U (G.2.1 5) .int) ∧ (∀ q ∈ jm_NC, va_Nw (.castable q q) U) ∧ (∀ x ∈ jm_ND, va_Nw (.declares x) U) ∧
  jm_St "UNASSIGNED_STACK" "[Ljava/lang/StackTraceElement;" (jm_A G) U H ∧ jm_St "SUPPRESSED_SENTINEL" "Ljava/util/List;" (jm_A G) U H ∧ ∀ q ∈ jm_NS, ∃ a, vk_R "CellWorks" q.1 q.2 a U
theorem jm_N.calling {G : jm_G} {U : State} {g : JFrame} {mk : MethodId} {a : Array Value} (h : jm_N G U U.heap) : jm_N G (U.calling g mk a) (U.calling g mk a).heap := by
  obtain ⟨h1, h2, h3, h4, h5, h6, h7⟩ := h
  exact ⟨fun q hq => va_Nw.same (u := U) rfl rfl (h1 q hq), ⟨va_AO.moved (u := U) (Vm.Alike.refl U.vm) h2.1, arrOfT_moved (u := U) (Vm.Alike.refl U.vm) h2.2⟩, fun q hq => va_Nw.same (u := U) rfl rfl (h3 q hq), fun x hx => va_Nw.same (u := U) rfl rfl (h4 x hx), jm_St.moved (u := U) (Vm.Alike.refl U.vm) h5, jm_St.moved (u := U) (Vm.Alike.refl U.vm) h6, fun q hq => (h7 q hq).imp fun _ h => vk_R.same (u := U) rfl h⟩
theorem jm_N.warm {G : jm_G} {s U : State} {H : Heap} {locs : List Loc} (hW : s.WarmedH U.vm) (hU : U.heap = H) (hS : va_S (jm_A G) s.heap H locs) (h : jm_N G s s.heap) : jm_N G U U.heap := by
  obtain ⟨h1, h2, h3, h4, h5, h6, h7⟩ := h
  subst hU
  exact ⟨fun q hq => va_Nw.warmM hW (h1 q hq), ⟨va_AO.moved hW.alike h2.1, arrOfT_moved hW.alike h2.2⟩, fun q hq => va_Nw.warmC hW (h3 q hq), fun x hx => va_Nw.warmD hW (h4 x hx), jm_St.moved hW.alike (h5.kept hS.2.1), jm_St.moved hW.alike (h6.kept hS.2.1), fun q hq => (h7 q hq).imp fun _ h => vk_R.warm hW h⟩
theorem jm_N.nest {G : jm_G} {U : State} {H : Heap} (h : jm_N G U H) {own : String} {i : Nat} {y : MethodName} (hq : (own, i, y) ∈ jm_NW) : va_Nw (.methodLinkNest own i y "CellWorks") U := h.1 (own, i, y) hq

/-! ===== the judgement ===== -/
/-- a method: name, code, how many locals, what it returns, its exception table -/
abbrev jm_r : Type := Option Value ⊕ String
abbrev jm_E : Type := List Frame → Array Value → State → State → Prop
/-- how a frame must end: frames, locals' words, and by the end (answer, heap) cells, slots, what the machine's end must be -/
abbrev jm_Z : Type := Nat × Nat × (jm_r → jm_H → Nat × Nat × jm_E)
def jm_rm (Z : jm_Z) (r : jm_r) (h : jm_H) : Room := { frames := Z.1, cells := (Z.2.2 r h).1, slots := (Z.2.2 r h).2.1, locals := Z.2.1 }
def jm_Cx (G : jm_G) (M : jm_M) (p : Program) (s : State) (m : MethodId) (args : Array Value) (meth : Method) (c : Code) : Prop :=
  p.tables.exec = Jvm.exec ∧ c.code = M.2.1 ∧ c.maxLocals = M.2.2.1 ∧ meth.sig.returnType = M.2.2.2.1 ∧ meth.locks = false ∧ meth.name = M.1.name ∧ s.vm.findClass M.1.cls = some m.cls ∧ c.exceptionTable.toList = M.2.2.2.2 ∧ (∀ w ∈ jm_W, w.before args s = true) ∧ jm_K G s ∧ jm_N G s s.heap
def jm_V (l : Launch) (G : jm_G) (M : jm_M) (n0 s0 : Nat) (R : Room) (E : jm_E) (pc : Nat) (lv : List (Nat × Value)) (st : List Value) (h : jm_H) : Prop :=
  ∀ (p : Program) (e : Env) (s : State) (m : MethodId) (args : Array Value) (below : List Frame) (meth : Method) (c : Code) (H : Heap) (locs : List Loc) (ls : Array Slot),
    jm_Cx G M p s m args meth c → n0 = s.heap.size → n0 ≤ h.1 → s0 ≤ h.2.1 → jm_R G h H → va_S (jm_A G) s.heap H locs → lv_has ls M.2.2.1 lv →
    W p l e R s m args below meth c H locs (h.1 - n0) (h.2.1 - s0) (E below args s) (F0 m pc ls st)
def jm_X (l : Launch) (G : jm_G) (M : jm_M) (n0 s0 : Nat) (Z : jm_Z) (Post : jm_r → jm_H → Prop) (pc : Nat) (lv : List (Nat × Value)) (st : List Value) (h : jm_H) : Prop :=
  ∃ (r : jm_r) (h' : jm_H), h.1 ≤ h'.1 ∧ h.2.1 ≤ h'.2.1 ∧ h'.1 - n0 ≤ (Z.2.2 r h').1 ∧ h'.2.1 - s0 ≤ (Z.2.2 r h').2.1 ∧ Post r h' ∧ jm_V l G M n0 s0 (jm_rm Z r h') (Z.2.2 r h').2.2 pc lv st h
section JX
variable {l : Launch} {G : jm_G} {M : jm_M} {n0 s0 : Nat} {Z : jm_Z} {Post : jm_r → jm_H → Prop} {pc : Nat} {lv : List (Nat × Value)} {st : List Value} {h : jm_H}
theorem jx_imp {Post' : jm_r → jm_H → Prop} (k : jm_X l G M n0 s0 Z Post pc lv st h) (hp : ∀ r h', Post r h' → Post' r h') : jm_X l G M n0 s0 Z Post' pc lv st h := by
  obtain ⟨r, h', a1, a2, a3, a4, a5, v⟩ := k
  exact ⟨r, h', a1, a2, a3, a4, hp r h' a5, v⟩
theorem jx_lv {lv' : List (Nat × Value)} (ks : List Nat) (hl : lv_pick lv ks = lv') (k : jm_X l G M n0 s0 Z Post pc lv' st h) : jm_X l G M n0 s0 Z Post pc lv st h := by
  obtain ⟨r, h', a1, a2, a3, a4, a5, v⟩ := k
  exact ⟨r, h', a1, a2, a3, a4, a5, fun p e s m args below meth c H locs ls C n1 n2 n3 hR hS hv => v p e s m args below meth c H locs ls C n1 n2 n3 hR hS (lv_sub hv ks hl)⟩

theorem jx_iconst {n : Int} {v0 : Int32} (hd : decode M.2.1 pc = .ok (.iconst n, 1)) (hv0 : Int32.ofInt n = v0) (k : jm_X l G M n0 s0 Z Post (pc + 1) lv (.int v0 :: st) h) : jm_X l G M n0 s0 Z Post pc lv st h := by
  obtain ⟨r, h', a1, a2, a3, a4, a5, v⟩ := k
  exact ⟨r, h', a1, a2, a3, a4, a5, fun p e s m args below meth c H locs ls C n1 n2 n3 hR hS hv => lv_iconst C.1 C.2.1 hd hv0 (v p e s m args below meth c H locs ls C n1 n2 n3 hR hS hv)⟩
theorem jx_bipush {n : Int} {v0 : Int32} (hd : decode M.2.1 pc = .ok (.bipush n, 2)) (hv0 : (Int8.ofInt n).toInt32 = v0) (k : jm_X l G M n0 s0 Z Post (pc + 2) lv (.int v0 :: st) h) : jm_X l G M n0 s0 Z Post pc lv st h := by
  obtain ⟨r, h', a1, a2, a3, a4, a5, v⟩ := k
  exact ⟨r, h', a1, a2, a3, a4, a5, fun p e s m args below meth c H locs ls C n1 n2 n3 hR hS hv => lv_bipush C.1 C.2.1 hd hv0 (v p e s m args below meth c H locs ls C n1 n2 n3 hR hS hv)⟩
theorem jx_sipush {n : Int} {v0 : Int32} (hd : decode M.2.1 pc = .ok (.sipush n, 3)) (hv0 : (Int16.ofInt n).toInt32 = v0) (k : jm_X l G M n0 s0 Z Post (pc + 3) lv (.int v0 :: st) h) : jm_X l G M n0 s0 Z Post pc lv st h := by
  obtain ⟨r, h', a1, a2, a3, a4, a5, v⟩ := k
  exact ⟨r, h', a1, a2, a3, a4, a5, fun p e s m args below meth c H locs ls C n1 n2 n3 hR hS hv => lv_sipush C.1 C.2.1 hd hv0 (v p e s m args below meth c H locs ls C n1 n2 n3 hR hS hv)⟩
theorem jx_lconst {n : Fin 2} {v0 : Int64} (hd : decode M.2.1 pc = .ok (.lconst n, 1)) (hv0 : Int64.ofNat (n : Nat) = v0) (k : jm_X l G M n0 s0 Z Post (pc + 1) lv (.long v0 :: st) h) : jm_X l G M n0 s0 Z Post pc lv st h := by
  obtain ⟨r, h', a1, a2, a3, a4, a5, v⟩ := k
  exact ⟨r, h', a1, a2, a3, a4, a5, fun p e s m args below meth c H locs ls C n1 n2 n3 hR hS hv => lv_lconst C.1 C.2.1 hd hv0 (v p e s m args below meth c H locs ls C n1 n2 n3 hR hS hv)⟩
theorem jx_null  (hd : decode M.2.1 pc = .ok (.aconst_null, 1)) (k : jm_X l G M n0 s0 Z Post (pc + 1) lv (.null :: st) h) : jm_X l G M n0 s0 Z Post pc lv st h := by
  obtain ⟨r, h', a1, a2, a3, a4, a5, v⟩ := k
  exact ⟨r, h', a1, a2, a3, a4, a5, fun p e s m args below meth c H locs ls C n1 n2 n3 hR hS hv => lv_null C.1 C.2.1 hd (v p e s m args below meth c H locs ls C n1 n2 n3 hR hS hv)⟩
theorem jx_ldc {i : Nat} {v0 : Int32} (hd : decode M.2.1 pc = .ok (.ldc i, 2)) (hw : Cond.constant M.1.cls i v0 ∈ jm_W) (k : jm_X l G M n0 s0 Z Post (pc + 2) lv (.int v0 :: st) h) : jm_X l G M n0 s0 Z Post pc lv st h := by
  obtain ⟨r, h', a1, a2, a3, a4, a5, v⟩ := k
  exact ⟨r, h', a1, a2, a3, a4, a5, fun p e s m args below meth c H locs ls C n1 n2 n3 hR hS hv => lv_ldc C.1 C.2.1 C.2.2.2.2.2.2.1 (C.2.2.2.2.2.2.2.2.1 _ hw) hd (v p e s m args below meth c H locs ls C n1 n2 n3 hR hS hv)⟩
theorem jx_ldc2 {i : Nat} {v0 : Int64} (hd : decode M.2.1 pc = .ok (.ldc2_w i, 3)) (hw : Cond.constantLong M.1.cls i v0 ∈ jm_W) (k : jm_X l G M n0 s0 Z Post (pc + 3) lv (.long v0 :: st) h) : jm_X l G M n0 s0 Z Post pc lv st h := by
  obtain ⟨r, h', a1, a2, a3, a4, a5, v⟩ := k
  exact ⟨r, h', a1, a2, a3, a4, a5, fun p e s m args below meth c H locs ls C n1 n2 n3 hR hS hv => lv_ldc2 C.1 C.2.1 C.2.2.2.2.2.2.1 (C.2.2.2.2.2.2.2.2.1 _ hw) hd (v p e s m args below meth c H locs ls C n1 n2 n3 hR hS hv)⟩
theorem jx_iload_n {k0 : Fin 4} {x : Int32} (hd : decode M.2.1 pc = .ok (.iload_n k0, 1)) (q : Nat) (hx : lv[q]? = some ((k0 : Nat), .int x)) (k : jm_X l G M n0 s0 Z Post (pc + 1) lv (.int x :: st) h) : jm_X l G M n0 s0 Z Post pc lv st h := by
  obtain ⟨r, h', a1, a2, a3, a4, a5, v⟩ := k
  exact ⟨r, h', a1, a2, a3, a4, a5, fun p e s m args below meth c H locs ls C n1 n2 n3 hR hS hv => lv_iload_n C.1 C.2.1 hd rfl (lv_at hv q hx) (v p e s m args below meth c H locs ls C n1 n2 n3 hR hS hv)⟩
theorem jx_iload {i : Nat} {x : Int32} (hd : decode M.2.1 pc = .ok (.iload i, 2)) (q : Nat) (hx : lv[q]? = some (i, .int x)) (k : jm_X l G M n0 s0 Z Post (pc + 2) lv (.int x :: st) h) : jm_X l G M n0 s0 Z Post pc lv st h := by
  obtain ⟨r, h', a1, a2, a3, a4, a5, v⟩ := k
  exact ⟨r, h', a1, a2, a3, a4, a5, fun p e s m args below meth c H locs ls C n1 n2 n3 hR hS hv => lv_iload C.1 C.2.1 hd (lv_at hv q hx) (v p e s m args below meth c H locs ls C n1 n2 n3 hR hS hv)⟩
theorem jx_lload_n {k0 : Fin 4} {x : Int64} (hd : decode M.2.1 pc = .ok (.lload_n k0, 1)) (q : Nat) (hx : lv[q]? = some ((k0 : Nat), .long x)) (k : jm_X l G M n0 s0 Z Post (pc + 1) lv (.long x :: st) h) : jm_X l G M n0 s0 Z Post pc lv st h := by
  obtain ⟨r, h', a1, a2, a3, a4, a5, v⟩ := k
  exact ⟨r, h', a1, a2, a3, a4, a5, fun p e s m args below meth c H locs ls C n1 n2 n3 hR hS hv => lv_lload_n C.1 C.2.1 hd rfl (lv_at hv q hx) (v p e s m args below meth c H locs ls C n1 n2 n3 hR hS hv)⟩
theorem jx_lload {i : Nat} {x : Int64} (hd : decode M.2.1 pc = .ok (.lload i, 2)) (q : Nat) (hx : lv[q]? = some (i, .long x)) (k : jm_X l G M n0 s0 Z Post (pc + 2) lv (.long x :: st) h) : jm_X l G M n0 s0 Z Post pc lv st h := by
  obtain ⟨r, h', a1, a2, a3, a4, a5, v⟩ := k
  exact ⟨r, h', a1, a2, a3, a4, a5, fun p e s m args below meth c H locs ls C n1 n2 n3 hR hS hv => lv_lload C.1 C.2.1 hd (lv_at hv q hx) (v p e s m args below meth c H locs ls C n1 n2 n3 hR hS hv)⟩
theorem jx_aload_n {k0 : Fin 4} {x : Nat} (hd : decode M.2.1 pc = .ok (.aload_n k0, 1)) (q : Nat) (hx : lv[q]? = some ((k0 : Nat), .ref x)) (k : jm_X l G M n0 s0 Z Post (pc + 1) lv (.ref x :: st) h) : jm_X l G M n0 s0 Z Post pc lv st h := by
  obtain ⟨r, h', a1, a2, a3, a4, a5, v⟩ := k
  exact ⟨r, h', a1, a2, a3, a4, a5, fun p e s m args below meth c H locs ls C n1 n2 n3 hR hS hv => lv_aload_n C.1 C.2.1 hd rfl (lv_at hv q hx) (v p e s m args below meth c H locs ls C n1 n2 n3 hR hS hv)⟩
theorem jx_aload {i : Nat} {x : Nat} (hd : decode M.2.1 pc = .ok (.aload i, 2)) (q : Nat) (hx : lv[q]? = some (i, .ref x)) (k : jm_X l G M n0 s0 Z Post (pc + 2) lv (.ref x :: st) h) : jm_X l G M n0 s0 Z Post pc lv st h := by
  obtain ⟨r, h', a1, a2, a3, a4, a5, v⟩ := k
  exact ⟨r, h', a1, a2, a3, a4, a5, fun p e s m args below meth c H locs ls C n1 n2 n3 hR hS hv => lv_aload C.1 C.2.1 hd (lv_at hv q hx) (v p e s m args below meth c H locs ls C n1 n2 n3 hR hS hv)⟩
theorem jx_aload_nN {k0 : Fin 4} (hd : decode M.2.1 pc = .ok (.aload_n k0, 1)) (q : Nat) (hx : lv[q]? = some ((k0 : Nat), .null)) (k : jm_X l G M n0 s0 Z Post (pc + 1) lv (.null :: st) h) : jm_X l G M n0 s0 Z Post pc lv st h := by
  obtain ⟨r, h', a1, a2, a3, a4, a5, v⟩ := k
  exact ⟨r, h', a1, a2, a3, a4, a5, fun p e s m args below meth c H locs ls C n1 n2 n3 hR hS hv => lv_aload_nN C.1 C.2.1 hd rfl (lv_at hv q hx) (v p e s m args below meth c H locs ls C n1 n2 n3 hR hS hv)⟩
theorem jx_aloadN {i : Nat} (hd : decode M.2.1 pc = .ok (.aload i, 2)) (q : Nat) (hx : lv[q]? = some (i, .null)) (k : jm_X l G M n0 s0 Z Post (pc + 2) lv (.null :: st) h) : jm_X l G M n0 s0 Z Post pc lv st h := by
  obtain ⟨r, h', a1, a2, a3, a4, a5, v⟩ := k
  exact ⟨r, h', a1, a2, a3, a4, a5, fun p e s m args below meth c H locs ls C n1 n2 n3 hR hS hv => lv_aloadN C.1 C.2.1 hd (lv_at hv q hx) (v p e s m args below meth c H locs ls C n1 n2 n3 hR hS hv)⟩
theorem jx_istore_n {k0 : Fin 4} {lv' : List (Nat × Value)} {x : Int32} (hd : decode M.2.1 pc = .ok (.istore_n k0, 1)) (hn : (k0 : Nat) < M.2.2.1) (hl : ((k0 : Nat), Value.int x) :: lv.filter (fun q => !(q.1 == (k0 : Nat)) && !(q.1 + 1 == (k0 : Nat) && q.2.category == 2)) = lv') (k : jm_X l G M n0 s0 Z Post (pc + 1) lv' st h) : jm_X l G M n0 s0 Z Post pc lv (Value.int x :: st) h := by
  obtain ⟨r, h', a1, a2, a3, a4, a5, v⟩ := k
  exact ⟨r, h', a1, a2, a3, a4, a5, fun p e s m args below meth c H locs ls C n1 n2 n3 hR hS hv => lv_istore_n C.1 C.2.1 hd rfl hv hn hl (fun ls hv => v p e s m args below meth c H locs ls C n1 n2 n3 hR hS hv)⟩
theorem jx_istore {i : Nat} {lv' : List (Nat × Value)} {x : Int32} (hd : decode M.2.1 pc = .ok (.istore i, 2)) (hn : i < M.2.2.1) (hl : (i, Value.int x) :: lv.filter (fun q => !(q.1 == i) && !(q.1 + 1 == i && q.2.category == 2)) = lv') (k : jm_X l G M n0 s0 Z Post (pc + 2) lv' st h) : jm_X l G M n0 s0 Z Post pc lv (Value.int x :: st) h := by
  obtain ⟨r, h', a1, a2, a3, a4, a5, v⟩ := k
  exact ⟨r, h', a1, a2, a3, a4, a5, fun p e s m args below meth c H locs ls C n1 n2 n3 hR hS hv => lv_istore C.1 C.2.1 hd hv hn hl (fun ls hv => v p e s m args below meth c H locs ls C n1 n2 n3 hR hS hv)⟩
theorem jx_lstore_n {k0 : Fin 4} {lv' : List (Nat × Value)} {x : Int64} (hd : decode M.2.1 pc = .ok (.lstore_n k0, 1)) (hn : (k0 : Nat) + 1 < M.2.2.1) (hl : ((k0 : Nat), Value.long x) :: lv.filter (fun q => !(q.1 == (k0 : Nat)) && (!(q.1 == (k0 : Nat) + 1) && !(q.1 + 1 == (k0 : Nat) && q.2.category == 2))) = lv') (k : jm_X l G M n0 s0 Z Post (pc + 1) lv' st h) : jm_X l G M n0 s0 Z Post pc lv (Value.long x :: st) h := by
  obtain ⟨r, h', a1, a2, a3, a4, a5, v⟩ := k
  exact ⟨r, h', a1, a2, a3, a4, a5, fun p e s m args below meth c H locs ls C n1 n2 n3 hR hS hv => lv_lstore_n C.1 C.2.1 hd rfl hv hn hl (fun ls hv => v p e s m args below meth c H locs ls C n1 n2 n3 hR hS hv)⟩
theorem jx_lstore {i : Nat} {lv' : List (Nat × Value)} {x : Int64} (hd : decode M.2.1 pc = .ok (.lstore i, 2)) (hn : i + 1 < M.2.2.1) (hl : (i, Value.long x) :: lv.filter (fun q => !(q.1 == i) && (!(q.1 == i + 1) && !(q.1 + 1 == i && q.2.category == 2))) = lv') (k : jm_X l G M n0 s0 Z Post (pc + 2) lv' st h) : jm_X l G M n0 s0 Z Post pc lv (Value.long x :: st) h := by
  obtain ⟨r, h', a1, a2, a3, a4, a5, v⟩ := k
  exact ⟨r, h', a1, a2, a3, a4, a5, fun p e s m args below meth c H locs ls C n1 n2 n3 hR hS hv => lv_lstore C.1 C.2.1 hd hv hn hl (fun ls hv => v p e s m args below meth c H locs ls C n1 n2 n3 hR hS hv)⟩
theorem jx_astore_n {k0 : Fin 4} {lv' : List (Nat × Value)} {x : Nat} (hd : decode M.2.1 pc = .ok (.astore_n k0, 1)) (hn : (k0 : Nat) < M.2.2.1) (hl : ((k0 : Nat), Value.ref x) :: lv.filter (fun q => !(q.1 == (k0 : Nat)) && !(q.1 + 1 == (k0 : Nat) && q.2.category == 2)) = lv') (k : jm_X l G M n0 s0 Z Post (pc + 1) lv' st h) : jm_X l G M n0 s0 Z Post pc lv (Value.ref x :: st) h := by
  obtain ⟨r, h', a1, a2, a3, a4, a5, v⟩ := k
  exact ⟨r, h', a1, a2, a3, a4, a5, fun p e s m args below meth c H locs ls C n1 n2 n3 hR hS hv => lv_astore_n C.1 C.2.1 hd rfl hv hn hl (fun ls hv => v p e s m args below meth c H locs ls C n1 n2 n3 hR hS hv)⟩
theorem jx_astore {i : Nat} {lv' : List (Nat × Value)} {x : Nat} (hd : decode M.2.1 pc = .ok (.astore i, 2)) (hn : i < M.2.2.1) (hl : (i, Value.ref x) :: lv.filter (fun q => !(q.1 == i) && !(q.1 + 1 == i && q.2.category == 2)) = lv') (k : jm_X l G M n0 s0 Z Post (pc + 2) lv' st h) : jm_X l G M n0 s0 Z Post pc lv (Value.ref x :: st) h := by
  obtain ⟨r, h', a1, a2, a3, a4, a5, v⟩ := k
  exact ⟨r, h', a1, a2, a3, a4, a5, fun p e s m args below meth c H locs ls C n1 n2 n3 hR hS hv => lv_astore C.1 C.2.1 hd hv hn hl (fun ls hv => v p e s m args below meth c H locs ls C n1 n2 n3 hR hS hv)⟩
theorem jx_astore_nN {k0 : Fin 4} {lv' : List (Nat × Value)}  (hd : decode M.2.1 pc = .ok (.astore_n k0, 1)) (hn : (k0 : Nat) < M.2.2.1) (hl : ((k0 : Nat), Value.null) :: lv.filter (fun q => !(q.1 == (k0 : Nat)) && !(q.1 + 1 == (k0 : Nat) && q.2.category == 2)) = lv') (k : jm_X l G M n0 s0 Z Post (pc + 1) lv' st h) : jm_X l G M n0 s0 Z Post pc lv (Value.null :: st) h := by
  obtain ⟨r, h', a1, a2, a3, a4, a5, v⟩ := k
  exact ⟨r, h', a1, a2, a3, a4, a5, fun p e s m args below meth c H locs ls C n1 n2 n3 hR hS hv => lv_astore_nN C.1 C.2.1 hd rfl hv hn hl (fun ls hv => v p e s m args below meth c H locs ls C n1 n2 n3 hR hS hv)⟩
theorem jx_astoreN {i : Nat} {lv' : List (Nat × Value)}  (hd : decode M.2.1 pc = .ok (.astore i, 2)) (hn : i < M.2.2.1) (hl : (i, Value.null) :: lv.filter (fun q => !(q.1 == i) && !(q.1 + 1 == i && q.2.category == 2)) = lv') (k : jm_X l G M n0 s0 Z Post (pc + 2) lv' st h) : jm_X l G M n0 s0 Z Post pc lv (Value.null :: st) h := by
  obtain ⟨r, h', a1, a2, a3, a4, a5, v⟩ := k
  exact ⟨r, h', a1, a2, a3, a4, a5, fun p e s m args below meth c H locs ls C n1 n2 n3 hR hS hv => lv_astoreN C.1 C.2.1 hd hv hn hl (fun ls hv => v p e s m args below meth c H locs ls C n1 n2 n3 hR hS hv)⟩
theorem jx_iinc {i : Nat} {n : Int} {x v0 : Int32} {lv' : List (Nat × Value)} (hd : decode M.2.1 pc = .ok (.iinc i n, 3)) (q : Nat) (hx : lv[q]? = some (i, .int x)) (hv0 : x + Int32.ofInt n = v0) (hn : i < M.2.2.1) (hl : (i, Value.int v0) :: lv.filter (fun q => !(q.1 == i) && !(q.1 + 1 == i && q.2.category == 2)) = lv') (k : jm_X l G M n0 s0 Z Post (pc + 3) lv' st h) : jm_X l G M n0 s0 Z Post pc lv st h := by
  obtain ⟨r, h', a1, a2, a3, a4, a5, v⟩ := k
  exact ⟨r, h', a1, a2, a3, a4, a5, fun p e s m args below meth c H locs ls C n1 n2 n3 hR hS hv => lv_iinc C.1 C.2.1 hd hv hx hv0 hn hl (fun ls hv => v p e s m args below meth c H locs ls C n1 n2 n3 hR hS hv)⟩
theorem jx_iadd {x y : Int32} (hd : decode M.2.1 pc = .ok (.iadd, 1)) (k : jm_X l G M n0 s0 Z Post (pc + 1) lv (.int (x + y) :: st) h) : jm_X l G M n0 s0 Z Post pc lv (.int y :: .int x :: st) h := by
  obtain ⟨r, h', a1, a2, a3, a4, a5, v⟩ := k
  exact ⟨r, h', a1, a2, a3, a4, a5, fun p e s m args below meth c H locs ls C n1 n2 n3 hR hS hv => lv_iadd C.1 C.2.1 hd (v p e s m args below meth c H locs ls C n1 n2 n3 hR hS hv)⟩
theorem jx_isub {x y : Int32} (hd : decode M.2.1 pc = .ok (.isub, 1)) (k : jm_X l G M n0 s0 Z Post (pc + 1) lv (.int (x - y) :: st) h) : jm_X l G M n0 s0 Z Post pc lv (.int y :: .int x :: st) h := by
  obtain ⟨r, h', a1, a2, a3, a4, a5, v⟩ := k
  exact ⟨r, h', a1, a2, a3, a4, a5, fun p e s m args below meth c H locs ls C n1 n2 n3 hR hS hv => lv_isub C.1 C.2.1 hd (v p e s m args below meth c H locs ls C n1 n2 n3 hR hS hv)⟩
theorem jx_imul {x y : Int32} (hd : decode M.2.1 pc = .ok (.imul, 1)) (k : jm_X l G M n0 s0 Z Post (pc + 1) lv (.int (x * y) :: st) h) : jm_X l G M n0 s0 Z Post pc lv (.int y :: .int x :: st) h := by
  obtain ⟨r, h', a1, a2, a3, a4, a5, v⟩ := k
  exact ⟨r, h', a1, a2, a3, a4, a5, fun p e s m args below meth c H locs ls C n1 n2 n3 hR hS hv => lv_imul C.1 C.2.1 hd (v p e s m args below meth c H locs ls C n1 n2 n3 hR hS hv)⟩
theorem jx_iand {x y : Int32} (hd : decode M.2.1 pc = .ok (.iand, 1)) (k : jm_X l G M n0 s0 Z Post (pc + 1) lv (.int (x &&& y) :: st) h) : jm_X l G M n0 s0 Z Post pc lv (.int y :: .int x :: st) h := by
  obtain ⟨r, h', a1, a2, a3, a4, a5, v⟩ := k
  exact ⟨r, h', a1, a2, a3, a4, a5, fun p e s m args below meth c H locs ls C n1 n2 n3 hR hS hv => lv_iand C.1 C.2.1 hd (v p e s m args below meth c H locs ls C n1 n2 n3 hR hS hv)⟩
theorem jx_ior {x y : Int32} (hd : decode M.2.1 pc = .ok (.ior, 1)) (k : jm_X l G M n0 s0 Z Post (pc + 1) lv (.int (x ||| y) :: st) h) : jm_X l G M n0 s0 Z Post pc lv (.int y :: .int x :: st) h := by
  obtain ⟨r, h', a1, a2, a3, a4, a5, v⟩ := k
  exact ⟨r, h', a1, a2, a3, a4, a5, fun p e s m args below meth c H locs ls C n1 n2 n3 hR hS hv => lv_ior C.1 C.2.1 hd (v p e s m args below meth c H locs ls C n1 n2 n3 hR hS hv)⟩
theorem jx_ixor {x y : Int32} (hd : decode M.2.1 pc = .ok (.ixor, 1)) (k : jm_X l G M n0 s0 Z Post (pc + 1) lv (.int (x ^^^ y) :: st) h) : jm_X l G M n0 s0 Z Post pc lv (.int y :: .int x :: st) h := by
  obtain ⟨r, h', a1, a2, a3, a4, a5, v⟩ := k
  exact ⟨r, h', a1, a2, a3, a4, a5, fun p e s m args below meth c H locs ls C n1 n2 n3 hR hS hv => lv_ixor C.1 C.2.1 hd (v p e s m args below meth c H locs ls C n1 n2 n3 hR hS hv)⟩
theorem jx_ishl {x y : Int32} (hd : decode M.2.1 pc = .ok (.ishl, 1)) (k : jm_X l G M n0 s0 Z Post (pc + 1) lv (.int (x <<< (y &&& 31)) :: st) h) : jm_X l G M n0 s0 Z Post pc lv (.int y :: .int x :: st) h := by
  obtain ⟨r, h', a1, a2, a3, a4, a5, v⟩ := k
  exact ⟨r, h', a1, a2, a3, a4, a5, fun p e s m args below meth c H locs ls C n1 n2 n3 hR hS hv => lv_ishl C.1 C.2.1 hd (v p e s m args below meth c H locs ls C n1 n2 n3 hR hS hv)⟩
theorem jx_ishr {x y : Int32} (hd : decode M.2.1 pc = .ok (.ishr, 1)) (k : jm_X l G M n0 s0 Z Post (pc + 1) lv (.int (x >>> (y &&& 31)) :: st) h) : jm_X l G M n0 s0 Z Post pc lv (.int y :: .int x :: st) h := by
  obtain ⟨r, h', a1, a2, a3, a4, a5, v⟩ := k
  exact ⟨r, h', a1, a2, a3, a4, a5, fun p e s m args below meth c H locs ls C n1 n2 n3 hR hS hv => lv_ishr C.1 C.2.1 hd (v p e s m args below meth c H locs ls C n1 n2 n3 hR hS hv)⟩
theorem jx_idiv {x y : Int32} (hd : decode M.2.1 pc = .ok (.idiv, 1)) (hne : ¬ y = 0) (k : jm_X l G M n0 s0 Z Post (pc + 1) lv (.int (x / y) :: st) h) : jm_X l G M n0 s0 Z Post pc lv (.int y :: .int x :: st) h := by
  obtain ⟨r, h', a1, a2, a3, a4, a5, v⟩ := k
  exact ⟨r, h', a1, a2, a3, a4, a5, fun p e s m args below meth c H locs ls C n1 n2 n3 hR hS hv => lv_idiv C.1 C.2.1 hd hne (v p e s m args below meth c H locs ls C n1 n2 n3 hR hS hv)⟩
theorem jx_irem {x y : Int32} (hd : decode M.2.1 pc = .ok (.irem, 1)) (hne : ¬ y = 0) (k : jm_X l G M n0 s0 Z Post (pc + 1) lv (.int (x - x / y * y) :: st) h) : jm_X l G M n0 s0 Z Post pc lv (.int y :: .int x :: st) h := by
  obtain ⟨r, h', a1, a2, a3, a4, a5, v⟩ := k
  exact ⟨r, h', a1, a2, a3, a4, a5, fun p e s m args below meth c H locs ls C n1 n2 n3 hR hS hv => lv_irem C.1 C.2.1 hd hne (v p e s m args below meth c H locs ls C n1 n2 n3 hR hS hv)⟩
theorem jx_ineg {x : Int32} (hd : decode M.2.1 pc = .ok (.ineg, 1)) (k : jm_X l G M n0 s0 Z Post (pc + 1) lv (.int (-x) :: st) h) : jm_X l G M n0 s0 Z Post pc lv (.int x :: st) h := by
  obtain ⟨r, h', a1, a2, a3, a4, a5, v⟩ := k
  exact ⟨r, h', a1, a2, a3, a4, a5, fun p e s m args below meth c H locs ls C n1 n2 n3 hR hS hv => lv_ineg C.1 C.2.1 hd (v p e s m args below meth c H locs ls C n1 n2 n3 hR hS hv)⟩
theorem jx_iushr {x y : Int32} (hd : decode M.2.1 pc = .ok (.iushr, 1)) (k : jm_X l G M n0 s0 Z Post (pc + 1) lv (.int ((x.toUInt32 >>> (y.toUInt32 &&& Int32.toUInt32 31)).toInt32) :: st) h) : jm_X l G M n0 s0 Z Post pc lv (.int y :: .int x :: st) h := by
  obtain ⟨r, h', a1, a2, a3, a4, a5, v⟩ := k
  exact ⟨r, h', a1, a2, a3, a4, a5, fun p e s m args below meth c H locs ls C n1 n2 n3 hR hS hv => lv_iushr C.1 C.2.1 hd rfl (v p e s m args below meth c H locs ls C n1 n2 n3 hR hS hv)⟩
theorem jx_ladd {x y : Int64} (hd : decode M.2.1 pc = .ok (.ladd, 1)) (k : jm_X l G M n0 s0 Z Post (pc + 1) lv (.long (x + y) :: st) h) : jm_X l G M n0 s0 Z Post pc lv (.long y :: .long x :: st) h := by
  obtain ⟨r, h', a1, a2, a3, a4, a5, v⟩ := k
  exact ⟨r, h', a1, a2, a3, a4, a5, fun p e s m args below meth c H locs ls C n1 n2 n3 hR hS hv => lv_ladd C.1 C.2.1 hd (v p e s m args below meth c H locs ls C n1 n2 n3 hR hS hv)⟩
theorem jx_lsub {x y : Int64} (hd : decode M.2.1 pc = .ok (.lsub, 1)) (k : jm_X l G M n0 s0 Z Post (pc + 1) lv (.long (x - y) :: st) h) : jm_X l G M n0 s0 Z Post pc lv (.long y :: .long x :: st) h := by
  obtain ⟨r, h', a1, a2, a3, a4, a5, v⟩ := k
  exact ⟨r, h', a1, a2, a3, a4, a5, fun p e s m args below meth c H locs ls C n1 n2 n3 hR hS hv => lv_lsub C.1 C.2.1 hd (v p e s m args below meth c H locs ls C n1 n2 n3 hR hS hv)⟩
theorem jx_lmul {x y : Int64} (hd : decode M.2.1 pc = .ok (.lmul, 1)) (k : jm_X l G M n0 s0 Z Post (pc + 1) lv (.long (x * y) :: st) h) : jm_X l G M n0 s0 Z Post pc lv (.long y :: .long x :: st) h := by
  obtain ⟨r, h', a1, a2, a3, a4, a5, v⟩ := k
  exact ⟨r, h', a1, a2, a3, a4, a5, fun p e s m args below meth c H locs ls C n1 n2 n3 hR hS hv => lv_lmul C.1 C.2.1 hd (v p e s m args below meth c H locs ls C n1 n2 n3 hR hS hv)⟩
theorem jx_land {x y : Int64} (hd : decode M.2.1 pc = .ok (.land, 1)) (k : jm_X l G M n0 s0 Z Post (pc + 1) lv (.long (x &&& y) :: st) h) : jm_X l G M n0 s0 Z Post pc lv (.long y :: .long x :: st) h := by
  obtain ⟨r, h', a1, a2, a3, a4, a5, v⟩ := k
  exact ⟨r, h', a1, a2, a3, a4, a5, fun p e s m args below meth c H locs ls C n1 n2 n3 hR hS hv => lv_land C.1 C.2.1 hd (v p e s m args below meth c H locs ls C n1 n2 n3 hR hS hv)⟩
theorem jx_lor {x y : Int64} (hd : decode M.2.1 pc = .ok (.lor, 1)) (k : jm_X l G M n0 s0 Z Post (pc + 1) lv (.long (x ||| y) :: st) h) : jm_X l G M n0 s0 Z Post pc lv (.long y :: .long x :: st) h := by
  obtain ⟨r, h', a1, a2, a3, a4, a5, v⟩ := k
  exact ⟨r, h', a1, a2, a3, a4, a5, fun p e s m args below meth c H locs ls C n1 n2 n3 hR hS hv => lv_lor C.1 C.2.1 hd (v p e s m args below meth c H locs ls C n1 n2 n3 hR hS hv)⟩
theorem jx_lxor {x y : Int64} (hd : decode M.2.1 pc = .ok (.lxor, 1)) (k : jm_X l G M n0 s0 Z Post (pc + 1) lv (.long (x ^^^ y) :: st) h) : jm_X l G M n0 s0 Z Post pc lv (.long y :: .long x :: st) h := by
  obtain ⟨r, h', a1, a2, a3, a4, a5, v⟩ := k
  exact ⟨r, h', a1, a2, a3, a4, a5, fun p e s m args below meth c H locs ls C n1 n2 n3 hR hS hv => lv_lxor C.1 C.2.1 hd (v p e s m args below meth c H locs ls C n1 n2 n3 hR hS hv)⟩
theorem jx_ldiv {x y : Int64} (hd : decode M.2.1 pc = .ok (.ldiv, 1)) (hne : ¬ y = 0) (k : jm_X l G M n0 s0 Z Post (pc + 1) lv (.long (x / y) :: st) h) : jm_X l G M n0 s0 Z Post pc lv (.long y :: .long x :: st) h := by
  obtain ⟨r, h', a1, a2, a3, a4, a5, v⟩ := k
  exact ⟨r, h', a1, a2, a3, a4, a5, fun p e s m args below meth c H locs ls C n1 n2 n3 hR hS hv => lv_ldiv C.1 C.2.1 hd hne (v p e s m args below meth c H locs ls C n1 n2 n3 hR hS hv)⟩
theorem jx_lrem {x y : Int64} (hd : decode M.2.1 pc = .ok (.lrem, 1)) (hne : ¬ y = 0) (k : jm_X l G M n0 s0 Z Post (pc + 1) lv (.long (x - x / y * y) :: st) h) : jm_X l G M n0 s0 Z Post pc lv (.long y :: .long x :: st) h := by
  obtain ⟨r, h', a1, a2, a3, a4, a5, v⟩ := k
  exact ⟨r, h', a1, a2, a3, a4, a5, fun p e s m args below meth c H locs ls C n1 n2 n3 hR hS hv => lv_lrem C.1 C.2.1 hd hne (v p e s m args below meth c H locs ls C n1 n2 n3 hR hS hv)⟩
theorem jx_lneg {x : Int64} (hd : decode M.2.1 pc = .ok (.lneg, 1)) (k : jm_X l G M n0 s0 Z Post (pc + 1) lv (.long (-x) :: st) h) : jm_X l G M n0 s0 Z Post pc lv (.long x :: st) h := by
  obtain ⟨r, h', a1, a2, a3, a4, a5, v⟩ := k
  exact ⟨r, h', a1, a2, a3, a4, a5, fun p e s m args below meth c H locs ls C n1 n2 n3 hR hS hv => lv_lneg C.1 C.2.1 hd (v p e s m args below meth c H locs ls C n1 n2 n3 hR hS hv)⟩
theorem jx_lshl {x : Int64} {y : Int32} (hd : decode M.2.1 pc = .ok (.lshl, 1)) (k : jm_X l G M n0 s0 Z Post (pc + 1) lv (.long (x <<< (y.toInt64 &&& 63)) :: st) h) : jm_X l G M n0 s0 Z Post pc lv (.int y :: .long x :: st) h := by
  obtain ⟨r, h', a1, a2, a3, a4, a5, v⟩ := k
  exact ⟨r, h', a1, a2, a3, a4, a5, fun p e s m args below meth c H locs ls C n1 n2 n3 hR hS hv => lv_lshl C.1 C.2.1 hd rfl (v p e s m args below meth c H locs ls C n1 n2 n3 hR hS hv)⟩
theorem jx_lshr {x : Int64} {y : Int32} (hd : decode M.2.1 pc = .ok (.lshr, 1)) (k : jm_X l G M n0 s0 Z Post (pc + 1) lv (.long (x >>> (y.toInt64 &&& 63)) :: st) h) : jm_X l G M n0 s0 Z Post pc lv (.int y :: .long x :: st) h := by
  obtain ⟨r, h', a1, a2, a3, a4, a5, v⟩ := k
  exact ⟨r, h', a1, a2, a3, a4, a5, fun p e s m args below meth c H locs ls C n1 n2 n3 hR hS hv => lv_lshr C.1 C.2.1 hd rfl (v p e s m args below meth c H locs ls C n1 n2 n3 hR hS hv)⟩
theorem jx_lushr {x : Int64} {y : Int32} (hd : decode M.2.1 pc = .ok (.lushr, 1)) (k : jm_X l G M n0 s0 Z Post (pc + 1) lv (.long ((x.toUInt64 >>> (y.toInt64.toUInt64 &&& Int64.toUInt64 63)).toInt64) :: st) h) : jm_X l G M n0 s0 Z Post pc lv (.int y :: .long x :: st) h := by
  obtain ⟨r, h', a1, a2, a3, a4, a5, v⟩ := k
  exact ⟨r, h', a1, a2, a3, a4, a5, fun p e s m args below meth c H locs ls C n1 n2 n3 hR hS hv => lv_lushr C.1 C.2.1 hd rfl (v p e s m args below meth c H locs ls C n1 n2 n3 hR hS hv)⟩
theorem jx_i2l {x : Int32} (hd : decode M.2.1 pc = .ok (.i2l, 1)) (k : jm_X l G M n0 s0 Z Post (pc + 1) lv (.long (x.toInt64) :: st) h) : jm_X l G M n0 s0 Z Post pc lv (.int x :: st) h := by
  obtain ⟨r, h', a1, a2, a3, a4, a5, v⟩ := k
  exact ⟨r, h', a1, a2, a3, a4, a5, fun p e s m args below meth c H locs ls C n1 n2 n3 hR hS hv => lv_i2l C.1 C.2.1 hd rfl (v p e s m args below meth c H locs ls C n1 n2 n3 hR hS hv)⟩
theorem jx_l2i {x : Int64} (hd : decode M.2.1 pc = .ok (.l2i, 1)) (k : jm_X l G M n0 s0 Z Post (pc + 1) lv (.int (x.toInt32) :: st) h) : jm_X l G M n0 s0 Z Post pc lv (.long x :: st) h := by
  obtain ⟨r, h', a1, a2, a3, a4, a5, v⟩ := k
  exact ⟨r, h', a1, a2, a3, a4, a5, fun p e s m args below meth c H locs ls C n1 n2 n3 hR hS hv => lv_l2i C.1 C.2.1 hd rfl (v p e s m args below meth c H locs ls C n1 n2 n3 hR hS hv)⟩
theorem jx_i2b {x : Int32} (hd : decode M.2.1 pc = .ok (.i2b, 1)) (k : jm_X l G M n0 s0 Z Post (pc + 1) lv (.int (x.toInt8.toInt32) :: st) h) : jm_X l G M n0 s0 Z Post pc lv (.int x :: st) h := by
  obtain ⟨r, h', a1, a2, a3, a4, a5, v⟩ := k
  exact ⟨r, h', a1, a2, a3, a4, a5, fun p e s m args below meth c H locs ls C n1 n2 n3 hR hS hv => lv_i2b C.1 C.2.1 hd rfl (v p e s m args below meth c H locs ls C n1 n2 n3 hR hS hv)⟩
theorem jx_i2s {x : Int32} (hd : decode M.2.1 pc = .ok (.i2s, 1)) (k : jm_X l G M n0 s0 Z Post (pc + 1) lv (.int (x.toInt16.toInt32) :: st) h) : jm_X l G M n0 s0 Z Post pc lv (.int x :: st) h := by
  obtain ⟨r, h', a1, a2, a3, a4, a5, v⟩ := k
  exact ⟨r, h', a1, a2, a3, a4, a5, fun p e s m args below meth c H locs ls C n1 n2 n3 hR hS hv => lv_i2s C.1 C.2.1 hd rfl (v p e s m args below meth c H locs ls C n1 n2 n3 hR hS hv)⟩
theorem jx_i2c {x : Int32} (hd : decode M.2.1 pc = .ok (.i2c, 1)) (k : jm_X l G M n0 s0 Z Post (pc + 1) lv (.int ((x.toUInt32 % 65536).toInt32) :: st) h) : jm_X l G M n0 s0 Z Post pc lv (.int x :: st) h := by
  obtain ⟨r, h', a1, a2, a3, a4, a5, v⟩ := k
  exact ⟨r, h', a1, a2, a3, a4, a5, fun p e s m args below meth c H locs ls C n1 n2 n3 hR hS hv => lv_i2c C.1 C.2.1 hd rfl (v p e s m args below meth c H locs ls C n1 n2 n3 hR hS hv)⟩
theorem jx_lcmp {x y : Int64} (hd : decode M.2.1 pc = .ok (.lcmp, 1)) (k : jm_X l G M n0 s0 Z Post (pc + 1) lv (.int (lg_cmp x y) :: st) h) : jm_X l G M n0 s0 Z Post pc lv (.long y :: .long x :: st) h := by
  obtain ⟨r, h', a1, a2, a3, a4, a5, v⟩ := k
  exact ⟨r, h', a1, a2, a3, a4, a5, fun p e s m args below meth c H locs ls C n1 n2 n3 hR hS hv => W.lcmp C.1 C.2.1 hd (v p e s m args below meth c H locs ls C n1 n2 n3 hR hS hv)⟩
theorem jx_dup {va : Value} (hd : decode M.2.1 pc = .ok (.dup, 1)) (hva : va.category = 1) (k : jm_X l G M n0 s0 Z Post (pc + 1) lv (va :: va :: st) h) : jm_X l G M n0 s0 Z Post pc lv (va :: st) h := by
  obtain ⟨r, h', a1, a2, a3, a4, a5, v⟩ := k
  exact ⟨r, h', a1, a2, a3, a4, a5, fun p e s m args below meth c H locs ls C n1 n2 n3 hR hS hv => lv_dup C.1 C.2.1 hd hva (v p e s m args below meth c H locs ls C n1 n2 n3 hR hS hv)⟩
theorem jx_pop {va : Value} (hd : decode M.2.1 pc = .ok (.pop, 1)) (hva : va.category = 1) (k : jm_X l G M n0 s0 Z Post (pc + 1) lv st h) : jm_X l G M n0 s0 Z Post pc lv (va :: st) h := by
  obtain ⟨r, h', a1, a2, a3, a4, a5, v⟩ := k
  exact ⟨r, h', a1, a2, a3, a4, a5, fun p e s m args below meth c H locs ls C n1 n2 n3 hR hS hv => lv_pop C.1 C.2.1 hd hva (v p e s m args below meth c H locs ls C n1 n2 n3 hR hS hv)⟩
theorem jx_dup_x1 {va vb : Value} (hd : decode M.2.1 pc = .ok (.dup_x1, 1)) (hva : va.category = 1) (hvb : vb.category = 1) (k : jm_X l G M n0 s0 Z Post (pc + 1) lv (va :: vb :: va :: st) h) : jm_X l G M n0 s0 Z Post pc lv (va :: vb :: st) h := by
  obtain ⟨r, h', a1, a2, a3, a4, a5, v⟩ := k
  exact ⟨r, h', a1, a2, a3, a4, a5, fun p e s m args below meth c H locs ls C n1 n2 n3 hR hS hv => lv_dup_x1 C.1 C.2.1 hd hva hvb (v p e s m args below meth c H locs ls C n1 n2 n3 hR hS hv)⟩
theorem jx_dup_x2 {va vb vd : Value} (hd : decode M.2.1 pc = .ok (.dup_x2, 1)) (hva : va.category = 1) (hvb : vb.category = 1) (hvd : vd.category = 1) (k : jm_X l G M n0 s0 Z Post (pc + 1) lv (va :: vb :: vd :: va :: st) h) : jm_X l G M n0 s0 Z Post pc lv (va :: vb :: vd :: st) h := by
  obtain ⟨r, h', a1, a2, a3, a4, a5, v⟩ := k
  exact ⟨r, h', a1, a2, a3, a4, a5, fun p e s m args below meth c H locs ls C n1 n2 n3 hR hS hv => lv_dup_x2 C.1 C.2.1 hd hva hvb hvd (v p e s m args below meth c H locs ls C n1 n2 n3 hR hS hv)⟩
theorem jx_dup2_11 {va vb : Value} (hd : decode M.2.1 pc = .ok (.dup2, 1)) (hva : va.category = 1) (hvb : vb.category = 1) (k : jm_X l G M n0 s0 Z Post (pc + 1) lv (va :: vb :: va :: vb :: st) h) : jm_X l G M n0 s0 Z Post pc lv (va :: vb :: st) h := by
  obtain ⟨r, h', a1, a2, a3, a4, a5, v⟩ := k
  exact ⟨r, h', a1, a2, a3, a4, a5, fun p e s m args below meth c H locs ls C n1 n2 n3 hR hS hv => lv_dup2_11 C.1 C.2.1 hd hva hvb (v p e s m args below meth c H locs ls C n1 n2 n3 hR hS hv)⟩
theorem jx_dup2_2 {va : Value} (hd : decode M.2.1 pc = .ok (.dup2, 1)) (hva : va.category = 2) (k : jm_X l G M n0 s0 Z Post (pc + 1) lv (va :: va :: st) h) : jm_X l G M n0 s0 Z Post pc lv (va :: st) h := by
  obtain ⟨r, h', a1, a2, a3, a4, a5, v⟩ := k
  exact ⟨r, h', a1, a2, a3, a4, a5, fun p e s m args below meth c H locs ls C n1 n2 n3 hR hS hv => lv_dup2_2 C.1 C.2.1 hd hva (v p e s m args below meth c H locs ls C n1 n2 n3 hR hS hv)⟩
theorem jx_pop2_2 {va : Value} (hd : decode M.2.1 pc = .ok (.pop2, 1)) (hva : va.category = 2) (k : jm_X l G M n0 s0 Z Post (pc + 1) lv st h) : jm_X l G M n0 s0 Z Post pc lv (va :: st) h := by
  obtain ⟨r, h', a1, a2, a3, a4, a5, v⟩ := k
  exact ⟨r, h', a1, a2, a3, a4, a5, fun p e s m args below meth c H locs ls C n1 n2 n3 hR hS hv => lv_pop2_2 C.1 C.2.1 hd hva (v p e s m args below meth c H locs ls C n1 n2 n3 hR hS hv)⟩
theorem jx_dup2_x1_2 {va vb : Value} (hd : decode M.2.1 pc = .ok (.dup2_x1, 1)) (hva : va.category = 2) (hvb : vb.category = 1) (k : jm_X l G M n0 s0 Z Post (pc + 1) lv (va :: vb :: va :: st) h) : jm_X l G M n0 s0 Z Post pc lv (va :: vb :: st) h := by
  obtain ⟨r, h', a1, a2, a3, a4, a5, v⟩ := k
  exact ⟨r, h', a1, a2, a3, a4, a5, fun p e s m args below meth c H locs ls C n1 n2 n3 hR hS hv => lv_dup2_x1_2 C.1 C.2.1 hd hva hvb (v p e s m args below meth c H locs ls C n1 n2 n3 hR hS hv)⟩
theorem jx_dup2_x2_2 {va vb vd : Value} (hd : decode M.2.1 pc = .ok (.dup2_x2, 1)) (hva : va.category = 2) (hvb : vb.category = 1) (hvd : vd.category = 1) (k : jm_X l G M n0 s0 Z Post (pc + 1) lv (va :: vb :: vd :: va :: st) h) : jm_X l G M n0 s0 Z Post pc lv (va :: vb :: vd :: st) h := by
  obtain ⟨r, h', a1, a2, a3, a4, a5, v⟩ := k
  exact ⟨r, h', a1, a2, a3, a4, a5, fun p e s m args below meth c H locs ls C n1 n2 n3 hR hS hv => lv_dup2_x2_2 C.1 C.2.1 hd hva hvb hvd (v p e s m args below meth c H locs ls C n1 n2 n3 hR hS hv)⟩
theorem jx_goto {off : Int} {tgt : Nat} (hd : decode M.2.1 pc = .ok (.goto off, 3)) (ht : (pc : Int) + off = (tgt : Int)) (k : jm_X l G M n0 s0 Z Post tgt lv st h) : jm_X l G M n0 s0 Z Post pc lv st h := by
  obtain ⟨r, h', a1, a2, a3, a4, a5, v⟩ := k
  exact ⟨r, h', a1, a2, a3, a4, a5, fun p e s m args below meth c H locs ls C n1 n2 n3 hR hS hv => lv_goto C.1 C.2.1 hd ht (v p e s m args below meth c H locs ls C n1 n2 n3 hR hS hv)⟩
theorem jx_ifnull {x : Nat} {off : Int} (hd : decode M.2.1 pc = .ok (.ifnull off, 3)) (k : jm_X l G M n0 s0 Z Post (pc + 3) lv st h) : jm_X l G M n0 s0 Z Post pc lv (.ref x :: st) h := by
  obtain ⟨r, h', a1, a2, a3, a4, a5, v⟩ := k
  exact ⟨r, h', a1, a2, a3, a4, a5, fun p e s m args below meth c H locs ls C n1 n2 n3 hR hS hv => lv_ifnull C.1 C.2.1 hd (v p e s m args below meth c H locs ls C n1 n2 n3 hR hS hv)⟩
theorem jx_ifnullN {off : Int} {tgt : Nat} (hd : decode M.2.1 pc = .ok (.ifnull off, 3)) (ht : (pc : Int) + off = (tgt : Int)) (k : jm_X l G M n0 s0 Z Post tgt lv st h) : jm_X l G M n0 s0 Z Post pc lv (.null :: st) h := by
  obtain ⟨r, h', a1, a2, a3, a4, a5, v⟩ := k
  exact ⟨r, h', a1, a2, a3, a4, a5, fun p e s m args below meth c H locs ls C n1 n2 n3 hR hS hv => lv_ifnullN C.1 C.2.1 hd ht (v p e s m args below meth c H locs ls C n1 n2 n3 hR hS hv)⟩
theorem jx_ifnonnull {x : Nat} {off : Int} {tgt : Nat} (hd : decode M.2.1 pc = .ok (.ifnonnull off, 3)) (ht : (pc : Int) + off = (tgt : Int)) (k : jm_X l G M n0 s0 Z Post tgt lv st h) : jm_X l G M n0 s0 Z Post pc lv (.ref x :: st) h := by
  obtain ⟨r, h', a1, a2, a3, a4, a5, v⟩ := k
  exact ⟨r, h', a1, a2, a3, a4, a5, fun p e s m args below meth c H locs ls C n1 n2 n3 hR hS hv => lv_ifnonnull C.1 C.2.1 hd ht (v p e s m args below meth c H locs ls C n1 n2 n3 hR hS hv)⟩
theorem jx_ifnonnullN {off : Int} (hd : decode M.2.1 pc = .ok (.ifnonnull off, 3)) (k : jm_X l G M n0 s0 Z Post (pc + 3) lv st h) : jm_X l G M n0 s0 Z Post pc lv (.null :: st) h := by
  obtain ⟨r, h', a1, a2, a3, a4, a5, v⟩ := k
  exact ⟨r, h', a1, a2, a3, a4, a5, fun p e s m args below meth c H locs ls C n1 n2 n3 hR hS hv => lv_ifnonnullN C.1 C.2.1 hd (v p e s m args below meth c H locs ls C n1 n2 n3 hR hS hv)⟩
theorem jx_tableOut {dflt lo hi : Int} {offs : Array Int} {len : Nat} {x : Int32} {tgt : Nat} (hd : decode M.2.1 pc = .ok (.tableswitch dflt lo hi offs, len)) (hx : x.toInt < lo ∨ hi < x.toInt) (ht : (pc : Int) + dflt = (tgt : Int)) (k : jm_X l G M n0 s0 Z Post tgt lv st h) : jm_X l G M n0 s0 Z Post pc lv (.int x :: st) h := by
  obtain ⟨r, h', a1, a2, a3, a4, a5, v⟩ := k
  exact ⟨r, h', a1, a2, a3, a4, a5, fun p e s m args below meth c H locs ls C n1 n2 n3 hR hS hv => lv_tableOut C.1 C.2.1 hd hx ht (v p e s m args below meth c H locs ls C n1 n2 n3 hR hS hv)⟩
theorem jx_tableIn {dflt lo hi : Int} {offs : Array Int} {len : Nat} {x : Int32} {off : Int} {tgt : Nat} (hd : decode M.2.1 pc = .ok (.tableswitch dflt lo hi offs, len)) (h1 : ¬ x.toInt < lo) (h2 : ¬ hi < x.toInt) (ho : offs[(x.toInt - lo).toNat]? = some off) (ht : (pc : Int) + off = (tgt : Int)) (k : jm_X l G M n0 s0 Z Post tgt lv st h) : jm_X l G M n0 s0 Z Post pc lv (.int x :: st) h := by
  obtain ⟨r, h', a1, a2, a3, a4, a5, v⟩ := k
  exact ⟨r, h', a1, a2, a3, a4, a5, fun p e s m args below meth c H locs ls C n1 n2 n3 hR hS hv => lv_tableIn C.1 C.2.1 hd h1 h2 ho ht (v p e s m args below meth c H locs ls C n1 n2 n3 hR hS hv)⟩
theorem jx_lookup {dflt : Int} {ps : Array (Int × Int)} {len : Nat} {x : Int32} {off : Int} {tgt : Nat} (hd : decode M.2.1 pc = .ok (.lookupswitch dflt ps, len)) (hp : (ps.toList.zip (ps.toList.drop 1)).all (fun (a, next) => a.1 < next.1) = true) (ho : Op.lookupswitch.offset ps.toList dflt x.toInt = off) (ht : (pc : Int) + off = (tgt : Int)) (k : jm_X l G M n0 s0 Z Post tgt lv st h) : jm_X l G M n0 s0 Z Post pc lv (.int x :: st) h := by
  obtain ⟨r, h', a1, a2, a3, a4, a5, v⟩ := k
  exact ⟨r, h', a1, a2, a3, a4, a5, fun p e s m args below meth c H locs ls C n1 n2 n3 hR hS hv => lv_lookup C.1 C.2.1 hd hp ho ht (v p e s m args below meth c H locs ls C n1 n2 n3 hR hS hv)⟩
theorem jx_if_eq {x : Int32} {off : Int} {tgt : Nat} (hd : decode M.2.1 pc = .ok (.ifCond .eq off, 3)) (ht : (pc : Int) + off = (tgt : Int)) (kt : x = 0 → jm_X l G M n0 s0 Z Post tgt lv st h) (kf : ¬ x = 0 → jm_X l G M n0 s0 Z Post (pc + 3) lv st h) : jm_X l G M n0 s0 Z Post pc lv (.int x :: st) h := by
  by_cases hc : x = 0
  · obtain ⟨r, h', a1, a2, a3, a4, a5, v⟩ := kt hc
    exact ⟨r, h', a1, a2, a3, a4, a5, fun p e s m args below meth c H locs ls C n1 n2 n3 hR hS hv => lv_if_eq C.1 C.2.1 hd ht (fun _ => v p e s m args below meth c H locs ls C n1 n2 n3 hR hS hv) (fun z => absurd hc z)⟩
  · obtain ⟨r, h', a1, a2, a3, a4, a5, v⟩ := kf hc
    exact ⟨r, h', a1, a2, a3, a4, a5, fun p e s m args below meth c H locs ls C n1 n2 n3 hR hS hv => lv_if_eq C.1 C.2.1 hd ht (fun z => absurd z hc) (fun _ => v p e s m args below meth c H locs ls C n1 n2 n3 hR hS hv)⟩
theorem jx_icmp_eq {x y : Int32} {off : Int} {tgt : Nat} (hd : decode M.2.1 pc = .ok (.if_icmp .eq off, 3)) (ht : (pc : Int) + off = (tgt : Int)) (kt : x = y → jm_X l G M n0 s0 Z Post tgt lv st h) (kf : ¬ x = y → jm_X l G M n0 s0 Z Post (pc + 3) lv st h) : jm_X l G M n0 s0 Z Post pc lv (.int y :: .int x :: st) h := by
  by_cases hc : x = y
  · obtain ⟨r, h', a1, a2, a3, a4, a5, v⟩ := kt hc
    exact ⟨r, h', a1, a2, a3, a4, a5, fun p e s m args below meth c H locs ls C n1 n2 n3 hR hS hv => lv_icmp_eq C.1 C.2.1 hd ht (fun _ => v p e s m args below meth c H locs ls C n1 n2 n3 hR hS hv) (fun z => absurd hc z)⟩
  · obtain ⟨r, h', a1, a2, a3, a4, a5, v⟩ := kf hc
    exact ⟨r, h', a1, a2, a3, a4, a5, fun p e s m args below meth c H locs ls C n1 n2 n3 hR hS hv => lv_icmp_eq C.1 C.2.1 hd ht (fun z => absurd z hc) (fun _ => v p e s m args below meth c H locs ls C n1 n2 n3 hR hS hv)⟩
theorem jx_if_ne {x : Int32} {off : Int} {tgt : Nat} (hd : decode M.2.1 pc = .ok (.ifCond .ne off, 3)) (ht : (pc : Int) + off = (tgt : Int)) (kt : ¬ x = 0 → jm_X l G M n0 s0 Z Post tgt lv st h) (kf : x = 0 → jm_X l G M n0 s0 Z Post (pc + 3) lv st h) : jm_X l G M n0 s0 Z Post pc lv (.int x :: st) h := by
  by_cases hc : x = 0
  · obtain ⟨r, h', a1, a2, a3, a4, a5, v⟩ := kf hc
    exact ⟨r, h', a1, a2, a3, a4, a5, fun p e s m args below meth c H locs ls C n1 n2 n3 hR hS hv => lv_if_ne C.1 C.2.1 hd ht (fun z => absurd hc z) (fun _ => v p e s m args below meth c H locs ls C n1 n2 n3 hR hS hv)⟩
  · obtain ⟨r, h', a1, a2, a3, a4, a5, v⟩ := kt hc
    exact ⟨r, h', a1, a2, a3, a4, a5, fun p e s m args below meth c H locs ls C n1 n2 n3 hR hS hv => lv_if_ne C.1 C.2.1 hd ht (fun _ => v p e s m args below meth c H locs ls C n1 n2 n3 hR hS hv) (fun z => absurd z hc)⟩
theorem jx_icmp_ne {x y : Int32} {off : Int} {tgt : Nat} (hd : decode M.2.1 pc = .ok (.if_icmp .ne off, 3)) (ht : (pc : Int) + off = (tgt : Int)) (kt : ¬ x = y → jm_X l G M n0 s0 Z Post tgt lv st h) (kf : x = y → jm_X l G M n0 s0 Z Post (pc + 3) lv st h) : jm_X l G M n0 s0 Z Post pc lv (.int y :: .int x :: st) h := by
  by_cases hc : x = y
  · obtain ⟨r, h', a1, a2, a3, a4, a5, v⟩ := kf hc
    exact ⟨r, h', a1, a2, a3, a4, a5, fun p e s m args below meth c H locs ls C n1 n2 n3 hR hS hv => lv_icmp_ne C.1 C.2.1 hd ht (fun z => absurd hc z) (fun _ => v p e s m args below meth c H locs ls C n1 n2 n3 hR hS hv)⟩
  · obtain ⟨r, h', a1, a2, a3, a4, a5, v⟩ := kt hc
    exact ⟨r, h', a1, a2, a3, a4, a5, fun p e s m args below meth c H locs ls C n1 n2 n3 hR hS hv => lv_icmp_ne C.1 C.2.1 hd ht (fun _ => v p e s m args below meth c H locs ls C n1 n2 n3 hR hS hv) (fun z => absurd z hc)⟩
theorem jx_if_lt {x : Int32} {off : Int} {tgt : Nat} (hd : decode M.2.1 pc = .ok (.ifCond .lt off, 3)) (ht : (pc : Int) + off = (tgt : Int)) (kt : x < 0 → jm_X l G M n0 s0 Z Post tgt lv st h) (kf : ¬ x < 0 → jm_X l G M n0 s0 Z Post (pc + 3) lv st h) : jm_X l G M n0 s0 Z Post pc lv (.int x :: st) h := by
  by_cases hc : x < 0
  · obtain ⟨r, h', a1, a2, a3, a4, a5, v⟩ := kt hc
    exact ⟨r, h', a1, a2, a3, a4, a5, fun p e s m args below meth c H locs ls C n1 n2 n3 hR hS hv => lv_if_lt C.1 C.2.1 hd ht (fun _ => v p e s m args below meth c H locs ls C n1 n2 n3 hR hS hv) (fun z => absurd hc z)⟩
  · obtain ⟨r, h', a1, a2, a3, a4, a5, v⟩ := kf hc
    exact ⟨r, h', a1, a2, a3, a4, a5, fun p e s m args below meth c H locs ls C n1 n2 n3 hR hS hv => lv_if_lt C.1 C.2.1 hd ht (fun z => absurd z hc) (fun _ => v p e s m args below meth c H locs ls C n1 n2 n3 hR hS hv)⟩
theorem jx_icmp_lt {x y : Int32} {off : Int} {tgt : Nat} (hd : decode M.2.1 pc = .ok (.if_icmp .lt off, 3)) (ht : (pc : Int) + off = (tgt : Int)) (kt : x < y → jm_X l G M n0 s0 Z Post tgt lv st h) (kf : ¬ x < y → jm_X l G M n0 s0 Z Post (pc + 3) lv st h) : jm_X l G M n0 s0 Z Post pc lv (.int y :: .int x :: st) h := by
  by_cases hc : x < y
  · obtain ⟨r, h', a1, a2, a3, a4, a5, v⟩ := kt hc
    exact ⟨r, h', a1, a2, a3, a4, a5, fun p e s m args below meth c H locs ls C n1 n2 n3 hR hS hv => lv_icmp_lt C.1 C.2.1 hd ht (fun _ => v p e s m args below meth c H locs ls C n1 n2 n3 hR hS hv) (fun z => absurd hc z)⟩
  · obtain ⟨r, h', a1, a2, a3, a4, a5, v⟩ := kf hc
    exact ⟨r, h', a1, a2, a3, a4, a5, fun p e s m args below meth c H locs ls C n1 n2 n3 hR hS hv => lv_icmp_lt C.1 C.2.1 hd ht (fun z => absurd z hc) (fun _ => v p e s m args below meth c H locs ls C n1 n2 n3 hR hS hv)⟩
theorem jx_if_ge {x : Int32} {off : Int} {tgt : Nat} (hd : decode M.2.1 pc = .ok (.ifCond .ge off, 3)) (ht : (pc : Int) + off = (tgt : Int)) (kt : 0 ≤ x → jm_X l G M n0 s0 Z Post tgt lv st h) (kf : ¬ 0 ≤ x → jm_X l G M n0 s0 Z Post (pc + 3) lv st h) : jm_X l G M n0 s0 Z Post pc lv (.int x :: st) h := by
  by_cases hc : 0 ≤ x
  · obtain ⟨r, h', a1, a2, a3, a4, a5, v⟩ := kt hc
    exact ⟨r, h', a1, a2, a3, a4, a5, fun p e s m args below meth c H locs ls C n1 n2 n3 hR hS hv => lv_if_ge C.1 C.2.1 hd ht (fun _ => v p e s m args below meth c H locs ls C n1 n2 n3 hR hS hv) (fun z => absurd hc z)⟩
  · obtain ⟨r, h', a1, a2, a3, a4, a5, v⟩ := kf hc
    exact ⟨r, h', a1, a2, a3, a4, a5, fun p e s m args below meth c H locs ls C n1 n2 n3 hR hS hv => lv_if_ge C.1 C.2.1 hd ht (fun z => absurd z hc) (fun _ => v p e s m args below meth c H locs ls C n1 n2 n3 hR hS hv)⟩
theorem jx_icmp_ge {x y : Int32} {off : Int} {tgt : Nat} (hd : decode M.2.1 pc = .ok (.if_icmp .ge off, 3)) (ht : (pc : Int) + off = (tgt : Int)) (kt : y ≤ x → jm_X l G M n0 s0 Z Post tgt lv st h) (kf : ¬ y ≤ x → jm_X l G M n0 s0 Z Post (pc + 3) lv st h) : jm_X l G M n0 s0 Z Post pc lv (.int y :: .int x :: st) h := by
  by_cases hc : y ≤ x
  · obtain ⟨r, h', a1, a2, a3, a4, a5, v⟩ := kt hc
    exact ⟨r, h', a1, a2, a3, a4, a5, fun p e s m args below meth c H locs ls C n1 n2 n3 hR hS hv => lv_icmp_ge C.1 C.2.1 hd ht (fun _ => v p e s m args below meth c H locs ls C n1 n2 n3 hR hS hv) (fun z => absurd hc z)⟩
  · obtain ⟨r, h', a1, a2, a3, a4, a5, v⟩ := kf hc
    exact ⟨r, h', a1, a2, a3, a4, a5, fun p e s m args below meth c H locs ls C n1 n2 n3 hR hS hv => lv_icmp_ge C.1 C.2.1 hd ht (fun z => absurd z hc) (fun _ => v p e s m args below meth c H locs ls C n1 n2 n3 hR hS hv)⟩
theorem jx_if_gt {x : Int32} {off : Int} {tgt : Nat} (hd : decode M.2.1 pc = .ok (.ifCond .gt off, 3)) (ht : (pc : Int) + off = (tgt : Int)) (kt : 0 < x → jm_X l G M n0 s0 Z Post tgt lv st h) (kf : ¬ 0 < x → jm_X l G M n0 s0 Z Post (pc + 3) lv st h) : jm_X l G M n0 s0 Z Post pc lv (.int x :: st) h := by
  by_cases hc : 0 < x
  · obtain ⟨r, h', a1, a2, a3, a4, a5, v⟩ := kt hc
    exact ⟨r, h', a1, a2, a3, a4, a5, fun p e s m args below meth c H locs ls C n1 n2 n3 hR hS hv => lv_if_gt C.1 C.2.1 hd ht (fun _ => v p e s m args below meth c H locs ls C n1 n2 n3 hR hS hv) (fun z => absurd hc z)⟩
  · obtain ⟨r, h', a1, a2, a3, a4, a5, v⟩ := kf hc
    exact ⟨r, h', a1, a2, a3, a4, a5, fun p e s m args below meth c H locs ls C n1 n2 n3 hR hS hv => lv_if_gt C.1 C.2.1 hd ht (fun z => absurd z hc) (fun _ => v p e s m args below meth c H locs ls C n1 n2 n3 hR hS hv)⟩
theorem jx_icmp_gt {x y : Int32} {off : Int} {tgt : Nat} (hd : decode M.2.1 pc = .ok (.if_icmp .gt off, 3)) (ht : (pc : Int) + off = (tgt : Int)) (kt : y < x → jm_X l G M n0 s0 Z Post tgt lv st h) (kf : ¬ y < x → jm_X l G M n0 s0 Z Post (pc + 3) lv st h) : jm_X l G M n0 s0 Z Post pc lv (.int y :: .int x :: st) h := by
  by_cases hc : y < x
  · obtain ⟨r, h', a1, a2, a3, a4, a5, v⟩ := kt hc
    exact ⟨r, h', a1, a2, a3, a4, a5, fun p e s m args below meth c H locs ls C n1 n2 n3 hR hS hv => lv_icmp_gt C.1 C.2.1 hd ht (fun _ => v p e s m args below meth c H locs ls C n1 n2 n3 hR hS hv) (fun z => absurd hc z)⟩
  · obtain ⟨r, h', a1, a2, a3, a4, a5, v⟩ := kf hc
    exact ⟨r, h', a1, a2, a3, a4, a5, fun p e s m args below meth c H locs ls C n1 n2 n3 hR hS hv => lv_icmp_gt C.1 C.2.1 hd ht (fun z => absurd z hc) (fun _ => v p e s m args below meth c H locs ls C n1 n2 n3 hR hS hv)⟩
theorem jx_if_le {x : Int32} {off : Int} {tgt : Nat} (hd : decode M.2.1 pc = .ok (.ifCond .le off, 3)) (ht : (pc : Int) + off = (tgt : Int)) (kt : x ≤ 0 → jm_X l G M n0 s0 Z Post tgt lv st h) (kf : ¬ x ≤ 0 → jm_X l G M n0 s0 Z Post (pc + 3) lv st h) : jm_X l G M n0 s0 Z Post pc lv (.int x :: st) h := by
  by_cases hc : x ≤ 0
  · obtain ⟨r, h', a1, a2, a3, a4, a5, v⟩ := kt hc
    exact ⟨r, h', a1, a2, a3, a4, a5, fun p e s m args below meth c H locs ls C n1 n2 n3 hR hS hv => lv_if_le C.1 C.2.1 hd ht (fun _ => v p e s m args below meth c H locs ls C n1 n2 n3 hR hS hv) (fun z => absurd hc z)⟩
  · obtain ⟨r, h', a1, a2, a3, a4, a5, v⟩ := kf hc
    exact ⟨r, h', a1, a2, a3, a4, a5, fun p e s m args below meth c H locs ls C n1 n2 n3 hR hS hv => lv_if_le C.1 C.2.1 hd ht (fun z => absurd z hc) (fun _ => v p e s m args below meth c H locs ls C n1 n2 n3 hR hS hv)⟩
theorem jx_icmp_le {x y : Int32} {off : Int} {tgt : Nat} (hd : decode M.2.1 pc = .ok (.if_icmp .le off, 3)) (ht : (pc : Int) + off = (tgt : Int)) (kt : x ≤ y → jm_X l G M n0 s0 Z Post tgt lv st h) (kf : ¬ x ≤ y → jm_X l G M n0 s0 Z Post (pc + 3) lv st h) : jm_X l G M n0 s0 Z Post pc lv (.int y :: .int x :: st) h := by
  by_cases hc : x ≤ y
  · obtain ⟨r, h', a1, a2, a3, a4, a5, v⟩ := kt hc
    exact ⟨r, h', a1, a2, a3, a4, a5, fun p e s m args below meth c H locs ls C n1 n2 n3 hR hS hv => lv_icmp_le C.1 C.2.1 hd ht (fun _ => v p e s m args below meth c H locs ls C n1 n2 n3 hR hS hv) (fun z => absurd hc z)⟩
  · obtain ⟨r, h', a1, a2, a3, a4, a5, v⟩ := kf hc
    exact ⟨r, h', a1, a2, a3, a4, a5, fun p e s m args below meth c H locs ls C n1 n2 n3 hR hS hv => lv_icmp_le C.1 C.2.1 hd ht (fun z => absurd z hc) (fun _ => v p e s m args below meth c H locs ls C n1 n2 n3 hR hS hv)⟩
end JX
