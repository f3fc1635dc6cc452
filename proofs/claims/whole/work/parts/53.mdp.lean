/-! the reference's parser: nodes that stand for trees, and what waits -/
def Rep (K O1 O2 O3 : Nat → Int32) (AM : Nat → Int64) (PL : Nat → Int32) : Term → Nat → Nat → Nat → Prop
  | .long v, i, lo, hi => i = lo ∧ hi = lo + 1 ∧ K lo = 0 ∧ AM lo = v
  | .elem (.long u) (.index p), i, lo, hi => i = lo ∧ hi = lo + 1 ∧ K lo = 1 ∧ AM lo = u ∧ PL lo = nI p
  | .length t, i, lo, hi => i = lo ∧ K lo = 6 ∧ ∃ j, O1 lo = nI j ∧ Rep K O1 O2 O3 AM PL t j (lo + 1) hi
  | .add a b, i, lo, hi => K i = 2 ∧ ∃ ja jb, O1 i = nI ja ∧ O2 i = nI jb ∧ Rep K O1 O2 O3 AM PL a ja lo i ∧ Rep K O1 O2 O3 AM PL b jb (i + 1) hi
  | .sub a b, i, lo, hi => K i = 3 ∧ ∃ ja jb, O1 i = nI ja ∧ O2 i = nI jb ∧ Rep K O1 O2 O3 AM PL a ja lo i ∧ Rep K O1 O2 O3 AM PL b jb (i + 1) hi
  | .mul a b, i, lo, hi => K i = 4 ∧ ∃ ja jb, O1 i = nI ja ∧ O2 i = nI jb ∧ Rep K O1 O2 O3 AM PL a ja lo i ∧ Rep K O1 O2 O3 AM PL b jb (i + 1) hi
  | .div a b, i, lo, hi => K i = 5 ∧ ∃ ja jb, O1 i = nI ja ∧ O2 i = nI jb ∧ Rep K O1 O2 O3 AM PL a ja lo i ∧ Rep K O1 O2 O3 AM PL b jb (i + 1) hi
  | .rem a b, i, lo, hi => i = lo ∧ K lo = 7 ∧ ∃ ja jb m, O1 lo = nI ja ∧ O2 lo = nI jb ∧ Rep K O1 O2 O3 AM PL a ja (lo + 1) m ∧ Rep K O1 O2 O3 AM PL b jb m hi
  | .op2 _ a b, i, lo, hi => i = lo ∧ K lo = 8 ∧ ∃ ja jb m, O1 lo = nI ja ∧ O2 lo = nI jb ∧ Rep K O1 O2 O3 AM PL a ja (lo + 1) m ∧ Rep K O1 O2 O3 AM PL b jb m hi
  | .old (.add a (.add b c)), i, lo, hi => i = lo ∧ K lo = 9 ∧ ∃ ja jb jc m1 m2, O1 lo = nI ja ∧ O2 lo = nI jb ∧ O3 lo = nI jc ∧ Rep K O1 O2 O3 AM PL a ja (lo + 1) m1 ∧ Rep K O1 O2 O3 AM PL b jb m1 m2 ∧ Rep K O1 O2 O3 AM PL c jc m2 hi
  | _, _, _, _ => False
section REP
variable {K O1 O2 O3 K' O1' O2' O3' : Nat → Int32} {AM AM' : Nat → Int64} {PL PL' : Nat → Int32}
theorem Rep.ltE (t : Term) (ht : Tree t) : ∀ i lo hi, Rep K O1 O2 O3 AM PL t i lo hi → lo ≤ i ∧ i < hi := by
  refine Tree.rec9 (P := fun t => ∀ i lo hi, Rep K O1 O2 O3 AM PL t i lo hi → lo ≤ i ∧ i < hi) ?_ ?_ ?_ ?_ ?_ ?_ ?_ ?_ ?_ ?_ t ht
  · intro v i lo hi h; obtain ⟨h1, h2, -⟩ := h; omega
  · intro u p i lo hi h; obtain ⟨h1, h2, -⟩ := h; omega
  · intro t _ ih i lo hi h
    obtain ⟨h1, -, j, -, h2⟩ := h
    have := ih _ _ _ h2
    omega
  · intro a b _ _ ia ib i lo hi h
    obtain ⟨-, ja, jb, -, -, h1, h2⟩ := h
    have := ia _ _ _ h1
    have := ib _ _ _ h2
    omega
  · intro a b _ _ ia ib i lo hi h
    obtain ⟨-, ja, jb, -, -, h1, h2⟩ := h
    have := ia _ _ _ h1
    have := ib _ _ _ h2
    omega
  · intro a b _ _ ia ib i lo hi h
    obtain ⟨-, ja, jb, -, -, h1, h2⟩ := h
    have := ia _ _ _ h1
    have := ib _ _ _ h2
    omega
  · intro a b _ _ ia ib i lo hi h
    obtain ⟨-, ja, jb, -, -, h1, h2⟩ := h
    have := ia _ _ _ h1
    have := ib _ _ _ h2
    omega
  · intro a b _ _ ia ib i lo hi h
    obtain ⟨h0, -, ja, jb, m, -, -, h1, h2⟩ := h
    have := ia _ _ _ h1
    have := ib _ _ _ h2
    omega
  · intro o a b _ _ ia ib i lo hi h
    obtain ⟨h0, -, ja, jb, m, -, -, h1, h2⟩ := h
    have := ia _ _ _ h1
    have := ib _ _ _ h2
    omega
  · intro a b c _ _ _ ia ib ic i lo hi h
    obtain ⟨h0, -, ja, jb, jc, m1, m2, -, -, -, h1, h2, h3⟩ := h
    have := ia _ _ _ h1
    have := ib _ _ _ h2
    have := ic _ _ _ h3
    omega
theorem Rep.lt {t : Term} (ht : Tree t) {i lo hi : Nat} (h : Rep K O1 O2 O3 AM PL t i lo hi) : lo ≤ i ∧ i < hi := Rep.ltE t ht _ _ _ h
/-- it hangs on its own nodes alone -/
theorem Rep.sameE (t : Term) (ht : Tree t) : ∀ i lo hi, Rep K O1 O2 O3 AM PL t i lo hi → (∀ j, lo ≤ j → j < hi → K' j = K j ∧ O1' j = O1 j ∧ O2' j = O2 j ∧ O3' j = O3 j ∧ AM' j = AM j ∧ PL' j = PL j) → Rep K' O1' O2' O3' AM' PL' t i lo hi := by
  have bin : ∀ (a b : Term) (u : Int32), Tree a → Tree b → (∀ i lo hi, Rep K O1 O2 O3 AM PL a i lo hi → (∀ j, lo ≤ j → j < hi → K' j = K j ∧ O1' j = O1 j ∧ O2' j = O2 j ∧ O3' j = O3 j ∧ AM' j = AM j ∧ PL' j = PL j) → Rep K' O1' O2' O3' AM' PL' a i lo hi) → (∀ i lo hi, Rep K O1 O2 O3 AM PL b i lo hi → (∀ j, lo ≤ j → j < hi → K' j = K j ∧ O1' j = O1 j ∧ O2' j = O2 j ∧ O3' j = O3 j ∧ AM' j = AM j ∧ PL' j = PL j) → Rep K' O1' O2' O3' AM' PL' b i lo hi) →
      ∀ i lo hi, (K i = u ∧ ∃ ja jb, O1 i = nI ja ∧ O2 i = nI jb ∧ Rep K O1 O2 O3 AM PL a ja lo i ∧ Rep K O1 O2 O3 AM PL b jb (i + 1) hi) → (∀ j, lo ≤ j → j < hi → K' j = K j ∧ O1' j = O1 j ∧ O2' j = O2 j ∧ O3' j = O3 j ∧ AM' j = AM j ∧ PL' j = PL j) → (K' i = u ∧ ∃ ja jb, O1' i = nI ja ∧ O2' i = nI jb ∧ Rep K' O1' O2' O3' AM' PL' a ja lo i ∧ Rep K' O1' O2' O3' AM' PL' b jb (i + 1) hi) := by
    intro a b u ta tb ia ib i lo hi h e
    obtain ⟨h0, ja, jb, h1, h2, h3, h4⟩ := h
    have l1 := Rep.lt ta h3
    have l2 := Rep.lt tb h4
    obtain ⟨e1, e2, e3, -⟩ := e i (by omega) (by omega)
    exact ⟨e1.trans h0, ja, jb, e2.trans h1, e3.trans h2, ia _ _ _ h3 fun j q1 q2 => e j q1 (by omega), ib _ _ _ h4 fun j q1 q2 => e j (by omega) q2⟩
  have fn : ∀ (a b : Term) (u : Int32), Tree a → Tree b → (∀ i lo hi, Rep K O1 O2 O3 AM PL a i lo hi → (∀ j, lo ≤ j → j < hi → K' j = K j ∧ O1' j = O1 j ∧ O2' j = O2 j ∧ O3' j = O3 j ∧ AM' j = AM j ∧ PL' j = PL j) → Rep K' O1' O2' O3' AM' PL' a i lo hi) → (∀ i lo hi, Rep K O1 O2 O3 AM PL b i lo hi → (∀ j, lo ≤ j → j < hi → K' j = K j ∧ O1' j = O1 j ∧ O2' j = O2 j ∧ O3' j = O3 j ∧ AM' j = AM j ∧ PL' j = PL j) → Rep K' O1' O2' O3' AM' PL' b i lo hi) →
      ∀ i lo hi, (i = lo ∧ K lo = u ∧ ∃ ja jb m, O1 lo = nI ja ∧ O2 lo = nI jb ∧ Rep K O1 O2 O3 AM PL a ja (lo + 1) m ∧ Rep K O1 O2 O3 AM PL b jb m hi) → (∀ j, lo ≤ j → j < hi → K' j = K j ∧ O1' j = O1 j ∧ O2' j = O2 j ∧ O3' j = O3 j ∧ AM' j = AM j ∧ PL' j = PL j) → (i = lo ∧ K' lo = u ∧ ∃ ja jb m, O1' lo = nI ja ∧ O2' lo = nI jb ∧ Rep K' O1' O2' O3' AM' PL' a ja (lo + 1) m ∧ Rep K' O1' O2' O3' AM' PL' b jb m hi) := by
    intro a b u ta tb ia ib i lo hi h e
    obtain ⟨hi0, h0, ja, jb, m, h1, h2, h3, h4⟩ := h
    have l1 := Rep.lt ta h3
    have l2 := Rep.lt tb h4
    obtain ⟨e1, e2, e3, -⟩ := e lo (by omega) (by omega)
    exact ⟨hi0, e1.trans h0, ja, jb, m, e2.trans h1, e3.trans h2, ia _ _ _ h3 fun j q1 q2 => e j (by omega) (by omega), ib _ _ _ h4 fun j q1 q2 => e j (by omega) q2⟩
  refine Tree.rec9 (P := fun t => ∀ i lo hi, Rep K O1 O2 O3 AM PL t i lo hi → (∀ j, lo ≤ j → j < hi → K' j = K j ∧ O1' j = O1 j ∧ O2' j = O2 j ∧ O3' j = O3 j ∧ AM' j = AM j ∧ PL' j = PL j) → Rep K' O1' O2' O3' AM' PL' t i lo hi) ?_ ?_ ?_ ?_ ?_ ?_ ?_ ?_ ?_ ?_ t ht
  · intro v i lo hi h e
    obtain ⟨h1, h2, h3, h4⟩ := h
    obtain ⟨e1, e2, e3, e4, e5, e6⟩ := e lo (by omega) (by omega)
    exact ⟨h1, h2, e1.trans h3, e5.trans h4⟩
  · intro u p i lo hi h e
    obtain ⟨h1, h2, h3, h4, h5⟩ := h
    obtain ⟨e1, e2, e3, e4, e5, e6⟩ := e lo (by omega) (by omega)
    exact ⟨h1, h2, e1.trans h3, e5.trans h4, e6.trans h5⟩
  · intro t tt ih i lo hi h e
    obtain ⟨h1, h2, j, h3, h4⟩ := h
    have l1 := Rep.lt tt h4
    obtain ⟨e1, e2, e3, e4, e5, e6⟩ := e lo (by omega) (by omega)
    exact ⟨h1, e1.trans h2, j, e2.trans h3, ih _ _ _ h4 fun j q1 q2 => e j (by omega) q2⟩
  · intro a b ta tb ia ib i lo hi h e; exact bin a b 2 ta tb ia ib i lo hi h e
  · intro a b ta tb ia ib i lo hi h e; exact bin a b 3 ta tb ia ib i lo hi h e
  · intro a b ta tb ia ib i lo hi h e; exact bin a b 4 ta tb ia ib i lo hi h e
  · intro a b ta tb ia ib i lo hi h e; exact bin a b 5 ta tb ia ib i lo hi h e
  · intro a b ta tb ia ib i lo hi h e; exact fn a b 7 ta tb ia ib i lo hi h e
  · intro o a b ta tb ia ib i lo hi h e; exact fn a b 8 ta tb ia ib i lo hi h e
  · intro a b c ta tb tc ia ib ic i lo hi h e
    obtain ⟨hi0, h0, ja, jb, jc, m1, m2, h1, h2, h3, h4, h5, h6⟩ := h
    have l1 := Rep.lt ta h4
    have l2 := Rep.lt tb h5
    have l3 := Rep.lt tc h6
    obtain ⟨e1, e2, e3, e4, -⟩ := e lo (by omega) (by omega)
    exact ⟨hi0, e1.trans h0, ja, jb, jc, m1, m2, e2.trans h1, e3.trans h2, e4.trans h3, ia _ _ _ h4 fun j q1 q2 => e j (by omega) (by omega), ib _ _ _ h5 fun j q1 q2 => e j (by omega) (by omega), ic _ _ _ h6 fun j q1 q2 => e j (by omega) q2⟩
theorem Rep.same {t : Term} (ht : Tree t) {i lo hi : Nat} (h : Rep K O1 O2 O3 AM PL t i lo hi) (e : ∀ j, lo ≤ j → j < hi → K' j = K j ∧ O1' j = O1 j ∧ O2' j = O2 j ∧ O3' j = O3 j ∧ AM' j = AM j ∧ PL' j = PL j) : Rep K' O1' O2' O3' AM' PL' t i lo hi := Rep.sameE t ht _ _ _ h e
end REP
/-- node i of the nodes that are being read -/
def RepS (s : MS) (t : Term) (i lo hi : Nat) : Prop := Tree t ∧ Rep (s.2.2.1 17) (s.2.2.1 18) (s.2.2.1 19) (s.2.2.1 20) (s.2.2.2.1 21) (s.2.2.1 22) t i lo hi
/-- nodes below hi (from lo on) are the same -/
def NdEq (s s' : MS) (lo hi : Nat) : Prop := ∀ j, lo ≤ j → j < hi → s'.2.2.1 17 j = s.2.2.1 17 j ∧ s'.2.2.1 18 j = s.2.2.1 18 j ∧ s'.2.2.1 19 j = s.2.2.1 19 j ∧ s'.2.2.1 20 j = s.2.2.1 20 j ∧ s'.2.2.2.1 21 j = s.2.2.2.1 21 j ∧ s'.2.2.1 22 j = s.2.2.1 22 j
theorem RepS.same {s s' : MS} {t : Term} {i lo hi : Nat} (h : RepS s t i lo hi) (e : NdEq s s' lo hi) : RepS s' t i lo hi := ⟨h.1, h.2.same h.1 e⟩
theorem RepS.lt {s : MS} {t : Term} {i lo hi : Nat} (h : RepS s t i lo hi) : lo ≤ i ∧ i < hi := h.2.lt h.1
theorem NdEq.sub {s s' : MS} {lo hi lo' hi' : Nat} (h : NdEq s s' lo hi) (h1 : lo ≤ lo') (h2 : hi' ≤ hi) : NdEq s s' lo' hi' := fun j q1 q2 => h j (by omega) (by omega)
/-- what waits: its kind (100: a bracket), its node, its first node, its parts so far -/
abbrev Fr : Type := Nat × Nat × Nat × List Term
def f_op (f : Fr) : Bool := decide (2 ≤ f.1 ∧ f.1 ≤ 5)
def lfts : List Fr → Nat
  | [] => 0
  | f :: C => (if f_op f = true then 1 else 0) + lfts C
def dpt : List Fr → Nat
  | [] => 0
  | f :: C => (if f_op f = true then 0 else 1) + dpt C
theorem lfts_dpt (C : List Fr) : lfts C + dpt C = C.length := by
  induction C with
  | nil => rfl
  | cons f C ih =>
    show ((if f_op f = true then 1 else 0) + lfts C) + ((if f_op f = true then 0 else 1) + dpt C) = C.length + 1
    split <;> omega
def ArgS (s : MS) : List Term → Nat → Nat → Prop
  | [], lo, nx => nx = lo + 1
  | [a], lo, nx => ∃ ja, s.2.2.1 18 lo = nI ja ∧ RepS s a ja (lo + 1) nx
  | [b, a], lo, nx => ∃ ja jb m, s.2.2.1 18 lo = nI ja ∧ s.2.2.1 19 lo = nI jb ∧ RepS s a ja (lo + 1) m ∧ RepS s b jb m nx
  | _, _, _ => False
def FrOK (s : MS) (f : Fr) (w p nx : Nat) : Prop :=
  (2 ≤ f.1 ∧ f.1 ≤ 5 ∧ s.2.2.1 23 w = nI f.2.1 ∧ s.2.2.1 17 f.2.1 = nI f.1 ∧ nx = f.2.1 + 1 ∧ ∃ t ia, f.2.2.2 = [t] ∧ s.2.2.1 25 p = nI ia ∧ RepS s t ia f.2.2.1 f.2.1) ∨
  (f.1 = 6 ∧ s.2.2.1 23 w = nI f.2.1 ∧ s.2.2.1 17 f.2.1 = 6 ∧ nx = f.2.1 + 1 ∧ f.2.2.1 = f.2.1) ∨
  (f.1 = 100 ∧ s.2.2.1 23 w = -1 ∧ nx = f.2.2.1) ∨
  (7 ≤ f.1 ∧ f.1 ≤ 9 ∧ s.2.2.1 23 w = nI f.2.1 ∧ s.2.2.1 17 f.2.1 = nI f.1 ∧ f.2.2.1 = f.2.1 ∧ s.2.2.1 24 w = nI f.2.2.2.length ∧ ArgS s f.2.2.2 f.2.1 nx)
def Ctx (s : MS) : List Fr → Nat → Prop
  | [], nx => nx = 0
  | f :: C, nx => FrOK s f C.length (lfts C) nx ∧ Ctx s C f.2.2.1
theorem ArgS.ge {s : MS} {ts : List Term} {lo nx : Nat} (h : ArgS s ts lo nx) : lo + 1 ≤ nx := by
  match ts, h with
  | [], h => have : nx = lo + 1 := h; omega
  | [a], h =>
    obtain ⟨ja, -, h⟩ := h
    have := h.lt
    omega
  | [b, a], h =>
    obtain ⟨ja, jb, m, -, -, h1, h2⟩ := h
    have := h1.lt
    have := h2.lt
    omega
theorem FrOK.ge {s : MS} {f : Fr} {w p nx : Nat} (h : FrOK s f w p nx) : f.2.2.1 ≤ nx ∧ (f.1 ≠ 100 → f.2.2.1 ≤ f.2.1 ∧ f.2.1 < nx) ∧ (f_op f = true → f.2.2.1 + 1 ≤ nx) := by
  unfold f_op
  rw [decide_eq_true_iff]
  rcases h with ⟨h1, h2, -, -, h3, t, ia, -, -, h4⟩ | ⟨h1, -, -, h3, h4⟩ | ⟨h1, -, h3⟩ | ⟨h1, h2, -, -, h3, -, h4⟩
  · have := h4.lt; omega
  · omega
  · omega
  · have := h4.ge; omega
theorem Ctx.lf {s : MS} {C : List Fr} {nx : Nat} (h : Ctx s C nx) : lfts C ≤ nx := by
  induction C generalizing nx with
  | nil => exact Nat.zero_le _
  | cons f C ih =>
    have h1 := ih h.2
    have h2 := h.1.ge
    show (if f_op f = true then 1 else 0) + _ ≤ _
    split
    · have := h2.2.2 (by assumption); omega
    · omega
theorem ArgS.same {s s' : MS} {ts : List Term} {lo nx : Nat} (h : ArgS s ts lo nx) (e : NdEq s s' lo nx) : ArgS s' ts lo nx := by
  match ts, h with
  | [], h => exact h
  | [a], h =>
    obtain ⟨ja, h1, h2⟩ := h
    have := h2.lt
    have e0 := e lo (Nat.le_refl _) (by omega)
    exact ⟨ja, e0.2.1.trans h1, h2.same (e.sub (by omega) (Nat.le_refl _))⟩
  | [b, a], h =>
    obtain ⟨ja, jb, m, h0, h1, h2, h3⟩ := h
    have := h2.lt
    have := h3.lt
    have e0 := e lo (Nat.le_refl _) (by omega)
    exact ⟨ja, jb, m, e0.2.1.trans h0, e0.2.2.1.trans h1, h2.same (e.sub (by omega) (by omega)), h3.same (e.sub (by omega) (Nat.le_refl _))⟩
/-- the stacks below w and p, and the nodes below nx, are the same -/
def StkEq (s s' : MS) (w p : Nat) : Prop := (∀ j, j < w → s'.2.2.1 23 j = s.2.2.1 23 j ∧ s'.2.2.1 24 j = s.2.2.1 24 j) ∧ ∀ j, j < p → s'.2.2.1 25 j = s.2.2.1 25 j
theorem FrOK.same {s s' : MS} {f : Fr} {w p nx : Nat} (h : FrOK s f w p nx) (e : NdEq s s' f.2.2.1 nx) (h1 : s'.2.2.1 23 w = s.2.2.1 23 w) (h2 : s'.2.2.1 24 w = s.2.2.1 24 w) (h3 : f_op f = true → s'.2.2.1 25 p = s.2.2.1 25 p) : FrOK s' f w p nx := by
  have hg := h.ge
  rcases h with ⟨a1, a2, a3, a4, a5, t, ia, a6, a7, a8⟩ | ⟨a1, a2, a3, a4, a5⟩ | ⟨a1, a2, a3⟩ | ⟨a1, a2, a3, a4, a5, a6, a7⟩
  · have l := a8.lt
    exact Or.inl ⟨a1, a2, h1.trans a3, (e _ (by omega) (by omega)).1.trans a4, a5, t, ia, a6, (h3 (by unfold f_op; rw [decide_eq_true_iff]; omega)).trans a7, a8.same (e.sub (Nat.le_refl _) (by omega))⟩
  · exact Or.inr (Or.inl ⟨a1, h1.trans a2, (e _ (by omega) (by omega)).1.trans a3, a4, a5⟩)
  · exact Or.inr (Or.inr (Or.inl ⟨a1, h1.trans a2, a3⟩))
  · have := a7.ge
    exact Or.inr (Or.inr (Or.inr ⟨a1, a2, h1.trans a3, (e _ (by omega) (by omega)).1.trans a4, a5, h2.trans a6, a7.same (e.sub (by omega) (Nat.le_refl _))⟩))
theorem Ctx.same {s s' : MS} {C : List Fr} {nx : Nat} (h : Ctx s C nx) (e : NdEq s s' 0 nx) (k : StkEq s s' C.length (lfts C)) : Ctx s' C nx := by
  induction C generalizing nx with
  | nil => exact h
  | cons f C ih =>
    have hg := h.1.ge
    have el : lfts (f :: C) = (if f_op f = true then 1 else 0) + lfts C := rfl
    have kw : ∀ j, j < C.length + 1 → s'.2.2.1 23 j = s.2.2.1 23 j ∧ s'.2.2.1 24 j = s.2.2.1 24 j := k.1
    refine ⟨h.1.same (e.sub (Nat.zero_le _) (Nat.le_refl _)) (kw _ (by omega)).1 (kw _ (by omega)).2 (fun q => k.2 _ (by rw [el, if_pos q]; omega)), ih h.2 (e.sub (Nat.le_refl _) hg.1) ⟨fun j hj => kw j (by omega), fun j hj => k.2 j (by omega)⟩⟩
def fkd (u : Int32) : Nat := if u = 4 then 7 else if u = 5 then 8 else 9
theorem fkd_fun {c : Cur} (he : c.1 = 4 ∨ c.1 = 5 ∨ c.1 = 6) (hw : c.1 = q_kow c.2.2.2.1) : m_fun c.2.2.2.1 = nI (fkd c.1) := by
  have h : ∀ w, q_kow w = 4 ∨ q_kow w = 5 ∨ q_kow w = 6 → m_fun w = nI (fkd (q_kow w)) := fun w hw => by
    revert hw
    unfold q_kow m_fun
    split
    · intro _; rfl
    · split
      · intro _; rfl
      · split
        · intro _; rfl
        · intro hw; exact absurd hw (by decide)
  have := h c.2.2.2.1 (by rw [← hw]; exact he)
  rw [← hw] at this
  exact this
theorem q_tok_kinds (B : Nat → Int32) (n p : Nat) (nm : Int64) (nu : Int32) : (q_tok B n p nm nu).1 = 0 ∨ (q_tok B n p nm nu).1 = 1 ∨ (q_tok B n p nm nu).1 = 3 ∨ (q_tok B n p nm nu).1 = q_kow (q_tok B n p nm nu).2.2.1 ∨ q_mark (q_tok B n p nm nu).1 = true := by
  unfold q_tok
  split
  · exact Or.inl rfl
  · split
    · by_cases h : (q_wloop B n p p 0).1 - p > 8
      · exact Or.inr (Or.inl (if_pos h))
      · exact Or.inr (Or.inr (Or.inr (Or.inl (if_neg h))))
    · split
      · by_cases h : (q_nloop B n p 0).1 - p > 9
        · exact Or.inr (Or.inl (if_pos h))
        · exact Or.inr (Or.inr (Or.inl (if_neg h)))
      · by_cases h : q_mark (q_at B n p) = true
        · refine Or.inr (Or.inr (Or.inr (Or.inr ?_)))
          show q_mark (if q_mark (q_at B n p) = true then q_at B n p else 1) = true
          rw [if_pos h]
          exact h
        · exact Or.inr (Or.inl (if_neg h))
/-- kinds that a token can have -/
def KoC (c : Cur) : Prop := c.1 = 0 ∨ c.1 = 1 ∨ c.1 = 3 ∨ c.1 = q_kow c.2.2.2.1 ∨ q_mark c.1 = true
theorem KoC.adv {B : Nat → Int32} {n : Nat} {c : Cur} : KoC (cu_adv B n c) := q_tok_kinds B n (q_skip B n c.2.2.1) c.2.2.2.1 c.2.2.2.2
theorem KoC.fn {c : Cur} (h : KoC c) (he : c.1 = 4 ∨ c.1 = 5 ∨ c.1 = 6) : c.1 = q_kow c.2.2.2.1 := by
  rcases h with h | h | h | h | h
  · exact absurd (h ▸ he) (by decide)
  · exact absurd (h ▸ he) (by decide)
  · exact absurd (h ▸ he) (by decide)
  · exact h
  · obtain ⟨e1, e2, e3, e4, e5, e6, e7, e8⟩ := q_mark_mkd h
    rcases he with q | q | q
    · exact absurd q e6
    · exact absurd q e7
    · exact absurd q e8
theorem KoC.neg {c : Cur} (h : KoC c) : c.1 ≠ -1 ∧ c.1 ≠ -2 ∧ c.1 ≠ -3 := by
  rcases h with h | h | h | h | h
  · rw [h]; decide
  · rw [h]; decide
  · rw [h]; decide
  · rw [h]
    unfold q_kow
    repeat' split
    all_goals decide
  · unfold q_mark at h
    rw [decide_eq_true_iff] at h
    rcases h with h | h | h | h | h | h | h | h <;> rw [h] <;> decide
theorem mkd_v {c : Int32} (h : c ≠ -1 ∧ c ≠ -2 ∧ c ≠ -3) : (mkd c = -2 ↔ c = 0) ∧ (mkd c = -1 ↔ c = 1) ∧ (mkd c = 1 ↔ c = 2) ∧ (mkd c = 0 ↔ c = 3) ∧ (mkd c = -3 ↔ c = 4 ∨ c = 5 ∨ c = 6) := by
  obtain ⟨a, b, d⟩ := h
  unfold mkd
  by_cases h0 : c = 0
  · subst h0; decide
  · by_cases h1 : c = 1
    · subst h1; decide
    · by_cases h2 : c = 2
      · subst h2; decide
      · by_cases h3 : c = 3
        · subst h3; decide
        · by_cases h4 : c = 4 ∨ c = 5 ∨ c = 6
          · rcases h4 with e | e | e <;> subst e <;> decide
          · rw [if_neg h0, if_neg h1, if_neg h2, if_neg h3, if_neg h4]
            exact ⟨⟨fun q => absurd q b, fun q => absurd q h0⟩, ⟨fun q => absurd q a, fun q => absurd q h1⟩, ⟨fun q => absurd q h1, fun q => absurd q h2⟩, ⟨fun q => absurd q h0, fun q => absurd q h3⟩, ⟨fun q => absurd q d, fun q => absurd q h4⟩⟩
/-- the cursor -/
def MC (s : MS) (c : Cur) : Prop := s.1 22 = nI c.2.2.1 ∧ s.1 23 = nI c.2.1 ∧ s.1 24 = mkd c.1 ∧ (c.1 = 3 → s.2.1 25 = c.2.2.2.2.toInt64) ∧ (c.1 = 2 ∨ c.1 = 4 ∨ c.1 = 5 ∨ c.1 = 6 → s.2.1 25 = c.2.2.2.1) ∧ KoC c
theorem MC.next {s : MS} {B : Nat → Int32} {n : Nat} {c : Cur} : MC (m_nx s B n c.2.2.1) (cu_adv B n c) := by
  obtain ⟨h1, h2, h3, h4⟩ := m_tok_q B n (q_skip B n c.2.2.1) (s.2.1 25) c.2.2.2.1 c.2.2.2.2
  exact ⟨congrArg nI h2, rfl, h1, h3, h4, KoC.adv⟩
/-- what the parser leaves as it was -/
def Fix (s s' : MS) : Prop := (∀ k, k ≠ 3 → k ≠ 4 → k < 22 ∨ 38 < k → s'.1 k = s.1 k) ∧ (∀ k, k ≠ 25 → s'.2.1 k = s.2.1 k) ∧ (∀ j, j < 17 ∨ 25 < j → s'.2.2.1 j = s.2.2.1 j ∧ s'.2.2.2.1 j = s.2.2.2.1 j) ∧ s'.2.2.2.2 = s.2.2.2.2
theorem Fix.rf {s : MS} : Fix s s := ⟨fun _ _ _ _ => rfl, fun _ _ => rfl, fun _ _ => ⟨rfl, rfl⟩, rfl⟩
theorem Fix.trans {s s1 s2 : MS} (a : Fix s s1) (b : Fix s1 s2) : Fix s s2 := ⟨fun k h1 h2 h3 => (b.1 k h1 h2 h3).trans (a.1 k h1 h2 h3), fun k h => (b.2.1 k h).trans (a.2.1 k h), fun j h => ⟨(b.2.2.1 j h).1.trans (a.2.2.1 j h).1, (b.2.2.1 j h).2.trans (a.2.2.1 j h).2⟩, b.2.2.2.trans a.2.2.2⟩
theorem Fix.mi {s0 s : MS} {k : Nat} {v : Int32} (h : Fix s0 s) (hk : k = 3 ∨ k = 4 ∨ (22 ≤ k ∧ k ≤ 38)) : Fix s0 (mi s k v) := ⟨fun j h1 h2 h3 => by
  show jm_up s.1 k v j = _
  unfold jm_up
  rw [if_neg (by omega)]
  exact h.1 j h1 h2 h3, h.2.1, h.2.2.1, h.2.2.2⟩
theorem Fix.ml {s0 s : MS} {v : Int64} (h : Fix s0 s) : Fix s0 (ml s 25 v) := ⟨h.1, fun j hj => by
  show jm_up s.2.1 25 v j = _
  unfold jm_up
  rw [if_neg hj]
  exact h.2.1 j hj, h.2.2.1, h.2.2.2⟩
theorem Fix.mai {s0 s : MS} {j i : Nat} {v : Int32} (h : Fix s0 s) (hj : 17 ≤ j ∧ j ≤ 25) : Fix s0 (mai s j i v) := ⟨h.1, h.2.1, fun q hq => ⟨by
  show jm_up s.2.2.1 j _ q = _
  unfold jm_up
  rw [if_neg (by omega)]
  exact (h.2.2.1 q hq).1, (h.2.2.1 q hq).2⟩, h.2.2.2⟩
theorem Fix.mal {s0 s : MS} {j i : Nat} {v : Int64} (h : Fix s0 s) (hj : 17 ≤ j ∧ j ≤ 25) : Fix s0 (mal s j i v) := ⟨h.1, h.2.1, fun q hq => ⟨(h.2.2.1 q hq).1, by
  show jm_up s.2.2.2.1 j _ q = _
  unfold jm_up
  rw [if_neg (by omega)]
  exact (h.2.2.1 q hq).2⟩, h.2.2.2⟩
theorem Fix.nx {s0 s : MS} {B : Nat → Int32} {n p : Nat} (h : Fix s0 s) : Fix s0 (m_nx s B n p) := ((h.ml.mi (by decide)).mi (by decide)).mi (by decide)
theorem Fix.fail {s0 s : MS} {c w : Int32} (h : Fix s0 s) : Fix s0 (m_fail s c w) := by
  unfold m_fail
  split
  · exact (h.mi (by decide)).mi (by decide)
  · exact h
theorem Fix.tape {s s' : MS} {B : Nat → Int32} {n : Nat} (h : Fix s s') (hT : MT s B n) : MT s' B n := ⟨(h.1 2 (by decide) (by decide) (by decide)).trans hT.1, hT.2.1, fun i hi => by rw [(h.2.2.1 1 (by decide)).1]; exact hT.2.2 i hi⟩
def Cmn (s : MS) (B : Nat → Int32) (n : Nat) (c : Cur) (k : Nat) (C : List Fr) : Prop := MT s B n ∧ MC s c ∧ c.2.2.1 ≤ n ∧ s.1 32 = nI k ∧ k ≤ 40 ∧ s.1 38 = nI (dpt C) ∧ dpt C ≤ 20 ∧ s.1 35 = nI C.length ∧ s.1 3 = 0
/-- a PART is wanted -/
def BSt (s : MS) (B : Nat → Int32) (n : Nat) (c : Cur) (k : Nat) (C : List Fr) : Prop := Cmn s B n c k C ∧ s.1 37 = nI (lfts C) ∧ Ctx s C k
/-- a part has been read: it stands for t -/
def ASt (s : MS) (B : Nat → Int32) (n : Nat) (c : Cur) (k : Nat) (C : List Fr) (t : Term) : Prop := Cmn s B n c k C ∧ s.1 37 = nI (lfts C + 1) ∧ ∃ i lo, s.2.2.1 25 (lfts C) = nI i ∧ RepS s t i lo k ∧ Ctx s C lo
def f_str (f : Fr) : Nat := if f.1 = 6 then 3 else if f.1 = 4 ∨ f.1 = 5 then 2 else if f.1 = 2 ∨ f.1 = 3 then 1 else 0
def f_mk (f : Fr) (t : Term) : Term := if f.1 = 6 then .length t else match f.2.2.2 with
  | [a] => if f.1 = 2 then .add a t else if f.1 = 3 then .sub a t else if f.1 = 4 then .mul a t else .div a t
  | _ => .null
def stl (q : Nat) : List Fr → Term → List Fr × Term
  | [], t => ([], t)
  | f :: C, t => if q ≤ f_str f then stl q C (f_mk f t) else (f :: C, t)
theorem stl_stl {q q' : Nat} (h : q' ≤ q) (C : List Fr) (t : Term) : stl q' (stl q C t).1 (stl q C t).2 = stl q' C t := by
  induction C generalizing t with
  | nil => rfl
  | cons f C ih =>
    show stl q' (if q ≤ f_str f then stl q C (f_mk f t) else (f :: C, t)).1 (if q ≤ f_str f then stl q C (f_mk f t) else (f :: C, t)).2 = if q' ≤ f_str f then stl q' C (f_mk f t) else (f :: C, t)
    by_cases h1 : q ≤ f_str f
    · rw [if_pos h1, ih, if_pos (by omega)]
    · rw [if_neg h1]
      rfl
section STEP
variable {s : MS} {B : Nat → Int32} {n : Nat} {c : Cur} {k : Nat} {C : List Fr} {f : Fr} {t : Term}
theorem NdEq.of {s s' : MS} {nd lo hi : Nat} (h : nd < lo ∨ hi ≤ nd) (e : ∀ j, j ≠ nd → s'.2.2.1 17 j = s.2.2.1 17 j ∧ s'.2.2.1 18 j = s.2.2.1 18 j ∧ s'.2.2.1 19 j = s.2.2.1 19 j ∧ s'.2.2.1 20 j = s.2.2.1 20 j ∧ s'.2.2.2.1 21 j = s.2.2.2.1 21 j ∧ s'.2.2.1 22 j = s.2.2.1 22 j) : NdEq s s' lo hi := fun j q1 q2 => e j (by omega)
theorem lfts_op (h : f_op f = true) : lfts (f :: C) = lfts C + 1 := by
  show (if f_op f = true then 1 else 0) + lfts C = _
  rw [if_pos h]; omega
theorem lfts_no (h : ¬ f_op f = true) : lfts (f :: C) = lfts C := by
  show (if f_op f = true then 1 else 0) + lfts C = _
  rw [if_neg h]; omega
theorem dpt_op (h : f_op f = true) : dpt (f :: C) = dpt C := by
  show (if f_op f = true then 0 else 1) + dpt C = _
  rw [if_pos h]; omega
theorem dpt_no (h : ¬ f_op f = true) : dpt (f :: C) = dpt C + 1 := by
  show (if f_op f = true then 0 else 1) + dpt C = _
  rw [if_neg h]; omega
theorem fop_iff : f_op f = true ↔ 2 ≤ f.1 ∧ f.1 ≤ 5 := decide_eq_true_iff
def m_sneg (s : MS) (f : Fr) (C : List Fr) : MS := mai (mi (mai (mi s 35 (nI C.length)) 18 f.2.1 (s.2.2.1 25 (lfts C))) 38 (nI (dpt C))) 25 (lfts C) (nI f.2.1)
def m_sbin (s : MS) (f : Fr) (C : List Fr) : MS := mai (mai (mi (mai (mi s 35 (nI C.length)) 19 f.2.1 (s.2.2.1 25 (lfts C + 1))) 37 (nI (lfts C + 1))) 18 f.2.1 (s.2.2.1 25 (lfts C))) 25 (lfts C) (nI f.2.1)
/-- a '-' that waited is settled -/
theorem ASt.neg (h : ASt s B n c k (f :: C) t) (hf : f.1 = 6) : ASt (m_sneg s f C) B n c k C (f_mk f t) := by
  obtain ⟨⟨hT, hM, hc, hk, hk40, hd, hd20, hw, hz⟩, hp, i, lo, hi, hR, hF, hX⟩ := h
  have hno : ¬ f_op f = true := by rw [fop_iff]; omega
  rw [dpt_no hno] at hd hd20
  rw [lfts_no hno] at hp hi
  have l := hR.lt
  have hmk : f_mk f t = .length t := by unfold f_mk; rw [if_pos hf]
  rw [hmk]
  rcases hF with ⟨a1, a1', -⟩ | ⟨a1, a2, a3, a4, a5⟩ | ⟨a1, -⟩ | ⟨a1, -⟩
  · omega
  · have nd : ∀ lo hi, (f.2.1 < lo ∨ hi ≤ f.2.1) → NdEq s (m_sneg s f C) lo hi := fun lo hi q => NdEq.of (nd := f.2.1) q fun j hj => by simp [m_sneg, mai, mi, jm_up, hj]
    refine ⟨⟨hT, hM, hc, hk, hk40, rfl, by omega, rfl, hz⟩, hp, f.2.1, f.2.1, by simp [m_sneg, mai, mi, jm_up], ⟨hR.1, rfl, a3, i, by simp [m_sneg, mai, mi, jm_up, hi], ?_⟩, ?_⟩
    · rw [← a4]
      exact (hR.same (nd lo k (by omega))).2
    · rw [← a5]
      exact hX.same (nd _ _ (by omega)) ⟨fun j hj => ⟨rfl, rfl⟩, fun j hj => by simp [m_sneg, mai, mi, jm_up, Nat.ne_of_lt hj]⟩
  · omega
  · omega
/-- a sign between two that waited is settled -/
theorem ASt.bin (h : ASt s B n c k (f :: C) t) (hf : f_op f = true) : ASt (m_sbin s f C) B n c k C (f_mk f t) := by
  obtain ⟨⟨hT, hM, hc, hk, hk40, hd, hd20, hw, hz⟩, hp, i, lo, hi, hR, hF, hX⟩ := h
  rw [dpt_op hf] at hd hd20
  rw [lfts_op hf] at hp hi
  have l := hR.lt
  have hf2 := fop_iff.mp hf
  rcases hF with ⟨a1, a2, a3, a4, a5, ta, ia, a6, a7, a8⟩ | ⟨a1, -⟩ | ⟨a1, -⟩ | ⟨a1, -⟩
  · have l2 := a8.lt
    have nd : ∀ lo hi, (f.2.1 < lo ∨ hi ≤ f.2.1) → NdEq s (m_sbin s f C) lo hi := fun lo hi q => NdEq.of (nd := f.2.1) q fun j hj => by simp [m_sbin, mai, mi, jm_up, hj]
    have r1 := hR.same (nd lo k (by omega))
    have r2 := a8.same (nd f.2.2.1 f.2.1 (by omega))
    have o1 : (m_sbin s f C).2.2.1 18 f.2.1 = nI ia := by simp [m_sbin, mai, mi, jm_up, a7]
    have o2 : (m_sbin s f C).2.2.1 19 f.2.1 = nI i := by simp [m_sbin, mai, mi, jm_up, hi]
    have o0 : (m_sbin s f C).2.2.1 17 f.2.1 = nI f.1 := a4
    rw [a5] at r1
    refine ⟨⟨hT, hM, hc, hk, hk40, hd, hd20, rfl, hz⟩, rfl, f.2.1, f.2.2.1, by simp [m_sbin, mai, mi, jm_up], ?_, hX.same (nd _ _ (by omega)) ⟨fun j hj => ⟨rfl, rfl⟩, fun j hj => by simp [m_sbin, mai, mi, jm_up, Nat.ne_of_lt hj]⟩⟩
    unfold f_mk
    rw [if_neg (by omega), a6]
    show RepS _ (if f.1 = 2 then .add ta t else if f.1 = 3 then .sub ta t else if f.1 = 4 then .mul ta t else .div ta t) _ _ _
    by_cases q2 : f.1 = 2
    · rw [if_pos q2]; rw [q2] at o0
      exact ⟨⟨r2.1, r1.1⟩, o0, ia, i, o1, o2, r2.2, r1.2⟩
    · rw [if_neg q2]
      by_cases q3 : f.1 = 3
      · rw [if_pos q3]; rw [q3] at o0
        exact ⟨⟨r2.1, r1.1⟩, o0, ia, i, o1, o2, r2.2, r1.2⟩
      · rw [if_neg q3]
        by_cases q4 : f.1 = 4
        · rw [if_pos q4]; rw [q4] at o0
          exact ⟨⟨r2.1, r1.1⟩, o0, ia, i, o1, o2, r2.2, r1.2⟩
        · rw [if_neg q4]
          rw [show f.1 = 5 by omega] at o0
          exact ⟨⟨r2.1, r1.1⟩, o0, ia, i, o1, o2, r2.2, r1.2⟩
  · omega
  · omega
  · omega
theorem m_sneg_fix {s0 : MS} (h : Fix s0 s) : Fix s0 (m_sneg s f C) := (((h.mi (by decide)).mai (by decide)).mi (by decide)).mai (by decide)
theorem m_sbin_fix {s0 : MS} (h : Fix s0 s) : Fix s0 (m_sbin s f C) := ((((h.mi (by decide)).mai (by decide)).mi (by decide)).mai (by decide)).mai (by decide)
end STEP
theorem cu_adv_le {B : Nat → Int32} {n : Nat} {c : Cur} (h : c.2.2.1 ≤ n) : (cu_adv B n c).2.2.1 ≤ n := (q_tok_le B n (q_skip B n c.2.2.1) c.2.2.2.1 c.2.2.2.2 (q_skip_le B n c.2.2.1 h).2).2
def m_node (s : MS) (k : Nat) (kd : Int32) (amt : Int64) : MS := mi (mai (mal (mai (mai (mai (mai s 17 k kd) 18 k (-1)) 19 k (-1)) 20 k (-1)) 21 k amt) 22 k (s.1 23)) 32 (nI (k + 1))
def m_await (s : MS) (w : Nat) (nd : Int32) : MS := mi (mai (mai s 23 w nd) 24 w 0) 35 (nI (w + 1))
def m_push (s : MS) (p : Nat) (v : Int32) : MS := mi (mai s 25 p v) 37 (nI (p + 1))
section STEP2
variable {s : MS} {B : Nat → Int32} {n : Nat} {c : Cur} {k : Nat} {C : List Fr} {f : Fr} {t : Term}
theorem Fix.node {s0 : MS} {kd : Int32} {amt : Int64} (h : Fix s0 s) : Fix s0 (m_node s k kd amt) := ((((((h.mai (by decide)).mai (by decide)).mai (by decide)).mai (by decide)).mal (by decide)).mai (by decide)).mi (by decide)
theorem Fix.await {s0 : MS} {w : Nat} {v : Int32} (h : Fix s0 s) : Fix s0 (m_await s w v) := ((h.mai (by decide)).mai (by decide)).mi (by decide)
theorem Fix.push {s0 : MS} {w : Nat} {v : Int32} (h : Fix s0 s) : Fix s0 (m_push s w v) := (h.mai (by decide)).mi (by decide)
/-- the states that a token more leaves -/
theorem Cmn.nx {s' : MS} {k' : Nat} {C' : List Fr} (h : MT s' B n) (hc : c.2.2.1 ≤ n) (hk : s'.1 32 = nI k') (hk40 : k' ≤ 40) (hd : s'.1 38 = nI (dpt C')) (hd20 : dpt C' ≤ 20) (hw : s'.1 35 = nI C'.length) (hz : s'.1 3 = 0) : Cmn (m_nx s' B n c.2.2.1) B n (cu_adv B n c) k' C' :=
  ⟨((MT.up (MT.up (MT.up (MT.upl h) (by decide)) (by decide)) (by decide))), MC.next, cu_adv_le hc, hk, hk40, hd, hd20, hw, hz⟩
theorem BSt.leaf (h : BSt s B n c k C) (hk : k < 40) (ht : (c.1 = 3 ∧ t = .long c.2.2.2.2.toInt64) ∨ (c.1 = 2 ∧ t = .elem (.long c.2.2.2.1) (.index c.2.1))) : ASt (m_nx (m_push (m_node s k (s.1 24) (s.2.1 25)) (lfts C) (nI k)) B n c.2.2.1) B n (cu_adv B n c) (k + 1) C t := by
  obtain ⟨⟨hT, hM, hc, hk', hk40, hd, hd20, hw, hz⟩, hp, hX⟩ := h
  obtain ⟨m1, m2, m3, m4, m5, -⟩ := hM
  refine ⟨Cmn.nx ⟨hT.1, hT.2.1, hT.2.2⟩ hc rfl (by omega) hd hd20 hw hz, rfl, k, k, by simp [m_nx, m_push, mai, mi, ml, jm_up], ?_, hX.same (fun j _ q2 => by simp [m_nx, m_push, m_node, mai, mal, mi, ml, jm_up, Nat.ne_of_lt q2]) ⟨fun j hj => ⟨rfl, rfl⟩, fun j hj => by simp [m_nx, m_push, m_node, mai, mal, mi, ml, jm_up, Nat.ne_of_lt hj]⟩⟩
  have q1 : (m_nx (m_push (m_node s k (s.1 24) (s.2.1 25)) (lfts C) (nI k)) B n c.2.2.1).2.2.1 17 k = s.1 24 := if_pos rfl
  have q2 : (m_nx (m_push (m_node s k (s.1 24) (s.2.1 25)) (lfts C) (nI k)) B n c.2.2.1).2.2.2.1 21 k = s.2.1 25 := if_pos rfl
  have q3 : (m_nx (m_push (m_node s k (s.1 24) (s.2.1 25)) (lfts C) (nI k)) B n c.2.2.1).2.2.1 22 k = s.1 23 := if_pos rfl
  rcases ht with ⟨e, rfl⟩ | ⟨e, rfl⟩
  · exact ⟨trivial, rfl, rfl, q1.trans (by rw [m3, e]; rfl), q2.trans (m4 e)⟩
  · exact ⟨trivial, rfl, rfl, q1.trans (by rw [m3, e]; rfl), q2.trans (m5 (Or.inl e)), q3.trans m2⟩
/-- a sign between two begins to wait -/
theorem ASt.await {kd : Nat} (h : ASt s B n c k C t) (hk : k < 40) (h2 : 2 ≤ kd) (h5 : kd ≤ 5) : ∃ lo, BSt (m_nx (m_await (m_node s k (nI kd) 0) C.length (nI k)) B n c.2.2.1) B n (cu_adv B n c) (k + 1) ((kd, k, lo, [t]) :: C) := by
  obtain ⟨⟨hT, hM, hc, hk', hk40, hd, hd20, hw, hz⟩, hp, i, lo, hi, hR, hX⟩ := h
  have hop : f_op (kd, k, lo, [t]) = true := fop_iff.mpr ⟨h2, h5⟩
  have l := hR.lt
  have nd : ∀ lo' hi', hi' ≤ k → NdEq s (m_nx (m_await (m_node s k (nI kd) 0) C.length (nI k)) B n c.2.2.1) lo' hi' := fun lo' hi' q j q1 q2 => by simp [m_nx, m_await, m_node, mai, mal, mi, ml, jm_up, show j ≠ k by omega]
  refine ⟨lo, Cmn.nx ⟨hT.1, hT.2.1, hT.2.2⟩ hc rfl (by omega) (by rw [dpt_op hop]; exact hd) (by rw [dpt_op hop]; exact hd20) rfl hz, by rw [lfts_op hop]; exact hp, Or.inl ⟨h2, h5, ?_, ?_, rfl, t, i, rfl, hi, hR.same (nd _ _ (Nat.le_refl _))⟩, hX.same (nd _ _ (by omega)) ⟨fun j hj => ?_, fun j hj => rfl⟩⟩
  · simp [m_nx, m_await, m_node, mai, mal, mi, ml, jm_up]
  · simp [m_nx, m_await, m_node, mai, mal, mi, ml, jm_up]
  · have : j ≠ C.length := Nat.ne_of_lt hj
    simp [m_nx, m_await, m_node, mai, mal, mi, ml, jm_up, this]
def m_deep (s : MS) (C : List Fr) : MS := mi s 38 (nI (dpt C + 1))
theorem BSt.neg (h : BSt s B n c k C) (hk : k < 40) (hd0 : dpt C < 20) : BSt (m_nx (m_await (m_deep (m_node s k 6 0) C) C.length (nI k)) B n c.2.2.1) B n (cu_adv B n c) (k + 1) ((6, k, k, []) :: C) := by
  obtain ⟨⟨hT, hM, hc, hk', hk40, hd, hd20, hw, hz⟩, hp, hX⟩ := h
  have hop : ¬ f_op (6, k, k, []) = true := by rw [fop_iff]; omega
  have nd : ∀ lo' hi', hi' ≤ k → NdEq s (m_nx (m_await (m_deep (m_node s k 6 0) C) C.length (nI k)) B n c.2.2.1) lo' hi' := fun lo' hi' q j q1 q2 => by simp [m_nx, m_await, m_deep, m_node, mai, mal, mi, ml, jm_up, show j ≠ k by omega]
  refine ⟨Cmn.nx ⟨hT.1, hT.2.1, hT.2.2⟩ hc rfl (by omega) (by rw [dpt_no hop]; rfl) (by rw [dpt_no hop]; omega) rfl hz, by rw [lfts_no hop]; exact hp, Or.inr (Or.inl ⟨rfl, ?_, ?_, rfl, rfl⟩), hX.same (nd _ _ (Nat.le_refl _)) ⟨fun j hj => ?_, fun j hj => rfl⟩⟩
  · simp [m_nx, m_await, m_deep, m_node, mai, mal, mi, ml, jm_up]
  · simp [m_nx, m_await, m_deep, m_node, mai, mal, mi, ml, jm_up]
  · have : j ≠ C.length := Nat.ne_of_lt hj
    simp [m_nx, m_await, m_deep, m_node, mai, mal, mi, ml, jm_up, this]
theorem BSt.par (h : BSt s B n c k C) (hd0 : dpt C < 20) : BSt (m_nx (m_await (m_deep s C) C.length (-1)) B n c.2.2.1) B n (cu_adv B n c) k ((100, 0, k, []) :: C) := by
  obtain ⟨⟨hT, hM, hc, hk', hk40, hd, hd20, hw, hz⟩, hp, hX⟩ := h
  have hop : ¬ f_op (100, 0, k, []) = true := by rw [fop_iff]; omega
  refine ⟨Cmn.nx ⟨hT.1, hT.2.1, hT.2.2⟩ hc hk' (by omega) (by rw [dpt_no hop]; rfl) (by rw [dpt_no hop]; omega) rfl hz, by rw [lfts_no hop]; exact hp, Or.inr (Or.inr (Or.inl ⟨rfl, ?_, rfl⟩)), hX.same (fun j q1 q2 => ⟨rfl, rfl, rfl, rfl, rfl, rfl⟩) ⟨fun j hj => ?_, fun j hj => rfl⟩⟩
  · simp [m_nx, m_await, m_deep, mai, mal, mi, ml, jm_up]
  · have : j ≠ C.length := Nat.ne_of_lt hj
    simp [m_nx, m_await, m_deep, mai, mal, mi, ml, jm_up, this]
def m_fun1 (s : MS) (B : Nat → Int32) (n k p : Nat) (fk : Int32) : MS := m_nx (m_node s k fk 0) B n p
theorem BSt.fn {fk : Nat} (h : BSt s B n c k C) (hk : k < 40) (hd0 : dpt C < 20) (h7 : 7 ≤ fk) (h9 : fk ≤ 9) : BSt (m_nx (m_await (m_deep (m_fun1 s B n k c.2.2.1 (nI fk)) C) C.length (nI k)) B n (cu_adv B n c).2.2.1) B n (cu_adv B n (cu_adv B n c)) (k + 1) ((fk, k, k, []) :: C) := by
  obtain ⟨⟨hT, hM, hc, hk', hk40, hd, hd20, hw, hz⟩, hp, hX⟩ := h
  have hop : ¬ f_op (fk, k, k, []) = true := by rw [fop_iff]; omega
  have hc2 : (cu_adv B n c).2.2.1 ≤ n := cu_adv_le hc
  have nd : ∀ lo' hi', hi' ≤ k → NdEq s (m_nx (m_await (m_deep (m_fun1 s B n k c.2.2.1 (nI fk)) C) C.length (nI k)) B n (cu_adv B n c).2.2.1) lo' hi' := fun lo' hi' q j q1 q2 => by simp [m_nx, m_fun1, m_await, m_deep, m_node, mai, mal, mi, ml, jm_up, show j ≠ k by omega]
  refine ⟨Cmn.nx ⟨hT.1, hT.2.1, hT.2.2⟩ hc2 rfl (by omega) (by rw [dpt_no hop]; rfl) (by rw [dpt_no hop]; omega) rfl hz, by rw [lfts_no hop]; exact hp, Or.inr (Or.inr (Or.inr ⟨h7, h9, ?_, ?_, rfl, ?_, rfl⟩)), hX.same (nd _ _ (Nat.le_refl _)) ⟨fun j hj => ?_, fun j hj => rfl⟩⟩
  · simp [m_nx, m_await, m_fun1, m_deep, m_node, mai, mal, mi, ml, jm_up]
  · simp [m_nx, m_await, m_fun1, m_deep, m_node, mai, mal, mi, ml, jm_up]
  · simp [m_nx, m_await, m_fun1, m_deep, m_node, mai, mal, mi, ml, jm_up]; rfl
  · have : j ≠ C.length := Nat.ne_of_lt hj
    simp [m_nx, m_await, m_fun1, m_deep, m_node, mai, mal, mi, ml, jm_up, this]
/-- an operand is given to a function -/
def m_give (s : MS) (f : Fr) (C : List Fr) : MS := mai (mi (mai s 24 C.length (nI (f.2.2.2.length + 1))) 37 (nI (lfts C))) (if f.2.2.2.length = 0 then 18 else if f.2.2.2.length = 1 then 19 else 20) f.2.1 (s.2.2.1 25 (lfts C))
theorem ASt.give (h : ASt s B n c k (f :: C) t) (hf : 7 ≤ f.1) (hf9 : f.1 ≤ 9) (hg : f.2.2.2.length < 2) : BSt (m_nx (m_give s f C) B n c.2.2.1) B n (cu_adv B n c) k ((f.1, f.2.1, f.2.2.1, t :: f.2.2.2) :: C) := by
  obtain ⟨⟨hT, hM, hc, hk', hk40, hd, hd20, hw, hz⟩, hp, i, lo, hi, hR, hF, hX⟩ := h
  have hno : ¬ f_op f = true := by rw [fop_iff]; omega
  have hno2 : ¬ f_op (f.1, f.2.1, f.2.2.1, t :: f.2.2.2) = true := by rw [fop_iff]; show ¬ (2 ≤ f.1 ∧ f.1 ≤ 5); omega
  rw [dpt_no hno] at hd hd20
  rw [lfts_no hno] at hp hi
  have l := hR.lt
  rcases hF with ⟨a1, a1', -⟩ | ⟨a1, -⟩ | ⟨a1, -⟩ | ⟨a1, a2, a3, a4, a5, a6, a7⟩
  · omega
  · omega
  · omega
  · have g := a7.ge
    obtain ⟨fk, fn, fl, ts⟩ := f
    simp only at hf hf9 hg a1 a2 a3 a4 a5 a6 a7 hX g hd hp hw
    subst a5
    have nd : ∀ lo' hi', (fl < lo' ∨ hi' ≤ fl) → NdEq s (m_nx (m_give s (fk, fl, fl, ts) C) B n c.2.2.1) lo' hi' := fun lo' hi' q => NdEq.of (nd := fl) q fun j hj => by
      match ts, hg with
      | [], _ => simp [m_nx, m_give, mai, mi, ml, jm_up, hj]
      | [a], _ => simp [m_nx, m_give, mai, mi, ml, jm_up, hj]
    have mt : MT (m_give s (fk, fl, fl, ts) C) B n := ⟨hT.1, hT.2.1, fun i hi => by
      match ts, hg with
      | [], _ => exact hT.2.2 i hi
      | [a], _ => exact hT.2.2 i hi⟩
    refine ⟨Cmn.nx mt hc hk' hk40 (by rw [dpt_no hno2]; exact hd) (by rw [dpt_no hno2]; exact hd20) hw hz, by rw [lfts_no hno2]; rfl, Or.inr (Or.inr (Or.inr ⟨hf, hf9, ?_, ?_, rfl, ?_, ?_⟩)), hX.same (nd _ _ (by omega)) ⟨fun j hj => ?_, fun j hj => ?_⟩⟩
    · match ts, hg with
      | [], _ => simpa [m_nx, m_give, mai, mi, ml, jm_up] using a3
      | [a], _ => simpa [m_nx, m_give, mai, mi, ml, jm_up] using a3
    · match ts, hg with
      | [], _ => simpa [m_nx, m_give, mai, mi, ml, jm_up] using a4
      | [a], _ => simpa [m_nx, m_give, mai, mi, ml, jm_up] using a4
    · match ts, hg with
      | [], _ => simp [m_nx, m_give, mai, mi, ml, jm_up]
      | [a], _ => simp [m_nx, m_give, mai, mi, ml, jm_up]
    · match ts, hg, a7, nd with
      | [], _, a7, nd =>
        have a7' : lo = fl + 1 := a7
        exact ⟨i, by simp [m_nx, m_give, mai, mi, ml, jm_up, hi], by rw [← a7']; exact hR.same (nd _ _ (by omega))⟩
      | [a], _, a7, nd =>
        obtain ⟨ja, b1, b2⟩ := a7
        have := b2.lt
        exact ⟨ja, i, lo, by simpa [m_nx, m_give, mai, mi, ml, jm_up] using b1, by simp [m_nx, m_give, mai, mi, ml, jm_up, hi], b2.same (nd _ _ (by omega)), hR.same (nd _ _ (by omega))⟩
    · match ts, hg with
      | [], _ => simp [m_nx, m_give, mai, mi, ml, jm_up, Nat.ne_of_lt hj]
      | [a], _ => simp [m_nx, m_give, mai, mi, ml, jm_up, Nat.ne_of_lt hj]
    · match ts, hg with
      | [], _ => simp [m_nx, m_give, mai, mi, ml, jm_up]
      | [a], _ => simp [m_nx, m_give, mai, mi, ml, jm_up]
/-- a bracket is closed -/
def m_close (s : MS) (C : List Fr) : MS := mi (mi s 35 (nI C.length)) 38 (nI (dpt C))
theorem ASt.par (h : ASt s B n c k (f :: C) t) (hf : f.1 = 100) : ASt (m_nx (m_close s C) B n c.2.2.1) B n (cu_adv B n c) k C t := by
  obtain ⟨⟨hT, hM, hc, hk', hk40, hd, hd20, hw, hz⟩, hp, i, lo, hi, hR, hF, hX⟩ := h
  have hno : ¬ f_op f = true := by rw [fop_iff]; omega
  rw [dpt_no hno] at hd hd20
  rw [lfts_no hno] at hp hi
  rcases hF with ⟨a1, a1', -⟩ | ⟨a1, -⟩ | ⟨a1, a2, a3⟩ | ⟨a1, a2, -⟩
  · omega
  · omega
  · subst a3
    exact ⟨Cmn.nx ⟨hT.1, hT.2.1, hT.2.2⟩ hc hk' hk40 rfl (by omega) rfl hz, hp, i, _, hi, hR.same (fun j q1 q2 => ⟨rfl, rfl, rfl, rfl, rfl, rfl⟩), hX.same (fun j q1 q2 => ⟨rfl, rfl, rfl, rfl, rfl, rfl⟩) ⟨fun j hj => ⟨rfl, rfl⟩, fun j hj => rfl⟩⟩
  · omega
def f_fn (f : Fr) (t : Term) : Term := match f.2.2.2 with
  | [a] => if f.1 = 7 then .rem a t else .op2 .iand a t
  | [b, a] => .old (.add a (.add b t))
  | _ => .null
def f_want (f : Fr) : Nat := if f.1 = 9 then 3 else 2
theorem ASt.fn (h : ASt s B n c k (f :: C) t) (hf : 7 ≤ f.1) (hf9 : f.1 ≤ 9) (hg : f.2.2.2.length + 1 = f_want f) : ASt (m_nx (m_close (m_push (m_give s f C) (lfts C) (nI f.2.1)) C) B n c.2.2.1) B n (cu_adv B n c) k C (f_fn f t) := by
  obtain ⟨⟨hT, hM, hc, hk', hk40, hd, hd20, hw, hz⟩, hp, i, lo, hi, hR, hF, hX⟩ := h
  have hno : ¬ f_op f = true := by rw [fop_iff]; omega
  rw [dpt_no hno] at hd hd20
  rw [lfts_no hno] at hp hi
  have l := hR.lt
  rcases hF with ⟨a1, a1', -⟩ | ⟨a1, -⟩ | ⟨a1, -⟩ | ⟨a1, a2, a3, a4, a5, a6, a7⟩
  · omega
  · omega
  · omega
  · have g := a7.ge
    obtain ⟨fk, fn, fl, ts⟩ := f
    simp only [f_want] at hf hf9 hg a1 a2 a3 a4 a5 a6 a7 hX g hd hp hw
    subst a5
    match ts, hg, a7 with
    | [a], hg, a7 =>
      obtain ⟨ja, b1, b2⟩ := a7
      have l2 := b2.lt
      have nd : ∀ lo' hi', (fl < lo' ∨ hi' ≤ fl) → NdEq s (m_nx (m_close (m_push (m_give s (fk, fl, fl, [a]) C) (lfts C) (nI fl)) C) B n c.2.2.1) lo' hi' := fun lo' hi' q => NdEq.of (nd := fl) q fun j hj => by simp [m_nx, m_close, m_push, m_give, mai, mi, ml, jm_up, hj]
      have hk9 : ¬ fk = 9 := fun e => by rw [if_pos e] at hg; exact absurd hg (show ¬ (1 + 1 = 3) by decide)
      refine ⟨Cmn.nx ⟨hT.1, hT.2.1, hT.2.2⟩ hc hk' hk40 rfl (by omega) rfl hz, rfl, fl, fl, by simp [m_nx, m_close, m_push, m_give, mai, mi, ml, jm_up], ?_, hX.same (nd _ _ (by omega)) ⟨fun j hj => ?_, fun j hj => ?_⟩⟩
      · show RepS _ (if fk = 7 then .rem a t else .op2 .iand a t) _ _ _
        have o1 : (m_nx (m_close (m_push (m_give s (fk, fl, fl, [a]) C) (lfts C) (nI fl)) C) B n c.2.2.1).2.2.1 18 fl = nI ja := by simpa [m_nx, m_close, m_push, m_give, mai, mi, ml, jm_up] using b1
        have o2 : (m_nx (m_close (m_push (m_give s (fk, fl, fl, [a]) C) (lfts C) (nI fl)) C) B n c.2.2.1).2.2.1 19 fl = nI i := by simp [m_nx, m_close, m_push, m_give, mai, mi, ml, jm_up, hi]
        have r1 := b2.same (nd _ _ (by omega))
        have r2 := hR.same (nd _ _ (by omega))
        by_cases q7 : fk = 7
        · rw [if_pos q7]
          exact ⟨⟨r1.1, r2.1⟩, rfl, by rw [q7] at a4; exact a4, ja, i, lo, o1, o2, r1.2, r2.2⟩
        · rw [if_neg q7]
          exact ⟨⟨r1.1, r2.1⟩, rfl, by rw [show fk = 8 by omega] at a4; exact a4, ja, i, lo, o1, o2, r1.2, r2.2⟩
      · simp [m_nx, m_close, m_push, m_give, mai, mi, ml, jm_up, Nat.ne_of_lt hj]
      · simp [m_nx, m_close, m_push, m_give, mai, mi, ml, jm_up, Nat.ne_of_lt hj]
    | [b, a], hg, a7 =>
      obtain ⟨ja, jb, m, b1, b2, b3, b4⟩ := a7
      have l2 := b3.lt
      have l3 := b4.lt
      have nd : ∀ lo' hi', (fl < lo' ∨ hi' ≤ fl) → NdEq s (m_nx (m_close (m_push (m_give s (fk, fl, fl, [b, a]) C) (lfts C) (nI fl)) C) B n c.2.2.1) lo' hi' := fun lo' hi' q => NdEq.of (nd := fl) q fun j hj => by simp [m_nx, m_close, m_push, m_give, mai, mi, ml, jm_up, hj]
      have hk9 : fk = 9 := Classical.byContradiction fun e => by rw [if_neg e] at hg; exact absurd hg (show ¬ (2 + 1 = 2) by decide)
      refine ⟨Cmn.nx ⟨hT.1, hT.2.1, hT.2.2⟩ hc hk' hk40 rfl (by omega) rfl hz, rfl, fl, fl, by simp [m_nx, m_close, m_push, m_give, mai, mi, ml, jm_up], ?_, hX.same (nd _ _ (by omega)) ⟨fun j hj => ?_, fun j hj => ?_⟩⟩
      · have o1 : (m_nx (m_close (m_push (m_give s (fk, fl, fl, [b, a]) C) (lfts C) (nI fl)) C) B n c.2.2.1).2.2.1 18 fl = nI ja := by simpa [m_nx, m_close, m_push, m_give, mai, mi, ml, jm_up] using b1
        have o2 : (m_nx (m_close (m_push (m_give s (fk, fl, fl, [b, a]) C) (lfts C) (nI fl)) C) B n c.2.2.1).2.2.1 19 fl = nI jb := by simpa [m_nx, m_close, m_push, m_give, mai, mi, ml, jm_up] using b2
        have o3 : (m_nx (m_close (m_push (m_give s (fk, fl, fl, [b, a]) C) (lfts C) (nI fl)) C) B n c.2.2.1).2.2.1 20 fl = nI i := by simp [m_nx, m_close, m_push, m_give, mai, mi, ml, jm_up, hi]
        have r1 := b3.same (nd _ _ (by omega))
        have r2 := b4.same (nd _ _ (by omega))
        have r3 := hR.same (nd _ _ (by omega))
        exact ⟨⟨r1.1, r2.1, r3.1⟩, rfl, by rw [hk9] at a4; exact a4, ja, jb, i, m, lo, o1, o2, o3, r1.2, r2.2, r3.2⟩
      · simp [m_nx, m_close, m_push, m_give, mai, mi, ml, jm_up, Nat.ne_of_lt hj]
      · simp [m_nx, m_close, m_push, m_give, mai, mi, ml, jm_up, Nat.ne_of_lt hj]
    | [], hg, _ => exfalso; revert hg; show ¬ (0 + 1 = if fk = 9 then 3 else 2); split <;> omega
    | _ :: _ :: _ :: _, _, a7 => exact a7.elim
end STEP2
