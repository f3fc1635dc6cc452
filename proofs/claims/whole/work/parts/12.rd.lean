/-! the pure parser: what a definition's formula is, or its first fault -/
/-- the token that was read: kind, where it begins, where it ends, name, number -/
abbrev Cur : Type := Int32 × Nat × Nat × Int64 × Int32
def cu_adv (B : Nat → Int32) (n : Nat) (c : Cur) : Cur := ((q_tok B n (q_skip B n c.2.2.1) c.2.2.2.1 c.2.2.2.2).1, q_skip B n c.2.2.1, (q_tok B n (q_skip B n c.2.2.1) c.2.2.2.1 c.2.2.2.2).2.1, (q_tok B n (q_skip B n c.2.2.1) c.2.2.2.1 c.2.2.2.2).2.2.1, (q_tok B n (q_skip B n c.2.2.1) c.2.2.2.1 c.2.2.2.2).2.2.2)
abbrev Flt : Type := Int32 × Nat
abbrev PR : Type := Flt ⊕ (Term × Cur × Nat)
def p_pass (B : Nat → Int32) (n : Nat) (c : Cur) : Flt ⊕ Cur := if (cu_adv B n c).1 = 1 then .inl (1, (cu_adv B n c).2.1) else .inr (cu_adv B n c)
def p_exp (B : Nat → Int32) (n : Nat) (K : Int32) (c : Cur) : Flt ⊕ Cur := if c.1 = K then p_pass B n c else .inl (2, c.2.1)
def p_node (B : Nat → Int32) (n : Nat) (c : Cur) (k : Nat) : Flt ⊕ Cur := if k < 40 then p_pass B n c else .inl (3, c.2.1)
def p_open (B : Nat → Int32) (n : Nat) (dp : Nat) (c : Cur) : Flt ⊕ Cur := if c.1 = 40 then (if dp < 20 then p_pass B n c else .inl (3, c.2.1)) else .inl (2, c.2.1)
/-- on with the token, or the fault -/
def sb (x : Flt ⊕ Cur) (res : PR) (K : Cur → Prop) : Prop := match x with
  | .inl e => res = .inl e
  | .inr c => K c
/-- on with what was read, or the fault -/
def pb (P : PR → Prop) (res : PR) (K : Term → Cur → Nat → Prop) : Prop := ∃ x, P x ∧ match x with
  | .inl e => res = .inl e
  | .inr y => K y.1 y.2.1 y.2.2
theorem sb_mono {x : Flt ⊕ Cur} {res : PR} {K K' : Cur → Prop} (h : ∀ c, K c → K' c) : sb x res K → sb x res K' := by
  unfold sb
  cases x with
  | inl e => exact id
  | inr c => exact h c
theorem pb_mono {P P' : PR → Prop} {res : PR} {K K' : Term → Cur → Nat → Prop} (hP : ∀ x, P x → P' x) (h : ∀ t c k, K t c k → K' t c k) : pb P res K → pb P' res K' := by
  rintro ⟨x, h1, h2⟩
  refine ⟨x, hP x h1, ?_⟩
  cases x with
  | inl e => exact h2
  | inr y => exact h _ _ _ h2
abbrev RdP : Type := Nat → Nat → Term → Cur → Nat → PR → Prop
/-- one step of the parser over P. Modes: 0 a SUM, 2 what follows in a SUM, 1 a PRODUCT, 3 what follows in a PRODUCT, 4 a PART -/
def Rd2 (B : Nat → Int32) (n : Nat) (P : RdP) (dp : Nat) (acc : Term) (c : Cur) (k : Nat) (res : PR) : Prop := sb (p_node B n c k) res fun c1 => pb (P 1 dp .null c1 (k + 1)) res fun t c2 k2 => P 2 dp (if c.1 = 43 then .add acc t else .sub acc t) c2 k2 res
def Rd3 (B : Nat → Int32) (n : Nat) (P : RdP) (dp : Nat) (acc : Term) (c : Cur) (k : Nat) (res : PR) : Prop := sb (p_node B n c k) res fun c1 => pb (P 4 dp .null c1 (k + 1)) res fun t c2 k2 => P 3 dp (if c.1 = 42 then .mul acc t else .div acc t) c2 k2 res
def Rdl (B : Nat → Int32) (n : Nat) (t : Term) (c : Cur) (k : Nat) (res : PR) : Prop := sb (p_node B n c k) res fun c1 => res = .inr (t, c1, k + 1)
def Rdn (B : Nat → Int32) (n : Nat) (P : RdP) (dp : Nat) (c : Cur) (k : Nat) (res : PR) : Prop := sb (p_node B n c k) res fun c1 => pb (P 4 (dp + 1) .null c1 (k + 1)) res fun t c2 k2 => res = .inr (.length t, c2, k2)
def Rdp (B : Nat → Int32) (n : Nat) (P : RdP) (dp : Nat) (c : Cur) (k : Nat) (res : PR) : Prop := sb (p_open B n dp c) res fun c1 => pb (P 0 (dp + 1) .null c1 k) res fun t c2 k2 => sb (p_exp B n 41 c2) res fun c3 => res = .inr (t, c3, k2)
def Rdm (B : Nat → Int32) (n : Nat) (P : RdP) (dp : Nat) (c : Cur) (k : Nat) (res : PR) : Prop := sb (p_node B n c k) res fun c1 => sb (p_open B n dp c1) res fun c2 => pb (P 0 (dp + 1) .null c2 (k + 1)) res fun t1 c3 k3 => sb (p_exp B n 44 c3) res fun c4 => pb (P 0 (dp + 1) .null c4 k3) res fun t2 c5 k5 => sb (p_exp B n 41 c5) res fun c6 => res = .inr (if c.1 = 4 then .rem t1 t2 else .op2 .iand t1 t2, c6, k5)
def Rdi (B : Nat → Int32) (n : Nat) (P : RdP) (dp : Nat) (c : Cur) (k : Nat) (res : PR) : Prop := sb (p_node B n c k) res fun c1 => sb (p_open B n dp c1) res fun c2 => pb (P 0 (dp + 1) .null c2 (k + 1)) res fun t1 c3 k3 => sb (p_exp B n 44 c3) res fun c4 => pb (P 0 (dp + 1) .null c4 k3) res fun t2 c5 k5 => sb (p_exp B n 44 c5) res fun c6 => pb (P 0 (dp + 1) .null c6 k5) res fun t3 c7 k7 => sb (p_exp B n 41 c7) res fun c8 => res = .inr (.old (.add t1 (.add t2 t3)), c8, k7)
def Rd4 (B : Nat → Int32) (n : Nat) (P : RdP) (dp : Nat) (c : Cur) (k : Nat) (res : PR) : Prop :=
  if c.1 = 3 then Rdl B n (.long c.2.2.2.2.toInt64) c k res
  else if c.1 = 2 then Rdl B n (.elem (.long c.2.2.2.1) (.index c.2.1)) c k res
  else if c.1 = 45 then (if dp < 20 then Rdn B n P dp c k res else res = .inl (3, c.2.1))
  else if c.1 = 40 then Rdp B n P dp c k res
  else if c.1 = 4 ∨ c.1 = 5 then Rdm B n P dp c k res
  else if c.1 = 6 then Rdi B n P dp c k res
  else res = .inl (2, c.2.1)
def RdF (B : Nat → Int32) (n : Nat) (P : RdP) : RdP := fun m dp acc c k res => match m with
  | 0 => pb (P 1 dp .null c k) res fun t c1 k1 => P 2 dp t c1 k1 res
  | 1 => pb (P 4 dp .null c k) res fun t c1 k1 => P 3 dp t c1 k1 res
  | 2 => if c.1 = 43 ∨ c.1 = 45 then Rd2 B n P dp acc c k res else res = .inr (acc, c, k)
  | 3 => if c.1 = 42 ∨ c.1 = 47 then Rd3 B n P dp acc c k res else res = .inr (acc, c, k)
  | _ => Rd4 B n P dp c k res
theorem Rd4_mono {B : Nat → Int32} {n : Nat} {P Q : RdP} (h : ∀ m dp acc c k res, P m dp acc c k res → Q m dp acc c k res) (dp : Nat) (c : Cur) (k : Nat) (res : PR) : Rd4 B n P dp c k res → Rd4 B n Q dp c k res := by
  unfold Rd4
  split
  · exact id
  · split
    · exact id
    · split
      · split
        · exact sb_mono fun c1 => pb_mono (h _ _ _ _ _) fun t c2 k2 => id
        · exact id
      · split
        · exact sb_mono fun c1 => pb_mono (h _ _ _ _ _) fun t c2 k2 => id
        · split
          · exact sb_mono fun c1 => sb_mono fun c2 => pb_mono (h _ _ _ _ _) fun t c3 k3 => sb_mono fun c4 => pb_mono (h _ _ _ _ _) fun t2 c5 k5 => id
          · split
            · exact sb_mono fun c1 => sb_mono fun c2 => pb_mono (h _ _ _ _ _) fun t c3 k3 => sb_mono fun c4 => pb_mono (h _ _ _ _ _) fun t2 c5 k5 => sb_mono fun c6 => pb_mono (h _ _ _ _ _) fun t3 c7 k7 => id
            · exact id
theorem RdF_mono {B : Nat → Int32} {n : Nat} {P Q : RdP} (h : ∀ m dp acc c k res, P m dp acc c k res → Q m dp acc c k res) : ∀ m dp acc c k res, RdF B n P m dp acc c k res → RdF B n Q m dp acc c k res := by
  intro m dp acc c k res
  match m with
  | 0 =>
    show (pb (P 1 dp .null c k) res fun t c1 k1 => P 2 dp t c1 k1 res) → (pb (Q 1 dp .null c k) res fun t c1 k1 => Q 2 dp t c1 k1 res)
    exact pb_mono (h _ _ _ _ _) fun t c1 k1 => h _ _ _ _ _ _
  | 1 =>
    show (pb (P 4 dp .null c k) res fun t c1 k1 => P 3 dp t c1 k1 res) → (pb (Q 4 dp .null c k) res fun t c1 k1 => Q 3 dp t c1 k1 res)
    exact pb_mono (h _ _ _ _ _) fun t c1 k1 => h _ _ _ _ _ _
  | 2 =>
    show (if c.1 = 43 ∨ c.1 = 45 then Rd2 B n P dp acc c k res else _) → (if c.1 = 43 ∨ c.1 = 45 then Rd2 B n Q dp acc c k res else _)
    split
    · exact sb_mono fun c1 => pb_mono (h _ _ _ _ _) fun t c2 k2 => h _ _ _ _ _ _
    · exact id
  | 3 =>
    show (if c.1 = 42 ∨ c.1 = 47 then Rd3 B n P dp acc c k res else _) → (if c.1 = 42 ∨ c.1 = 47 then Rd3 B n Q dp acc c k res else _)
    split
    · exact sb_mono fun c1 => pb_mono (h _ _ _ _ _) fun t c2 k2 => h _ _ _ _ _ _
    · exact id
  | m + 4 => exact Rd4_mono h dp c k res
/-- the least relation that the step keeps -/
def Rd (B : Nat → Int32) (n : Nat) : RdP := fun m dp acc c k res => ∀ P : RdP, (∀ m dp acc c k res, RdF B n P m dp acc c k res → P m dp acc c k res) → P m dp acc c k res
theorem Rd.intro {B : Nat → Int32} {n m dp : Nat} {acc : Term} {c : Cur} {k : Nat} {res : PR} (h : RdF B n (Rd B n) m dp acc c k res) : Rd B n m dp acc c k res := fun P hP => hP _ _ _ _ _ _ (RdF_mono (fun _ _ _ _ _ _ q => q P hP) _ _ _ _ _ _ h)
theorem Rd.induct {B : Nat → Int32} {n : Nat} (P : RdP) (hP : ∀ m dp acc c k res, RdF B n P m dp acc c k res → P m dp acc c k res) {m dp : Nat} {acc : Term} {c : Cur} {k : Nat} {res : PR} (h : Rd B n m dp acc c k res) : P m dp acc c k res := h P hP
theorem sb_l {x : Flt ⊕ Cur} {e : Flt} {K : Cur → Prop} (h : x = .inl e) : sb x (.inl e) K := by rw [h]; rfl
theorem sb_r {x : Flt ⊕ Cur} {res : PR} {c : Cur} {K : Cur → Prop} (h : x = .inr c) (k : K c) : sb x res K := by rw [h]; exact k
theorem pb_l {P : PR → Prop} {e : Flt} {K : Term → Cur → Nat → Prop} (h : P (.inl e)) : pb P (.inl e) K := ⟨_, h, rfl⟩
theorem pb_r {P : PR → Prop} {res : PR} {t : Term} {c : Cur} {k : Nat} {K : Term → Cur → Nat → Prop} (h : P (.inr (t, c, k))) (q : K t c k) : pb P res K := ⟨_, h, q⟩
/-- the steps from L to L' and the names from N to N' are the tree's -/
def Cdx (ST DT : Nat → Int32) (NA : Nat → Int64) (PL : Nat → Int32) : Term → Nat → Nat → Nat → Nat → Prop
  | .long v, L, N, L', N' => ST L = 3 ∧ (DT L).toInt64 = v ∧ L' = L + 1 ∧ N' = N
  | .elem (.long u) (.index p), L, N, L', N' => ST L = 2 ∧ DT L = nI N ∧ NA N = u ∧ PL N = nI p ∧ L' = L + 1 ∧ N' = N + 1
  | .length t, L, N, L', N' => ∃ L1, Cdx ST DT NA PL t L N L1 N' ∧ ST L1 = 7 ∧ L' = L1 + 1
  | .add a b, L, N, L', N' => ∃ L1 N1 L2, Cdx ST DT NA PL a L N L1 N1 ∧ Cdx ST DT NA PL b L1 N1 L2 N' ∧ ST L2 = 43 ∧ L' = L2 + 1
  | .sub a b, L, N, L', N' => ∃ L1 N1 L2, Cdx ST DT NA PL a L N L1 N1 ∧ Cdx ST DT NA PL b L1 N1 L2 N' ∧ ST L2 = 45 ∧ L' = L2 + 1
  | .mul a b, L, N, L', N' => ∃ L1 N1 L2, Cdx ST DT NA PL a L N L1 N1 ∧ Cdx ST DT NA PL b L1 N1 L2 N' ∧ ST L2 = 42 ∧ L' = L2 + 1
  | .div a b, L, N, L', N' => ∃ L1 N1 L2, Cdx ST DT NA PL a L N L1 N1 ∧ Cdx ST DT NA PL b L1 N1 L2 N' ∧ ST L2 = 47 ∧ L' = L2 + 1
  | .rem a b, L, N, L', N' => ∃ L1 N1 L2, Cdx ST DT NA PL a L N L1 N1 ∧ Cdx ST DT NA PL b L1 N1 L2 N' ∧ ST L2 = 4 ∧ L' = L2 + 1
  | .op2 _ a b, L, N, L', N' => ∃ L1 N1 L2, Cdx ST DT NA PL a L N L1 N1 ∧ Cdx ST DT NA PL b L1 N1 L2 N' ∧ ST L2 = 5 ∧ L' = L2 + 1
  | .old (.add a (.add b c)), L, N, L', N' => ∃ L1 N1 L2 N2, Cdx ST DT NA PL a L N L1 N1 ∧ ST L1 = 8 ∧ DT L1 = nI (L2 + 1) ∧ Cdx ST DT NA PL b (L1 + 1) N1 L2 N2 ∧ ST L2 = 9 ∧ DT L2 = nI L' ∧ Cdx ST DT NA PL c (L2 + 1) N2 L' N'
  | _, _, _, _, _ => False
/-- trees that stand for formulas -/
def Tree : Term → Prop
  | .long _ => True
  | .elem (.long _) (.index _) => True
  | .length t => Tree t
  | .add a b => Tree a ∧ Tree b
  | .sub a b => Tree a ∧ Tree b
  | .mul a b => Tree a ∧ Tree b
  | .div a b => Tree a ∧ Tree b
  | .rem a b => Tree a ∧ Tree b
  | .op2 _ a b => Tree a ∧ Tree b
  | .old (.add a (.add b c)) => Tree a ∧ Tree b ∧ Tree c
  | _ => False
theorem Tree.rec9 {P : Term → Prop} (h1 : ∀ v, P (.long v)) (h2 : ∀ u p, P (.elem (.long u) (.index p))) (h3 : ∀ t, Tree t → P t → P (.length t))
    (h4 : ∀ a b, Tree a → Tree b → P a → P b → P (.add a b)) (h5 : ∀ a b, Tree a → Tree b → P a → P b → P (.sub a b)) (h6 : ∀ a b, Tree a → Tree b → P a → P b → P (.mul a b)) (h7 : ∀ a b, Tree a → Tree b → P a → P b → P (.div a b))
    (h8 : ∀ a b, Tree a → Tree b → P a → P b → P (.rem a b)) (h9 : ∀ o a b, Tree a → Tree b → P a → P b → P (.op2 o a b)) (h10 : ∀ a b c, Tree a → Tree b → Tree c → P a → P b → P c → P (.old (.add a (.add b c)))) : ∀ t, Tree t → P t
  | .long v, _ => h1 v
  | .elem (.long u) (.index p), _ => h2 u p
  | .length t, h => h3 t h (Tree.rec9 h1 h2 h3 h4 h5 h6 h7 h8 h9 h10 t h)
  | .add a b, h => h4 a b h.1 h.2 (Tree.rec9 h1 h2 h3 h4 h5 h6 h7 h8 h9 h10 a h.1) (Tree.rec9 h1 h2 h3 h4 h5 h6 h7 h8 h9 h10 b h.2)
  | .sub a b, h => h5 a b h.1 h.2 (Tree.rec9 h1 h2 h3 h4 h5 h6 h7 h8 h9 h10 a h.1) (Tree.rec9 h1 h2 h3 h4 h5 h6 h7 h8 h9 h10 b h.2)
  | .mul a b, h => h6 a b h.1 h.2 (Tree.rec9 h1 h2 h3 h4 h5 h6 h7 h8 h9 h10 a h.1) (Tree.rec9 h1 h2 h3 h4 h5 h6 h7 h8 h9 h10 b h.2)
  | .div a b, h => h7 a b h.1 h.2 (Tree.rec9 h1 h2 h3 h4 h5 h6 h7 h8 h9 h10 a h.1) (Tree.rec9 h1 h2 h3 h4 h5 h6 h7 h8 h9 h10 b h.2)
  | .rem a b, h => h8 a b h.1 h.2 (Tree.rec9 h1 h2 h3 h4 h5 h6 h7 h8 h9 h10 a h.1) (Tree.rec9 h1 h2 h3 h4 h5 h6 h7 h8 h9 h10 b h.2)
  | .op2 o a b, h => h9 o a b h.1 h.2 (Tree.rec9 h1 h2 h3 h4 h5 h6 h7 h8 h9 h10 a h.1) (Tree.rec9 h1 h2 h3 h4 h5 h6 h7 h8 h9 h10 b h.2)
  | .old (.add a (.add b c)), h => h10 a b c h.1 h.2.1 h.2.2 (Tree.rec9 h1 h2 h3 h4 h5 h6 h7 h8 h9 h10 a h.1) (Tree.rec9 h1 h2 h3 h4 h5 h6 h7 h8 h9 h10 b h.2.1) (Tree.rec9 h1 h2 h3 h4 h5 h6 h7 h8 h9 h10 c h.2.2)
theorem Cdx.bin {ST DT : Nat → Int32} {NA : Nat → Int64} {PL : Nat → Int32} {a b : Term} {L N L' N' : Nat} {u : Int32}
    (ha : ∀ (L N L' N' : Nat), Cdx ST DT NA PL a L N L' N' → L < L' ∧ N ≤ N') (hb : ∀ (L N L' N' : Nat), Cdx ST DT NA PL b L N L' N' → L < L' ∧ N ≤ N')
    (h : ∃ L1 N1 L2, Cdx ST DT NA PL a L N L1 N1 ∧ Cdx ST DT NA PL b L1 N1 L2 N' ∧ ST L2 = u ∧ L' = L2 + 1) : L < L' ∧ N ≤ N' := by
  obtain ⟨L1, N1, L2, c1, c2, -, rfl⟩ := h
  have := ha _ _ _ _ c1
  have := hb _ _ _ _ c2
  omega
theorem Cdx.leE {ST DT : Nat → Int32} {NA : Nat → Int64} {PL : Nat → Int32} (t : Term) (ht : Tree t) : ∀ (L N L' N' : Nat), Cdx ST DT NA PL t L N L' N' → L < L' ∧ N ≤ N' := by
  refine Tree.rec9 (P := fun t => ∀ (L N L' N' : Nat), Cdx ST DT NA PL t L N L' N' → L < L' ∧ N ≤ N') ?_ ?_ ?_ ?_ ?_ ?_ ?_ ?_ ?_ ?_ t ht
  · intro v L N L' N' h
    obtain ⟨-, -, h1, h2⟩ := h
    omega
  · intro u p L N L' N' h
    obtain ⟨-, -, -, -, h1, h2⟩ := h
    omega
  · intro t _ ih L N L' N' h
    obtain ⟨L1, h1, -, rfl⟩ := h
    have := ih _ _ _ _ h1
    omega
  · intro a b _ _ ha hb L N L' N' h
    exact Cdx.bin ha hb h
  · intro a b _ _ ha hb L N L' N' h
    exact Cdx.bin ha hb h
  · intro a b _ _ ha hb L N L' N' h
    exact Cdx.bin ha hb h
  · intro a b _ _ ha hb L N L' N' h
    exact Cdx.bin ha hb h
  · intro a b _ _ ha hb L N L' N' h
    exact Cdx.bin ha hb h
  · intro o a b _ _ ha hb L N L' N' h
    exact Cdx.bin ha hb h
  · intro a b c _ _ _ ha hb hc L N L' N' h
    obtain ⟨L1, N1, L2, N2, c1, -, -, c2, -, -, c3⟩ := h
    have := ha _ _ _ _ c1
    have := hb _ _ _ _ c2
    have := hc _ _ _ _ c3
    omega
/-- the code of a tree hangs on its own stretch alone -/
theorem Cdx.sameE {ST DT ST2 DT2 : Nat → Int32} {NA NA2 : Nat → Int64} {PL PL2 : Nat → Int32} (t : Term) (ht : Tree t) : ∀ (L N L' N' : Nat), Cdx ST DT NA PL t L N L' N' → (∀ j, L ≤ j → j < L' → ST2 j = ST j ∧ DT2 j = DT j) → (∀ j, N ≤ j → j < N' → NA2 j = NA j ∧ PL2 j = PL j) → Cdx ST2 DT2 NA2 PL2 t L N L' N' := by
  have bin : ∀ (a b : Term) (u : Int32), Tree a → Tree b → (∀ (L N L' N' : Nat), Cdx ST DT NA PL a L N L' N' → (∀ j, L ≤ j → j < L' → ST2 j = ST j ∧ DT2 j = DT j) → (∀ j, N ≤ j → j < N' → NA2 j = NA j ∧ PL2 j = PL j) → Cdx ST2 DT2 NA2 PL2 a L N L' N') →
      (∀ (L N L' N' : Nat), Cdx ST DT NA PL b L N L' N' → (∀ j, L ≤ j → j < L' → ST2 j = ST j ∧ DT2 j = DT j) → (∀ j, N ≤ j → j < N' → NA2 j = NA j ∧ PL2 j = PL j) → Cdx ST2 DT2 NA2 PL2 b L N L' N') →
      ∀ (L N L' N' : Nat), (∃ L1 N1 L2, Cdx ST DT NA PL a L N L1 N1 ∧ Cdx ST DT NA PL b L1 N1 L2 N' ∧ ST L2 = u ∧ L' = L2 + 1) → (∀ j, L ≤ j → j < L' → ST2 j = ST j ∧ DT2 j = DT j) → (∀ j, N ≤ j → j < N' → NA2 j = NA j ∧ PL2 j = PL j) →
        ∃ L1 N1 L2, Cdx ST2 DT2 NA2 PL2 a L N L1 N1 ∧ Cdx ST2 DT2 NA2 PL2 b L1 N1 L2 N' ∧ ST2 L2 = u ∧ L' = L2 + 1 := by
    intro a b u ta tb ha hb L N L' N' h h1 h2
    obtain ⟨L1, N1, L2, c1, c2, c3, rfl⟩ := h
    have l1 := Cdx.leE a ta _ _ _ _ c1
    have l2 := Cdx.leE b tb _ _ _ _ c2
    exact ⟨L1, N1, L2, ha _ _ _ _ c1 (fun j q1 q2 => h1 j q1 (by omega)) (fun j q1 q2 => h2 j q1 (by omega)), hb _ _ _ _ c2 (fun j q1 q2 => h1 j (by omega) (by omega)) (fun j q1 q2 => h2 j (by omega) (by omega)), by rw [(h1 L2 (by omega) (by omega)).1]; exact c3, rfl⟩
  refine Tree.rec9 (P := fun t => ∀ (L N L' N' : Nat), Cdx ST DT NA PL t L N L' N' → (∀ j, L ≤ j → j < L' → ST2 j = ST j ∧ DT2 j = DT j) → (∀ j, N ≤ j → j < N' → NA2 j = NA j ∧ PL2 j = PL j) → Cdx ST2 DT2 NA2 PL2 t L N L' N') ?_ ?_ ?_ ?_ ?_ ?_ ?_ ?_ ?_ ?_ t ht
  · intro v L N L' N' h h1 h2
    obtain ⟨q1, q2, rfl, rfl⟩ := h
    have := h1 L (Nat.le_refl _) (by omega)
    exact ⟨by rw [this.1]; exact q1, by rw [this.2]; exact q2, rfl, rfl⟩
  · intro u p L N L' N' h h1 h2
    obtain ⟨q1, q2, q3, q4, rfl, rfl⟩ := h
    have a1 := h1 L (Nat.le_refl _) (by omega)
    have a2 := h2 N (Nat.le_refl _) (by omega)
    exact ⟨by rw [a1.1]; exact q1, by rw [a1.2]; exact q2, by rw [a2.1]; exact q3, by rw [a2.2]; exact q4, rfl, rfl⟩
  · intro t tt ih L N L' N' h h1 h2
    obtain ⟨L1, c1, c2, rfl⟩ := h
    have l1 := Cdx.leE t tt _ _ _ _ c1
    exact ⟨L1, ih _ _ _ _ c1 (fun j q1 q2 => h1 j q1 (by omega)) h2, by rw [(h1 L1 (by omega) (by omega)).1]; exact c2, rfl⟩
  · intro a b ta tb ha hb L N L' N' h h1 h2
    exact bin a b 43 ta tb ha hb L N L' N' h h1 h2
  · intro a b ta tb ha hb L N L' N' h h1 h2
    exact bin a b 45 ta tb ha hb L N L' N' h h1 h2
  · intro a b ta tb ha hb L N L' N' h h1 h2
    exact bin a b 42 ta tb ha hb L N L' N' h h1 h2
  · intro a b ta tb ha hb L N L' N' h h1 h2
    exact bin a b 47 ta tb ha hb L N L' N' h h1 h2
  · intro a b ta tb ha hb L N L' N' h h1 h2
    exact bin a b 4 ta tb ha hb L N L' N' h h1 h2
  · intro o a b ta tb ha hb L N L' N' h h1 h2
    exact bin a b 5 ta tb ha hb L N L' N' h h1 h2
  · intro a b c ta tb tc ha hb hc L N L' N' h h1 h2
    obtain ⟨L1, N1, L2, N2, c1, s1, d1, c2, s2, d2, c3⟩ := h
    have l1 := Cdx.leE a ta _ _ _ _ c1
    have l2 := Cdx.leE b tb _ _ _ _ c2
    have l3 := Cdx.leE c tc _ _ _ _ c3
    have e1 := h1 L1 (by omega) (by omega)
    have e2 := h1 L2 (by omega) (by omega)
    exact ⟨L1, N1, L2, N2, ha _ _ _ _ c1 (fun j q1 q2 => h1 j q1 (by omega)) (fun j q1 q2 => h2 j q1 (by omega)), by rw [e1.1]; exact s1, by rw [e1.2]; exact d1, hb _ _ _ _ c2 (fun j q1 q2 => h1 j (by omega) (by omega)) (fun j q1 q2 => h2 j (by omega) (by omega)), by rw [e2.1]; exact s2, by rw [e2.2]; exact d2, hc _ _ _ _ c3 (fun j q1 q2 => h1 j (by omega) q2) (fun j q1 q2 => h2 j (by omega) q2)⟩
theorem Cdx.le {ST DT : Nat → Int32} {NA : Nat → Int64} {PL : Nat → Int32} {t : Term} (ht : Tree t) {L N L' N' : Nat} (h : Cdx ST DT NA PL t L N L' N') : L < L' ∧ N ≤ N' := Cdx.leE t ht _ _ _ _ h
theorem Cdx.same {ST DT ST2 DT2 : Nat → Int32} {NA NA2 : Nat → Int64} {PL PL2 : Nat → Int32} {t : Term} (ht : Tree t) {L N L' N' : Nat} (h : Cdx ST DT NA PL t L N L' N') (h1 : ∀ j, L ≤ j → j < L' → ST2 j = ST j ∧ DT2 j = DT j) (h2 : ∀ j, N ≤ j → j < N' → NA2 j = NA j ∧ PL2 j = PL j) : Cdx ST2 DT2 NA2 PL2 t L N L' N' := Cdx.sameE t ht _ _ _ _ h h1 h2
