/-! names of a tree; a set of cells being built, at the reference -/
def nmIn : Term → Int64 → Prop
  | .elem (.long v) (.index _), u => v = u
  | .length t, u => nmIn t u
  | .add a b, u => nmIn a u ∨ nmIn b u
  | .sub a b, u => nmIn a u ∨ nmIn b u
  | .mul a b, u => nmIn a u ∨ nmIn b u
  | .div a b, u => nmIn a u ∨ nmIn b u
  | .rem a b, u => nmIn a u ∨ nmIn b u
  | .op2 _ a b, u => nmIn a u ∨ nmIn b u
  | .old (.add a (.add b c)), u => nmIn a u ∨ nmIn b u ∨ nmIn c u
  | _, _ => False
theorem rep_cup {P : Nat → Prop} {A B : Prop} {lo m hi : Nat} (h1 : lo ≤ m) (h2 : m ≤ hi) (ha : (∃ k, lo ≤ k ∧ k < m ∧ P k) ↔ A) (hb : (∃ k, m ≤ k ∧ k < hi ∧ P k) ↔ B) : (∃ k, lo ≤ k ∧ k < hi ∧ P k) ↔ A ∨ B := by
  rw [← ha, ← hb]
  constructor
  · rintro ⟨k, q1, q2, q3⟩
    by_cases e : k < m
    · exact Or.inl ⟨k, q1, e, q3⟩
    · exact Or.inr ⟨k, by omega, q2, q3⟩
  · rintro (⟨k, q1, q2, q3⟩ | ⟨k, q1, q2, q3⟩)
    · exact ⟨k, q1, by omega, q3⟩
    · exact ⟨k, by omega, q2, q3⟩
theorem rep_one {P : Nat → Prop} {A : Prop} {lo hi : Nat} (h1 : lo < hi) (h0 : ¬ P lo) (ha : (∃ k, lo + 1 ≤ k ∧ k < hi ∧ P k) ↔ A) : (∃ k, lo ≤ k ∧ k < hi ∧ P k) ↔ A := by
  rw [← ha]
  constructor
  · rintro ⟨k, q1, q2, q3⟩
    by_cases e : k = lo
    · subst e; exact absurd q3 h0
    · exact ⟨k, by omega, q2, q3⟩
  · rintro ⟨k, q1, q2, q3⟩
    exact ⟨k, by omega, q2, q3⟩
section RNM
variable {K O1 O2 O3 : Nat → Int32} {AM : Nat → Int64} {PL : Nat → Int32}
theorem Rep.nmE (t : Term) (ht : Tree t) : ∀ i lo hi, Rep K O1 O2 O3 AM PL t i lo hi → ∀ u, (∃ k, lo ≤ k ∧ k < hi ∧ (K k = 1 ∧ AM k = u)) ↔ nmIn t u := by
  have ne1 : ∀ {q : Nat} {v : Int32} {u : Int64}, K q = v → v ≠ 1 → ¬ (K q = 1 ∧ AM q = u) := fun h h1 h2 => h1 (h.symm.trans h2.1)
  have bin : ∀ (a b : Term) (v : Int32), v ≠ 1 → Tree a → Tree b → (∀ i lo hi, Rep K O1 O2 O3 AM PL a i lo hi → ∀ u, (∃ k, lo ≤ k ∧ k < hi ∧ (K k = 1 ∧ AM k = u)) ↔ nmIn a u) → (∀ i lo hi, Rep K O1 O2 O3 AM PL b i lo hi → ∀ u, (∃ k, lo ≤ k ∧ k < hi ∧ (K k = 1 ∧ AM k = u)) ↔ nmIn b u) → ∀ i lo hi, (K i = v ∧ ∃ ja jb, O1 i = nI ja ∧ O2 i = nI jb ∧ Rep K O1 O2 O3 AM PL a ja lo i ∧ Rep K O1 O2 O3 AM PL b jb (i + 1) hi) → ∀ u, (∃ k, lo ≤ k ∧ k < hi ∧ (K k = 1 ∧ AM k = u)) ↔ nmIn a u ∨ nmIn b u := by
    intro a b v hv ta tb ia ib i lo hi h u
    obtain ⟨h0, ja, jb, -, -, h3, h4⟩ := h
    have l1 := Rep.lt ta h3
    have l2 := Rep.lt tb h4
    exact rep_cup (by omega) (by omega) (ia _ _ _ h3 u) (rep_one (by omega) (ne1 h0 hv) (ib _ _ _ h4 u))
  have fn : ∀ (a b : Term) (v : Int32), v ≠ 1 → Tree a → Tree b → (∀ i lo hi, Rep K O1 O2 O3 AM PL a i lo hi → ∀ u, (∃ k, lo ≤ k ∧ k < hi ∧ (K k = 1 ∧ AM k = u)) ↔ nmIn a u) → (∀ i lo hi, Rep K O1 O2 O3 AM PL b i lo hi → ∀ u, (∃ k, lo ≤ k ∧ k < hi ∧ (K k = 1 ∧ AM k = u)) ↔ nmIn b u) → ∀ i lo hi, (i = lo ∧ K lo = v ∧ ∃ ja jb m, O1 lo = nI ja ∧ O2 lo = nI jb ∧ Rep K O1 O2 O3 AM PL a ja (lo + 1) m ∧ Rep K O1 O2 O3 AM PL b jb m hi) → ∀ u, (∃ k, lo ≤ k ∧ k < hi ∧ (K k = 1 ∧ AM k = u)) ↔ nmIn a u ∨ nmIn b u := by
    intro a b v hv ta tb ia ib i lo hi h u
    obtain ⟨-, h0, ja, jb, m, -, -, h3, h4⟩ := h
    have l1 := Rep.lt ta h3
    have l2 := Rep.lt tb h4
    exact rep_one (by omega) (ne1 h0 hv) (rep_cup (by omega) (by omega) (ia _ _ _ h3 u) (ib _ _ _ h4 u))
  refine Tree.rec9 (P := fun t => ∀ i lo hi, Rep K O1 O2 O3 AM PL t i lo hi → ∀ u, (∃ k, lo ≤ k ∧ k < hi ∧ (K k = 1 ∧ AM k = u)) ↔ nmIn t u) ?_ ?_ ?_ ?_ ?_ ?_ ?_ ?_ ?_ ?_ t ht
  · intro v i lo hi h u
    obtain ⟨h1, h2, h3, h4⟩ := h
    constructor
    · rintro ⟨k, q1, q2, q3, q4⟩
      have e : k = lo := by omega
      rw [e, h3] at q3
      exact absurd q3 (by decide)
    · intro q; exact q.elim
  · intro v p i lo hi h u
    obtain ⟨h1, h2, h3, h4, h5⟩ := h
    constructor
    · rintro ⟨k, q1, q2, q3, q4⟩
      have e : k = lo := by omega
      rw [e, h4] at q4
      exact q4
    · intro q
      exact ⟨lo, Nat.le_refl _, by omega, h3, h4.trans q⟩
  · intro t tt ih i lo hi h u
    obtain ⟨h1, h2, j, h3, h4⟩ := h
    have l1 := Rep.lt tt h4
    exact rep_one (by omega) (ne1 h2 (by decide)) (ih _ _ _ h4 u)
  · intro a b ta tb ia ib i lo hi h u; exact bin a b 2 (by decide) ta tb ia ib i lo hi h u
  · intro a b ta tb ia ib i lo hi h u; exact bin a b 3 (by decide) ta tb ia ib i lo hi h u
  · intro a b ta tb ia ib i lo hi h u; exact bin a b 4 (by decide) ta tb ia ib i lo hi h u
  · intro a b ta tb ia ib i lo hi h u; exact bin a b 5 (by decide) ta tb ia ib i lo hi h u
  · intro a b ta tb ia ib i lo hi h u; exact fn a b 7 (by decide) ta tb ia ib i lo hi h u
  · intro o a b ta tb ia ib i lo hi h u; exact fn a b 8 (by decide) ta tb ia ib i lo hi h u
  · intro a b c ta tb tc ia ib ic i lo hi h u
    obtain ⟨-, h0, ja, jb, jc, m1, m2, -, -, -, h4, h5, h6⟩ := h
    have l1 := Rep.lt ta h4
    have l2 := Rep.lt tb h5
    have l3 := Rep.lt tc h6
    exact rep_one (by omega) (ne1 h0 (by decide)) (rep_cup (by omega) (by omega) (ia _ _ _ h4 u) (rep_cup (by omega) (by omega) (ib _ _ _ h5 u) (ic _ _ _ h6 u)))
end RNM
theorem Cdx.nmE {ST DT : Nat → Int32} {NA : Nat → Int64} {PL : Nat → Int32} (t : Term) (ht : Tree t) : ∀ L N L' N', Cdx ST DT NA PL t L N L' N' → ∀ u, (∃ k, N ≤ k ∧ k < N' ∧ NA k = u) ↔ nmIn t u := by
  have bin : ∀ (a b : Term) (v : Int32), Tree a → Tree b → (∀ L N L' N', Cdx ST DT NA PL a L N L' N' → ∀ u, (∃ k, N ≤ k ∧ k < N' ∧ NA k = u) ↔ nmIn a u) → (∀ L N L' N', Cdx ST DT NA PL b L N L' N' → ∀ u, (∃ k, N ≤ k ∧ k < N' ∧ NA k = u) ↔ nmIn b u) → ∀ L N L' N', (∃ L1 N1 L2, Cdx ST DT NA PL a L N L1 N1 ∧ Cdx ST DT NA PL b L1 N1 L2 N' ∧ ST L2 = v ∧ L' = L2 + 1) → ∀ u, (∃ k, N ≤ k ∧ k < N' ∧ NA k = u) ↔ nmIn a u ∨ nmIn b u := by
    intro a b v ta tb ia ib L N L' N' h u
    obtain ⟨L1, N1, L2, h3, h4, -, -⟩ := h
    have l1 := Cdx.le ta h3
    have l2 := Cdx.le tb h4
    exact rep_cup (by omega) (by omega) (ia _ _ _ _ h3 u) (ib _ _ _ _ h4 u)
  refine Tree.rec9 (P := fun t => ∀ L N L' N', Cdx ST DT NA PL t L N L' N' → ∀ u, (∃ k, N ≤ k ∧ k < N' ∧ NA k = u) ↔ nmIn t u) ?_ ?_ ?_ ?_ ?_ ?_ ?_ ?_ ?_ ?_ t ht
  · intro v L N L' N' h u
    obtain ⟨-, -, -, h4⟩ := h
    constructor
    · rintro ⟨k, q1, q2, q3⟩; omega
    · intro q; exact q.elim
  · intro v p L N L' N' h u
    obtain ⟨-, -, h3, -, -, h6⟩ := h
    constructor
    · rintro ⟨k, q1, q2, q3⟩
      have e : k = N := by omega
      rw [e, h3] at q3
      exact q3
    · intro q
      exact ⟨N, Nat.le_refl _, by omega, h3.trans q⟩
  · intro t tt ih L N L' N' h u
    obtain ⟨L1, h1, -, -⟩ := h
    exact ih _ _ _ _ h1 u
  · intro a b ta tb ia ib L N L' N' h u; exact bin a b 43 ta tb ia ib L N L' N' h u
  · intro a b ta tb ia ib L N L' N' h u; exact bin a b 45 ta tb ia ib L N L' N' h u
  · intro a b ta tb ia ib L N L' N' h u; exact bin a b 42 ta tb ia ib L N L' N' h u
  · intro a b ta tb ia ib L N L' N' h u; exact bin a b 47 ta tb ia ib L N L' N' h u
  · intro a b ta tb ia ib L N L' N' h u; exact bin a b 4 ta tb ia ib L N L' N' h u
  · intro o a b ta tb ia ib L N L' N' h u; exact bin a b 5 ta tb ia ib L N L' N' h u
  · intro a b c ta tb tc ia ib ic L N L' N' h u
    obtain ⟨L1, N1, L2, N2, h1, -, -, h2, -, -, h3⟩ := h
    have l1 := Cdx.le ta h1
    have l2 := Cdx.le tb h2
    have l3 := Cdx.le tc h3
    exact rep_cup (by omega) (by omega) (ia _ _ _ _ h1 u) (rep_cup (by omega) (by omega) (ib _ _ _ _ h2 u) (ic _ _ _ _ h3 u))
theorem ev2_cg {p q p' q' : Int32 × Int64} {f : Int64 → Int64 → Int32 × Int64} (h1 : p' = p) (h2 : q' = q) : ev2 p' q' f = ev2 p q f := by rw [h1, h2]
/-- what a tree gives hangs on its names' results alone -/
theorem ev_nm {ρ ρ' : Int64 → Int32 × Int64} (t : Term) (ht : Tree t) : (∀ u, nmIn t u → ρ' u = ρ u) → ev ρ' t = ev ρ t := by
  refine Tree.rec9 (P := fun t => (∀ u, nmIn t u → ρ' u = ρ u) → ev ρ' t = ev ρ t) ?_ ?_ ?_ ?_ ?_ ?_ ?_ ?_ ?_ ?_ t ht
  · intro v _; rfl
  · intro v p h
    show (if (ρ' v).1 = 1 then ((1 : Int32), (ρ' v).2) else (3, 0)) = (if (ρ v).1 = 1 then (1, (ρ v).2) else (3, 0))
    rw [h v rfl]
  · intro t _ ih h
    show (if (ev ρ' t).1 = 1 then ((1 : Int32), -(ev ρ' t).2) else ev ρ' t) = (if (ev ρ t).1 = 1 then (1, -(ev ρ t).2) else ev ρ t)
    rw [ih h]
  · intro a b _ _ ia ib h; exact ev2_cg (ia fun u q => h u (Or.inl q)) (ib fun u q => h u (Or.inr q))
  · intro a b _ _ ia ib h; exact ev2_cg (ia fun u q => h u (Or.inl q)) (ib fun u q => h u (Or.inr q))
  · intro a b _ _ ia ib h; exact ev2_cg (ia fun u q => h u (Or.inl q)) (ib fun u q => h u (Or.inr q))
  · intro a b _ _ ia ib h; exact ev2_cg (ia fun u q => h u (Or.inl q)) (ib fun u q => h u (Or.inr q))
  · intro a b _ _ ia ib h; exact ev2_cg (ia fun u q => h u (Or.inl q)) (ib fun u q => h u (Or.inr q))
  · intro o a b _ _ ia ib h; exact ev2_cg (ia fun u q => h u (Or.inl q)) (ib fun u q => h u (Or.inr q))
  · intro a b c _ _ _ ia ib ic h
    show (if (ev ρ' a).1 = 1 then (if 0 < (ev ρ' a).2 then ev ρ' b else ev ρ' c) else ev ρ' a) = (if (ev ρ a).1 = 1 then (if 0 < (ev ρ a).2 then ev ρ b else ev ρ c) else ev ρ a)
    rw [ia fun u q => h u (Or.inl q), ib fun u q => h u (Or.inr (Or.inl q)), ic fun u q => h u (Or.inr (Or.inr q))]
/-- the reference's cell c holds this tree -/
def TcM (z : MS) (N : Nat → Nat) (c : Nat) (t : Term) : Prop := Tree t ∧ ∃ i PL, z.2.2.1 7 c = nI i ∧ RepC z c PL t i 0 (N c)
theorem TcM.rd {z : MS} {N : Nat → Nat} {c : Nat} {t : Term} (h : TcM z N c t) (u : Int64) : m_rd z N c u = true ↔ nmIn t u := by
  obtain ⟨ht, i, PL, -, hR⟩ := h
  rw [← Rep.nmE t ht _ _ _ hR u]
  unfold m_rd
  rw [anyN_iff]
  constructor
  · rintro ⟨k, hk, q⟩
    unfold mrf at q
    rw [Bool.and_eq_true, decide_eq_true_iff, decide_eq_true_iff] at q
    exact ⟨k, Nat.zero_le _, hk, q⟩
  · rintro ⟨k, -, hk, q⟩
    refine ⟨k, hk, ?_⟩
    unfold mrf
    rw [Bool.and_eq_true, decide_eq_true_iff, decide_eq_true_iff]
    exact q
/-- what stays while cells are built -/
def StM (z s : MS) : Prop := (∀ k, k ≠ 19 → k ≠ 21 → k ≠ 39 → k ≠ 43 → s.1 k = z.1 k) ∧ (∀ k, k ≠ 44 → s.2.1 k = z.2.1 k) ∧ (∀ j, j ≠ 4 → j ≠ 14 → j ≠ 26 → j ≠ 27 → s.2.2.1 j = z.2.2.1 j) ∧ (∀ j, j ≠ 5 → j ≠ 15 → j ≠ 16 → j ≠ 28 → s.2.2.2.1 j = z.2.2.2.1 j) ∧ ∀ j, j ≠ 6 → s.2.2.2.2 j = z.2.2.2.2 j
theorem StM.tM {z s : MS} (h : StM z s) : tM s = tM z := h.2.2.2.2 2 (by decide)
theorem StM.nM {z s : MS} (h : StM z s) : nM s = nM z := h.2.2.2.1 3 (by decide) (by decide) (by decide) (by decide)
theorem StM.rd {z s : MS} {N : Nat → Nat} (h : StM z s) (c : Nat) (u : Int64) : m_rd s N c u = m_rd z N c u := by
  unfold m_rd
  congr 1
  funext k
  unfold mrf
  rw [h.2.2.1 9 (by decide) (by decide) (by decide) (by decide), h.2.2.2.1 13 (by decide) (by decide) (by decide) (by decide)]
theorem StM.nc {z s : MS} {N : Nat → Nat} (h : StM z s) (hN : NcOK z N) : NcOK s N := fun c hc => by rw [h.2.2.1 8 (by decide) (by decide) (by decide) (by decide)]; exact hN c hc
theorem StM.tc {z s : MS} {N : Nat → Nat} {c : Nat} {t : Term} (h : StM z s) (hT : TcM z N c t) : TcM s N c t := by
  obtain ⟨ht, i, PL, h7, hR⟩ := hT
  refine ⟨ht, i, PL, by rw [h.2.2.1 7 (by decide) (by decide) (by decide) (by decide)]; exact h7, ?_⟩
  unfold RepC
  rw [h.2.2.1 9 (by decide) (by decide) (by decide) (by decide), h.2.2.1 10 (by decide) (by decide) (by decide) (by decide), h.2.2.1 11 (by decide) (by decide) (by decide) (by decide), h.2.2.1 12 (by decide) (by decide) (by decide) (by decide), h.2.2.2.1 13 (by decide) (by decide) (by decide) (by decide)]
  exact hR
/-- the record of cell c is as it was -/
def RcEq (z s : MS) (N : Nat → Nat) (c : Nat) : Prop := s.2.2.1 4 c = z.2.2.1 4 c ∧ s.2.2.2.1 5 c = z.2.2.2.1 5 c ∧ s.2.2.2.2 6 c = z.2.2.2.2 6 c ∧ ∀ k, k < N c → s.2.2.1 14 (40 * c + k) = z.2.2.1 14 (40 * c + k) ∧ s.2.2.2.1 15 (40 * c + k) = z.2.2.2.1 15 (40 * c + k)
def mvf (z : MS) (ρ : Int64 → Int32 × Int64) (c k : Nat) : Bool := decide (z.2.2.1 9 (40 * c + k) = 1) && decide ((z.2.2.1 14 (40 * c + k), z.2.2.2.1 15 (40 * c + k)) ≠ ρ (z.2.2.2.1 13 (40 * c + k)))
def m_stl (z : MS) (N : Nat → Nat) (ρ : Int64 → Int32 × Int64) (c : Nat) : Bool := !z.2.2.2.2 6 c || anyN (mvf z ρ c) (N c)
theorem m_stl_cg {z : MS} {N : Nat → Nat} {ρ ρ' : Int64 → Int32 × Int64} {c : Nat} (h : ∀ u, m_rd z N c u = true → ρ' u = ρ u) : m_stl z N ρ' c = m_stl z N ρ c := by
  unfold m_stl
  rw [anyN_congr (g := mvf z ρ c) fun k hk => ?_]
  unfold mvf
  by_cases e : z.2.2.1 9 (40 * c + k) = 1
  · rw [h _ (anyN_iff.mpr ⟨k, hk, by unfold mrf; rw [decide_eq_true e, decide_eq_true rfl]; rfl⟩)]
  · rw [decide_eq_false e]; rfl
theorem m_stale_eq {z s : MS} {N : Nat → Nat} {c : Nat} (hS : StM z s) (hE : RcEq z s N c) : m_stale s N c = m_stl z N (m_res s) c := by
  unfold m_stale m_stl
  rw [hE.2.2.1, anyN_congr (g := mvf z (m_res s) c) fun k hk => ?_]
  unfold msf mvf
  rw [hS.2.2.1 9 (by decide) (by decide) (by decide) (by decide), hS.2.2.2.1 13 (by decide) (by decide) (by decide) (by decide), (hE.2.2.2 k hk).1, (hE.2.2.2 k hk).2]
def SrtB (F : Nat → Int64) (n : Nat) : Prop := ∀ i j, i < j → j < n → F i < F j
/-- the names of wo, in their order -/
def NmB (F : Nat → Int64) (n : Nat) (nm : Nat → Int64) (wo : Int64) : Prop := SrtB F n ∧ (∀ i, i < n → ∃ c, c < 64 ∧ bt wo c = true ∧ F i = nm c) ∧ ∀ c, c < 64 → bt wo c = true → ∃ i, i < n ∧ F i = nm c
theorem NmB.ins {F F' : Nat → Int64} {n : Nat} {nm : Nat → Int64} {wo : Int64} {c : Nat} (h : NmB F n nm wo) (hI : InsO F F' n (nm c)) (hc : c < 64) (hd : ∀ j, j < 64 → bt wo j = true → nm j ≠ nm c) : NmB F' (n + 1) nm (wo ||| bt1 c) := by
  obtain ⟨h1, h2, h3⟩ := h
  obtain ⟨k, hk, i1, i2, i3, i4, i5⟩ := hI
  have lo : ∀ i, i < k → F i < nm c := fun i hi => by
    have hne : F (k - 1) ≠ nm c := fun e => by
      obtain ⟨j, q1, q2, q3⟩ := h2 (k - 1) (by omega)
      exact hd j q1 q2 (q3.symm.trans e)
    have hle : F (k - 1) ≤ nm c := by
      rcases i5 with e | e
      · omega
      · exact e
    have hlt : F (k - 1) < nm c := Int64.not_le.mp fun q => hne (Int64.le_antisymm hle q)
    by_cases e : i = k - 1
    · rw [e]; exact hlt
    · exact Int64.lt_trans (h1 i (k - 1) (by omega) (by omega)) hlt
  refine ⟨fun i j hij hj => ?_, fun i hi => ?_, fun j hj hb => ?_⟩
  · by_cases a1 : j < k
    · rw [i1 i (by omega), i1 j a1]
      exact h1 i j hij (by omega)
    · by_cases a2 : j = k
      · rw [a2, i2, i1 i (by omega)]
        exact lo i (by omega)
      · rw [i3 j (by omega) (by omega)]
        by_cases a3 : i < k
        · rw [i1 i a3]
          exact h1 i (j - 1) (by omega) (by omega)
        · by_cases a4 : i = k
          · rw [a4, i2]
            exact i4 (j - 1) (by omega) (by omega)
          · rw [i3 i (by omega) (by omega)]
            exact h1 (i - 1) (j - 1) (by omega) (by omega)
  · by_cases a2 : i = k
    · exact ⟨c, hc, by rw [bt_ins hc hc]; simp, by rw [a2, i2]⟩
    · have hx : ∃ i', i' < n ∧ F' i = F i' := by
        by_cases a1 : i < k
        · exact ⟨i, by omega, i1 i a1⟩
        · exact ⟨i - 1, by omega, i3 i (by omega) (by omega)⟩
      obtain ⟨i', g1, g2⟩ := hx
      obtain ⟨j, q1, q2, q3⟩ := h2 i' g1
      exact ⟨j, q1, by rw [bt_ins hc q1, q2]; rfl, by rw [g2, q3]⟩
  · rw [bt_ins hc hj, Bool.or_eq_true, decide_eq_true_iff] at hb
    rcases hb with hb | hb
    · obtain ⟨i, g1, g2⟩ := h3 j hj hb
      by_cases a1 : i < k
      · exact ⟨i, by omega, by rw [i1 i a1, g2]⟩
      · exact ⟨i + 1, by omega, by rw [i3 (i + 1) (by omega) (by omega), Nat.add_sub_cancel, g2]⟩
    · exact ⟨k, by omega, by rw [i2, hb]⟩
/-- while the cells of set are built: open are left, wo were worked out -/
def BIM (z s : MS) (N : Nat → Nat) (Tm : Nat → Term) (set opn wo : Int64) : Prop :=
  StM z s ∧ (∀ c, c < 64 → bt opn c = true → bt set c = true) ∧ (∀ c, c < 64 → bt wo c = true → bt set c = true ∧ bt opn c = false) ∧
  (∀ c, c < 64 → bt set c = true → bt opn c = false → ∀ j, j < 64 → bt opn j = true → m_rd z N c (nM z j) = false) ∧ (∀ c, c < 64 → bt wo c = false → RcEq z s N c) ∧
  (∀ c, c < 64 → bt set c = true → bt opn c = false → bt wo c = false → m_stl z N (m_res s) c = false) ∧
  (∀ c, c < 64 → bt wo c = true → m_stl z N (m_res s) c = true ∧ (s.2.2.1 4 c, s.2.2.2.1 5 c) = ev (m_res s) (Tm c) ∧ s.2.2.2.2 6 c = true ∧ ∀ k, k < N c → z.2.2.1 9 (40 * c + k) = 1 → (s.2.2.1 14 (40 * c + k), s.2.2.2.1 15 (40 * c + k)) = m_res s (z.2.2.2.1 13 (40 * c + k))) ∧
  s.1 19 = z.1 19 + nI (cnt (bt wo) 64) ∧ s.1 21 = nI (cnt (bt wo) 64) ∧ NmB (s.2.2.2.1 16) (cnt (bt wo) 64) (nM z) wo
theorem bt_flip1 {x : Int64} {c j : Nat} (hc : c < 64) (hj : j < 64) (hb : bt x c = true) : bt (x ^^^ bt1 c) j = true ↔ bt x j = true ∧ j ≠ c := by
  rw [bt_flip hc hj]
  by_cases e : j = c
  · subst e; rw [hb]; simp
  · simp [e]
theorem bt_flip0 {x : Int64} {c j : Nat} (hc : c < 64) (hj : j < 64) (hb : bt x c = true) : bt (x ^^^ bt1 c) j = false ↔ bt x j = false ∨ j = c := by
  rw [bt_flip hc hj]
  by_cases e : j = c
  · subst e; rw [hb]; simp
  · simp [e]
theorem BIM.fresh {z s : MS} {N : Nat → Nat} {Tm : Nat → Term} {set opn wo : Int64} {c : Nat} (h : BIM z s N Tm set opn wo) (hc : c < 64) (ho : bt opn c = true) (hr : ∀ j, j < 64 → bt opn j = true → m_rd z N c (nM z j) = false) (hs : m_stale s N c = false) : BIM z s N Tm set (opn ^^^ bt1 c) wo := by
  obtain ⟨h1, h2, h3, h4, h5, h6, h7, h8⟩ := h
  have hwo : bt wo c = false := by
    cases e : bt wo c with
    | false => rfl
    | true => rw [(h3 c hc e).2] at ho; cases ho
  refine ⟨h1, fun j hj hb => h2 j hj ((bt_flip1 hc hj ho).mp hb).1, fun j hj hb => ⟨(h3 j hj hb).1, (bt_flip0 hc hj ho).mpr (Or.inl (h3 j hj hb).2)⟩, fun j hj q1 q2 i hi q3 => ?_, h5, fun j hj q1 q2 q3 => ?_, h7, h8⟩
  · have q4 := (bt_flip1 hc hi ho).mp q3
    rcases (bt_flip0 hc hj ho).mp q2 with e | e
    · exact h4 j hj q1 e i hi q4.1
    · rw [e]; exact hr i hi q4.1
  · rcases (bt_flip0 hc hj ho).mp q2 with e | e
    · exact h6 j hj q1 e q3
    · rw [e, ← m_stale_eq h1 (h5 c hc hwo)]; exact hs
theorem cnt_ins {x : Int64} {c : Nat} (hc : c < 64) (hb : bt x c = false) : cnt (bt (x ||| bt1 c)) 64 = cnt (bt x) 64 + 1 := by
  have : ∀ n, n ≤ 64 → cnt (bt (x ||| bt1 c)) n = cnt (bt x) n + (if c < n then 1 else 0) := by
    intro n
    induction n with
    | zero => intro _; rfl
    | succ n ih =>
      intro hn
      have e := ih (by omega)
      by_cases q : n = c
      · subst q
        rw [cnt_t (f := bt (x ||| bt1 n)) (p := n) (by rw [bt_ins hc hc]; simp), cnt_f hb, e, if_neg (by omega), if_pos (by omega)]
      · have e2 : bt (x ||| bt1 c) n = bt x n := by rw [bt_ins hc (by omega)]; simp [q]
        cases e3 : bt x n with
        | true =>
          rw [cnt_t (e2.trans e3), cnt_t e3, e]
          by_cases w : c < n
          · rw [if_pos w, if_pos (by omega)]
          · rw [if_neg w, if_neg (by omega)]
        | false =>
          rw [cnt_f (e2.trans e3), cnt_f e3, e]
          by_cases w : c < n
          · rw [if_pos w, if_pos (by omega)]
          · rw [if_neg w, if_neg (by omega)]
  rw [this 64 (Nat.le_refl _), if_pos hc]
theorem nI_s (a b : Nat) : nI a + nI b = nI (a + b) := nI_add a b
theorem StM.wo {z s s' : MS} {N : Nat → Nat} {t : Term} {c ls : Nat} (h : StM z s) (hW : WoP N t s s' c ls) : StM z s' := by
  obtain ⟨w1, w2, w3, w4, w5, w6, w7, w8, w9, w10, w11, w12, w13⟩ := hW
  exact ⟨fun k a b d e => (w1 k a b d e).trans (h.1 k a b d e), fun k a => (w4 k a).trans (h.2.1 k a), fun j a b d e => (w5 j a b d e).trans (h.2.2.1 j a b d e), fun j a b d e => (w7 j a b d e).trans (h.2.2.2.1 j a b d e), fun j a => (w9 j a).trans (h.2.2.2.2 j a)⟩
theorem BIM.worked {z s s' : MS} {N : Nat → Nat} {Tm : Nat → Term} {set opn wo : Int64} {c : Nat} (h : BIM z s N Tm set opn wo) (hNz : NcOK z N) (hT : ∀ c, c < 64 → bt set c = true → TcM z N c (Tm c)) (hdis : ∀ i j, i < 64 → j < 64 → bt set i = true → bt set j = true → nM z i = nM z j → i = j) (hc : c < 64) (ho : bt opn c = true) (hr : ∀ j, j < 64 → bt opn j = true → m_rd z N c (nM z j) = false) (hs : m_stale s N c = true) (hW : WoP N (Tm c) s s' c (cnt (bt wo) 64)) : BIM z s' N Tm set (opn ^^^ bt1 c) (wo ||| bt1 c) := by
  have hSM := h.1.wo hW
  obtain ⟨h1, h2, h3, h4, h5, h6, h7, h8, h9, h10⟩ := h
  obtain ⟨w1, w2, w3, w4, w5, w6, w7, w8, w9, w10, w11, w12, w13⟩ := hW
  have hset := h2 c hc ho
  have hwo : bt wo c = false := by
    cases e : bt wo c with
    | false => rfl
    | true => rw [(h3 c hc e).2] at ho; cases ho
  have hres : ∀ u, u ≠ nM z c → m_res s' u = m_res s u := fun u hu => m_res_up (w9 2 (by decide)) (w7 3 (by decide) (by decide) (by decide) (by decide)) w6 w8 (by rw [h1.nM]; exact hu)
  have self : ∀ u, m_rd z N c u = true → u ≠ nM z c := fun u hu e => by
    rw [e, hr c hc ho] at hu; cases hu
  have hc40 := (hNz c hc).2
  have keep : ∀ j, j < 64 → j ≠ c → s'.2.2.1 4 j = s.2.2.1 4 j ∧ s'.2.2.2.1 5 j = s.2.2.2.1 5 j ∧ s'.2.2.2.2 6 j = s.2.2.2.2 6 j ∧ ∀ k, k < N j → s'.2.2.1 14 (40 * j + k) = s.2.2.1 14 (40 * j + k) ∧ s'.2.2.2.1 15 (40 * j + k) = s.2.2.2.1 15 (40 * j + k) := fun j hj hne => by
    have hj40 := (hNz j hj).2
    exact ⟨by rw [w6, jm_up_ne hne], by rw [w8, jm_up_ne hne], by rw [w10, jm_up_ne hne], fun k hk => w11 _ (by omega)⟩
  have doneN : ∀ j, j < 64 → bt set j = true → bt opn j = false → ∀ u, m_rd z N j u = true → u ≠ nM z c := fun j hj q1 q2 u hu e => by
    rw [e, h4 j hj q1 q2 c hc ho] at hu; cases hu
  refine ⟨hSM, fun j hj hb => h2 j hj ((bt_flip1 hc hj ho).mp hb).1, fun j hj hb => ?_, fun j hj q1 q2 i hi q3 => ?_, fun j hj hb => ?_, fun j hj q1 q2 q3 => ?_, fun j hj hb => ?_, ?_, ?_, ?_⟩
  · rw [bt_ins hc hj, Bool.or_eq_true, decide_eq_true_iff] at hb
    rcases hb with hb | hb
    · exact ⟨(h3 j hj hb).1, (bt_flip0 hc hj ho).mpr (Or.inl (h3 j hj hb).2)⟩
    · exact ⟨by rw [hb]; exact hset, (bt_flip0 hc hj ho).mpr (Or.inr hb)⟩
  · have q4 := (bt_flip1 hc hi ho).mp q3
    rcases (bt_flip0 hc hj ho).mp q2 with e | e
    · exact h4 j hj q1 e i hi q4.1
    · rw [e]; exact hr i hi q4.1
  · rw [bt_ins hc hj, Bool.or_eq_false_iff, decide_eq_false_iff_not] at hb
    obtain ⟨k1, k2, k3, k4⟩ := keep j hj hb.2
    obtain ⟨r1, r2, r3, r4⟩ := h5 j hj hb.1
    exact ⟨k1.trans r1, k2.trans r2, k3.trans r3, fun k hk => ⟨(k4 k hk).1.trans (r4 k hk).1, (k4 k hk).2.trans (r4 k hk).2⟩⟩
  · rw [bt_ins hc hj, Bool.or_eq_false_iff, decide_eq_false_iff_not] at q3
    have e : bt opn j = false := by
      rcases (bt_flip0 hc hj ho).mp q2 with e | e
      · exact e
      · exact absurd e q3.2
    rw [m_stl_cg (ρ := m_res s) fun u hu => hres u (doneN j hj q1 e u hu)]
    exact h6 j hj q1 e q3.1
  · rw [bt_ins hc hj, Bool.or_eq_true, decide_eq_true_iff] at hb
    by_cases e : j = c
    · subst e
      have hev : ev (m_res s') (Tm j) = ev (m_res s) (Tm j) := ev_nm (Tm j) (hT j hj hset).1 fun u hu => hres u (self u (((hT j hj hset).rd u).mpr hu))
      refine ⟨?_, ?_, ?_, fun k hk q => ?_⟩
      · rw [m_stl_cg (ρ := m_res s) fun u hu => hres u (self u hu), ← m_stale_eq h1 (h5 j hj hwo)]
        exact hs
      · rw [hev, w6, w8, jm_up_eq, jm_up_eq]
      · rw [w10, jm_up_eq]
      · have q' : s.2.2.1 9 (40 * j + k) = 1 := by rw [h1.2.2.1 9 (by decide) (by decide) (by decide) (by decide)]; exact q
        rw [w12 k hk q', h1.2.2.2.1 13 (by decide) (by decide) (by decide) (by decide)]
        exact (hres _ (self _ (anyN_iff.mpr ⟨k, hk, by unfold mrf; rw [decide_eq_true q, decide_eq_true rfl]; rfl⟩))).symm
    · have hb : bt wo j = true := by
        rcases hb with hb | hb
        · exact hb
        · exact absurd hb e
      obtain ⟨q1, q2⟩ := h3 j hj hb
      obtain ⟨g1, g2, g3, g4⟩ := h7 j hj hb
      obtain ⟨k1, k2, k3, k4⟩ := keep j hj e
      have hev : ev (m_res s') (Tm j) = ev (m_res s) (Tm j) := ev_nm (Tm j) (hT j hj q1).1 fun u hu => hres u (doneN j hj q1 q2 u (((hT j hj q1).rd u).mpr hu))
      refine ⟨?_, ?_, k3.trans g3, fun k hk q => ?_⟩
      · rw [m_stl_cg (ρ := m_res s) fun u hu => hres u (doneN j hj q1 q2 u hu)]
        exact g1
      · rw [hev, k1, k2]; exact g2
      · rw [(k4 k hk).1, (k4 k hk).2, g4 k hk q]
        exact (hres _ (doneN j hj q1 q2 _ (anyN_iff.mpr ⟨k, hk, by unfold mrf; rw [decide_eq_true q, decide_eq_true rfl]; rfl⟩))).symm
  · rw [w2, h8, cnt_ins hc hwo, ← nI_s (cnt (bt wo) 64) 1, ← Int32.add_assoc]; rfl
  · rw [w3, cnt_ins hc hwo]
  · rw [cnt_ins hc hwo]
    refine h10.ins ?_ hc fun j hj hb e => ?_
    · have := w13
      rw [h1.nM] at this
      exact this
    · have := hdis j c hj hc (h3 j hj hb).1 hset e
      rw [this, hwo] at hb
      cases hb
