/-! names of a tree with their places; places do not fall -/
def nms : Term → List (Int64 × Nat)
  | .elem (.long v) (.index p) => [(v, p)]
  | .length t => nms t
  | .add a b => nms a ++ nms b
  | .sub a b => nms a ++ nms b
  | .mul a b => nms a ++ nms b
  | .div a b => nms a ++ nms b
  | .rem a b => nms a ++ nms b
  | .op2 _ a b => nms a ++ nms b
  | .old (.add a (.add b c)) => nms a ++ (nms b ++ nms c)
  | _ => []
def InP (t : Term) (u : Int64) (q : Int32) : Prop := ∃ p, (u, p) ∈ nms t ∧ q = nI p
theorem InP.app {l : List (Int64 × Nat)} {a b : Term} (h : l = nms a ++ nms b) (u : Int64) (q : Int32) : (∃ p, (u, p) ∈ l ∧ q = nI p) ↔ InP a u q ∨ InP b u q := by
  rw [h]
  unfold InP
  constructor
  · rintro ⟨p, h1, h2⟩
    rcases List.mem_append.mp h1 with h1 | h1
    · exact Or.inl ⟨p, h1, h2⟩
    · exact Or.inr ⟨p, h1, h2⟩
  · rintro (⟨p, h1, h2⟩ | ⟨p, h1, h2⟩)
    · exact ⟨p, List.mem_append.mpr (Or.inl h1), h2⟩
    · exact ⟨p, List.mem_append.mpr (Or.inr h1), h2⟩
section RNP
variable {K O1 O2 O3 : Nat → Int32} {AM : Nat → Int64} {PL : Nat → Int32}
theorem Rep.nmsE (t : Term) (ht : Tree t) : ∀ i lo hi, Rep K O1 O2 O3 AM PL t i lo hi → ∀ u q, (∃ k, lo ≤ k ∧ k < hi ∧ (K k = 1 ∧ AM k = u ∧ PL k = q)) ↔ InP t u q := by
  have ne1 : ∀ {r : Nat} {v : Int32} {u : Int64} {q : Int32}, K r = v → v ≠ 1 → ¬ (K r = 1 ∧ AM r = u ∧ PL r = q) := fun h h1 h2 => h1 (h.symm.trans h2.1)
  have bin : ∀ (a b t : Term) (v : Int32), nms t = nms a ++ nms b → v ≠ 1 → Tree a → Tree b → (∀ i lo hi, Rep K O1 O2 O3 AM PL a i lo hi → ∀ u q, (∃ k, lo ≤ k ∧ k < hi ∧ (K k = 1 ∧ AM k = u ∧ PL k = q)) ↔ InP a u q) → (∀ i lo hi, Rep K O1 O2 O3 AM PL b i lo hi → ∀ u q, (∃ k, lo ≤ k ∧ k < hi ∧ (K k = 1 ∧ AM k = u ∧ PL k = q)) ↔ InP b u q) → ∀ i lo hi, (K i = v ∧ ∃ ja jb, O1 i = nI ja ∧ O2 i = nI jb ∧ Rep K O1 O2 O3 AM PL a ja lo i ∧ Rep K O1 O2 O3 AM PL b jb (i + 1) hi) → ∀ u q, (∃ k, lo ≤ k ∧ k < hi ∧ (K k = 1 ∧ AM k = u ∧ PL k = q)) ↔ InP t u q := by
    intro a b t v et hv ta tb ia ib i lo hi h u q
    obtain ⟨h0, ja, jb, -, -, h3, h4⟩ := h
    have l1 := Rep.lt ta h3
    have l2 := Rep.lt tb h4
    exact (rep_cup (by omega) (by omega) (ia _ _ _ h3 u q) (rep_one (by omega) (ne1 h0 hv) (ib _ _ _ h4 u q))).trans (InP.app et u q).symm
  have fn : ∀ (a b t : Term) (v : Int32), nms t = nms a ++ nms b → v ≠ 1 → Tree a → Tree b → (∀ i lo hi, Rep K O1 O2 O3 AM PL a i lo hi → ∀ u q, (∃ k, lo ≤ k ∧ k < hi ∧ (K k = 1 ∧ AM k = u ∧ PL k = q)) ↔ InP a u q) → (∀ i lo hi, Rep K O1 O2 O3 AM PL b i lo hi → ∀ u q, (∃ k, lo ≤ k ∧ k < hi ∧ (K k = 1 ∧ AM k = u ∧ PL k = q)) ↔ InP b u q) → ∀ i lo hi, (i = lo ∧ K lo = v ∧ ∃ ja jb m, O1 lo = nI ja ∧ O2 lo = nI jb ∧ Rep K O1 O2 O3 AM PL a ja (lo + 1) m ∧ Rep K O1 O2 O3 AM PL b jb m hi) → ∀ u q, (∃ k, lo ≤ k ∧ k < hi ∧ (K k = 1 ∧ AM k = u ∧ PL k = q)) ↔ InP t u q := by
    intro a b t v et hv ta tb ia ib i lo hi h u q
    obtain ⟨-, h0, ja, jb, m, -, -, h3, h4⟩ := h
    have l1 := Rep.lt ta h3
    have l2 := Rep.lt tb h4
    exact (rep_one (by omega) (ne1 h0 hv) (rep_cup (by omega) (by omega) (ia _ _ _ h3 u q) (ib _ _ _ h4 u q))).trans (InP.app et u q).symm
  refine Tree.rec9 (P := fun t => ∀ i lo hi, Rep K O1 O2 O3 AM PL t i lo hi → ∀ u q, (∃ k, lo ≤ k ∧ k < hi ∧ (K k = 1 ∧ AM k = u ∧ PL k = q)) ↔ InP t u q) ?_ ?_ ?_ ?_ ?_ ?_ ?_ ?_ ?_ ?_ t ht
  · intro v i lo hi h u q
    obtain ⟨h1, h2, h3, h4⟩ := h
    constructor
    · rintro ⟨k, q1, q2, q3, q4⟩
      have e : k = lo := by omega
      rw [e, h3] at q3
      exact absurd q3 (by decide)
    · rintro ⟨p, hp, -⟩; exact absurd hp (by simp [nms])
  · intro v p i lo hi h u q
    obtain ⟨h1, h2, h3, h4, h5⟩ := h
    constructor
    · rintro ⟨k, q1, q2, q3, q4, q5⟩
      have e : k = lo := by omega
      rw [e] at q4 q5
      exact ⟨p, by rw [← q4, h4]; simp [nms], by rw [← q5, h5]⟩
    · rintro ⟨p', hp, e⟩
      have hp : (u, p') ∈ [(v, p)] := hp
      rw [List.mem_singleton] at hp
      cases hp
      exact ⟨lo, Nat.le_refl _, by omega, h3, h4, h5.trans e.symm⟩
  · intro t tt ih i lo hi h u q
    obtain ⟨h1, h2, j, h3, h4⟩ := h
    have l1 := Rep.lt tt h4
    exact rep_one (by omega) (ne1 h2 (by decide)) (ih _ _ _ h4 u q)
  · intro a b ta tb ia ib i lo hi h u; exact bin a b (.add a b) 2 rfl (by decide) ta tb ia ib i lo hi h u
  · intro a b ta tb ia ib i lo hi h u; exact bin a b (.sub a b) 3 rfl (by decide) ta tb ia ib i lo hi h u
  · intro a b ta tb ia ib i lo hi h u; exact bin a b (.mul a b) 4 rfl (by decide) ta tb ia ib i lo hi h u
  · intro a b ta tb ia ib i lo hi h u; exact bin a b (.div a b) 5 rfl (by decide) ta tb ia ib i lo hi h u
  · intro a b ta tb ia ib i lo hi h u; exact fn a b (.rem a b) 7 rfl (by decide) ta tb ia ib i lo hi h u
  · intro o a b ta tb ia ib i lo hi h u; exact fn a b (.op2 o a b) 8 rfl (by decide) ta tb ia ib i lo hi h u
  · intro a b c ta tb tc ia ib ic i lo hi h u q
    obtain ⟨-, h0, ja, jb, jc, m1, m2, -, -, -, h4, h5, h6⟩ := h
    have l1 := Rep.lt ta h4
    have l2 := Rep.lt tb h5
    have l3 := Rep.lt tc h6
    refine (rep_one (by omega) (ne1 h0 (by decide)) (rep_cup (by omega) (by omega) (ia _ _ _ h4 u q) (rep_cup (by omega) (by omega) (ib _ _ _ h5 u q) (ic _ _ _ h6 u q)))).trans ?_
    refine Iff.symm ((InP.app (a := a) (b := .add b c) (l := nms (.old (.add a (.add b c)))) rfl u q).trans ?_)
    exact or_congr Iff.rfl (InP.app (a := b) (b := c) rfl u q)
end RNP
def CdN (NA : Nat → Int64) (PL : Nat → Int32) (N N' : Nat) (l : List (Int64 × Nat)) : Prop := N' = N + l.length ∧ ∀ j u p, l[j]? = some (u, p) → NA (N + j) = u ∧ PL (N + j) = nI p
theorem CdN.app {NA : Nat → Int64} {PL : Nat → Int32} {N N1 N2 : Nat} {l1 l2 : List (Int64 × Nat)} (h1 : CdN NA PL N N1 l1) (h2 : CdN NA PL N1 N2 l2) : CdN NA PL N N2 (l1 ++ l2) := by
  obtain ⟨a1, b1⟩ := h1
  obtain ⟨a2, b2⟩ := h2
  refine ⟨by rw [List.length_append]; omega, fun j u p hj => ?_⟩
  rw [List.getElem?_append] at hj
  split at hj
  · exact b1 j u p hj
  · rename_i q
    have := b2 _ u p hj
    have e : N1 + (j - l1.length) = N + j := by omega
    rw [e] at this
    exact this
theorem Cdx.nmsE {ST DT : Nat → Int32} {NA : Nat → Int64} {PL : Nat → Int32} (t : Term) (ht : Tree t) : ∀ L N L' N', Cdx ST DT NA PL t L N L' N' → CdN NA PL N N' (nms t) := by
  refine Tree.rec9 (P := fun t => ∀ L N L' N', Cdx ST DT NA PL t L N L' N' → CdN NA PL N N' (nms t)) ?_ ?_ ?_ ?_ ?_ ?_ ?_ ?_ ?_ ?_ t ht
  · intro v L N L' N' h
    obtain ⟨-, -, -, h4⟩ := h
    exact ⟨h4, fun j u p hj => by cases hj⟩
  · intro v p L N L' N' h
    obtain ⟨-, -, h3, h4, -, h6⟩ := h
    refine ⟨h6, fun j u p' hj => ?_⟩
    have hj : [(v, p)][j]? = some (u, p') := hj
    match j, hj with
    | 0, hj => cases hj; exact ⟨h3, h4⟩
    | j + 1, hj => cases hj
  · intro t tt ih L N L' N' h
    obtain ⟨L1, h1, -, -⟩ := h
    exact ih _ _ _ _ h1
  · intro a b ta tb ia ib L N L' N' h; obtain ⟨L1, N1, L2, h3, h4, -, -⟩ := h; exact (ia _ _ _ _ h3).app (ib _ _ _ _ h4)
  · intro a b ta tb ia ib L N L' N' h; obtain ⟨L1, N1, L2, h3, h4, -, -⟩ := h; exact (ia _ _ _ _ h3).app (ib _ _ _ _ h4)
  · intro a b ta tb ia ib L N L' N' h; obtain ⟨L1, N1, L2, h3, h4, -, -⟩ := h; exact (ia _ _ _ _ h3).app (ib _ _ _ _ h4)
  · intro a b ta tb ia ib L N L' N' h; obtain ⟨L1, N1, L2, h3, h4, -, -⟩ := h; exact (ia _ _ _ _ h3).app (ib _ _ _ _ h4)
  · intro a b ta tb ia ib L N L' N' h; obtain ⟨L1, N1, L2, h3, h4, -, -⟩ := h; exact (ia _ _ _ _ h3).app (ib _ _ _ _ h4)
  · intro o a b ta tb ia ib L N L' N' h; obtain ⟨L1, N1, L2, h3, h4, -, -⟩ := h; exact (ia _ _ _ _ h3).app (ib _ _ _ _ h4)
  · intro a b c ta tb tc ia ib ic L N L' N' h
    obtain ⟨L1, N1, L2, N2, h1, -, -, h2, -, -, h3⟩ := h
    exact (ia _ _ _ _ h1).app ((ib _ _ _ _ h2).app (ic _ _ _ _ h3))
/-- places that do not fall, between lo and hi -/
def Srl (lo hi : Nat) (l : List (Int64 × Nat)) : Prop := l.Pairwise (fun a b => a.2 ≤ b.2) ∧ ∀ x, x ∈ l → lo ≤ x.2 ∧ x.2 ≤ hi
theorem Srl.app {a b b' c : Nat} {l1 l2 : List (Int64 × Nat)} (h1 : Srl a b l1) (h2 : Srl b' c l2) (hb : b ≤ b') (ha : a ≤ b) (hc : b' ≤ c) : Srl a c (l1 ++ l2) := by
  refine ⟨List.pairwise_append.mpr ⟨h1.1, h2.1, fun x hx y hy => ?_⟩, fun x hx => ?_⟩
  · have := h1.2 x hx
    have := h2.2 y hy
    omega
  · rcases List.mem_append.mp hx with hx | hx
    · have := h1.2 x hx; omega
    · have := h2.2 x hx; omega
theorem Srl.wk {a b a' b' : Nat} {l : List (Int64 × Nat)} (h : Srl a b l) (h1 : a' ≤ a) (h2 : b ≤ b') : Srl a' b' l := ⟨h.1, fun x hx => by have := h.2 x hx; omega⟩
theorem Srl.nil {a b : Nat} : Srl a b [] := ⟨List.Pairwise.nil, fun x hx => by cases hx⟩
def COk (n : Nat) (c : Cur) : Prop := c.2.1 ≤ c.2.2.1 ∧ c.2.2.1 ≤ n
section PPL
variable {B : Nat → Int32} {n : Nat}
theorem adv_ok {c : Cur} (h : c.2.2.1 ≤ n) : COk n (cu_adv B n c) ∧ c.2.2.1 ≤ (cu_adv B n c).2.1 := by
  have h1 := q_skip_le B n c.2.2.1 h
  have h2 := q_tok_le B n (q_skip B n c.2.2.1) c.2.2.2.1 c.2.2.2.2 h1.2
  exact ⟨⟨h2.1, h2.2⟩, h1.1⟩
theorem exp_r {K : Int32} {c c1 : Cur} (h : p_exp B n K c = .inr c1) : c1 = cu_adv B n c := by
  unfold p_exp at h
  split at h
  · exact (p_pass_r h).2
  · cases h
theorem node_r {k : Nat} {c c1 : Cur} (h : p_node B n c k = .inr c1) : c1 = cu_adv B n c := by
  unfold p_node at h
  split at h
  · exact (p_pass_r h).2
  · cases h
theorem open_r {dp : Nat} {c c1 : Cur} (h : p_open B n dp c = .inr c1) : c1 = cu_adv B n c := by
  unfold p_open at h
  split at h
  · split at h
    · exact (p_pass_r h).2
    · cases h
  · cases h
theorem sb_pl {x : Flt ⊕ Cur} {res : PR} {K : Cur → Prop} {y : Term × Cur × Nat} (h : sb x res K) (hr : res = .inr y) : ∃ c1, x = .inr c1 ∧ K c1 := by
  cases x with
  | inl e =>
    have h : res = .inl e := h
    rw [h] at hr
    cases hr
  | inr c => exact ⟨c, rfl, h⟩
theorem pb_pl {P : PR → Prop} {res : PR} {K : Term → Cur → Nat → Prop} {y : Term × Cur × Nat} (h : pb P res K) (hr : res = .inr y) : ∃ t c k, P (.inr (t, c, k)) ∧ K t c k := by
  obtain ⟨x, h1, h2⟩ := h
  cases x with
  | inl e =>
    have h2 : res = .inl e := h2
    rw [h2] at hr
    cases hr
  | inr z => exact ⟨z.1, z.2.1, z.2.2, h1, h2⟩
def preN (m : Nat) (acc : Term) : List (Int64 × Nat) := match m with
  | 2 => nms acc
  | 3 => nms acc
  | _ => []
def Plc (n m : Nat) (acc : Term) (c : Cur) (res : PR) : Prop := COk n c → ∀ t c' k', res = .inr (t, c', k') → COk n c' ∧ c.2.1 ≤ c'.2.1 ∧ ∃ l, nms t = preN m acc ++ l ∧ Srl c.2.1 c'.2.1 l
theorem Rd.plc {m dp : Nat} {acc : Term} {c : Cur} {k : Nat} {res : PR} (h : Rd B n m dp acc c k res) : Plc n m acc c res := by
  refine Rd.induct (B := B) (n := n) (fun m _ acc c _ res => Plc n m acc c res) ?_ h
  intro m dp acc c k res h hc t c' k' hr
  have adv : ∀ c : Cur, COk n c → COk n (cu_adv B n c) ∧ c.2.1 ≤ (cu_adv B n c).2.1 := fun c hc => ⟨(adv_ok hc.2).1, Nat.le_trans hc.1 (adv_ok hc.2).2⟩
  match m, h with
  | 0, h =>
    have h : pb (fun r => Plc n 1 .null c r) res (fun t c1 k1 => Plc n 2 t c1 res) := h
    obtain ⟨t1, c1, k1, h1, h2⟩ := pb_pl h hr
    obtain ⟨o1, a1, l1, e1, s1⟩ := h1 hc _ _ _ rfl
    obtain ⟨o2, a2, l2, e2, s2⟩ := h2 o1 _ _ _ hr
    refine ⟨o2, by omega, l1 ++ l2, ?_, s1.app s2 (Nat.le_refl _) a1 a2⟩
    have e1 : nms t1 = l1 := e1
    have e2 : nms t = nms t1 ++ l2 := e2
    rw [e2, e1]
    rfl
  | 1, h =>
    have h : pb (fun r => Plc n 4 .null c r) res (fun t c1 k1 => Plc n 3 t c1 res) := h
    obtain ⟨t1, c1, k1, h1, h2⟩ := pb_pl h hr
    obtain ⟨o1, a1, l1, e1, s1⟩ := h1 hc _ _ _ rfl
    obtain ⟨o2, a2, l2, e2, s2⟩ := h2 o1 _ _ _ hr
    refine ⟨o2, by omega, l1 ++ l2, ?_, s1.app s2 (Nat.le_refl _) a1 a2⟩
    have e1 : nms t1 = l1 := e1
    have e2 : nms t = nms t1 ++ l2 := e2
    rw [e2, e1]
    rfl
  | 2, h =>
    have h : if c.1 = 43 ∨ c.1 = 45 then Rd2 B n (fun m _ acc c _ res => Plc n m acc c res) dp acc c k res else res = .inr (acc, c, k) := h
    split at h
    · obtain ⟨c1, q1, h⟩ := sb_pl h hr
      have q1 := node_r q1
      subst q1
      obtain ⟨t1, c2, k2, h1, h2⟩ := pb_pl h hr
      obtain ⟨o0, a0⟩ := adv c hc
      obtain ⟨o1, a1, l1, e1, s1⟩ := h1 o0 _ _ _ rfl
      obtain ⟨o2, a2, l2, e2, s2⟩ := h2 o1 _ _ _ hr
      refine ⟨o2, by omega, l1 ++ l2, ?_, (s1.wk a0 (Nat.le_refl _)).app s2 (Nat.le_refl _) (by omega) a2⟩
      have e1 : nms t1 = l1 := e1
      have e2 : nms t = nms (if c.1 = 43 then .add acc t1 else .sub acc t1) ++ l2 := e2
      have e3 : nms (if c.1 = 43 then .add acc t1 else .sub acc t1) = nms acc ++ nms t1 := by split <;> rfl
      rw [e2, e3, e1, List.append_assoc]
      rfl
    · rw [h] at hr
      cases hr
      exact ⟨hc, Nat.le_refl _, [], (List.append_nil _).symm, Srl.nil⟩
  | 3, h =>
    have h : if c.1 = 42 ∨ c.1 = 47 then Rd3 B n (fun m _ acc c _ res => Plc n m acc c res) dp acc c k res else res = .inr (acc, c, k) := h
    split at h
    · obtain ⟨c1, q1, h⟩ := sb_pl h hr
      have q1 := node_r q1
      subst q1
      obtain ⟨t1, c2, k2, h1, h2⟩ := pb_pl h hr
      obtain ⟨o0, a0⟩ := adv c hc
      obtain ⟨o1, a1, l1, e1, s1⟩ := h1 o0 _ _ _ rfl
      obtain ⟨o2, a2, l2, e2, s2⟩ := h2 o1 _ _ _ hr
      refine ⟨o2, by omega, l1 ++ l2, ?_, (s1.wk a0 (Nat.le_refl _)).app s2 (Nat.le_refl _) (by omega) a2⟩
      have e1 : nms t1 = l1 := e1
      have e2 : nms t = nms (if c.1 = 42 then .mul acc t1 else .div acc t1) ++ l2 := e2
      have e3 : nms (if c.1 = 42 then .mul acc t1 else .div acc t1) = nms acc ++ nms t1 := by split <;> rfl
      rw [e2, e3, e1, List.append_assoc]
      rfl
    · rw [h] at hr
      cases hr
      exact ⟨hc, Nat.le_refl _, [], (List.append_nil _).symm, Srl.nil⟩
  | m + 4, h =>
    have h : Rd4 B n (fun m _ acc c _ res => Plc n m acc c res) dp c k res := h
    have lf : ∀ t0 : Term, Rdl B n t0 c k res → ∃ c1, c1 = cu_adv B n c ∧ t = t0 ∧ c' = c1 := by
      intro t0 h
      obtain ⟨c1, q1, h⟩ := sb_pl h hr
      rw [h] at hr
      cases hr
      exact ⟨_, node_r q1, rfl, rfl⟩
    show COk n c' ∧ c.2.1 ≤ c'.2.1 ∧ ∃ l, nms t = [] ++ l ∧ Srl c.2.1 c'.2.1 l
    unfold Rd4 at h
    obtain ⟨o0, a0⟩ := adv c hc
    split at h
    · obtain ⟨c1, q1, q2, q3⟩ := lf _ h
      subst q1; subst q2; subst q3
      exact ⟨o0, a0, [], rfl, Srl.nil⟩
    · split at h
      · obtain ⟨c1, q1, q2, q3⟩ := lf _ h
        subst q1; subst q2; subst q3
        refine ⟨o0, a0, [(c.2.2.2.1, c.2.1)], rfl, List.pairwise_singleton _ _, fun x hx => ?_⟩
        rw [List.mem_singleton] at hx
        subst hx
        exact ⟨Nat.le_refl _, a0⟩
      · split at h
        · split at h
          · obtain ⟨c1, q1, h⟩ := sb_pl h hr
            have q1 := node_r q1
            subst q1
            obtain ⟨t1, c2, k2, h1, h2⟩ := pb_pl h hr
            obtain ⟨o1, a1, l1, e1, s1⟩ := h1 o0 _ _ _ rfl
            rw [h2] at hr
            cases hr
            exact ⟨o1, by omega, l1, e1, s1.wk a0 (Nat.le_refl _)⟩
          · rw [h] at hr; cases hr
        · split at h
          · obtain ⟨c1, q1, h⟩ := sb_pl h hr
            have q1 := open_r q1
            subst q1
            obtain ⟨t1, c2, k2, h1, h⟩ := pb_pl h hr
            obtain ⟨o1, a1, l1, e1, s1⟩ := h1 o0 _ _ _ rfl
            obtain ⟨c3, q3, h⟩ := sb_pl h hr
            have q3 := exp_r q3
            subst q3
            obtain ⟨o3, a3⟩ := adv c2 o1
            rw [h] at hr
            cases hr
            exact ⟨o3, by omega, l1, e1, s1.wk a0 a3⟩
          · split at h
            · obtain ⟨c1, q1, h⟩ := sb_pl h hr
              have q1 := node_r q1
              subst q1
              obtain ⟨c2, q2, h⟩ := sb_pl h hr
              have q2 := open_r q2
              subst q2
              obtain ⟨o2, a2⟩ := adv _ o0
              obtain ⟨t1, c3, k3, h1, h⟩ := pb_pl h hr
              obtain ⟨o3, a3, l1, e1, s1⟩ := h1 o2 _ _ _ rfl
              obtain ⟨c4, q4, h⟩ := sb_pl h hr
              have q4 := exp_r q4
              subst q4
              obtain ⟨o4, a4⟩ := adv _ o3
              obtain ⟨t2, c5, k5, h2, h⟩ := pb_pl h hr
              obtain ⟨o5, a5, l2, e2, s2⟩ := h2 o4 _ _ _ rfl
              obtain ⟨c6, q6, h⟩ := sb_pl h hr
              have q6 := exp_r q6
              subst q6
              obtain ⟨o6, a6⟩ := adv _ o5
              rw [h] at hr
              have e1 : nms t1 = l1 := e1
              have e2 : nms t2 = l2 := e2
              have et : nms t = nms t1 ++ nms t2 := by
                have := congrArg (fun z : PR => match z with | .inl _ => [] | .inr y => nms y.1) hr
                have h9 : nms (if c.1 = 4 then Term.rem t1 t2 else Term.op2 .iand t1 t2) = nms t := this
                rw [← h9]
                split <;> rfl
              cases hr
              refine ⟨o6, by omega, l1 ++ l2, ?_, (s1.app s2 a4 (by omega) (by omega)).wk (by omega) a6⟩
              rw [et, e1, e2]
              rfl
            · split at h
              · obtain ⟨c1, q1, h⟩ := sb_pl h hr
                have q1 := node_r q1
                subst q1
                obtain ⟨c2, q2, h⟩ := sb_pl h hr
                have q2 := open_r q2
                subst q2
                obtain ⟨o2, a2⟩ := adv _ o0
                obtain ⟨t1, c3, k3, h1, h⟩ := pb_pl h hr
                obtain ⟨o3, a3, l1, e1, s1⟩ := h1 o2 _ _ _ rfl
                obtain ⟨c4, q4, h⟩ := sb_pl h hr
                have q4 := exp_r q4
                subst q4
                obtain ⟨o4, a4⟩ := adv _ o3
                obtain ⟨t2, c5, k5, h2, h⟩ := pb_pl h hr
                obtain ⟨o5, a5, l2, e2, s2⟩ := h2 o4 _ _ _ rfl
                obtain ⟨c6, q6, h⟩ := sb_pl h hr
                have q6 := exp_r q6
                subst q6
                obtain ⟨o6, a6⟩ := adv _ o5
                obtain ⟨t3, c7, k7, h3, h⟩ := pb_pl h hr
                obtain ⟨o7, a7, l3, e3, s3⟩ := h3 o6 _ _ _ rfl
                obtain ⟨c8, q8, h⟩ := sb_pl h hr
                have q8 := exp_r q8
                subst q8
                obtain ⟨o8, a8⟩ := adv _ o7
                rw [h] at hr
                cases hr
                have e1 : nms t1 = l1 := e1
                have e2 : nms t2 = l2 := e2
                have e3 : nms t3 = l3 := e3
                refine ⟨o8, by omega, l1 ++ (l2 ++ l3), ?_, (s1.app (s2.app s3 a6 (by omega) (by omega)) a4 (by omega) (by omega)).wk (by omega) a8⟩
                show nms t1 ++ (nms t2 ++ nms t3) = l1 ++ (l2 ++ l3)
                rw [e1, e2, e3]
              · rw [h] at hr; cases hr
theorem Df.plc {c0 : Cur} {nm : Int64} {res : PR} {t : Term} {c' : Cur} {k' : Nat} (h : Df B n c0 nm res) (hc : c0.2.2.1 ≤ n) (hr : res = .inr (t, c', k')) : Srl 0 n (nms t) := by
  obtain ⟨c1, q1, -, h⟩ := sb_pl h hr
  have q1 := (p_pass_r q1).2
  subst q1
  have o1 := (adv_ok (B := B) hc).1
  obtain ⟨c2, q2, h⟩ := sb_pl h hr
  have q2 := exp_r q2
  subst q2
  have o2 := (adv_ok (B := B) o1.2).1
  obtain ⟨c3, q3, h⟩ := sb_pl h hr
  have q3 := exp_r q3
  subst q3
  have o3 := (adv_ok (B := B) o2.2).1
  obtain ⟨t1, c4, k4, h1, h⟩ := pb_pl h hr
  obtain ⟨o4, a4, l, e, s⟩ := h1.plc o3 _ _ _ rfl
  have e : nms t1 = l := e
  split at h
  · rw [h] at hr
    cases hr
    rw [e]
    exact s.wk (Nat.zero_le _) (Nat.le_trans o4.1 o4.2)
  · rw [h] at hr; cases hr
end PPL
