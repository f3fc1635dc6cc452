/-! class and reference hold the same cells -/
/-- the record r, with the tree t, is the reference's cell c -/
def RecEq (r : CRec) (t : Term) (s : MS) (N : Nat → Nat) (c : Nat) : Prop :=
  nM s c = k_n r ∧ TcM s N c t ∧ s.2.2.2.2 6 c = k_w r ∧ s.2.2.1 4 c = k_k r ∧ s.2.2.2.1 5 c = k_v r ∧ (k_k r ≠ 1 → k_v r = 0) ∧
  (k_w r = true → ∃ ρ : Int64 → Int32 × Int64, (∀ j, j < k_N r → (k_SK r j, k_SV r j) = ρ (k_NA r j)) ∧ ∀ k, k < N c → s.2.2.1 9 (40 * c + k) = 1 → (s.2.2.1 14 (40 * c + k), s.2.2.2.1 15 (40 * c + k)) = ρ (s.2.2.2.1 13 (40 * c + k)))
def CeQ (R : Nat → CRec) (m : Nat) (T : Nat → Term) (s : MS) (N : Nat → Nat) : Prop := NcOK s N ∧ (∀ p, p < m → ∃ c, c < 64 ∧ tM s c = true ∧ RecEq (R p) (T p) s N c) ∧ (∀ c, c < 64 → tM s c = true → ∃ p, p < m ∧ nM s c = k_n (R p)) ∧ ∀ i j, i < 64 → j < 64 → tM s i = true → tM s j = true → nM s i = nM s j → i = j
/-- which cell a place is, and which place a cell -/
def SgT (R : Nat → CRec) (m : Nat) (T : Nat → Term) (s : MS) (N : Nat → Nat) (σ τ : Nat → Nat) : Prop := NcOK s N ∧ (∀ p, p < m → σ p < 64 ∧ tM s (σ p) = true ∧ RecEq (R p) (T p) s N (σ p) ∧ τ (σ p) = p) ∧ ∀ c, c < 64 → tM s c = true → τ c < m ∧ σ (τ c) = c
theorem SortR.inj {R : Nat → CRec} {m p q : Nat} (hs : SortR R m) (hp : p < m) (hq : q < m) (h : k_n (R p) = k_n (R q)) : p = q := by
  rcases Nat.lt_trichotomy p q with g | g | g
  · have := hs p q g hq
    rw [h] at this
    exact (Int64.lt_irrefl this).elim
  · exact g
  · have := hs q p g hp
    rw [h] at this
    exact (Int64.lt_irrefl this).elim
theorem CeQ.sg {R : Nat → CRec} {m : Nat} {T : Nat → Term} {s : MS} {N : Nat → Nat} (hE : CeQ R m T s N) (hs : SortR R m) : ∃ σ τ, SgT R m T s N σ τ := by
  obtain ⟨hN, hA, hB, hD⟩ := hE
  have hcell : ∀ c u, c < 64 → tM s c = true → nM s c = u → m_cell s u = some c := by
    intro c u hc ht hn
    cases e : m_cell s u with
    | none => exact absurd hn (m_cell_n e hc ht)
    | some c' =>
      obtain ⟨h1, h2, h3⟩ := m_cell_s e
      rw [hD c' c h1 hc h2 ht (h3.trans hn.symm)]
  refine ⟨fun p => (m_cell s (k_n (R p))).getD 0, fun c => (q_ix R m (nM s c)).getD 0, hN, fun p hp => ?_, fun c hc ht => ?_⟩
  · obtain ⟨c, hc, ht, hr⟩ := hA p hp
    have e1 := hcell c _ hc ht hr.1
    have e2 : q_ix R m (nM s c) = some p := by rw [hr.1]; exact q_ix_of hs hp
    simp only [e1, Option.getD_some, e2]
    exact ⟨hc, ht, hr, trivial⟩
  · obtain ⟨p, hp, hn⟩ := hB c hc ht
    have e2 : q_ix R m (nM s c) = some p := by rw [hn]; exact q_ix_of hs hp
    have e1 := hcell c _ hc ht hn
    simp only [e2, Option.getD_some, e1]
    exact ⟨hp, trivial⟩
section SGT
variable {R : Nat → CRec} {m : Nat} {T : Nat → Term} {s : MS} {N : Nat → Nat} {σ τ : Nat → Nat}
theorem SgT.ce (hS : SgT R m T s N σ τ) (hs : SortR R m) : CeQ R m T s N := by
  refine ⟨hS.1, fun p hp => ⟨σ p, (hS.2.1 p hp).1, (hS.2.1 p hp).2.1, (hS.2.1 p hp).2.2.1⟩, fun c hc ht => ?_, fun i j hi hj ti tj h => ?_⟩
  · obtain ⟨h1, h2⟩ := hS.2.2 c hc ht
    refine ⟨τ c, h1, ?_⟩
    have := (hS.2.1 _ h1).2.2.1.1
    rw [h2] at this
    exact this
  · obtain ⟨h1, h2⟩ := hS.2.2 i hi ti
    obtain ⟨h3, h4⟩ := hS.2.2 j hj tj
    have a := (hS.2.1 _ h1).2.2.1.1
    have b := (hS.2.1 _ h3).2.2.1.1
    rw [h2] at a
    rw [h4] at b
    have := hs.inj h1 h3 (a.symm.trans (h.trans b))
    rw [← h2, ← h4, this]
theorem SgT.inj (hS : SgT R m T s N σ τ) {p q : Nat} (hp : p < m) (hq : q < m) (h : σ p = σ q) : p = q := by
  rw [← (hS.2.1 p hp).2.2.2, ← (hS.2.1 q hq).2.2.2, h]
theorem SgT.nm (hS : SgT R m T s N σ τ) {p : Nat} (hp : p < m) : nM s (σ p) = k_n (R p) := (hS.2.1 p hp).2.2.1.1
theorem SgT.cs (hS : SgT R m T s N σ τ) (hs : SortR R m) {u : Int64} {p : Nat} (h : q_ix R m u = some p) : m_cell s u = some (σ p) := by
  obtain ⟨hp, hn⟩ := q_ix_some h
  obtain ⟨hc, ht, hr, -⟩ := hS.2.1 p hp
  cases e : m_cell s u with
  | none => exact absurd (hr.1.trans hn) (m_cell_n e hc ht)
  | some c' =>
    obtain ⟨h1, h2, h3⟩ := m_cell_s e
    rw [(hS.ce hs).2.2.2 c' (σ p) h1 hc h2 ht (h3.trans (hr.1.trans hn).symm)]
theorem SgT.cn (hS : SgT R m T s N σ τ) {u : Int64} (h : q_ix R m u = none) : m_cell s u = none := by
  cases e : m_cell s u with
  | none => rfl
  | some c =>
    obtain ⟨h1, h2, h3⟩ := m_cell_s e
    obtain ⟨h4, h5⟩ := hS.2.2 c h1 h2
    have := hS.nm h4
    rw [h5, h3] at this
    exact absurd this.symm (q_ix_none.mp h _ h4)
theorem SgT.res (hS : SgT R m T s N σ τ) (hs : SortR R m) (u : Int64) : resf R m u = m_res s u := by
  cases e : q_ix R m u with
  | none =>
    have e2 := hS.cn e
    unfold resf m_res
    rw [e, e2]
  | some p =>
    have e2 := hS.cs hs e
    unfold resf m_res
    rw [e, e2]
    obtain ⟨-, -, hr, -⟩ := hS.2.1 p (q_ix_some e).1
    obtain ⟨-, -, -, h4, h5, h6, -⟩ := hr
    show (k_k (R p), k_v (R p)) = (s.2.2.1 4 (σ p), if s.2.2.1 4 (σ p) = 1 then s.2.2.2.1 5 (σ p) else 0)
    rw [h4, h5]
    by_cases q : k_k (R p) = 1
    · rw [if_pos q]
    · rw [if_neg q, h6 q]
theorem ment_nm (hT : TreesOK R m T) {p : Nat} (hp : p < m) (u : Int64) : ment R p u ↔ nmIn (T p) u := by
  obtain ⟨ht, PL, hc⟩ := hT p hp
  rw [← Cdx.nmE (T p) ht _ _ _ _ hc u]
  constructor
  · rintro ⟨j, h1, h2⟩; exact ⟨j, Nat.zero_le _, h1, h2⟩
  · rintro ⟨j, -, h1, h2⟩; exact ⟨j, h1, h2⟩
theorem SgT.rd (hS : SgT R m T s N σ τ) {p : Nat} (hp : p < m) (u : Int64) : m_rd s N (σ p) u = true ↔ nmIn (T p) u := (hS.2.1 p hp).2.2.1.2.1.rd u
theorem rdR_ment (hs : SortR R m) {p i : Nat} (hi : i < m) : rdR R m p i ↔ ment R p (k_n (R i)) := by
  constructor
  · rintro ⟨j, h1, h2⟩; exact ⟨j, h1, (q_ix_some h2).2.symm⟩
  · rintro ⟨j, h1, h2⟩; exact ⟨j, h1, by rw [h2]; exact q_ix_of hs hi⟩
theorem SgT.rr (hS : SgT R m T s N σ τ) (hs : SortR R m) (hT : TreesOK R m T) {p i : Nat} (hp : p < m) (hi : i < m) : rdR R m p i ↔ m_rd s N (σ p) (nM s (σ i)) = true := by
  rw [rdR_ment hs hi, ment_nm hT hp, hS.rd hp, hS.nm hi]
theorem SgT.dep (hS : SgT R m T s N σ τ) (hs : SortR R m) (hT : TreesOK R m T) (hm : m ≤ 64) (u : Int64) {p : Nat} (hp : p < m) : DepC R m u p ↔ DepM s N u (σ p) := by
  constructor
  · intro h
    refine (h (fun p => p < m → DepM s N u (σ p)) ⟨fun p hp hme _ => ?_, fun p i hp hi hr hD _ => ?_⟩) hp
    · exact DepM.clo.1 (σ p) (hS.2.1 p hp).1 (hS.2.1 p hp).2.1 ((hS.rd hp u).mpr ((ment_nm hT hp u).mp hme))
    · have him := hr.lt
      exact DepM.clo.2 (σ p) (σ i) (hS.2.1 p hp).1 (hS.2.1 i him).1 (hS.2.1 p hp).2.1 (hD him) ((hS.rr hs hT hp him).mp hr)
  · intro h
    have := h (fun c => c < 64 ∧ tM s c = true ∧ DepC R m u (τ c)) ⟨fun c hc ht hr => ⟨hc, ht, ?_⟩, fun c j hc hj ht hD hr => ⟨hc, ht, ?_⟩⟩
    · rw [(hS.2.1 p hp).2.2.2] at this
      exact this.2.2
    · obtain ⟨h1, h2⟩ := hS.2.2 c hc ht
      rw [← h2] at hr
      exact DepC.clo.1 (τ c) h1 ((ment_nm hT h1 u).mpr ((hS.rd h1 u).mp hr))
    · obtain ⟨h1, h2⟩ := hS.2.2 c hc ht
      obtain ⟨-, tj, dj⟩ := hD
      obtain ⟨h3, h4⟩ := hS.2.2 j hj tj
      rw [← h2, ← h4] at hr
      exact DepC.clo.2 (τ c) (τ j) h1 (by omega) ((hS.rr hs hT h1 h3).mpr hr) dj
/-- a cell and what it needs -/
theorem SgT.need (hS : SgT R m T s N σ τ) (hs : SortR R m) (hT : TreesOK R m T) (hm : m ≤ 64) {x p : Nat} (hx : x < m) (hp : p < m) : NeedC R m (fun p => p < 64 ∧ bt (bt1 x) p = true) p ↔ BelM s N (σ x) (σ p) := by
  have hb : ∀ p, p < 64 → (bt (bt1 x) p = true ↔ p = x) := fun p hp => by rw [bt_bt1 (by omega) hp]; simp
  constructor
  · intro h
    refine (h (fun p => p < m → BelM s N (σ x) (σ p)) ⟨fun p hp _ => ?_, fun p i hp hi hr hD _ => ?_⟩) hp
    · rw [(hb p hp.1).mp hp.2]; exact BelM.clo.1
    · have him := hr.lt
      exact BelM.clo.2 (σ p) (σ i) (hS.2.1 p hp).1 (hS.2.1 i him).1 (hD hp) (hS.2.1 i him).2.1 ((hS.rr hs hT hp him).mp hr)
  · intro h
    have := h (fun c => c < 64 ∧ tM s c = true ∧ NeedC R m (fun p => p < 64 ∧ bt (bt1 x) p = true) (τ c)) ⟨⟨(hS.2.1 x hx).1, (hS.2.1 x hx).2.1, ?_⟩, fun c j hc hj hD ht hr => ⟨hj, ht, ?_⟩⟩
    · rw [(hS.2.1 p hp).2.2.2] at this
      exact this.2.2
    · rw [(hS.2.1 x hx).2.2.2]
      exact NeedC.clo.1 x ⟨by omega, (hb x (by omega)).mpr rfl⟩
    · obtain ⟨-, tc, dc⟩ := hD
      obtain ⟨h1, h2⟩ := hS.2.2 c hc tc
      obtain ⟨h3, h4⟩ := hS.2.2 j hj ht
      rw [← h2, ← h4] at hr
      exact NeedC.clo.2 (τ c) (τ j) h1 (by omega) ((hS.rr hs hT h1 h3).mpr hr) dc
theorem SgT.cnt (hS : SgT R m T s N σ τ) {f g : Nat → Bool} (h : ∀ p, p < m → f p = g (σ p)) (hg : ∀ c, c < 64 → g c = true → tM s c = true) : cnt f m = cnt g 64 := by
  refine cnt_bij (σ := σ) m g (fun p hp hf => ⟨(hS.2.1 p hp).1, by rw [← h p hp]; exact hf⟩) (fun p q hp hq _ _ e => hS.inj hp hq e) fun c hc hc2 => ?_
  obtain ⟨h1, h2⟩ := hS.2.2 c hc (hg c hc hc2)
  exact ⟨τ c, h1, by rw [h _ h1, h2]; exact hc2, h2⟩
def q_stl (r : CRec) (ρ : Int64 → Int32 × Int64) : Bool := !k_w r || anyN (fun i => decide ((k_SK r i, k_SV r i) ≠ ρ (k_NA r i))) (k_N r)
theorem SgT.stl (hS : SgT R m T s N σ τ) (hT : TreesOK R m T) {p : Nat} (hp : p < m) (ρ : Int64 → Int32 × Int64) : q_stl (R p) ρ = m_stl s N ρ (σ p) := by
  obtain ⟨-, -, hr, -⟩ := hS.2.1 p hp
  obtain ⟨-, hTc, h6, -, -, -, hw⟩ := hr
  unfold q_stl m_stl
  rw [h6]
  cases e : k_w (R p) with
  | false => rfl
  | true =>
    obtain ⟨ρ0, w1, w2⟩ := hw e
    show (false || anyN _ _) = (false || anyN _ _)
    rw [Bool.false_or, Bool.false_or, Bool.eq_iff_iff, anyN_iff, anyN_iff]
    constructor
    · rintro ⟨j, hj, hd⟩
      rw [decide_eq_true_eq, w1 j hj] at hd
      have h1 := (hS.rd hp (k_NA (R p) j)).mpr ((ment_nm hT hp _).mp ⟨j, hj, rfl⟩)
      obtain ⟨k, hk, hk2⟩ := anyN_iff.mp h1
      unfold mrf at hk2
      rw [Bool.and_eq_true, decide_eq_true_eq, decide_eq_true_eq] at hk2
      refine ⟨k, hk, ?_⟩
      unfold mvf
      rw [Bool.and_eq_true, decide_eq_true_eq, decide_eq_true_eq]
      refine ⟨hk2.1, ?_⟩
      rw [w2 k hk hk2.1, hk2.2]
      exact hd
    · rintro ⟨k, hk, hd⟩
      unfold mvf at hd
      rw [Bool.and_eq_true, decide_eq_true_eq, decide_eq_true_eq] at hd
      rw [w2 k hk hd.1] at hd
      have h1 : m_rd s N (σ p) (s.2.2.2.1 13 (40 * σ p + k)) = true := anyN_iff.mpr ⟨k, hk, by
        unfold mrf
        rw [Bool.and_eq_true, decide_eq_true_eq, decide_eq_true_eq]
        exact ⟨hd.1, rfl⟩⟩
      obtain ⟨j, hj, ej⟩ := (ment_nm hT hp _).mpr ((hS.rd hp _).mp h1)
      refine ⟨j, hj, ?_⟩
      rw [decide_eq_true_eq, w1 j hj, ej]
      exact hd.2
theorem SgT.sta (hS : SgT R m T s N σ τ) (hs : SortR R m) (hT : TreesOK R m T) {p : Nat} (hp : p < m) : q_stale R m (R p) = m_stale s N (σ p) := by
  have h := hS.stl hT hp (resf R m)
  have e : resf R m = m_res s := funext fun u => hS.res hs u
  rw [e] at h
  have h1 : q_stale R m (R p) = q_stl (R p) (resf R m) := rfl
  have h2 : m_stale s N (σ p) = m_stl s N (m_res s) (σ p) := rfl
  rw [h1, h2, e, h]
theorem SgT.th (hS : SgT R m T s N σ τ) (hs : SortR R m) (hT : TreesOK R m T) (hA : Acyc R m) : ThOK s N (fun c => T (τ c)) := by
  obtain ⟨rk, hrk⟩ := hA
  refine ⟨hS.1, fun c hc ht => ?_, (hS.ce hs).2.2.2, fun c => rk (τ c), fun c j hc hj tc tj hr => ?_⟩
  · obtain ⟨h1, h2⟩ := hS.2.2 c hc ht
    have := (hS.2.1 _ h1).2.2.1.2.1
    rw [h2] at this
    exact this
  · obtain ⟨h1, h2⟩ := hS.2.2 c hc tc
    obtain ⟨h3, h4⟩ := hS.2.2 j hj tj
    rw [← h2, ← h4] at hr
    exact hrk _ h1 _ ((hS.rr hs hT h1 h3).mpr hr)
end SGT
/-- a cell stays the same while its own entries do -/
theorem RecEq.loc {r : CRec} {t : Term} {s s' : MS} {N N' : Nat → Nat} {c : Nat} (h : RecEq r t s N c) (hN : N' c = N c) (h40 : N c ≤ 40) (e3 : nM s' c = nM s c) (e6 : s'.2.2.2.2 6 c = s.2.2.2.2 6 c) (e4 : s'.2.2.1 4 c = s.2.2.1 4 c) (e5 : s'.2.2.2.1 5 c = s.2.2.2.1 5 c) (e7 : s'.2.2.1 7 c = s.2.2.1 7 c) (ek : ∀ k, k < 40 → s'.2.2.1 9 (40 * c + k) = s.2.2.1 9 (40 * c + k) ∧ s'.2.2.1 10 (40 * c + k) = s.2.2.1 10 (40 * c + k) ∧ s'.2.2.1 11 (40 * c + k) = s.2.2.1 11 (40 * c + k) ∧ s'.2.2.1 12 (40 * c + k) = s.2.2.1 12 (40 * c + k) ∧ s'.2.2.2.1 13 (40 * c + k) = s.2.2.2.1 13 (40 * c + k) ∧ s'.2.2.1 14 (40 * c + k) = s.2.2.1 14 (40 * c + k) ∧ s'.2.2.2.1 15 (40 * c + k) = s.2.2.2.1 15 (40 * c + k)) : RecEq r t s' N' c := by
  obtain ⟨h1, ⟨ht, i, PL, hi, hR⟩, h3, h4, h5, h6, h7⟩ := h
  refine ⟨e3.trans h1, ⟨ht, i, PL, e7.trans hi, ?_⟩, e6.trans h3, e4.trans h4, e5.trans h5, h6, fun hw => ?_⟩
  · rw [hN]
    refine Rep.same ht hR fun j _ hj => ?_
    obtain ⟨a1, a2, a3, a4, a5, -, -⟩ := ek j (by omega)
    exact ⟨a1, a2, a3, a4, a5, rfl⟩
  · obtain ⟨ρ, w1, w2⟩ := h7 hw
    refine ⟨ρ, w1, fun k hk h9 => ?_⟩
    rw [hN] at hk
    obtain ⟨a1, a2, a3, a4, a5, a6, a7⟩ := ek k (by omega)
    rw [a1] at h9
    rw [a5, a6, a7]
    exact w2 k hk h9
theorem CeQ.cg {R : Nat → CRec} {m : Nat} {T : Nat → Term} {s s' : MS} {N : Nat → Nat} (h : CeQ R m T s N) (e1 : ∀ j, j < 17 → s'.2.2.1 j = s.2.2.1 j) (e2 : ∀ j, j < 16 → s'.2.2.2.1 j = s.2.2.2.1 j) (e3 : s'.2.2.2.2 = s.2.2.2.2) : CeQ R m T s' N := by
  have et : tM s' = tM s := by unfold tM; rw [e3]
  have en : nM s' = nM s := by unfold nM; rw [e2 3 (by omega)]
  obtain ⟨hN, hA, hB, hD⟩ := h
  refine ⟨fun c hc => by rw [e1 8 (by omega)]; exact hN c hc, fun p hp => ?_, by rw [et, en]; exact hB, by rw [et, en]; exact hD⟩
  obtain ⟨c, hc, ht, hr⟩ := hA p hp
  refine ⟨c, hc, by rw [et]; exact ht, hr.loc rfl (hN c hc).2 (by rw [en]) (by rw [e3]) (by rw [e1 4 (by omega)]) (by rw [e2 5 (by omega)]) (by rw [e1 7 (by omega)]) fun k hk => ?_⟩
  rw [e1 9 (by omega), e1 10 (by omega), e1 11 (by omega), e1 12 (by omega), e2 13 (by omega), e1 14 (by omega), e2 15 (by omega)]
  exact ⟨rfl, rfl, rfl, rfl, rfl, rfl, rfl⟩
/-- all that both hold -/
def EqS (n : Nat) (B : Nat → Int32) (fc : Int32) (m : Nat) (R : Nat → CRec) (T : Nat → Term) (ls : Nat) (tot : Int32) (LT : Nat → Int64) (s : MS) (N : Nat → Nat) : Prop := MT s B n ∧ s.1 3 = fc ∧ s.1 19 = tot ∧ s.1 21 = nI ls ∧ (∀ i, i < ls → s.2.2.2.1 16 i = LT i) ∧ CeQ R m T s N
theorem EqS.fix {n : Nat} {B : Nat → Int32} {fc : Int32} {m : Nat} {R : Nat → CRec} {T : Nat → Term} {ls : Nat} {tot : Int32} {LT : Nat → Int64} {s s' : MS} {N : Nat → Nat} {v : Int32} (h : EqS n B fc m R T ls tot LT s N) (hF : FixN s s') : EqS n B fc m R T ls tot LT (mi s' 0 v) N := by
  obtain ⟨h1, h2, h3, h4, h5, h6⟩ := h
  obtain ⟨f1, f2, f3⟩ := hF
  have e : ∀ k, k ≠ 0 → k ≠ 22 → k ≠ 23 → k ≠ 24 → (mi s' 0 v).1 k = s.1 k := fun k k0 k1 k2 k3 => by
    show jm_up s'.1 0 v k = _
    unfold jm_up
    rw [if_neg k0]
    exact f1 k k1 k2 k3
  have e2 : (mi s' 0 v).2.2 = s.2.2 := f3
  refine ⟨⟨(e 2 (by decide) (by decide) (by decide) (by decide)).trans h1.1, h1.2.1, by rw [e2]; exact h1.2.2⟩, (e 3 (by decide) (by decide) (by decide) (by decide)).trans h2, (e 19 (by decide) (by decide) (by decide) (by decide)).trans h3, (e 21 (by decide) (by decide) (by decide) (by decide)).trans h4, by rw [e2]; exact h5, h6.cg (by rw [e2]; exact fun _ _ => rfl) (by rw [e2]; exact fun _ _ => rfl) (by rw [e2])⟩
theorem EqS.thr {n : Nat} {B : Nat → Int32} {fc : Int32} {m : Nat} {R : Nat → CRec} {T : Nat → Term} {ls : Nat} {tot : Int32} {LT : Nat → Int64} {s : MS} {N : Nat → Nat} {v : Int32} (h : EqS n B fc m R T ls tot LT s N) : EqS n B fc m R T ls tot LT (mi s 0 v) N := h.fix ⟨fun _ _ _ _ => rfl, fun _ _ => rfl, rfl⟩
/-- the text gets shorter -/
theorem EqS.len {n j : Nat} {B : Nat → Int32} {fc : Int32} {m : Nat} {R : Nat → CRec} {T : Nat → Term} {ls : Nat} {tot : Int32} {LT : Nat → Int64} {s : MS} {N : Nat → Nat} (h : EqS n B fc m R T ls tot LT s N) (hj : j ≤ n) : EqS j B fc m R T ls tot LT (mi s 2 (nI j)) N := by
  obtain ⟨h1, h2, h3, h4, h5, h6⟩ := h
  exact ⟨⟨by simp [mi, jm_up], by have := h1.2.1; omega, fun i hi => h1.2.2 i (by omega)⟩, h2, h3, h4, h5, h6.cg (fun _ _ => rfl) (fun _ _ => rfl) rfl⟩
theorem EqS.feed {n : Nat} {B : Nat → Int32} {fc : Int32} {m : Nat} {R : Nat → CRec} {T : Nat → Term} {ls : Nat} {tot : Int32} {LT : Nat → Int64} {s : MS} {N : Nat → Nat} {wa wb wc wd we : Int32} (h : EqS n B fc m R T ls tot LT s N) (hr : n + 20 ≤ 2000) : EqS (n + 20) (q_feed B n wa wb wc wd we) fc m R T ls tot LT (m_feed s n wa wb wc wd we) N := by
  obtain ⟨h1, h2, h3, h4, h5, h6⟩ := h
  have e1 : ∀ k, k ≠ 0 → k ≠ 2 → (m_feed s n wa wb wc wd we).1 k = s.1 k := fun k k0 k2 => by
    unfold m_feed
    simp [mi, mai, jm_up, k0, k2]
  have e2 : ∀ j, j ≠ 1 → (m_feed s n wa wb wc wd we).2.2.1 j = s.2.2.1 j := fun j hj => by
    unfold m_feed
    simp [mi, mai, jm_up, hj]
  have e3 : (m_feed s n wa wb wc wd we).2.2.2 = s.2.2.2 := rfl
  have e4 : ∀ j, (m_feed s n wa wb wc wd we).2.2.2.1 j = s.2.2.2.1 j := fun j => by rw [e3]
  refine ⟨mt_feed h1 hr, (e1 3 (by decide) (by decide)).trans h2, (e1 19 (by decide) (by decide)).trans h3, (e1 21 (by decide) (by decide)).trans h4, by rw [e3]; exact h5, ?_⟩
  obtain ⟨hN, hA, hB, hD⟩ := h6
  have et : tM (m_feed s n wa wb wc wd we) = tM s := by unfold tM; rw [e3]
  have en : nM (m_feed s n wa wb wc wd we) = nM s := by unfold nM; rw [e3]
  refine ⟨fun c hc => by rw [e2 8 (by decide)]; exact hN c hc, fun p hp => ?_, by rw [et, en]; exact hB, by rw [et, en]; exact hD⟩
  obtain ⟨c, hc, ht, hr9⟩ := hA p hp
  refine ⟨c, hc, by rw [et]; exact ht, hr9.loc rfl (hN c hc).2 (by rw [en]) (by rw [e3]) (by rw [e2 4 (by decide)]) (by rw [e3]) (by rw [e2 7 (by decide)]) fun k hk => ?_⟩
  rw [e2 9 (by decide), e2 10 (by decide), e2 11 (by decide), e2 12 (by decide), e3, e2 14 (by decide)]
  exact ⟨rfl, rfl, rfl, rfl, rfl, rfl, rfl⟩
