/-! building gives the same on both sides; so does removing -/
theorem m_cell_e {s z : MS} (h1 : tM s = tM z) (h2 : nM s = nM z) (u : Int64) : m_cell s u = m_cell z u := by
  have : mcf s u = mcf z u := by
    funext c
    unfold mcf
    rw [h1, h2]
  unfold m_cell
  rw [this]
section BLD
variable {R R' : Nat → CRec} {m : Nat} {T : Nat → Term} {z s' : MS} {N : Nat → Nat} {σ τ : Nat → Nat} {all wo set wo' : Int64}
/-- the same cells are worked out, to the same results -/
def SmP (R' : Nat → CRec) (s' : MS) (σ : Nat → Nat) (wo wo' : Int64) (p : Nat) : Prop := bt wo p = bt wo' (σ p) ∧ s'.2.2.1 4 (σ p) = k_k (R' p) ∧ s'.2.2.2.1 5 (σ p) = k_v (R' p) ∧ (k_k (R' p) ≠ 1 → k_v (R' p) = 0)
theorem smp_res (hm : m ≤ 64) (hs : SortR R m) (hS : SgT R m T z N σ τ) (hB : BI m T R R' all all wo) (hM : BIM z s' N (fun c => T (τ c)) set 0 wo') (u : Int64) (H : ∀ i, q_ix R m u = some i → SmP R' s' σ wo wo' i) : resf R' m u = m_res s' u := by
  have hix : q_ix R' m u = q_ix R m u := q_ix_congr fun p hp => (hB.same hm p hp).2.2.1
  have hce : m_cell s' u = m_cell z u := m_cell_e hM.1.tM hM.1.nM u
  cases e : q_ix R m u with
  | none =>
    unfold resf m_res
    rw [hix, hce, e, hS.cn e]
  | some i =>
    obtain ⟨-, h4, h5, h6⟩ := H i e
    unfold resf m_res
    rw [hix, hce, e, hS.cs hs e]
    show (k_k (R' i), k_v (R' i)) = (s'.2.2.1 4 (σ i), if s'.2.2.1 4 (σ i) = 1 then s'.2.2.2.1 5 (σ i) else 0)
    rw [h4, h5]
    by_cases q : k_k (R' i) = 1
    · rw [if_pos q]
    · rw [if_neg q, h6 q]
theorem smp_all (hm : m ≤ 64) (hs : SortR R m) (hT : TreesOK R m T) (hA : Acyc R m) (hS : SgT R m T z N σ τ) (hB : BI m T R R' all all wo) (hM : BIM z s' N (fun c => T (τ c)) set 0 wo') (hall : ∀ p, p < m → (bt all p = true ↔ bt set (σ p) = true)) : ∀ p, p < m → SmP R' s' σ wo wo' p := by
  obtain ⟨rk, hrk⟩ := hA
  obtain ⟨hSt, -, hwo, -, hrc, hfr, hwk, -, -, -⟩ := id hM
  obtain ⟨-, b2, -, b4⟩ := id hB
  have main : ∀ t p, rk p < t → p < m → SmP R' s' σ wo wo' p := by
    intro t
    induction t with
    | zero => intro p h; omega
    | succ t ih =>
      intro p hrp hp
      obtain ⟨hc, ht, hr, hτ⟩ := hS.2.1 p hp
      obtain ⟨p1, p2, p3⟩ := b4 p hp
      have same : bt wo p = false → bt wo' (σ p) = false → R' p = R p → SmP R' s' σ wo wo' p := by
        intro w1 w2 e
        obtain ⟨r1, r2, -, -⟩ := hrc (σ p) hc w2
        obtain ⟨-, -, -, h4, h5, h6, -⟩ := hr
        exact ⟨w1.trans w2.symm, by rw [r1, e]; exact h4, by rw [r2, e]; exact h5, by rw [e]; exact h6⟩
      cases ea : bt all p with
      | false =>
        have w1 : bt wo p = false := by
          cases e : bt wo p with
          | false => rfl
          | true => have := b2 p (by omega) e; rw [ea] at this; cases this
        have w2 : bt wo' (σ p) = false := by
          cases e : bt wo' (σ p) with
          | false => rfl
          | true => have := (hall p hp).mpr (hwo _ hc e).1; rw [ea] at this; cases this
        exact same w1 w2 (p1 ea)
      | true =>
        have hset := (hall p hp).mp ea
        have hres : ∀ u, nmIn (T p) u → resf R' m u = m_res s' u := fun u hu => smp_res hm hs hS hB hM u fun i hi => by
          obtain ⟨him, hn⟩ := q_ix_some hi
          have hrd : rdR R m p i := (rdR_ment hs him).mpr ((ment_nm hT hp _).mpr (by rw [hn]; exact hu))
          exact ih i (by have := hrk p hp i hrd; omega) him
        have hst : q_stale R' m (R p) = m_stl z N (m_res s') (σ p) := by
          have h1 : q_stale R' m (R p) = q_stl (R p) (resf R' m) := rfl
          rw [h1, hS.stl hT hp]
          exact m_stl_cg fun u hu => hres u ((hS.rd hp u).mp hu)
        have ho : bt (0 : Int64) (σ p) = false := bt_zero _
        cases ew : bt wo p with
        | false =>
          obtain ⟨e1, e2⟩ := p2 ea ew
          have w2 : bt wo' (σ p) = false := by
            cases e : bt wo' (σ p) with
            | false => rfl
            | true => have := (hwk _ hc e).1; rw [← hst, e2] at this; cases this
          exact same ew w2 e1
        | true =>
          obtain ⟨e1, SK, SV, -, e3⟩ := p3 ew
          have w2 : bt wo' (σ p) = true := by
            cases e : bt wo' (σ p) with
            | true => rfl
            | false => have := hfr _ hc hset ho e; rw [← hst, e1] at this; cases this
          obtain ⟨-, e4, -, -⟩ := hwk _ hc w2
          have ht2 := (hT p hp).1
          have hev : ev (resf R' m) (T p) = ev (m_res s') (T p) := ev_nm (T p) ht2 hres
          have e4 : (s'.2.2.1 4 (σ p), s'.2.2.2.1 5 (σ p)) = ev (m_res s') (T (τ (σ p))) := e4
          rw [hτ, ← hev] at e4
          have k1 : k_k (R' p) = (ev (resf R' m) (T p)).1 := by rw [e3]; rfl
          have k2 : k_v (R' p) = (ev (resf R' m) (T p)).2 := by rw [e3]; rfl
          refine ⟨ew.trans w2.symm, by rw [k1, ← e4], by rw [k2, ← e4], fun h => ?_⟩
          rw [k1] at h
          rw [k2]
          exact (ev_err0 (T p) ht2 h).1
  exact fun p hp => main (rk p + 1) p (by omega) hp
theorem build_eq (hm : m ≤ 64) (hs : SortR R m) (hT : TreesOK R m T) (hA : Acyc R m) (hS : SgT R m T z N σ τ) (hB : BI m T R R' all all wo) (hM : BIM z s' N (fun c => T (τ c)) set 0 wo') (hall : ∀ p, p < m → (bt all p = true ↔ bt set (σ p) = true)) (hset : ∀ c, c < 64 → bt set c = true → tM z c = true) (LT : Nat → Int64) : CeQ R' m T s' N ∧ cnt (bt wo) m = cnt (bt wo') 64 ∧ ∀ i, i < cnt (bt wo) m → s'.2.2.2.1 16 i = q_kl R' wo LT m i := by
  have hP := smp_all hm hs hT hA hS hB hM hall
  obtain ⟨hSt, -, hwo, -, hrc, hfr, hwk, -, -, hnb⟩ := id hM
  obtain ⟨-, b2, -, b4⟩ := id hB
  have hsame := hB.same hm
  have hs' : SortR R' m := hs.congr fun p hp => (hsame p hp).2.2.1
  have hres : resf R' m = m_res s' := funext fun u => smp_res hm hs hS hB hM u fun i hi => hP i (q_ix_some hi).1
  have hcn : cnt (bt wo) m = cnt (bt wo') 64 := hS.cnt (fun p hp => (hP p hp).1) fun c hc hw => hset c hc (hwo c hc hw).1
  have e9 : s'.2.2.1 9 = z.2.2.1 9 := hSt.2.2.1 9 (by decide) (by decide) (by decide) (by decide)
  have e13 : s'.2.2.2.1 13 = z.2.2.2.1 13 := hSt.2.2.2.1 13 (by decide) (by decide) (by decide) (by decide)
  refine ⟨⟨hSt.nc hS.1, fun p hp => ?_, fun c hc ht => ?_, ?_⟩, hcn, ?_⟩
  · obtain ⟨hc, ht, hr, hτ⟩ := hS.2.1 p hp
    obtain ⟨h1, h2, h3, h4, h5, h6, h7⟩ := hr
    obtain ⟨q1, q2, q3, q4⟩ := hP p hp
    obtain ⟨p1, p2, p3⟩ := b4 p hp
    obtain ⟨-, -, sn, -, sN, -, -, sA⟩ := hsame p hp
    refine ⟨σ p, hc, by rw [hSt.tM]; exact ht, by rw [hSt.nM, sn]; exact h1, hSt.tc h2, ?_, q2, q3, q4, ?_⟩
    · cases ew : bt wo p with
      | false =>
        have w2 : bt wo' (σ p) = false := q1.symm.trans ew
        have eR : R' p = R p := by
          cases ea : bt all p with
          | false => exact p1 ea
          | true => exact (p2 ea ew).1
        rw [(hrc _ hc w2).2.2.1, eR]
        exact h3
      | true =>
        obtain ⟨-, SK, SV, -, e3⟩ := p3 ew
        rw [(hwk _ hc (q1.symm.trans ew)).2.2.1, e3]
        rfl
    · intro hw
      cases ew : bt wo p with
      | false =>
        have w2 : bt wo' (σ p) = false := q1.symm.trans ew
        have eR : R' p = R p := by
          cases ea : bt all p with
          | false => exact p1 ea
          | true => exact (p2 ea ew).1
        rw [eR] at hw ⊢
        obtain ⟨ρ, w3, w4⟩ := h7 hw
        refine ⟨ρ, w3, fun k hk h9 => ?_⟩
        obtain ⟨a1, a2⟩ := (hrc _ hc w2).2.2.2 k hk
        rw [e9] at h9
        rw [a1, a2, e13]
        exact w4 k hk h9
      | true =>
        obtain ⟨-, SK, SV, e2, e3⟩ := p3 ew
        refine ⟨m_res s', fun j hj => ?_, fun k hk h9 => ?_⟩
        · rw [sN] at hj
          have := e2 j hj
          rw [hres] at this
          rw [sA, ← this, e3]
          rfl
        · rw [e9] at h9
          rw [e13]
          exact (hwk _ hc (q1.symm.trans ew)).2.2.2 k hk h9
  · rw [hSt.tM] at ht
    obtain ⟨h1, h2⟩ := hS.2.2 c hc ht
    refine ⟨τ c, h1, ?_⟩
    rw [hSt.nM, (hsame _ h1).2.2.1, ← hS.nm h1, h2]
  · rw [hSt.tM, hSt.nM]
    exact (hS.ce hs).2.2.2
  · obtain ⟨n1, n2, n3⟩ := hnb
    obtain ⟨k1, k2, k3⟩ := kl_spec (LT := LT) (wo := wo) hs' m (Nat.le_refl _)
    rw [← hcn] at n1 n2 n3
    intro i hi
    refine srt_eq n1 k1 (fun i hi => ?_) (fun j hj => ?_) (i + 1) i (by omega) hi
    · obtain ⟨c, hc, hw, e⟩ := n2 i hi
      obtain ⟨h1, h2⟩ := hS.2.2 c hc (hset c hc (hwo c hc hw).1)
      obtain ⟨j, hj, e2⟩ := k3 (τ c) h1 (by rw [(hP _ h1).1, h2]; exact hw)
      exact ⟨j, hj, by rw [e, e2, (hsame _ h1).2.2.1, ← hS.nm h1, h2]⟩
    · obtain ⟨q, hq, hw, e⟩ := k2 j hj
      obtain ⟨i, hi, e2⟩ := n3 (σ q) (hS.2.1 q hq).1 (by rw [← (hP q hq).1]; exact hw)
      exact ⟨i, hi, by rw [e, e2, (hsame _ hq).2.2.1, hS.nm hq]⟩
end BLD
/-- a cell goes on both sides -/
theorem CeQ.drop {R : Nat → CRec} {m K : Nat} {T : Nat → Term} {s : MS} {N : Nat → Nat} {σ τ : Nat → Nat} (hS : SgT R m T s N σ τ) (hs : SortR R m) (hK : K < m) : CeQ (delR R K) (m - 1) (fun p => if p < K then T p else T (p + 1)) (maz s 2 (σ K) false) N := by
  have hc := hS.ce hs
  have tm : ∀ c, tM (maz s 2 (σ K) false) c = true ↔ tM s c = true ∧ c ≠ σ K := fun c => by
    show (jm_up s.2.2.2.2 2 (jm_up (s.2.2.2.2 2) (σ K) false) 2 c = true) ↔ _
    simp only [jm_up, if_true]
    by_cases q : c = σ K
    · simp [q]
    · rw [if_neg q]; exact ⟨fun h => ⟨h, q⟩, fun h => h.1⟩
  have e6 : ∀ c, (maz s 2 (σ K) false).2.2.2.2 6 c = s.2.2.2.2 6 c := fun c => by simp [maz, jm_up]
  have old : ∀ p, p < m - 1 → ∃ q, q < m ∧ q ≠ K ∧ delR R K p = R q ∧ (if p < K then T p else T (p + 1)) = T q := fun p hp => by
    unfold delR
    by_cases h : p < K
    · exact ⟨p, by omega, by omega, by rw [if_pos h], by rw [if_pos h]⟩
    · exact ⟨p + 1, by omega, by omega, by rw [if_neg h], by rw [if_neg h]⟩
  refine ⟨hS.1, fun p hp => ?_, fun c hc1 ht => ?_, fun i j hi hj ti tj h => ?_⟩
  · obtain ⟨q, hq, hne, e1, e2⟩ := old p hp
    obtain ⟨h1, h2, h3, -⟩ := hS.2.1 q hq
    refine ⟨σ q, h1, (tm _).mpr ⟨h2, fun e => hne (hS.inj hq hK e)⟩, ?_⟩
    show RecEq (delR R K p) (if p < K then T p else T (p + 1)) _ _ _
    rw [e1, e2]
    exact h3.loc rfl (hS.1 _ h1).2 rfl (e6 _) rfl rfl rfl fun k hk => ⟨rfl, rfl, rfl, rfl, rfl, rfl, rfl⟩
  · obtain ⟨t1, t2⟩ := (tm c).mp ht
    obtain ⟨h1, h2⟩ := hS.2.2 c hc1 t1
    have hne : τ c ≠ K := fun e => t2 (by rw [← h2, e])
    have hn : nM (maz s 2 (σ K) false) c = k_n (R (τ c)) := by
      rw [← hS.nm h1, h2]
      rfl
    by_cases q : τ c < K
    · exact ⟨τ c, by omega, by unfold delR; rw [if_pos q]; exact hn⟩
    · refine ⟨τ c - 1, by omega, ?_⟩
      unfold delR
      rw [if_neg (by omega), show τ c - 1 + 1 = τ c by omega]
      exact hn
  · exact hc.2.2.2 i j hi hj ((tm i).mp ti).1 ((tm j).mp tj).1 h
