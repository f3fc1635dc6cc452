/-! defining comes to the same on both sides -/
theorem i32_lt {a b : Int32} : a < b ↔ a.toInt < b.toInt := Int32.lt_iff_toInt_lt
theorem i32_le {a b : Int32} : a ≤ b ↔ a.toInt ≤ b.toInt := Int32.le_iff_toInt_le
theorem m_fst_spec {s : MS} {x all : Int64} : ∀ k, (∀ j, j < k → bkM s x all j = true → 0 ≤ s.2.2.1 22 j) → (m_fst s x all k < 0 → ∀ j, j < k → bkM s x all j = false) ∧ (¬ m_fst s x all k < 0 → (∃ j, j < k ∧ bkM s x all j = true ∧ s.2.2.1 22 j = m_fst s x all k) ∧ ∀ j, j < k → bkM s x all j = true → m_fst s x all k ≤ s.2.2.1 22 j)
  | 0, _ => ⟨fun _ j hj => by omega, fun h => absurd (by decide : (-1 : Int32) < 0) h⟩
  | k + 1, h => by
    obtain ⟨i1, i2⟩ := m_fst_spec (s := s) (x := x) (all := all) k fun j hj hb => h j (by omega) hb
    cases e : bkM s x all k with
    | false =>
      rw [← m_fst_f e]
      refine ⟨fun hn j hj => ?_, fun hn => ?_⟩
      · by_cases q : j = k
        · rw [q]; exact e
        · exact i1 hn j (by omega)
      · obtain ⟨⟨j, hj, h1, h2⟩, h3⟩ := i2 hn
        refine ⟨⟨j, by omega, h1, h2⟩, fun j hj hb => ?_⟩
        have : j ≠ k := fun q => by rw [q, e] at hb; cases hb
        exact h3 j (by omega) hb
    | true =>
      have hk := h k (by omega) e
      by_cases q : m_fst s x all k < 0 ∨ s.2.2.1 22 k < m_fst s x all k
      · rw [← m_fst_t e q]
        refine ⟨fun hn => ?_, fun hn => ⟨⟨k, by omega, e, rfl⟩, fun j hj hb => ?_⟩⟩
        · rw [i32_lt] at hn; rw [i32_le] at hk; omega
        · by_cases z : j = k
          · rw [z]; exact Int32.le_refl _
          · rcases q with q | q
            · have := i1 q j (by omega)
              rw [this] at hb
              cases hb
            · by_cases q0 : m_fst s x all k < 0
              · have := i1 q0 j (by omega)
                rw [this] at hb
                cases hb
              · have := (i2 q0).2 j (by omega) hb
                rw [i32_lt] at q
                rw [i32_le] at this ⊢
                omega
      · have q1 : ¬ m_fst s x all k < 0 := fun z => q (Or.inl z)
        have q2 : ¬ s.2.2.1 22 k < m_fst s x all k := fun z => q (Or.inr z)
        rw [← m_fst_n q1 q2]
        refine ⟨fun hn => absurd hn q1, fun _ => ?_⟩
        obtain ⟨⟨j, hj, h1, h2⟩, h3⟩ := i2 q1
        refine ⟨⟨j, by omega, h1, h2⟩, fun j hj hb => ?_⟩
        by_cases z : j = k
        · rw [z]
          rw [i32_lt] at q2
          rw [i32_le]
          omega
        · exact h3 j (by omega) hb
/-- the first name that closes a circle stands at the least such place -/
theorem circ_eq {s : MS} {x all : Int64} {t : Term} {i0 kc n N : Nat} {NA : Nat → Int64} {PL : Nat → Int32} {bk : Int64 → Prop} (hR : RepS s t i0 0 kc) (hC : CdN NA PL 0 N (nms t)) (hP : Srl 0 n (nms t)) (hn : n ≤ 2000) (hbk : ∀ k, bkM s x all k = true ↔ s.2.2.1 17 k = 1 ∧ bk (s.2.2.2.1 21 k)) : ((∀ i, i < N → ¬ bk (NA i)) → m_fst s x all kc < 0) ∧ ∀ i, i < N → (∀ j, j < i → ¬ bk (NA j)) → bk (NA i) → ¬ m_fst s x all kc < 0 ∧ m_fst s x all kc = PL i := by
  obtain ⟨ht, hRep⟩ := hR
  have hset := Rep.nmsE t ht _ _ _ hRep
  obtain ⟨hN, hat⟩ := hC
  rw [Nat.zero_add] at hN
  have el : ∀ i, (hi : i < N) → NA i = ((nms t)[i]'(by omega)).1 ∧ PL i = nI ((nms t)[i]'(by omega)).2 ∧ ((nms t)[i]'(by omega)).2 ≤ 2000 := by
    intro i hi
    have h1 := hat i ((nms t)[i]'(by omega)).1 ((nms t)[i]'(by omega)).2 (List.getElem?_eq_getElem (by omega))
    rw [Nat.zero_add] at h1
    have h2 := hP.2 _ (List.getElem_mem (l := nms t) (n := i) (by omega))
    exact ⟨h1.1, h1.2, by omega⟩
  have ix : ∀ u p, (u, p) ∈ nms t → ∃ j, ∃ hj : j < N, (nms t)[j]'(by omega) = (u, p) := by
    intro u p h
    obtain ⟨j, hj, e⟩ := List.getElem_of_mem h
    exact ⟨j, by omega, e⟩
  have nd : ∀ k, k < kc → bkM s x all k = true → ∃ j, ∃ hj : j < N, bk (NA j) ∧ s.2.2.1 22 k = PL j := by
    intro k hk hb
    obtain ⟨h1, h2⟩ := (hbk k).mp hb
    obtain ⟨p, hp, e⟩ := (hset (s.2.2.2.1 21 k) (s.2.2.1 22 k)).mp ⟨k, Nat.zero_le _, hk, h1, rfl, rfl⟩
    obtain ⟨j, hj, ej⟩ := ix _ _ hp
    obtain ⟨a1, a2, -⟩ := el j hj
    rw [ej] at a1 a2
    exact ⟨j, hj, by rw [a1]; exact h2, by rw [e, a2]⟩
  have nd2 : ∀ j, j < N → bk (NA j) → ∃ k, k < kc ∧ bkM s x all k = true ∧ s.2.2.1 22 k = PL j := by
    intro j hj hb
    obtain ⟨a1, a2, -⟩ := el j hj
    have hm : (NA j, ((nms t)[j]'(by omega)).2) ∈ nms t := by
      rw [a1]
      exact List.getElem_mem (l := nms t) (n := j) (by omega)
    obtain ⟨k, -, hk, h1, h2, h3⟩ := (hset (NA j) (PL j)).mpr ⟨_, hm, a2⟩
    exact ⟨k, hk, (hbk k).mpr ⟨h1, by rw [h2]; exact hb⟩, h3⟩
  have nn : ∀ p, p ≤ 2000 → (nI p).toInt = (p : Int) := fun p hp => by
    have := (by decide +kernel : ∀ p : Fin 2001, (nI p.val).toInt = (p.val : Int)) ⟨p, by omega⟩
    exact this
  have sp := m_fst_spec (s := s) (x := x) (all := all) kc fun k hk hb => by
    obtain ⟨j, hj, -, e⟩ := nd k hk hb
    obtain ⟨-, a2, a3⟩ := el j hj
    rw [e, a2, i32_le, nn _ a3]
    show (0 : Int) ≤ _
    omega
  refine ⟨fun h => ?_, fun i hi h1 h2 => ?_⟩
  · by_cases q : m_fst s x all kc < 0
    · exact q
    · obtain ⟨⟨k, hk, hb, -⟩, -⟩ := sp.2 q
      obtain ⟨j, hj, hbj, -⟩ := nd k hk hb
      exact absurd hbj (h j hj)
  · obtain ⟨k, hk, hb, ek⟩ := nd2 i hi h2
    have q : ¬ m_fst s x all kc < 0 := fun z => by
      have := sp.1 z k hk
      rw [hb] at this
      cases this
    refine ⟨q, ?_⟩
    obtain ⟨⟨k', hk', hb', e'⟩, hle⟩ := sp.2 q
    have l1 := hle k hk hb
    obtain ⟨j, hj, hbj, ej⟩ := nd k' hk' hb'
    have hij : i ≤ j := by
      rcases Nat.lt_or_ge j i with z | z
      · exact absurd hbj (h1 j z)
      · exact z
    obtain ⟨-, a2, a3⟩ := el i hi
    obtain ⟨-, b2, b3⟩ := el j hj
    by_cases z : i = j
    · rw [← e', ej, z]
    · have hpw := (List.pairwise_iff_getElem.mp hP.1) i j (by omega) (by omega) (by omega)
      rw [← e', ej, ek, a2, b2, i32_le, nn _ a3, nn _ b3] at l1
      rw [← e', ej, a2, b2]
      congr 1
      omega
section NEWP
variable {zb s' : MS} {c kc : Nat} {N : Nat → Nat}
theorem newp_i (h : NewP zb s' c kc) {j : Nat} (h9 : j ≠ 9) (h10 : j ≠ 10) (h11 : j ≠ 11) (h12 : j ≠ 12) (h7 : j ≠ 7) (h8 : j ≠ 8) : s'.2.2.1 j = zb.2.2.1 j := by
  rw [h.2.2.1 j h9 h10 h11 h12]
  simp [m_hd, mai, maz, jm_up, h7, h8]
theorem newp_l (h : NewP zb s' c kc) {j : Nat} (h13 : j ≠ 13) : s'.2.2.2.1 j = zb.2.2.2.1 j := h.2.2.2.1 j h13
theorem newp_7 (h : NewP zb s' c kc) (c' : Nat) : s'.2.2.1 7 c' = if c' = c then zb.2.2.1 25 0 else zb.2.2.1 7 c' := by
  rw [h.2.2.1 7 (by decide) (by decide) (by decide) (by decide)]
  simp [m_hd, mai, maz, jm_up]
theorem newp_8 (h : NewP zb s' c kc) (c' : Nat) : s'.2.2.1 8 c' = if c' = c then nI kc else zb.2.2.1 8 c' := by
  rw [h.2.2.1 8 (by decide) (by decide) (by decide) (by decide)]
  simp [m_hd, mai, maz, jm_up]
theorem newp_6 (h : NewP zb s' c kc) (c' : Nat) : s'.2.2.2.2 6 c' = if c' = c then false else zb.2.2.2.2 6 c' := by
  rw [h.2.2.2.2.1]
  simp [m_hd, mai, maz, jm_up]
theorem newp_t (h : NewP zb s' c kc) : tM s' = tM zb := by
  funext c'
  unfold tM
  rw [h.2.2.2.2.1]
  simp [m_hd, mai, maz, jm_up]
theorem newp_n (h : NewP zb s' c kc) : nM s' = nM zb := by
  unfold nM
  rw [newp_l h (by decide)]
theorem newp_nc (h : NewP zb s' c kc) (hk : kc ≤ 40) (hN : NcOK zb N) : NcOK s' (jm_up N c kc) := by
  intro c' hc'
  rw [newp_8 h]
  unfold jm_up
  by_cases q : c' = c
  · rw [if_pos q, if_pos q]; exact ⟨rfl, hk⟩
  · rw [if_neg q, if_neg q]; exact hN c' hc'
theorem newp_oth (h : NewP zb s' c kc) (hk : kc ≤ 40) {c' : Nat} (hne : c' ≠ c) {r : CRec} {t : Term} (hr : RecEq r t zb N c') (h40 : N c' ≤ 40) : RecEq r t s' (jm_up N c kc) c' := by
  refine hr.loc (by unfold jm_up; rw [if_neg hne]) h40 (by rw [newp_n h]) (by rw [newp_6 h, if_neg hne]) (by rw [newp_i h (by decide) (by decide) (by decide) (by decide) (by decide) (by decide)]) (by rw [newp_l h (by decide)]) (by rw [newp_7 h, if_neg hne]) fun k hk4 => ?_
  obtain ⟨a1, a2, a3, a4, a5⟩ := h.2.2.2.2.2.1 (40 * c' + k) (fun q => by
    have : c' < c ∨ c < c' := by omega
    omega)
  have z : ∀ j, j ≠ 7 → j ≠ 8 → (m_hd zb c kc).2.2.1 j = zb.2.2.1 j := fun j h7 h8 => by simp [m_hd, mai, maz, jm_up, h7, h8]
  rw [z 9 (by decide) (by decide)] at a1
  rw [z 10 (by decide) (by decide)] at a2
  rw [z 11 (by decide) (by decide)] at a3
  rw [z 12 (by decide) (by decide)] at a4
  exact ⟨a1, a2, a3, a4, a5, by rw [newp_i h (by decide) (by decide) (by decide) (by decide) (by decide) (by decide)], by rw [newp_l h (by decide)]⟩
theorem newp_own (h : NewP zb s' c kc) {t : Term} {i : Nat} (hR : RepS zb t i 0 kc) (hi : zb.2.2.1 25 0 = nI i) {A f L M : Nat} {nm : Int64} {kd : Int32} {v : Int64} {ST DT : Nat → Int32} {NA : Nat → Int64} {SK : Nat → Int32} {SV : Nat → Int64} (hn : nM zb c = nm) (h4 : zb.2.2.1 4 c = kd) (h5 : zb.2.2.2.1 5 c = v) (h6 : kd ≠ 1 → v = 0) : RecEq (newRec A f nm kd v L M ST DT NA SK SV) t s' (jm_up N c kc) c := by
  have z : ∀ j, j ≠ 7 → j ≠ 8 → (m_hd zb c kc).2.2.1 j = zb.2.2.1 j := fun j h7 h8 => by simp [m_hd, mai, maz, jm_up, h7, h8]
  refine ⟨by rw [newp_n h]; exact hn, ⟨hR.1, i, zb.2.2.1 22, by rw [newp_7 h, if_pos rfl]; exact hi, ?_⟩, by rw [newp_6 h, if_pos rfl]; rfl, by rw [newp_i h (by decide) (by decide) (by decide) (by decide) (by decide) (by decide)]; exact h4, by rw [newp_l h (by decide)]; exact h5, h6, fun hw => by cases hw⟩
  have e : jm_up N c kc c = kc := by unfold jm_up; rw [if_pos rfl]
  rw [e]
  refine Rep.same hR.1 hR.2 fun j _ hj => ?_
  obtain ⟨a1, a2, a3, a4, a5⟩ := h.2.2.2.2.2.2 j hj
  rw [z 17 (by decide) (by decide)] at a1
  rw [z 18 (by decide) (by decide)] at a2
  rw [z 19 (by decide) (by decide)] at a3
  rw [z 20 (by decide) (by decide)] at a4
  exact ⟨a1, a2, a3, a4, a5, rfl⟩
end NEWP
/-- a cell gets another formula, on both sides -/
theorem CeQ.redef {R : Nat → CRec} {m p : Nat} {T : Nat → Term} {zb s' : MS} {N : Nat → Nat} {σ τ : Nat → Nat} {kc i : Nat} {t : Term} (hS : SgT R m T zb N σ τ) (hs : SortR R m) (hp : p < m) (h : NewP zb s' (σ p) kc) (hk : kc ≤ 40) (hR : RepS zb t i 0 kc) (hi : zb.2.2.1 25 0 = nI i) {f L M : Nat} {ST DT : Nat → Int32} {NA : Nat → Int64} {SK : Nat → Int32} {SV : Nat → Int64} : CeQ (upR R p (newRec (k_a (R p)) f (k_n (R p)) (k_k (R p)) (k_v (R p)) L M ST DT NA SK SV)) m (fun q => if q = p then t else T q) s' (jm_up N (σ p) kc) := by
  have hc := hS.ce hs
  refine ⟨newp_nc h hk hS.1, fun q hq => ?_, fun c hc1 ht => ?_, by rw [newp_t h, newp_n h]; exact hc.2.2.2⟩
  · obtain ⟨h1, h2, h3, -⟩ := hS.2.1 q hq
    refine ⟨σ q, h1, by rw [newp_t h]; exact h2, ?_⟩
    by_cases e : q = p
    · subst e
      rw [upR_eq]
      show RecEq _ (if q = q then t else T q) _ _ _
      rw [if_pos rfl]
      obtain ⟨r1, -, -, r4, r5, r6, -⟩ := h3
      exact newp_own h hR hi r1 r4 r5 r6
    · rw [upR_ne e]
      show RecEq _ (if q = p then t else T q) _ _ _
      rw [if_neg e]
      exact newp_oth h hk (fun z => e (hS.inj hq hp z)) h3 (hS.1 _ h1).2
  · rw [newp_t h] at ht
    obtain ⟨q, hq, hn⟩ := hc.2.2.1 c hc1 ht
    exact ⟨q, hq, by rw [newp_n h, hn]; exact (upR_n (r := newRec (k_a (R p)) f (k_n (R p)) (k_k (R p)) (k_v (R p)) L M ST DT NA SK SV) rfl q).symm⟩
/-- a cell more, on both sides -/
theorem CeQ.newc {R : Nat → CRec} {m K : Nat} {T : Nat → Term} {za s' : MS} {N : Nat → Nat} {σ τ : Nat → Nat} {c kc i : Nat} {t : Term} {nm : Int64} (hS : SgT R m T za N σ τ) (hs : SortR R m) (hK : K ≤ m) (hc : c < 64) (hf : tM za c = false) (hix : q_ix R m nm = none) (h : NewP (m_mk za c nm) s' c kc) (hk : kc ≤ 40) (hR : RepS za t i 0 kc) (hi : za.2.2.1 25 0 = nI i) {A f L M : Nat} {ST DT : Nat → Int32} {NA : Nat → Int64} {SK : Nat → Int32} {SV : Nat → Int64} : CeQ (insR R K (newRec A f nm 0 0 L M ST DT NA SK SV)) (m + 1) (insT T K t) s' (jm_up N c kc) := by
  have hE := hS.ce hs
  have tm : ∀ c', tM (m_mk za c nm) c' = if c' = c then true else tM za c' := fun c' => by simp [m_mk, tM, maz, mal, mai, jm_up]
  have nn : ∀ c', nM (m_mk za c nm) c' = if c' = c then nm else nM za c' := fun c' => by simp [m_mk, nM, maz, mal, mai, jm_up]
  have h4 : ∀ c', (m_mk za c nm).2.2.1 4 c' = if c' = c then 0 else za.2.2.1 4 c' := fun c' => by simp [m_mk, maz, mal, mai, jm_up]
  have h5 : ∀ c', (m_mk za c nm).2.2.2.1 5 c' = if c' = c then 0 else za.2.2.2.1 5 c' := fun c' => by simp [m_mk, maz, mal, mai, jm_up]
  have h6 : ∀ c', (m_mk za c nm).2.2.2.2 6 c' = za.2.2.2.2 6 c' := fun c' => by simp [m_mk, maz, mal, mai, jm_up]
  have hi' : ∀ j, j ≠ 4 → (m_mk za c nm).2.2.1 j = za.2.2.1 j := fun j hj => by simp [m_mk, maz, mal, mai, jm_up, hj]
  have hl' : ∀ j, j ≠ 3 → j ≠ 5 → (m_mk za c nm).2.2.2.1 j = za.2.2.2.1 j := fun j hj hj5 => by simp [m_mk, maz, mal, mai, jm_up, hj, hj5]
  have hN : NcOK (m_mk za c nm) N := fun c' hc' => by rw [hi' 8 (by decide)]; exact hS.1 c' hc'
  have hno : ∀ c', c' < 64 → tM za c' = true → nM za c' ≠ nm := fun c' hc' ht e => by
    obtain ⟨p, hp, hn⟩ := hE.2.2.1 c' hc' ht
    exact q_ix_none.mp hix p hp (hn.symm.trans e)
  refine ⟨newp_nc h hk hN, fun q hq => ?_, fun c' hc' ht => ?_, fun a b ha hb ta tb e => ?_⟩
  · by_cases e : q = K
    · rw [e]
      refine ⟨c, hc, by rw [newp_t h, tm, if_pos rfl], ?_⟩
      rw [insR_eq, insT_eq]
      refine newp_own h ⟨hR.1, ?_⟩ (by rw [hi' 25 (by decide)]; exact hi) (by rw [nn, if_pos rfl]) (by rw [h4, if_pos rfl]) (by rw [h5, if_pos rfl]) (fun _ => rfl)
      refine Rep.same hR.1 hR.2 fun j _ hj => ?_
      rw [hi' 17 (by decide), hi' 18 (by decide), hi' 19 (by decide), hi' 20 (by decide), hi' 22 (by decide), hl' 21 (by decide) (by decide)]
      exact ⟨rfl, rfl, rfl, rfl, rfl, rfl⟩
    · rw [insR_od e, insT_od e]
      obtain ⟨h1, h2, h3, -⟩ := hS.2.1 (odI K q) (odI_lt hK hq e)
      have hne : σ (odI K q) ≠ c := fun z => by rw [z, hf] at h2; cases h2
      refine ⟨σ (odI K q), h1, by rw [newp_t h, tm, if_neg hne]; exact h2, newp_oth h hk hne (h3.loc rfl (hS.1 _ h1).2 (by rw [nn, if_neg hne]) (h6 _) (by rw [h4, if_neg hne]) (by rw [h5, if_neg hne]) (by rw [hi' 7 (by decide)]) fun k hk4 => ?_) (hS.1 _ h1).2⟩
      rw [hi' 9 (by decide), hi' 10 (by decide), hi' 11 (by decide), hi' 12 (by decide), hi' 14 (by decide), hl' 13 (by decide) (by decide), hl' 15 (by decide) (by decide)]
      exact ⟨rfl, rfl, rfl, rfl, rfl, rfl, rfl⟩
  · rw [newp_t h, tm] at ht
    rw [newp_n h, nn]
    by_cases e : c' = c
    · rw [if_pos e]
      exact ⟨K, by omega, by rw [insR_eq]; rfl⟩
    · rw [if_neg e] at ht ⊢
      obtain ⟨p, hp, hn⟩ := hE.2.2.1 c' hc' ht
      by_cases z : p < K
      · exact ⟨p, by omega, by rw [insR_lt z]; exact hn⟩
      · refine ⟨p + 1, by omega, ?_⟩
        rw [insR_gt (by omega)]
        exact hn
  · rw [newp_t h, tm] at ta tb
    rw [newp_n h, nn, nn] at e
    by_cases ea : a = c
    · by_cases eb : b = c
      · rw [ea, eb]
      · rw [if_pos ea, if_neg eb] at e
        rw [if_neg eb] at tb
        exact absurd e.symm (hno b hb tb)
    · rw [if_neg ea] at ta e
      by_cases eb : b = c
      · rw [if_pos eb] at e
        exact absurd e (hno a ha ta)
      · rw [if_neg eb] at tb e
        exact hE.2.2.2 a b ha hb ta tb e
