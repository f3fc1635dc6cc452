/-! define of the reference -/
def CdO (res : PR) : Prop := ∀ e, res = .inl e → e.1 = 1 ∨ e.1 = 2 ∨ e.1 = 3
theorem sb_cd {x : Flt ⊕ Cur} {res : PR} {K : Cur → Prop} (hx : ∀ e, x = .inl e → e.1 = 1 ∨ e.1 = 2 ∨ e.1 = 3) (hK : ∀ c, K c → CdO res) (h : sb x res K) : CdO res := by
  cases x with
  | inl e =>
    intro e' he
    have h : res = .inl e := h
    rw [h] at he
    cases he
    exact hx e rfl
  | inr c => exact hK c h
theorem pb_cd {P : PR → Prop} {res : PR} {K : Term → Cur → Nat → Prop} (hP : ∀ x, P x → CdO x) (hK : ∀ t c k, K t c k → CdO res) (h : pb P res K) : CdO res := by
  obtain ⟨x, h1, h2⟩ := h
  cases x with
  | inl e =>
    intro e' he
    have h2 : res = .inl e := h2
    rw [h2] at he
    cases he
    exact hP _ h1 e rfl
  | inr y => exact hK _ _ _ h2
theorem inr_cd {res : PR} {y : Term × Cur × Nat} (h : res = .inr y) : CdO res := fun e he => by rw [h] at he; cases he
theorem inl_cd {res : PR} {c : Int32} {p : Nat} (h : res = .inl (c, p)) (hc : c = 1 ∨ c = 2 ∨ c = 3) : CdO res := fun e he => by rw [h] at he; cases he; exact hc
section PCD
variable {B : Nat → Int32} {n : Nat} {c : Cur} {e : Flt}
theorem pass_cd (h : p_pass B n c = .inl e) : e.1 = 1 ∨ e.1 = 2 ∨ e.1 = 3 := by
  obtain ⟨-, rfl⟩ := p_pass_l h
  exact Or.inl rfl
theorem exp_cd {K : Int32} (h : p_exp B n K c = .inl e) : e.1 = 1 ∨ e.1 = 2 ∨ e.1 = 3 := by
  unfold p_exp at h
  split at h
  · exact pass_cd h
  · cases h; exact Or.inr (Or.inl rfl)
theorem node_cd {k : Nat} (h : p_node B n c k = .inl e) : e.1 = 1 ∨ e.1 = 2 ∨ e.1 = 3 := by
  unfold p_node at h
  split at h
  · exact pass_cd h
  · cases h; exact Or.inr (Or.inr rfl)
theorem open_cd {dp : Nat} (h : p_open B n dp c = .inl e) : e.1 = 1 ∨ e.1 = 2 ∨ e.1 = 3 := by
  unfold p_open at h
  split at h
  · split at h
    · exact pass_cd h
    · cases h; exact Or.inr (Or.inr rfl)
  · cases h; exact Or.inr (Or.inl rfl)
end PCD
theorem Rd.cd {B : Nat → Int32} {n m dp : Nat} {acc : Term} {c : Cur} {k : Nat} {res : PR} (h : Rd B n m dp acc c k res) : CdO res := by
  refine Rd.induct (B := B) (n := n) (fun _ _ _ _ _ res => CdO res) ?_ h
  intro m dp acc c k res h
  match m, h with
  | 0, h => exact pb_cd (fun x q => q) (fun t c k q => q) h
  | 1, h => exact pb_cd (fun x q => q) (fun t c k q => q) h
  | 2, h =>
    have h : if c.1 = 43 ∨ c.1 = 45 then _ else res = .inr (acc, c, k) := h
    split at h
    · exact sb_cd (fun e q => node_cd q) (fun c q => pb_cd (fun x q => q) (fun t c k q => q) q) h
    · exact inr_cd h
  | 3, h =>
    have h : if c.1 = 42 ∨ c.1 = 47 then _ else res = .inr (acc, c, k) := h
    split at h
    · exact sb_cd (fun e q => node_cd q) (fun c q => pb_cd (fun x q => q) (fun t c k q => q) q) h
    · exact inr_cd h
  | m + 4, h =>
    have h : Rd4 B n (fun _ _ _ _ _ res => CdO res) dp c k res := h
    unfold Rd4 at h
    split at h
    · exact sb_cd (fun e q => node_cd q) (fun c q => inr_cd q) h
    · split at h
      · exact sb_cd (fun e q => node_cd q) (fun c q => inr_cd q) h
      · split at h
        · split at h
          · exact sb_cd (fun e q => node_cd q) (fun c q => pb_cd (fun x q => q) (fun t c k q => inr_cd q) q) h
          · exact inl_cd h (by decide)
        · split at h
          · exact sb_cd (fun e q => open_cd q) (fun c q => pb_cd (fun x q => q) (fun t c k q => sb_cd (fun e q => exp_cd q) (fun c q => inr_cd q) q) q) h
          · split at h
            · exact sb_cd (fun e q => node_cd q) (fun c q => sb_cd (fun e q => open_cd q) (fun c q => pb_cd (fun x q => q) (fun t c k q => sb_cd (fun e q => exp_cd q) (fun c q => pb_cd (fun x q => q) (fun t c k q => sb_cd (fun e q => exp_cd q) (fun c q => inr_cd q) q) q) q) q) q) h
            · split at h
              · exact sb_cd (fun e q => node_cd q) (fun c q => sb_cd (fun e q => open_cd q) (fun c q => pb_cd (fun x q => q) (fun t c k q => sb_cd (fun e q => exp_cd q) (fun c q => pb_cd (fun x q => q) (fun t c k q => sb_cd (fun e q => exp_cd q) (fun c q => pb_cd (fun x q => q) (fun t c k q => sb_cd (fun e q => exp_cd q) (fun c q => inr_cd q) q) q) q) q) q) q) q) h
              · exact inl_cd h (by decide)
theorem Df.cd {B : Nat → Int32} {n : Nat} {c : Cur} {nm : Int64} {res : PR} (h : Df B n c nm res) : CdO res := by
  unfold Df at h
  refine sb_cd (fun e q => pass_cd q) (fun c q => sb_cd (fun e q => exp_cd q) (fun c q => sb_cd (fun e q => exp_cd q) (fun c q => pb_cd (fun x q => q.cd) (fun t c k q => ?_) q) q) q.2) h
  split at q
  · exact inr_cd q
  · exact inl_cd q (by decide)
theorem cd_pos {x : Int32} (h : x = 1 ∨ x = 2 ∨ x = 3) : ¬ x = 0 ∧ ¬ x ≤ 0 := by rcases h with rfl | rfl | rfl <;> decide
/-- the nodes copied so far -/
def CpI (z s : MS) (c i : Nat) : Prop := s.1 = z.1 ∧ s.2.1 = z.2.1 ∧ (∀ j, j ≠ 9 → j ≠ 10 → j ≠ 11 → j ≠ 12 → s.2.2.1 j = z.2.2.1 j) ∧ (∀ j, j ≠ 13 → s.2.2.2.1 j = z.2.2.2.1 j) ∧ s.2.2.2.2 = z.2.2.2.2 ∧ (∀ q, ¬ (40 * c ≤ q ∧ q < 40 * c + i) → s.2.2.1 9 q = z.2.2.1 9 q ∧ s.2.2.1 10 q = z.2.2.1 10 q ∧ s.2.2.1 11 q = z.2.2.1 11 q ∧ s.2.2.1 12 q = z.2.2.1 12 q ∧ s.2.2.2.1 13 q = z.2.2.2.1 13 q) ∧ ∀ k, k < i → s.2.2.1 9 (40 * c + k) = z.2.2.1 17 k ∧ s.2.2.1 10 (40 * c + k) = z.2.2.1 18 k ∧ s.2.2.1 11 (40 * c + k) = z.2.2.1 19 k ∧ s.2.2.1 12 (40 * c + k) = z.2.2.1 20 k ∧ s.2.2.2.1 13 (40 * c + k) = z.2.2.2.1 21 k
def m_cp (s : MS) (c k : Nat) : MS := (mal (mai (mai (mai (mai s 9 (40 * c + k) (s.2.2.1 17 k)) 10 (40 * c + k) (s.2.2.1 18 k)) 11 (40 * c + k) (s.2.2.1 19 k)) 12 (40 * c + k) (s.2.2.1 20 k)) 13 (40 * c + k) (s.2.2.2.1 21 k))
theorem CpI.step {z s : MS} {c i : Nat} (h : CpI z s c i) : CpI z (m_cp s c i) c (i + 1) := by
  obtain ⟨h1, h2, h3, h4, h5, h6, h7⟩ := h
  refine ⟨h1, h2, fun j a b d e => ?_, fun j a => ?_, h5, fun q hq => ?_, fun k hk => ?_⟩
  · rw [← h3 j a b d e]; simp [m_cp, mai, mal, jm_up, a, b, d, e]
  · rw [← h4 j a]; simp [m_cp, mai, mal, jm_up, a]
  · have hne : q ≠ 40 * c + i := by omega
    obtain ⟨a1, a2, a3, a4, a5⟩ := h6 q (by omega)
    rw [← a1, ← a2, ← a3, ← a4, ← a5]
    simp [m_cp, mai, mal, jm_up, hne]
  · by_cases e : k = i
    · subst e
      rw [← h3 17 (by decide) (by decide) (by decide) (by decide), ← h3 18 (by decide) (by decide) (by decide) (by decide), ← h3 19 (by decide) (by decide) (by decide) (by decide), ← h3 20 (by decide) (by decide) (by decide) (by decide), ← h4 21 (by decide)]
      simp [m_cp, mai, mal, jm_up]
    · obtain ⟨a1, a2, a3, a4, a5⟩ := h7 k (by omega)
      rw [← a1, ← a2, ← a3, ← a4, ← a5]
      simp [m_cp, mai, mal, jm_up, e]
def m_hd (zb : MS) (c kc : Nat) : MS := mai (mai (maz zb 6 c false) 8 c (nI kc)) 7 c (zb.2.2.1 25 0)
/-- the cell c holds what was read -/
def NewP (zb s' : MS) (c kc : Nat) : Prop := CpI (m_hd zb c kc) s' c kc
def m_mk (z : MS) (c : Nat) (x : Int64) : MS := mal (mai (mal (maz z 2 c true) 3 c x) 4 c 0) 5 c 0
section DFN
variable {l : Launch} {G : jm_G} {n0 s0 d : Nat} {Post : jm_r → jm_H → Prop} {h : jm_H} {a : Nat}
theorem dk_copy (hK : MdK h a) {z : MS} {c kc : Nat} (hc : c < 64) (hkc : z.1 32 = nI kc) (hk40 : kc ≤ 40) (kk : ∀ s, CpI z s c kc → Post (.inl (some (.int (-1)))) (mdH h a s)) (t : Nat) : ∀ (k : Nat) (s : MS), kc - k < t → k ≤ kc → CpI z s c k → jm_X l G mm_Md_define n0 s0 (jm_zn G d n0 s0) Post 375 [(7, .int (nI (k))), (3, .int (nI (c))), (0, .ref (a))] [] (mdH h a s) := by
  induction t with
  | zero => intro k s hm; omega
  | succ t ih =>
    intro k s hm hk hI
    have hkc' : s.1 32 = nI kc := by rw [hI.1]; exact hkc
    by_cases e : k = kc
    · subst e
      exact dj_end l G hK hkc' hk40 (kk s hI)
    · exact dj_copy l G hK hc hkc' hk40 (by omega) (ih (k + 1) _ (by omega) (by omega) hI.step)
theorem dk_fill (hK : MdK h a) {s : MS} {x : Int64} {c kc : Nat} (hc : c < 64) (hkc : s.1 32 = nI kc) (hk40 : kc ≤ 40) (kk : ∀ s', NewP s s' c kc → Post (.inl (some (.int (-1)))) (mdH h a s')) : jm_X l G mm_Md_define n0 s0 (jm_zn G d n0 s0) Post 343 [(3, .int (nI (c))), (1, .long (x)), (0, .ref (a))] [] (mdH h a s) := by
  refine dj_head l G hK hc hkc ?_
  exact dk_copy (z := m_hd s c kc) hK hc hkc hk40 kk (kc + 1) 0 _ (by omega) (by omega) ⟨rfl, rfl, fun _ _ _ _ _ => rfl, fun _ _ => rfl, rfl, fun _ _ => ⟨rfl, rfl, rfl, rfl, rfl⟩, fun k hk => by omega⟩
theorem dk_free (hK : MdK h a) {s : MS} {x : Int64} (kk : ∀ c, c < 64 → tM s c = false → jm_X l G mm_Md_define n0 s0 (jm_zn G d n0 s0) Post 343 [(3, .int (nI (c))), (1, .long (x)), (0, .ref (a))] [] (mdH h a (m_mk s c x))) {c0 : Nat} (hc0 : c0 < 64) (hf0 : tM s c0 = false) (t : Nat) : ∀ c, 64 - c < t → c ≤ c0 → jm_X l G mm_Md_define n0 s0 (jm_zn G d n0 s0) Post 300 [(3, .int (nI (c))), (1, .long (x)), (0, .ref (a))] [] (mdH h a s) := by
  induction t with
  | zero => intro c hm; omega
  | succ t ih =>
    intro c hm hc
    cases e : tM s c with
    | false => exact di_free l G hK (by omega) e (kk c (by omega) e)
    | true =>
      refine di_full l G hK (by omega) e (ih (c + 1) (by omega) ?_)
      by_cases q : c = c0
      · rw [q, hf0] at e; cases e
      · omega
end DFN
theorem Fix.cell {s s' : MS} (h : Fix s s') (u : Int64) : m_cell s' u = m_cell s u := m_cell_k (by rw [h.2.2.2]) (h.2.2.1 3 (by decide)).2 u

theorem Fix.tm {s s' : MS} (h : Fix s s') : tM s' = tM s := by
  unfold tM
  rw [h.2.2.2]
theorem Fix.nm {s s' : MS} (h : Fix s s') : nM s' = nM s := by
  unfold nM
  rw [(h.2.2.1 3 (by decide)).2]
theorem Fix.rd {s s' : MS} {N : Nat → Nat} (h : Fix s s') (c : Nat) (u : Int64) : m_rd s' N c u = m_rd s N c u := by
  unfold m_rd
  congr 1
  funext k
  unfold mrf
  rw [(h.2.2.1 9 (by decide)).1, (h.2.2.1 13 (by decide)).2]
theorem Fix.nc {s s' : MS} {N : Nat → Nat} (h : Fix s s') (hN : NcOK s N) : NcOK s' N := fun c hc => by rw [(h.2.2.1 8 (by decide)).1]; exact hN c hc
theorem Fix.dep {s s' : MS} {N : Nat → Nat} (h : Fix s s') (u : Int64) (c : Nat) : DepM s' N u c ↔ DepM s N u c := by
  have e : ∀ D, DClo s' N u D ↔ DClo s N u D := fun D => by
    unfold DClo
    simp only [h.rd, h.tm, h.nm]
  unfold DepM
  exact ⟨fun q D hD => q D ((e D).mpr hD), fun q D hD => q D ((e D).mp hD)⟩
/-- what define() comes to, at the reference -/
def DefM (s : MS) (N : Nat → Nat) (B : Nat → Int32) (n : Nat) (nm : Int64) (res : PR) (v : Option Value) (s' : MS) : Prop := ∃ s1, Fix (mi s 0 0) s1 ∧ match res with
  | .inl e => v = some (.int (nI e.2)) ∧ s1.1 3 = e.1 ∧ s' = mi s1 2 0
  | .inr y => ASt s1 B n y.2.1 y.2.2 [] y.1 ∧ ((m_cell s nm = none ∧ cnt (tM s) 64 = 64 ∧ v = some (.int 0) ∧ s' = mi (mi (mi s1 3 4) 4 0) 2 0) ∨ (¬ (m_cell s nm = none ∧ cnt (tM s) 64 = 64) ∧ ∃ all, (∀ c, c < 64 → (bt all c = true ↔ DepM s N nm c)) ∧ ((¬ m_fst s1 nm all y.2.2 < 0 ∧ v = some (.int (m_fst s1 nm all y.2.2)) ∧ s' = mi (mi (mi s1 3 5) 4 (m_fst s1 nm all y.2.2)) 2 0) ∨ (m_fst s1 nm all y.2.2 < 0 ∧ v = some (.int (-1)) ∧ ∃ c, c < 64 ∧ ((m_cell s nm = some c ∧ NewP (mi s1 2 0) s' c y.2.2) ∨ (m_cell s nm = none ∧ tM s c = false ∧ NewP (m_mk (mi s1 2 0) c nm) s' c y.2.2))))))
set_option maxHeartbeats 4000000 in
set_option maxRecDepth 100000 in
theorem c_Md_define (l : Launch) (G : jm_G) (d : Nat) (hd : 5 ≤ d) {h : jm_H} {a : Nat} {s : MS} {B : Nat → Int32} {n : Nat} {N : Nat → Nat} {c : Cur} {nm : Int64} {res : PR} (hK : MdK h a) (hT : MT s B n) (hN : NcOK s N) (hp0 : c.2.2.1 = 0) (hD : Df B n c nm res) : jm_CP l G mm_Md_define d [.ref a] (mdH h a s) (fun v h9 => ∃ s', h9 = mdH h a s' ∧ DefM s N B n nm res v s') := by
  refine jm_of (by decide) rfl (Nat.le_of_ble_eq_true rfl) ?_
  refine df_half l G hd hK hT hp0 hD (fun e he => (cd_pos (hD.cd e he)).1) (fun x s1 hF h1 h2 => ?_)
  cases res with
  | inl e =>
    obtain ⟨a1, a2, a3⟩ := h1 e rfl
    have hp := cd_pos (hD.cd e rfl)
    refine dg_flt l G hK (by rw [a1]; exact hp.1) (by rw [a1]; exact hp.2) ?_
    rw [a2]
    exact ⟨_, rfl, _, rfl, s1, hF, rfl, a1, rfl⟩
  | inr y =>
    obtain ⟨t, c', k'⟩ := y
    obtain ⟨hA, rfl⟩ := h2 t c' k' rfl
    have hz : s1.1 3 = 0 := hA.1.2.2.2.2.2.2.2.2
    have hkc : s1.1 32 = nI k' := hA.1.2.2.2.1
    have hk40 : k' ≤ 40 := hA.1.2.2.2.2.1
    have ecl : m_cell s1 x = m_cell s x := (hF.cell x).trans (m_cell_c (s := s) (s' := mi s 0 0) rfl x)
    have etm : tM s1 = tM s := hF.tm
    by_cases hfull : m_cell s x = none ∧ cnt (tM s) 64 = 64
    · exact dg_room l G (by omega) hK hz (ecl.trans hfull.1) (by rw [etm]; exact hfull.2) ⟨_, rfl, _, rfl, s1, hF, hA, Or.inl ⟨hfull.1, hfull.2, rfl, rfl⟩⟩
    · obtain ⟨v2, g2, hC2, all, rfl, rfl, hall⟩ := c_Md_readersOf l G (d - 1) (by omega) (h := h) (a := a) (s := s1) (N := N) (u := x) hK (hF.nc (NcOK.c (s := s) (s' := mi s 0 0) rfl hN))
      have hall2 : ∀ c, c < 64 → (bt all c = true ↔ DepM s N x c) := fun c hc => (hall c hc).trans ((hF.dep x c).trans (DepM.c (s := s) (s' := mi s 0 0) rfl x c))
      have circ : ¬ m_fst s1 x all k' < 0 → ∀ cl : Int32, jm_X l G mm_Md_define (mdH h a s).1 (mdH h a s).2.1 (jm_zn G d (mdH h a s).1 (mdH h a s).2.1) (fun r h' => ∃ v, r = .inl v ∧ ∃ s', h' = mdH h a s' ∧ DefM s N B n x (.inr (t, c', k')) v s') 265 [(6, .int (m_fst s1 x all k')), (4, .long all), (3, .int cl), (1, .long x), (0, .ref a)] [] (mdH h a s1) := fun hf cl => dg_circ l G (by omega) hK hz hf ⟨_, rfl, _, rfl, s1, hF, hA, Or.inr ⟨hfull, all, hall2, Or.inl ⟨hf, rfl, rfl⟩⟩⟩
      cases em : m_cell s x with
      | none =>
        have hcn : cnt (tM s1) 64 < 64 := by
          have := cnt_le (tM s1) 64
          rw [etm] at this ⊢
          have : cnt (tM s) 64 ≠ 64 := fun q => hfull ⟨em, q⟩
          omega
        refine dg_new l G (by omega) hK hz (ecl.trans em) hcn hC2 ?_
        refine lp_Md_define1 l G (by omega) hK hz hkc hk40 ?_ (k' + 1) 0 (-1) (by omega) (by omega) rfl
        by_cases hf : m_fst s1 x all k' < 0
        · have hex : ∃ c0, c0 < 64 ∧ tM s1 c0 = false := Classical.byContradiction fun hn => by
            have : ∀ j, j < 64 → tM s1 j = true := fun j hj => by
              cases e : tM s1 j with
              | true => rfl
              | false => exact absurd ⟨j, hj, e⟩ hn
            have h9 : cnt (tM s1) 64 = 64 := by
              rw [cnt_congr (g := fun _ => true) fun p hp => this p hp]
              decide +kernel
            omega
          obtain ⟨c0, q1, q2⟩ := hex
          refine dh_new l G hK hz hf (dk_free hK (s := mi s1 2 0) (x := x) (fun c hc ht => ?_) q1 q2 65 0 (by omega) (by omega))
          refine dk_fill hK hc hkc hk40 (fun s' hN' => ⟨_, rfl, s', rfl, s1, hF, hA, Or.inr ⟨hfull, all, hall2, Or.inr ⟨hf, rfl, c, hc, Or.inr ⟨em, ?_, hN'⟩⟩⟩⟩)
          rw [← etm]
          exact ht
        · exact circ hf _
      | some c =>
        have hc := (m_cell_s em).1
        refine dg_old l G (by omega) hK hz (ecl.trans em) hc hC2 ?_
        refine lp_Md_define1 l G (by omega) hK hz hkc hk40 ?_ (k' + 1) 0 (-1) (by omega) (by omega) rfl
        by_cases hf : m_fst s1 x all k' < 0
        · refine dh_old l G hK hz hc hf (dk_fill hK hc hkc hk40 (fun s' hN' => ⟨_, rfl, s', rfl, s1, hF, hA, Or.inr ⟨hfull, all, hall2, Or.inr ⟨hf, rfl, c, hc, Or.inl ⟨em, hN'⟩⟩⟩⟩))
        · exact circ hf _
