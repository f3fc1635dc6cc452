/-! the reference works a tree out -/
def FixW (z s : MS) : Prop := (∀ k, k ≠ 43 → k ≠ 39 → s.1 k = z.1 k) ∧ (∀ k, k ≠ 44 → s.2.1 k = z.2.1 k) ∧ (∀ j, j ≠ 26 → j ≠ 27 → s.2.2.1 j = z.2.2.1 j) ∧ (∀ j, j ≠ 28 → s.2.2.2.1 j = z.2.2.2.1 j) ∧ s.2.2.2.2 = z.2.2.2.2
theorem FixW.rf {z : MS} : FixW z z := ⟨fun _ _ _ => rfl, fun _ _ => rfl, fun _ _ _ => rfl, fun _ _ => rfl, rfl⟩
theorem FixW.trans {z s1 s2 : MS} (p : FixW z s1) (q : FixW s1 s2) : FixW z s2 := ⟨fun k h1 h2 => (q.1 k h1 h2).trans (p.1 k h1 h2), fun k h => (q.2.1 k h).trans (p.2.1 k h), fun j h1 h2 => (q.2.2.1 j h1 h2).trans (p.2.2.1 j h1 h2), fun j h => (q.2.2.2.1 j h).trans (p.2.2.2.1 j h), q.2.2.2.2.trans p.2.2.2.2⟩
theorem FixW.mi {z s : MS} {k : Nat} {v : Int32} (h : FixW z s) (hk : k = 43 ∨ k = 39) : FixW z (mi s k v) := ⟨fun j h1 h2 => by
  show jm_up s.1 k v j = _
  unfold jm_up
  rw [if_neg (by omega)]
  exact h.1 j h1 h2, h.2⟩
theorem FixW.ml {z s : MS} {v : Int64} (h : FixW z s) : FixW z (ml s 44 v) := ⟨h.1, fun j hj => by
  show jm_up s.2.1 44 v j = _
  unfold jm_up
  rw [if_neg hj]
  exact h.2.1 j hj, h.2.2⟩
theorem FixW.mai {z s : MS} {k i : Nat} {v : Int32} (h : FixW z s) (hk : k = 26 ∨ k = 27) : FixW z (mai s k i v) := ⟨h.1, h.2.1, fun j h1 h2 => by
  show jm_up s.2.2.1 k _ j = _
  unfold jm_up
  rw [if_neg (by omega)]
  exact h.2.2.1 j h1 h2, h.2.2.2⟩
theorem FixW.mal {z s : MS} {i : Nat} {v : Int64} (h : FixW z s) : FixW z (mal s 28 i v) := ⟨h.1, h.2.1, h.2.2.1, fun j h1 => by
  show jm_up s.2.2.2.1 28 _ j = _
  unfold jm_up
  rw [if_neg h1]
  exact h.2.2.2.1 j h1, h.2.2.2.2⟩
theorem FixW.psh {z s : MS} {H : Nat} {nd : Int32} (h : FixW z s) : FixW z (m_psh s H nd) := ((h.mai (by decide)).mai (by decide)).mi (by decide)
theorem FixW.res {z s : MS} (h : FixW z s) (u : Int64) : m_res s u = m_res z u := m_res_k (by rw [h.2.2.2.2]) (h.2.2.2.1 3 (by decide)) (h.2.2.1 4 (by decide) (by decide)) (h.2.2.2.1 5 (by decide)) u
def RepC (z : MS) (c : Nat) (PL : Nat → Int32) (t : Term) (i lo hi : Nat) : Prop := Rep (fun k => z.2.2.1 9 (40 * c + k)) (fun k => z.2.2.1 10 (40 * c + k)) (fun k => z.2.2.1 11 (40 * c + k)) (fun k => z.2.2.1 12 (40 * c + k)) (fun k => z.2.2.2.1 13 (40 * c + k)) PL t i lo hi
def StEq (s s' : MS) (H : Nat) : Prop := ∀ j, j < H → s'.2.2.1 26 j = s.2.2.1 26 j ∧ s'.2.2.1 27 j = s.2.2.1 27 j ∧ s'.2.2.2.1 28 j = s.2.2.2.1 28 j
theorem StEq.trans {s s1 s2 : MS} {H H' : Nat} (p : StEq s s1 H) (q : StEq s1 s2 H') (h : H ≤ H') : StEq s s2 H := fun j hj => ⟨(q j (by omega)).1.trans (p j hj).1, (q j (by omega)).2.1.trans (p j hj).2.1, (q j (by omega)).2.2.trans (p j hj).2.2⟩
theorem st_ph {s : MS} {H : Nat} {v : Int32} : StEq s (mai s 27 H v) H := fun j hj => ⟨rfl, by simp [mai, jm_up, Nat.ne_of_lt hj], rfl⟩
theorem st_psh {s : MS} {H : Nat} {v : Int32} : StEq s (m_psh s H v) H := fun j hj => ⟨by simp [m_psh, mai, mi, jm_up, Nat.ne_of_lt hj], by simp [m_psh, mai, mi, jm_up, Nat.ne_of_lt hj], rfl⟩
theorem st_kp {s : MS} {H : Nat} {v : Int64} : StEq s (mal s 28 H v) H := fun j hj => ⟨rfl, rfl, by simp [mal, jm_up, Nat.ne_of_lt hj]⟩
section EVM
variable {l : Launch} {G : jm_G} {n0 s0 d : Nat} {Post : jm_r → jm_H → Prop} {h : jm_H} {a c : Nat} {z : MS} {PL : Nat → Int32}
def XW (l : Launch) (G : jm_G) (n0 s0 d : Nat) (Post : jm_r → jm_H → Prop) (h : jm_H) (a c : Nat) (s : MS) : Prop := jm_X l G mm_Md_work n0 s0 (jm_zn G d n0 s0) Post 15 [(0, .ref a), (1, .int (nI c))] [] (mdH h a s)
def XWE (l : Launch) (G : jm_G) (n0 s0 d : Nat) (Post : jm_r → jm_H → Prop) (h : jm_H) (a c : Nat) (s : MS) : Prop := jm_X l G mm_Md_work n0 s0 (jm_zn G d n0 s0) Post 278 [(0, .ref a), (1, .int (nI c))] [] (mdH h a s)
/-- a frame on the pile: node i, this phase, at height H + 1 -/
def Frm (z s : MS) (H i p : Nat) : Prop := FixW z s ∧ s.1 43 = nI (H + 1) ∧ s.1 39 = 0 ∧ s.2.2.1 26 H = nI i ∧ s.2.2.1 27 H = nI p
def K1 (XW : MS → Prop) (z s : MS) (H : Nat) (v : Int64) : Prop := ∀ s', FixW z s' → s'.1 43 = nI H → s'.1 39 = 0 → s'.2.1 44 = v → StEq s s' H → XW s'
def K2 (XE : MS → Prop) (z : MS) (e : Int32) : Prop := ∀ s', FixW z s' → s'.1 39 = e → XE s'
def EvP (l : Launch) (G : jm_G) (n0 s0 d : Nat) (Post : jm_r → jm_H → Prop) (h : jm_H) (a c : Nat) (z : MS) (PL : Nat → Int32) (t : Term) : Prop := ∀ i lo hi, RepC z c PL t i lo hi → hi ≤ 40 → ∀ s H, Frm z s H i 0 → H + (hi - lo) ≤ 62 → ((ev (m_res z) t).1 = 1 → K1 (XW l G n0 s0 d Post h a c) z s H (ev (m_res z) t).2) → ((ev (m_res z) t).1 ≠ 1 → K2 (XWE l G n0 s0 d Post h a c) z (ev (m_res z) t).1) → XW l G n0 s0 d Post h a c s
/-- the first operand -/
theorem ev_one (hd : 3 ≤ d) (hK : MdK h a) (hc : c < 64) {t : Term} (ih : EvP l G n0 s0 d Post h a c z PL t) {s : MS} {H i j kd lo hi : Nat} (hF : Frm z s H i 0) (hi4 : i < 40) (hkd : z.2.2.1 9 (40 * c + i) = nI kd) (h2 : 2 ≤ kd) (h9 : kd ≤ 9) (h1 : z.2.2.1 10 (40 * c + i) = nI j) (hR : RepC z c PL t j lo hi) (hhi : hi ≤ 40) (hH : H + 1 + (hi - lo) ≤ 62)
    (k1 : (ev (m_res z) t).1 = 1 → ∀ s', Frm z s' H i 1 → s'.2.1 44 = (ev (m_res z) t).2 → StEq s s' H → XW l G n0 s0 d Post h a c s') (k2 : (ev (m_res z) t).1 ≠ 1 → K2 (XWE l G n0 s0 d Post h a c) z (ev (m_res z) t).1) : XW l G n0 s0 d Post h a c s := by
  obtain ⟨f1, f2, f3, f4, f5⟩ := hF
  have e9 := f1.2.2.1 9 (by decide) (by decide)
  have e10 := f1.2.2.1 10 (by decide) (by decide)
  refine it_one l G (by omega) hK hc hi4 (by omega) f2 f3 f4 f5 (by rw [e9]; exact hkd) h2 h9 ?_
  rw [e10, h1]
  have hst : StEq s (m_psh (mai s 27 H (nI 1)) (H + 1) (nI j)) H := st_ph.trans st_psh (by omega)
  refine ih j lo hi hR hhi _ (H + 1) ⟨(f1.mai (by decide)).psh, rfl, f3, by simp [m_psh, mai, mi, jm_up], by simp [m_psh, mai, mi, jm_up]; rfl⟩ hH (fun e s' g1 g2 g3 g4 g5 => ?_) k2
  have gH := g5 H (by omega)
  refine k1 e s' ⟨g1, g2, g3, gH.1.trans ?_, gH.2.1.trans ?_⟩ g4 (hst.trans g5 (by omega))
  · simpa [m_psh, mai, mi, jm_up] using f4
  · simp [m_psh, mai, mi, jm_up]
/-- the second (or third) operand -/
theorem ev_two (hd : 3 ≤ d) (hK : MdK h a) (hc : c < 64) {t : Term} (ih : EvP l G n0 s0 d Post h a c z PL t) {s : MS} {H i j kd lo hi : Nat} {x : Int64} (hF : Frm z s H i 1) (hx : s.2.1 44 = x) (hi4 : i < 40) (hkd : z.2.2.1 9 (40 * c + i) = nI kd) (h2 : 2 ≤ kd) (h9 : kd ≤ 9) (h6 : kd ≠ 6) (h1 : (if kd = 9 ∧ x ≤ 0 then z.2.2.1 12 (40 * c + i) else z.2.2.1 11 (40 * c + i)) = nI j) (hR : RepC z c PL t j lo hi) (hhi : hi ≤ 40) (hH : H + 1 + (hi - lo) ≤ 62)
    (k1 : (ev (m_res z) t).1 = 1 → ∀ s', Frm z s' H i 2 → s'.2.1 44 = (ev (m_res z) t).2 → s'.2.2.2.1 28 H = x → StEq s s' H → XW l G n0 s0 d Post h a c s') (k2 : (ev (m_res z) t).1 ≠ 1 → K2 (XWE l G n0 s0 d Post h a c) z (ev (m_res z) t).1) : XW l G n0 s0 d Post h a c s := by
  obtain ⟨f1, f2, f3, f4, f5⟩ := hF
  have e9 := f1.2.2.1 9 (by decide) (by decide)
  have e11 := f1.2.2.1 11 (by decide) (by decide)
  have e12 := f1.2.2.1 12 (by decide) (by decide)
  refine it_two l G (by omega) hK hc hi4 (by omega) f2 f3 f4 f5 (by rw [e9]; exact hkd) h2 h9 h6 ?_
  rw [e11, e12, hx, h1]
  have hst : StEq s (m_psh (mal (mai s 27 H (nI 2)) 28 H x) (H + 1) (nI j)) H := (st_ph.trans st_kp (Nat.le_refl _)).trans st_psh (by omega)
  refine ih j lo hi hR hhi _ (H + 1) ⟨((f1.mai (by decide)).mal).psh, rfl, f3, by simp [m_psh, mai, mal, mi, jm_up], by simp [m_psh, mai, mal, mi, jm_up]; rfl⟩ hH (fun e s' g1 g2 g3 g4 g5 => ?_) k2
  have gH := g5 H (by omega)
  refine k1 e s' ⟨g1, g2, g3, gH.1.trans ?_, gH.2.1.trans ?_⟩ g4 (gH.2.2.trans ?_) (hst.trans g5 (by omega))
  · simpa [m_psh, mai, mal, mi, jm_up] using f4
  · simp [m_psh, mai, mal, mi, jm_up]
  · simp [m_psh, mai, mal, mi, jm_up]
theorem ev_fin {s s3 : MS} {H : Nat} (h1 : StEq s s3 H) (v : Int64) (p : Int32) : StEq s (mi (ml (mai s3 27 H p) 44 v) 43 (nI H)) H := h1.trans (st_ph (s := s3) (v := p)) (Nat.le_refl _)
/-- signs between two, and min and max -/
theorem ev_bin (hd : 3 ≤ d) (hK : MdK h a) (hc : c < 64) {t1 t2 : Term} (ih1 : EvP l G n0 s0 d Post h a c z PL t1) (ih2 : EvP l G n0 s0 d Post h a c z PL t2) {s : MS} {H i j1 j2 kd lo1 hi1 lo2 hi2 : Nat} (hF : Frm z s H i 0) (hi4 : i < 40) (hkd : z.2.2.1 9 (40 * c + i) = nI kd) (hks : kd = 2 ∨ kd = 3 ∨ kd = 4 ∨ kd = 5 ∨ kd = 7 ∨ kd = 8) (h1 : z.2.2.1 10 (40 * c + i) = nI j1) (h2 : z.2.2.1 11 (40 * c + i) = nI j2) (hR1 : RepC z c PL t1 j1 lo1 hi1) (hh1 : hi1 ≤ 40) (hH1 : H + 1 + (hi1 - lo1) ≤ 62) (hR2 : RepC z c PL t2 j2 lo2 hi2) (hh2 : hi2 ≤ 40) (hH2 : H + 1 + (hi2 - lo2) ≤ 62) {r : Int32 × Int64} (hr : r = ev2 (ev (m_res z) t1) (ev (m_res z) t2) (m_both kd))
    (k1 : r.1 = 1 → K1 (XW l G n0 s0 d Post h a c) z s H r.2) (k2 : r.1 ≠ 1 → K2 (XWE l G n0 s0 d Post h a c) z r.1) : XW l G n0 s0 d Post h a c s := by
  subst hr
  unfold ev2 at k1 k2
  refine ev_one hd hK hc ih1 hF hi4 hkd (by omega) (by omega) h1 hR1 hh1 hH1 (fun e1 s1 g1 g2 g3 => ?_) (fun e1 => ?_)
  · rw [if_pos e1] at k1 k2
    refine ev_two hd hK hc ih2 g1 g2 hi4 hkd (by omega) (by omega) (by omega) (by rw [if_neg (fun q => by omega)]; exact h2) hR2 hh2 hH2 (fun e2 s2 q1 q2 q3 q4 => ?_) (fun e2 => ?_)
    · rw [if_pos e2] at k1 k2
      obtain ⟨f1, f2, f3, f4, f5⟩ := q1
      have e9 := f1.2.2.1 9 (by decide) (by decide)
      have hst := g3.trans q4 (Nat.le_refl _)
      have fx : ∀ v p, FixW z (mi (ml (mai s2 27 H p) 44 v) 43 (nI H)) := fun v p => ((f1.mai (by decide)).ml).mi (by decide)
      rcases hks with rfl | rfl | rfl | rfl | rfl | rfl
      · refine it_both2 l G (by omega) hK hc hi4 (by omega) f2 f3 f4 f5 (by rw [e9]; exact hkd) ?_
        rw [q3, q2]
        exact k1 rfl _ (fx _ _) rfl f3 rfl (ev_fin hst _ _)
      · refine it_both3 l G (by omega) hK hc hi4 (by omega) f2 f3 f4 f5 (by rw [e9]; exact hkd) ?_
        rw [q3, q2]
        exact k1 rfl _ (fx _ _) rfl f3 rfl (ev_fin hst _ _)
      · refine it_both4 l G (by omega) hK hc hi4 (by omega) f2 f3 f4 f5 (by rw [e9]; exact hkd) ?_
        rw [q3, q2]
        exact k1 rfl _ (fx _ _) rfl f3 rfl (ev_fin hst _ _)
      · by_cases hy : (ev (m_res z) t2).2 = 0
        · have hm : m_both 5 (ev (m_res z) t1).2 (ev (m_res z) t2).2 = (2, 0) := if_pos hy
          rw [hm] at k2
          refine it_both0 l G (by omega) hK hc hi4 (by omega) f2 f3 f4 f5 (by rw [e9]; exact hkd) (by rw [q2]; exact hy) ?_
          refine it_err l G (H := H) hK rfl (by omega) (show ¬ (2 : Int32) = 0 by decide) ?_
          exact k2 (by decide) _ ((((f1.mai (by decide)).mi (by decide)).ml).mi (by decide)) rfl
        · have hm : m_both 5 (ev (m_res z) t1).2 (ev (m_res z) t2).2 = (1, (ev (m_res z) t1).2 / (ev (m_res z) t2).2) := if_neg hy
          refine it_both5 l G (by omega) hK hc hi4 (by omega) f2 f3 f4 f5 (by rw [e9]; exact hkd) (by rw [q2]; exact hy) ?_
          rw [q3, q2]
          exact k1 (by rw [hm]) _ (fx _ _) rfl f3 rfl (ev_fin hst _ _)
      · refine it_both7 l G (by omega) hK hc hi4 (by omega) f2 f3 f4 f5 (by rw [e9]; exact hkd) ?_
        rw [q3, q2]
        exact k1 rfl _ (fx _ _) rfl f3 rfl (ev_fin hst _ _)
      · refine it_both8 l G (by omega) hK hc hi4 (by omega) f2 f3 f4 f5 (by rw [e9]; exact hkd) ?_
        rw [q3, q2]
        exact k1 rfl _ (fx _ _) rfl f3 rfl (ev_fin hst _ _)
    · rw [if_neg e2] at k2
      exact k2 e2
  · rw [if_neg e1] at k2
    exact k2 e1
theorem evM (hd : 3 ≤ d) (hK : MdK h a) (hc : c < 64) (t : Term) (ht : Tree t) : EvP l G n0 s0 d Post h a c z PL t := by
  refine Tree.rec9 (P := EvP l G n0 s0 d Post h a c z PL) ?_ ?_ ?_ ?_ ?_ ?_ ?_ ?_ ?_ ?_ t ht
  · intro v i lo hi hR hhi s H hF hH k1 k2
    obtain ⟨r1, r2, r3, r4⟩ := hR
    obtain ⟨f1, f2, f3, f4, f5⟩ := hF
    subst r1
    have e9 := f1.2.2.1 9 (by decide) (by decide)
    have e13 := f1.2.2.2.1 13 (by decide)
    refine it_leafN l G (by omega) hK hc (by omega) (by omega) f2 f3 f4 f5 (by rw [e9]; exact r3) ?_
    rw [e13]
    exact k1 rfl _ (((f1.mai (by decide)).ml).mi (by decide)) rfl f3 r4 (ev_fin (fun j hj => ⟨rfl, rfl, rfl⟩) _ _)
  · intro u p i lo hi hR hhi s H hF hH k1 k2
    obtain ⟨r1, r2, r3, r4, r5⟩ := hR
    obtain ⟨f1, f2, f3, f4, f5⟩ := hF
    subst r1
    have e9 := f1.2.2.1 9 (by decide) (by decide)
    have e13 := f1.2.2.2.1 13 (by decide)
    have r4' : z.2.2.2.1 13 (40 * c + i) = u := r4
    refine it_leafM l G (by omega) hK hc (by omega) (by omega) f2 f3 f4 f5 (by rw [e9]; exact r3) ?_
    rw [e13, r4', f1.res]
    have ee : ev (m_res z) (.elem (.long u) (.index p)) = if (m_res z u).1 = 1 then (1, (m_res z u).2) else (3, 0) := rfl
    rw [ee] at k1 k2
    by_cases q : (m_res z u).1 = 1
    · rw [if_pos q] at k1 ⊢
      refine k1 rfl _ ((((f1.mai (by decide)).mi (by decide)).ml).mi (by decide)) rfl rfl rfl (st_ph (s := s))
    · rw [if_neg q] at k2 ⊢
      refine it_err l G (H := H) hK rfl (by omega) (show ¬ (3 : Int32) = 0 by decide) ?_
      exact k2 (by decide) _ ((((f1.mai (by decide)).mi (by decide)).ml).mi (by decide)) rfl
  · intro t tt ih i lo hi hR hhi s H hF hH k1 k2
    obtain ⟨r1, r2, j, r3, r4⟩ := hR
    subst r1
    have lt := Rep.lt tt r4
    have ee : ev (m_res z) (.length t) = if (ev (m_res z) t).1 = 1 then (1, -(ev (m_res z) t).2) else ev (m_res z) t := rfl
    rw [ee] at k1 k2
    refine ev_one hd hK hc ih hF (by omega) (kd := 6) r2 (by decide) (by decide) r3 r4 hhi (by omega) (fun e s1 g1 g2 g3 => ?_) (fun e => ?_)
    · rw [if_pos e] at k1
      obtain ⟨f1, f2, f3, f4, f5⟩ := g1
      have e9 := f1.2.2.1 9 (by decide) (by decide)
      refine it_less l G (by omega) hK hc (by omega) (by omega) f2 f3 f4 f5 (by rw [e9]; exact r2) ?_
      rw [g2]
      exact k1 rfl _ (((f1.mai (by decide)).ml).mi (by decide)) rfl f3 rfl (ev_fin g3 _ _)
    · rw [if_neg e] at k2
      exact k2 e
  · intro t1 t2 u1 u2 i1 i2 i lo hi hR hhi s H hF hH k1 k2
    obtain ⟨r0, ja, jb, r1, r2, r3, r4⟩ := hR
    have l1 := Rep.lt u1 r3
    have l2 := Rep.lt u2 r4
    exact ev_bin hd hK hc i1 i2 hF (by omega) (kd := 2) r0 (by decide) r1 r2 r3 (by omega) (by omega) r4 hhi (by omega) rfl k1 k2
  · intro t1 t2 u1 u2 i1 i2 i lo hi hR hhi s H hF hH k1 k2
    obtain ⟨r0, ja, jb, r1, r2, r3, r4⟩ := hR
    have l1 := Rep.lt u1 r3
    have l2 := Rep.lt u2 r4
    exact ev_bin hd hK hc i1 i2 hF (by omega) (kd := 3) r0 (by decide) r1 r2 r3 (by omega) (by omega) r4 hhi (by omega) rfl k1 k2
  · intro t1 t2 u1 u2 i1 i2 i lo hi hR hhi s H hF hH k1 k2
    obtain ⟨r0, ja, jb, r1, r2, r3, r4⟩ := hR
    have l1 := Rep.lt u1 r3
    have l2 := Rep.lt u2 r4
    exact ev_bin hd hK hc i1 i2 hF (by omega) (kd := 4) r0 (by decide) r1 r2 r3 (by omega) (by omega) r4 hhi (by omega) rfl k1 k2
  · intro t1 t2 u1 u2 i1 i2 i lo hi hR hhi s H hF hH k1 k2
    obtain ⟨r0, ja, jb, r1, r2, r3, r4⟩ := hR
    have l1 := Rep.lt u1 r3
    have l2 := Rep.lt u2 r4
    exact ev_bin hd hK hc i1 i2 hF (by omega) (kd := 5) r0 (by decide) r1 r2 r3 (by omega) (by omega) r4 hhi (by omega) rfl k1 k2
  · intro t1 t2 u1 u2 i1 i2 i lo hi hR hhi s H hF hH k1 k2
    obtain ⟨rr, r0, ja, jb, m, r1, r2, r3, r4⟩ := hR
    subst rr
    have l1 := Rep.lt u1 r3
    have l2 := Rep.lt u2 r4
    exact ev_bin hd hK hc i1 i2 hF (by omega) (kd := 7) r0 (by decide) r1 r2 r3 (by omega) (by omega) r4 hhi (by omega) rfl k1 k2
  · intro o t1 t2 u1 u2 i1 i2 i lo hi hR hhi s H hF hH k1 k2
    obtain ⟨rr, r0, ja, jb, m, r1, r2, r3, r4⟩ := hR
    subst rr
    have l1 := Rep.lt u1 r3
    have l2 := Rep.lt u2 r4
    exact ev_bin hd hK hc i1 i2 hF (by omega) (kd := 8) r0 (by decide) r1 r2 r3 (by omega) (by omega) r4 hhi (by omega) rfl k1 k2
  · intro t1 t2 t3 u1 u2 u3 i1 i2 i3 i lo hi hR hhi s H hF hH k1 k2
    obtain ⟨rr, r0, ja, jb, jc, m1, m2, r1, r2, r3, r4, r5, r6⟩ := hR
    subst rr
    have l1 := Rep.lt u1 r4
    have l2 := Rep.lt u2 r5
    have l3 := Rep.lt u3 r6
    have ee : ev (m_res z) (.old (.add t1 (.add t2 t3))) = if (ev (m_res z) t1).1 = 1 then (if 0 < (ev (m_res z) t1).2 then ev (m_res z) t2 else ev (m_res z) t3) else ev (m_res z) t1 := rfl
    rw [ee] at k1 k2
    refine ev_one hd hK hc i1 hF (by omega) (kd := 9) r0 (by decide) (by decide) r1 r4 (by omega) (by omega) (fun e s1 g1 g2 g3 => ?_) (fun e => ?_)
    · rw [if_pos e] at k1 k2
      by_cases q : 0 < (ev (m_res z) t1).2
      · rw [if_pos q] at k1 k2
        refine ev_two hd hK hc i2 g1 g2 (by omega) (kd := 9) r0 (by decide) (by decide) (by decide) (by rw [if_neg (fun w => absurd w.2 (Int64.not_le.mpr q))]; exact r2) r5 (by omega) (by omega) (fun e2 s2 q1 q2 q3 q4 => ?_) k2
        obtain ⟨f1, f2, f3, f4, f5⟩ := q1
        have e9 := f1.2.2.1 9 (by decide) (by decide)
        refine it_if l G (by omega) hK hc (by omega) (by omega) f2 f3 f4 f5 (by rw [e9]; exact r0) ?_
        exact k1 e2 _ (((f1.mai (by decide)).ml).mi (by decide)) rfl f3 q2 (ev_fin (g3.trans q4 (Nat.le_refl _)) _ _)
      · rw [if_neg q] at k1 k2
        refine ev_two hd hK hc i3 g1 g2 (by omega) (kd := 9) r0 (by decide) (by decide) (by decide) (by rw [if_pos ⟨rfl, Int64.not_lt.mp q⟩]; exact r3) r6 (by omega) (by omega) (fun e2 s2 q1 q2 q3 q4 => ?_) k2
        obtain ⟨f1, f2, f3, f4, f5⟩ := q1
        have e9 := f1.2.2.1 9 (by decide) (by decide)
        refine it_if l G (by omega) hK hc (by omega) (by omega) f2 f3 f4 f5 (by rw [e9]; exact r0) ?_
        exact k1 e2 _ (((f1.mai (by decide)).ml).mi (by decide)) rfl f3 q2 (ev_fin (g3.trans q4 (Nat.le_refl _)) _ _)
    · rw [if_neg e] at k2
      exact k2 e
end EVM
