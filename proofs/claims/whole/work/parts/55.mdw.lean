theorem WSt.neg {s : MS} {f : Fr} {C : List Fr} {nx : Nat} (h : WSt s (f :: C) nx) (hf : f.1 = 6) : ∃ nx', WSt (m_sneg s f C) C nx' := by
  obtain ⟨hw, hp, hd, hd20, hnx, hF, hX⟩ := h
  have hno : ¬ f_op f = true := by rw [fop_iff]; omega
  rw [dpt_no hno] at hd hd20
  rw [lfts_no hno] at hp
  have g := hF.ge
  have g2 := g.2.1 (by omega)
  have nd : ∀ lo hi, (f.2.1 < lo ∨ hi ≤ f.2.1) → NdEq s (m_sneg s f C) lo hi := fun lo hi q => NdEq.of (nd := f.2.1) q fun j hj => by simp [m_sneg, mai, mi, jm_up, hj]
  exact ⟨f.2.2.1, rfl, hp, rfl, by omega, by omega, hX.same (nd _ _ (by omega)) ⟨fun j hj => ⟨rfl, rfl⟩, fun j hj => by simp [m_sneg, mai, mi, jm_up, Nat.ne_of_lt hj]⟩⟩
theorem WSt.bin {s : MS} {f : Fr} {C : List Fr} {nx : Nat} (h : WSt s (f :: C) nx) (hf : f_op f = true) : ∃ nx', WSt (m_sbin s f C) C nx' := by
  obtain ⟨hw, hp, hd, hd20, hnx, hF, hX⟩ := h
  rw [dpt_op hf] at hd hd20
  have hf2 := fop_iff.mp hf
  have g := hF.ge
  have g2 := g.2.1 (by omega)
  have nd : ∀ lo hi, (f.2.1 < lo ∨ hi ≤ f.2.1) → NdEq s (m_sbin s f C) lo hi := fun lo hi q => NdEq.of (nd := f.2.1) q fun j hj => by simp [m_sbin, mai, mi, jm_up, hj]
  exact ⟨f.2.2.1, rfl, rfl, hd, hd20, by omega, hX.same (nd _ _ (by omega)) ⟨fun j hj => ⟨rfl, rfl⟩, fun j hj => by simp [m_sbin, mai, mi, jm_up, Nat.ne_of_lt hj]⟩⟩
theorem stl_top {C C' : List Fr} {t t' : Term} {f : Fr} (h : stl 1 C t = (f :: C', t')) : f_str f = 0 := by
  induction C generalizing t with
  | nil => cases h
  | cons g C ih =>
    have e : stl 1 (g :: C) t = if 1 ≤ f_str g then stl 1 C (f_mk g t) else (g :: C, t) := rfl
    rw [e] at h
    by_cases q : 1 ≤ f_str g
    · rw [if_pos q] at h; exact ih h
    · rw [if_neg q] at h
      cases h
      omega
theorem mkd_i {c : Int32} (h0 : c ≠ 0) (h1 : c ≠ 1) (h2 : c ≠ 2) (h3 : c ≠ 3) (h4 : c ≠ 4) (h5 : c ≠ 5) (h6 : c ≠ 6) : mkd c = c := by
  unfold mkd
  rw [if_neg h0, if_neg h1, if_neg h2, if_neg h3, if_neg (by rintro (q | q | q); exact h4 q; exact h5 q; exact h6 q)]
/-- a code of the reference other than a sign's byte -/
theorem mkd_ne {c v : Int32} (hv : v ≠ -2 ∧ v ≠ -1 ∧ v ≠ 1 ∧ v ≠ 0 ∧ v ≠ -3) (h : c ≠ v) : mkd c ≠ v := by
  obtain ⟨a, b, d, e, f⟩ := hv
  unfold mkd
  repeat' split
  · exact a.symm
  · exact b.symm
  · exact d.symm
  · exact e.symm
  · exact f.symm
  · exact h
theorem mkd_m2 {c : Int32} (h : mkd c = -2) (hc : c ≠ -2) : c = 0 := by
  revert h
  unfold mkd
  repeat' split
  · intro; assumption
  all_goals first | (intro h; exact absurd h (by decide)) | (intro h; exact absurd h hc)
def Flo (s0 s : MS) (cd pl : Int32) : Prop := s.1 3 = cd ∧ s.1 4 = pl ∧ Fix s0 s
theorem m_fail_of {s : MS} {c w : Int32} (h : s.1 3 = 0) : m_fail s c w = mi (mi s 3 c) 4 w := by unfold m_fail; rw [if_pos h]
theorem m_fail_no {s : MS} {c w : Int32} (h : ¬ s.1 3 = 0) : m_fail s c w = s := by unfold m_fail; rw [if_neg h]
