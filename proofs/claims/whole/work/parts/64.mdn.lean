/-! the name on the tape, at the reference -/
theorem bt_or_l {x y : Int64} {p : Nat} (h : bt x p = true) : bt (x ||| y) p = true := by rw [bt_or, h]; rfl
theorem q_wloop_bit (B : Nat → Int32) (n s : Nat) (m : Nat) : ∀ (p : Nat) (acc : Int64), n - p < m → bt acc 62 = true → bt (q_wloop B n s p acc).2 62 = true := by
  induction m with
  | zero => intro p acc h; omega
  | succ m ih =>
    intro p acc hm hb
    unfold q_wloop
    split
    · refine ih _ _ (by omega) ?_
      split
      · exact bt_or_l hb
      · exact hb
    · exact hb
theorem q_letter_C {C : Nat} (hC : C < 2 ^ 31) (h : q_letter (nI C) = true) : (97 ≤ C ∧ C ≤ 122) ∨ (65 ≤ C ∧ C ≤ 90) := by
  unfold q_letter at h
  rw [decide_eq_true_iff] at h
  rcases h with ⟨h1, h2⟩ | ⟨h1, h2⟩
  · exact Or.inl ⟨(nIb_le (a := 97) (by decide) hC).mp h1, (nIb_le (b := 122) hC (by decide)).mp h2⟩
  · exact Or.inr ⟨(nIb_le (a := 65) (by decide) hC).mp h1, (nIb_le (b := 90) hC (by decide)).mp h2⟩
theorem q_sh_62 (C : Nat) (h : (97 ≤ C ∧ C ≤ 122) ∨ (65 ≤ C ∧ C ≤ 90)) : bt (q_sh (nI C) 0) 62 = true := by
  have key : ∀ C : Fin 123, (97 ≤ C.val ∧ C.val ≤ 122) ∨ (65 ≤ C.val ∧ C.val ≤ 90) → bt (q_sh (nI C.val) 0) 62 = true := by decide +kernel
  exact key ⟨C, by omega⟩ h
theorem q_word_ne {B : Nat → Int32} {n p : Nat} (hp : p < n) (h : q_letter (q_at B n p) = true) : (q_wloop B n p p 0).2 ≠ 0 := by
  obtain ⟨C, hC, e⟩ := q_at_C (B := B) hp
  have hl : (97 ≤ C ∧ C ≤ 122) ∨ (65 ≤ C ∧ C ≤ 90) := q_letter_C (by omega) (e ▸ h)
  have hb : bt (q_wloop B n p p 0).2 62 = true := by
    unfold q_wloop
    rw [if_pos ⟨hp, by unfold q_alnum; rw [h]; rfl⟩, Nat.sub_self, if_pos (by decide), e]
    refine q_wloop_bit B n p (n + 1) _ _ (by omega) ?_
    rw [bt_or, q_sh_62 C hl, Bool.or_true]
  intro e0
  rw [e0, bt_zero] at hb
  cases hb
def c_0 : Cur := (0, 0, 0, 0, 0)
theorem q_tok_2 {B : Nat → Int32} {n p : Nat} {nm : Int64} {nu : Int32} (h : (q_tok B n p nm nu).1 = 2) : (q_tok B n p nm nu).2.2.1 ≠ 0 := by
  unfold q_tok at h ⊢
  by_cases h1 : q_at B n p = -1
  · rw [if_pos h1] at h
    exact absurd h (show ¬ ((0 : Int32) = 2) by decide)
  · rw [if_neg h1] at h ⊢
    have hp : p < n := Nat.lt_of_not_le fun q => h1 (q_at_m1.mpr q)
    by_cases h2 : q_letter (q_at B n p) = true
    · rw [if_pos h2]
      exact q_word_ne hp h2
    · rw [if_neg h2] at h
      by_cases h3 : q_digit (q_at B n p) = true
      · rw [if_pos h3] at h
        exfalso
        revert h
        show (if (q_nloop B n p 0).1 - p > 9 then (1 : Int32) else 3) = 2 → False
        split <;> decide
      · rw [if_neg h3] at h
        exfalso
        by_cases h4 : q_mark (q_at B n p) = true
        · have h : (if q_mark (q_at B n p) = true then q_at B n p else 1) = 2 := h
          rw [if_pos h4] at h
          exact (q_mark_mkd h4).2.2.2.1 h
        · have h : (if q_mark (q_at B n p) = true then q_at B n p else 1) = 2 := h
          rw [if_neg h4] at h
          exact absurd h (by decide)
theorem q_nm_c (B : Nat → Int32) (n : Nat) : q_nm B n = if (cu_adv B n (cu_adv B n c_0)).1 = 0 then (if (cu_adv B n c_0).1 = 2 then (cu_adv B n c_0).2.2.2.1 else 0) else 0 := rfl
theorem q_nm_ne {B : Nat → Int32} {n : Nat} : q_nm B n ≠ 0 ↔ (cu_adv B n c_0).1 = 2 ∧ (cu_adv B n (cu_adv B n c_0)).1 = 0 := by
  rw [q_nm_c]
  constructor
  · intro h
    by_cases e : (cu_adv B n (cu_adv B n c_0)).1 = 0
    · rw [if_pos e] at h
      by_cases e2 : (cu_adv B n c_0).1 = 2
      · exact ⟨e2, e⟩
      · rw [if_neg e2] at h; exact absurd rfl h
    · rw [if_neg e] at h; exact absurd rfl h
  · rintro ⟨e2, e⟩
    rw [if_pos e, if_pos e2]
    exact q_tok_2 e2
def FixN (s s' : MS) : Prop := (∀ k, k ≠ 22 → k ≠ 23 → k ≠ 24 → s'.1 k = s.1 k) ∧ (∀ k, k ≠ 25 → s'.2.1 k = s.2.1 k) ∧ s'.2.2 = s.2.2
theorem FixN.nx {s0 s : MS} {B : Nat → Int32} {n p : Nat} (h : FixN s0 s) : FixN s0 (m_nx s B n p) := ⟨fun k h1 h2 h3 => (m_nx_k ⟨h1, h2, h3⟩).trans (h.1 k h1 h2 h3), fun k hk => by
  show jm_up s.2.1 25 _ k = _
  unfold jm_up
  rw [if_neg hk]
  exact h.2.1 k hk, h.2.2⟩
theorem FixN.p0 {s : MS} {v : Int32} : FixN s (mi s 22 v) := ⟨fun k h1 _ _ => by
  show jm_up s.1 22 v k = _
  unfold jm_up
  rw [if_neg h1], fun _ _ => rfl, rfl⟩
theorem FixN.l {s0 s : MS} {v : Int64} (h : FixN s0 s) : FixN s0 (ml s 25 v) := ⟨h.1, fun k hk => by
  show jm_up s.2.1 25 v k = _
  unfold jm_up
  rw [if_neg hk]
  exact h.2.1 k hk, h.2.2⟩
theorem FixN.tape {s s' : MS} {B : Nat → Int32} {n : Nat} (h : FixN s s') (hT : MT s B n) : MT s' B n := ⟨(h.1 2 (by decide) (by decide) (by decide)).trans hT.1, hT.2.1, fun i hi => by rw [h.2.2]; exact hT.2.2 i hi⟩
