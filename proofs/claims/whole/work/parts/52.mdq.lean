/-! the reference's tokens are the class's -/
theorem by_255 (x : Int32) : ∃ C, C < 256 ∧ x &&& 255 = nI C := by
  refine ⟨x.toBitVec.toNat % 256, Nat.mod_lt _ (by decide), ?_⟩
  apply Int32.toBitVec_inj.mp
  apply BitVec.eq_of_toNat_eq
  show (x.toBitVec &&& 255#32).toNat = (BitVec.ofNat 32 (x.toBitVec.toNat % 256)).toNat
  rw [BitVec.toNat_and, BitVec.toNat_ofNat, BitVec.toNat_ofNat]
  have h1 := Nat.and_two_pow_sub_one_eq_mod x.toBitVec.toNat 8
  have h2 : (255 : Nat) % 2 ^ 32 = 2 ^ 8 - 1 := by decide
  rw [h2, h1]
  have : x.toBitVec.toNat % 2 ^ 8 < 2 ^ 8 := Nat.mod_lt _ (by decide)
  have e : x.toBitVec.toNat % 256 = x.toBitVec.toNat % 2 ^ 8 := rfl
  omega
theorem nIb_inj {a b : Nat} (ha : a < 2 ^ 31) (hb : b < 2 ^ 31) (h : nI a = nI b) : a = b := by
  have h1 : (Int32.ofNat a).toBitVec = (Int32.ofNat b).toBitVec := congrArg Int32.toBitVec h
  have h2 : (BitVec.ofNat 32 a).toNat = (BitVec.ofNat 32 b).toNat := congrArg BitVec.toNat h1
  rw [BitVec.toNat_ofNat, BitVec.toNat_ofNat] at h2
  omega
theorem nIb_le {a b : Nat} (ha : a < 2 ^ 31) (hb : b < 2 ^ 31) : nI a ≤ nI b ↔ a ≤ b := by
  show Int32.ofNat a ≤ Int32.ofNat b ↔ _
  rw [Int32.le_iff_toInt_le, Int32.toInt_ofNat_of_lt ha, Int32.toInt_ofNat_of_lt hb]
  omega
theorem q_at_C {B : Nat → Int32} {n p : Nat} (h : p < n) : ∃ C, C < 256 ∧ q_at B n p = nI C := by
  unfold q_at
  rw [if_pos h]
  exact by_255 _
theorem q_at_m1 {B : Nat → Int32} {n p : Nat} : q_at B n p = -1 ↔ n ≤ p := by
  constructor
  · intro e
    apply Nat.le_of_not_lt
    intro h
    obtain ⟨C, hC, e2⟩ := q_at_C (B := B) h
    rw [e2] at e
    have h1 : (Int32.ofNat C).toInt = (-1 : Int32).toInt := congrArg Int32.toInt e
    rw [Int32.toInt_ofNat_of_lt (by omega)] at h1
    have h2 : (-1 : Int32).toInt = -1 := by decide
    omega
  · intro h
    unfold q_at
    rw [if_neg (by omega)]
theorem q_digit_C {C : Nat} (hC : C < 2 ^ 31) : q_digit (nI C) = true ↔ 48 ≤ C ∧ C ≤ 57 := by
  unfold q_digit
  rw [decide_eq_true_iff]
  have h1 := nIb_le (a := 48) (b := C) (by decide) hC
  have h2 := nIb_le (a := C) (b := 57) hC (by decide)
  rw [← h1, ← h2]
  exact Iff.rfl
theorem q_ld {c : Int32} (h : q_letter c = true) : q_digit c = false := by
  unfold q_letter at h
  unfold q_digit
  rw [decide_eq_true_iff] at h
  rw [decide_eq_false_iff_not]
  intro ⟨h1, h2⟩
  have e : ∀ {a b c d : Int32}, a < b → c ≤ a → b ≤ c → False := fun h1 h2 h3 => by
    exact absurd (Int32.le_trans h3 h2) (Int32.not_le.mpr h1)
  rcases h with h | h
  · exact e (a := 57) (b := 97) (d := 0) (by decide) h2 h.1
  · exact e (a := 57) (b := 65) (d := 0) (by decide) h2 h.1
theorem m_nloop_q (B : Nat → Int32) (n q : Nat) (m : Nat) : ∀ (p A : Nat) (amt : Int64) (acc : Int32), n - p < m → q ≤ p → (m_nloop B n q p amt).1 = (q_nloop B n p acc).1 ∧ ((q_nloop B n p acc).1 - q ≤ 9 → A < 10 ^ (p - q) → acc = nI A → amt = Int64.ofNat A → (m_nloop B n q p amt).2 = (q_nloop B n p acc).2.toInt64) := by
  induction m with
  | zero => intro p A amt acc h; omega
  | succ m ih =>
    intro p A amt acc hm hq
    unfold m_nloop q_nloop
    by_cases hc : p < n ∧ q_digit (q_at B n p) = true
    · rw [if_pos hc, if_pos hc]
      obtain ⟨C, hC, eC⟩ := q_at_C (B := B) hc.1
      have hd := (q_digit_C (by omega)).mp (eC ▸ hc.2)
      have ih1 := ih (p + 1) (10 * A + C - 48) (if p - q < 9 then 10 * amt + (q_at B n p).toInt64 - 48 else 0) (10 * acc + q_at B n p - 48) (by omega) (by omega)
      refine ⟨ih1.1, fun h9 hA eA eM => ?_⟩
      have hle := q_nloop_le B n (p + 1) (10 * acc + q_at B n p - 48) (by omega)
      have h8 : p - q < 9 := by omega
      have hp10 : 10 ^ (p + 1 - q) = 10 * 10 ^ (p - q) := by
        rw [show p + 1 - q = (p - q) + 1 by omega, Nat.pow_succ, Nat.mul_comm]
      have hA9 : 10 ^ (p - q) ≤ 10 ^ 8 := Nat.pow_le_pow_right (by decide) (by omega)
      refine ih1.2 h9 (by omega) ?_ ?_
      · rw [eA, eC]
        show (10 : Int32) * Int32.ofNat A + Int32.ofNat C - 48 = Int32.ofNat (10 * A + C - 48)
        rw [Int32.ofNat_sub _ _ (by omega), Int32.ofNat_add, Int32.ofNat_mul]
        rfl
      · rw [if_pos h8, eM, eC]
        show (10 : Int64) * Int64.ofNat A + (Int32.ofNat C).toInt64 - 48 = Int64.ofNat (10 * A + C - 48)
        rw [Int32.toInt64_ofNat' (by show (C : Int) ≤ 2147483647; omega), Int64.ofNat_sub _ _ (by omega), Int64.ofNat_add, Int64.ofNat_mul]
        rfl
    · rw [if_neg hc, if_neg hc]
      refine ⟨rfl, fun h9 hA eA eM => ?_⟩
      have hA9 : 10 ^ (p - q) ≤ 10 ^ 9 := Nat.pow_le_pow_right (by decide) h9
      show amt = acc.toInt64
      rw [eA, eM]
      exact (Int32.toInt64_ofNat' (by show (A : Int) ≤ 2147483647; omega)).symm
/-- the reference's code of a kind of token -/
def mkd (k : Int32) : Int32 := if k = 0 then -2 else if k = 1 then -1 else if k = 2 then 1 else if k = 3 then 0 else if k = 4 ∨ k = 5 ∨ k = 6 then -3 else k
theorem q_mark_mkd {c : Int32} (h : q_mark c = true) : mkd c = c ∧ c ≠ 0 ∧ c ≠ 1 ∧ c ≠ 2 ∧ c ≠ 3 ∧ c ≠ 4 ∧ c ≠ 5 ∧ c ≠ 6 := by
  unfold q_mark at h
  rw [decide_eq_true_iff] at h
  rcases h with h | h | h | h | h | h | h | h <;> subst h <;> decide
theorem q_kow_mkd (w : Int64) : mkd (q_kow w) = (if 0 < m_fun w then -3 else 1) ∧ q_kow w ≠ 3 := by
  unfold q_kow m_fun
  split
  · decide
  · split
    · decide
    · split <;> decide
theorem m_tok_q (B : Nat → Int32) (n p : Nat) (amt nm : Int64) (nu : Int32) : (m_tok B n p amt).1 = mkd (q_tok B n p nm nu).1 ∧ (m_tok B n p amt).2.1 = (q_tok B n p nm nu).2.1 ∧ ((q_tok B n p nm nu).1 = 3 → (m_tok B n p amt).2.2 = (q_tok B n p nm nu).2.2.2.toInt64) ∧ ((q_tok B n p nm nu).1 = 2 ∨ (q_tok B n p nm nu).1 = 4 ∨ (q_tok B n p nm nu).1 = 5 ∨ (q_tok B n p nm nu).1 = 6 → (m_tok B n p amt).2.2 = (q_tok B n p nm nu).2.2.1) := by
  unfold m_tok q_tok
  by_cases h1 : n ≤ p
  · rw [if_pos h1, if_pos (q_at_m1.mpr h1)]
    exact ⟨rfl, rfl, fun h => absurd h (show ¬ ((0 : Int32) = 3) by decide), fun h => absurd h (show ¬ ((0 : Int32) = 2 ∨ (0 : Int32) = 4 ∨ (0 : Int32) = 5 ∨ (0 : Int32) = 6) by decide)⟩
  · rw [if_neg h1, if_neg (fun e => h1 (q_at_m1.mp e))]
    by_cases h2 : q_letter (q_at B n p) = true
    · rw [if_neg (by rw [q_ld h2]; decide), if_pos h2, if_pos h2]
      obtain ⟨k1, k2⟩ := q_kow_mkd (q_wloop B n p p 0).2
      refine ⟨?_, rfl, fun h => ?_, fun _ => rfl⟩
      · show (if (q_wloop B n p p 0).1 - p > 8 then (-1 : Int32) else if 0 < m_fun (q_wloop B n p p 0).2 then -3 else 1) = mkd (if (q_wloop B n p p 0).1 - p > 8 then 1 else q_kow (q_wloop B n p p 0).2)
        split
        · rfl
        · rw [k1]
      · exfalso
        revert h
        show (if (q_wloop B n p p 0).1 - p > 8 then (1 : Int32) else q_kow (q_wloop B n p p 0).2) = 3 → False
        split
        · decide
        · exact k2
    · rw [if_neg h2 (c := q_letter (q_at B n p) = true), if_neg h2]
      by_cases h3 : q_digit (q_at B n p) = true
      · rw [if_pos h3, if_pos h3]
        have hq := m_nloop_q B n p (n + 1) p 0 0 0 (by omega) (Nat.le_refl _)
        refine ⟨?_, hq.1, fun h => ?_, fun h => ?_⟩
        · show (if (m_nloop B n p p 0).1 - p > 9 then (-1 : Int32) else 0) = mkd (if (q_nloop B n p 0).1 - p > 9 then 1 else 3)
          rw [hq.1]
          split <;> rfl
        · have h9 : ¬ (q_nloop B n p 0).1 - p > 9 := fun e => by
            have h' : (if (q_nloop B n p 0).1 - p > 9 then (1 : Int32) else 3) = 3 := h
            rw [if_pos e] at h'
            exact absurd h' (by decide)
          exact hq.2 (by omega) (by rw [Nat.sub_self]; decide) rfl rfl
        · exfalso
          revert h
          show (if (q_nloop B n p 0).1 - p > 9 then (1 : Int32) else 3) = 2 ∨ (if (q_nloop B n p 0).1 - p > 9 then (1 : Int32) else 3) = 4 ∨ (if (q_nloop B n p 0).1 - p > 9 then (1 : Int32) else 3) = 5 ∨ (if (q_nloop B n p 0).1 - p > 9 then (1 : Int32) else 3) = 6 → False
          split <;> decide
      · rw [if_neg h3 (c := q_digit (q_at B n p) = true), if_neg h3]
        by_cases h4 : q_mark (q_at B n p) = true
        · obtain ⟨e1, e2, e3, e4, e5, e6, e7, e8⟩ := q_mark_mkd h4
          simp only [h4, if_true]
          exact ⟨e1.symm, trivial, fun h => absurd h e5, fun h => by rcases h with h | h | h | h; exact absurd h e4; exact absurd h e6; exact absurd h e7; exact absurd h e8⟩
        · simp only [h4]
          exact ⟨rfl, trivial, fun h => absurd h (show ¬ ((1 : Int32) = 3) by decide), fun h => absurd h (show ¬ ((1 : Int32) = 2 ∨ (1 : Int32) = 4 ∨ (1 : Int32) = 5 ∨ (1 : Int32) = 6) by decide)⟩
