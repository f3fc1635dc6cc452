/-! sets of places as longs -/
def bt (s : Int64) (p : Nat) : Bool := s.toBitVec.getLsbD p
/-- the long with this one bit, as the machine makes it -/
def bt1 (p : Nat) : Int64 := (1 : Int64) <<< (Int32.toInt64 (nI p) &&& 63)
theorem bt_amt (p : Nat) (hp : p < 64) : (Int32.toInt64 (nI p) &&& 63) = Int64.ofNat p := by
  have h : ∀ p : Fin 64, (Int32.toInt64 (nI p.val) &&& 63) = Int64.ofNat p.val := by decide +kernel
  exact h ⟨p, hp⟩
theorem bt_smod (p : Nat) (hp : p < 64) : ((Int64.ofNat p).toBitVec.smod 64).toNat = p := by
  have h : ∀ p : Fin 64, ((Int64.ofNat p.val).toBitVec.smod 64).toNat = p.val := by decide +kernel
  exact h ⟨p, hp⟩
theorem bt_shl (x : Int64) (p : Nat) (hp : p < 64) : (x <<< (Int32.toInt64 (nI p) &&& 63)).toBitVec = x.toBitVec <<< p := by
  rw [bt_amt p hp, Int64.toBitVec_shiftLeft]
  show x.toBitVec <<< ((Int64.ofNat p).toBitVec.smod 64).toNat = _
  rw [bt_smod p hp]
theorem bt_shr (x : Int64) (p : Nat) (hp : p < 64) : (x >>> (Int32.toInt64 (nI p) &&& 63)).toBitVec = x.toBitVec.sshiftRight p := by
  rw [bt_amt p hp, Int64.toBitVec_shiftRight]
  show x.toBitVec.sshiftRight ((Int64.ofNat p).toBitVec.smod 64).toNat = _
  rw [bt_smod p hp]
theorem bt_or (a b : Int64) (p : Nat) : bt (a ||| b) p = (bt a p || bt b p) := by simp [bt]
theorem bt_and (a b : Int64) (p : Nat) : bt (a &&& b) p = (bt a p && bt b p) := by simp [bt]
theorem bt_xor (a b : Int64) (p : Nat) : bt (a ^^^ b) p = (bt a p ^^ bt b p) := by simp [bt]
theorem bt_zero (p : Nat) : bt 0 p = false := by simp [bt]
theorem bt_ones (p : Nat) (hp : p < 64) : bt (-1) p = true := by
  have h : ∀ p : Fin 64, bt (-1) p.val = true := by decide +kernel
  exact h ⟨p, hp⟩
theorem bt_bt1 {p q : Nat} (hp : p < 64) (hq : q < 64) : bt (bt1 p) q = decide (q = p) := by
  unfold bt bt1
  rw [bt_shl _ p hp]
  show ((1#64) <<< p).getLsbD q = _
  rw [BitVec.getLsbD_shiftLeft, BitVec.getLsbD_one]
  by_cases e : q = p
  · subst e; simp [hq]
  · by_cases h : q < p
    · simp [h, e]
    · have : ¬ q - p = 0 := by omega
      simp [e, this]
theorem bt_ext {a b : Int64} (h : ∀ p, p < 64 → bt a p = bt b p) : a = b := by
  apply Int64.toBitVec_inj.mp
  apply BitVec.eq_of_getLsbD_eq
  intro p hp
  exact h p hp
theorem bt_ne0 {a : Int64} : a ≠ 0 ↔ ∃ p, p < 64 ∧ bt a p = true := by
  constructor
  · intro h
    apply Classical.byContradiction
    intro hn
    apply h
    apply bt_ext
    intro p hp
    rw [bt_zero]
    cases e : bt a p with
    | false => rfl
    | true => exact absurd ⟨p, hp, e⟩ hn
  · rintro ⟨p, hp, h⟩ e
    rw [e, bt_zero] at h
    cases h
theorem bt_has {s : Int64} {p : Nat} (hp : p < 64) : s &&& bt1 p ≠ 0 ↔ bt s p = true := by
  rw [bt_ne0]
  constructor
  · rintro ⟨q, hq, h⟩
    rw [bt_and, bt_bt1 hp hq] at h
    by_cases e : q = p
    · subst e
      simpa using h
    · simp [e] at h
  · intro h
    exact ⟨p, hp, by rw [bt_and, bt_bt1 hp hp, h]; simp⟩
theorem bt_ins {s : Int64} {p q : Nat} (hp : p < 64) (hq : q < 64) : bt (s ||| bt1 p) q = (bt s q || decide (q = p)) := by rw [bt_or, bt_bt1 hp hq]
theorem bt_flip {s : Int64} {p q : Nat} (hp : p < 64) (hq : q < 64) : bt (s ^^^ bt1 p) q = (bt s q ^^ decide (q = p)) := by rw [bt_xor, bt_bt1 hp hq]
theorem bt_not {s : Int64} {q : Nat} (hq : q < 64) : bt (s ^^^ -1) q = !bt s q := by rw [bt_xor, bt_ones q hq]; simp
/-- the reference's test of a bit -/
theorem bt_shr1 {s : Int64} {p : Nat} (hp : p < 64) : (s >>> (Int32.toInt64 (nI p) &&& 63)) &&& 1 = 1 ↔ bt s p = true := by
  have key : ∀ q, q < 64 → bt ((s >>> (Int32.toInt64 (nI p) &&& 63)) &&& 1) q = (decide (q = 0) && bt s p) := by
    intro q hq
    rw [bt_and]
    have h1 : bt 1 q = decide (q = 0) := by
      show (1#64).getLsbD q = _
      rw [BitVec.getLsbD_one]
      simp
    rw [h1]
    unfold bt
    rw [bt_shr _ p hp]
    by_cases e : q = 0
    · subst e
      rw [BitVec.getLsbD_sshiftRight]
      simp [hp]
    · simp [e]
  constructor
  · intro h
    have := key 0 (by decide)
    rw [h] at this
    have h1 : bt 1 0 = true := by decide
    rw [h1] at this
    simpa using this.symm
  · intro h
    apply bt_ext
    intro q hq
    rw [key q hq, h]
    show _ = (1#64).getLsbD q
    rw [BitVec.getLsbD_one]
    simp
/-- how many of the first n -/
def cnt (f : Nat → Bool) : Nat → Nat
  | 0 => 0
  | n + 1 => cnt f n + (if f n then 1 else 0)
theorem cnt_le (f : Nat → Bool) (n : Nat) : cnt f n ≤ n := by
  induction n with
  | zero => exact Nat.le_refl _
  | succ n ih => unfold cnt; split <;> omega
theorem cnt_mono {f g : Nat → Bool} {n : Nat} (h : ∀ p, p < n → f p = true → g p = true) : cnt f n ≤ cnt g n := by
  induction n with
  | zero => exact Nat.le_refl _
  | succ n ih =>
    have h1 := ih fun p hp => h p (by omega)
    unfold cnt
    cases e : f n with
    | false => simp; omega
    | true => rw [h n (by omega) e]; simp; omega
theorem cnt_lt {f g : Nat → Bool} {n : Nat} (h : ∀ p, p < n → f p = true → g p = true) {q : Nat} (hq : q < n) (h1 : f q = false) (h2 : g q = true) : cnt f n < cnt g n := by
  induction n with
  | zero => omega
  | succ n ih =>
    unfold cnt
    by_cases e : q = n
    · subst e
      have := cnt_mono (f := f) (g := g) (n := q) fun p hp => h p (by omega)
      rw [h1, h2]
      simp
      omega
    · have h3 := ih (fun p hp => h p (by omega)) (by omega)
      cases e : f n with
      | false => simp; omega
      | true => rw [h n (by omega) e]; simp; omega
theorem cnt_congr {f g : Nat → Bool} {n : Nat} (h : ∀ p, p < n → f p = g p) : cnt f n = cnt g n := by
  induction n with
  | zero => rfl
  | succ n ih =>
    unfold cnt
    rw [ih fun p hp => h p (by omega), h n (by omega)]
theorem cnt_pos {f : Nat → Bool} {n q : Nat} (hq : q < n) (h : f q = true) : 0 < cnt f n := by
  induction n with
  | zero => omega
  | succ n ih =>
    unfold cnt
    by_cases e : q = n
    · subst e; rw [h]; simp
    · have := ih (by omega)
      omega
theorem cnt_full {f : Nat → Bool} {n : Nat} (h : cnt f n = n) : ∀ p, p < n → f p = true := by
  induction n with
  | zero => intro p hp; omega
  | succ n ih =>
    intro p hp
    unfold cnt at h
    have := cnt_le f n
    cases e : f n with
    | false => rw [e] at h; simp at h; omega
    | true =>
      rw [e] at h
      simp at h
      by_cases e2 : p = n
      · rw [e2]; exact e
      · exact ih h p (by omega)
