/-! bits counted, bytes of names, what feed brings, sets of equal size, lists in order -/
/-- the long as a number without its sign -/
def uNx (x : Int64) : Nat := x.toUInt64.toNat
theorem uNx_lt (x : Int64) : uNx x < 2 ^ 64 := x.toUInt64.toNat_lt
theorem uNx_add (a b : Int64) : uNx (a + b) = (uNx a + uNx b) % 2 ^ 64 := by simp [uNx]
theorem uNx_sub {a b : Int64} (h : uNx b ≤ uNx a) : uNx (a - b) = uNx a - uNx b := by
  have h1 := uNx_lt a
  have h2 : uNx (a - b) = (2 ^ 64 - uNx b + uNx a) % 2 ^ 64 := by simp [uNx, UInt64.toNat_sub]
  rw [h2]
  omega
theorem uNx_and (a b : Int64) : uNx (a &&& b) = uNx a &&& uNx b := by simp [uNx]
theorem uNx_us {y : Int32} {k : Nat} (hk : ((Int64.toUInt64 (Int32.toInt64 y) &&& Int64.toUInt64 63)).toNat % 64 = k) (x : Int64) : uNx (q_us x y) = uNx x / 2 ^ k := by
  unfold uNx q_us
  rw [UInt64.toUInt64_toInt64, UInt64.toNat_shiftRight, hk, Nat.shiftRight_eq_div_pow]
theorem bt_uNx (x : Int64) (p : Nat) : bt x p = (uNx x).testBit p := rfl
def pop8 (b : Nat) : Nat := cnt (Nat.testBit b) 8
def sb1 (b : Nat) : Nat := b - (b / 2 &&& 85)
def sb2 (b : Nat) : Nat := (b &&& 51) + (b / 4 &&& 51)
/-- and, byte by byte -/
theorem and_b (a b : Nat) : a &&& b = (a % 256 &&& b % 256) + 256 * (a / 256 &&& b / 256) := by
  have h1 : (a &&& b) % 2 ^ 8 = (a % 2 ^ 8) &&& (b % 2 ^ 8) := Nat.and_mod_two_pow
  have h2 : (a &&& b) / 2 ^ 8 = (a / 2 ^ 8) &&& (b / 2 ^ 8) := Nat.and_div_two_pow
  simp only [show (2 : Nat) ^ 8 = 256 from rfl] at h1 h2
  omega
theorem st1_t : ∀ b : Fin 256, ∀ z : Fin 2, ((b.val / 2 + 128 * z.val) % 256 &&& 85) = (b.val / 2 &&& 85) ∧ (b.val / 2 &&& 85) ≤ b.val := by decide +kernel
theorem st2_t : ∀ b : Fin 256, ∀ z : Fin 4, ((b.val / 4 + 64 * z.val) % 256 &&& 51) = (b.val / 4 &&& 51) := by decide +kernel
theorem st3_t : ∀ b : Fin 256, (sb2 (sb1 b.val)) ≤ 68 ∧ sb2 (sb1 b.val) % 16 ≤ 4 ∧ (sb2 (sb1 b.val) + sb2 (sb1 b.val) / 16 &&& 15) = pop8 b.val ∧ sb1 b.val < 256 ∧ pop8 b.val ≤ 8 := by decide +kernel
theorem st4_t : ∀ a : Fin 137, ∀ z : Fin 5, ((a.val + 16 * z.val) % 256 &&& 15) = (a.val &&& 15) := by decide +kernel
def mk8 (c : Nat) : Nat → Nat
  | 0 => 0
  | k + 1 => c + 256 * mk8 c k
/-- the stages over k bytes -/
def g1 (k x : Nat) : Nat := x - (x / 2 &&& mk8 85 k)
def g2 (k x : Nat) : Nat := (x &&& mk8 51 k) + (x / 4 &&& mk8 51 k)
def g3 (k x : Nat) : Nat := (x + x / 16) &&& mk8 15 k
theorem g1_s (k b y : Nat) (hb : b < 256) (hy : (y / 2 &&& mk8 85 k) ≤ y) : g1 (k + 1) (b + 256 * y) = sb1 b + 256 * g1 k y ∧ ((b + 256 * y) / 2 &&& mk8 85 (k + 1)) ≤ b + 256 * y := by
  have e := and_b ((b + 256 * y) / 2) (mk8 85 (k + 1))
  have e1 : (b + 256 * y) / 2 % 256 = (b / 2 + 128 * (y % 2)) % 256 := by omega
  have e2 : (b + 256 * y) / 2 / 256 = y / 2 := by omega
  have e3 : mk8 85 (k + 1) % 256 = 85 := by show (85 + 256 * mk8 85 k) % 256 = 85; omega
  have e4 : mk8 85 (k + 1) / 256 = mk8 85 k := by show (85 + 256 * mk8 85 k) / 256 = mk8 85 k; omega
  have t := st1_t ⟨b, hb⟩ ⟨y % 2, by omega⟩
  simp only at t
  rw [e1, e2, e3, e4, t.1] at e
  unfold g1 sb1
  rw [e]
  have := t.2
  omega
theorem g2_s (k b y : Nat) (hb : b < 256) : g2 (k + 1) (b + 256 * y) = sb2 b + 256 * g2 k y := by
  have e := and_b (b + 256 * y) (mk8 51 (k + 1))
  have f := and_b ((b + 256 * y) / 4) (mk8 51 (k + 1))
  have e1 : (b + 256 * y) / 4 % 256 = (b / 4 + 64 * (y % 4)) % 256 := by omega
  have e2 : (b + 256 * y) / 4 / 256 = y / 4 := by omega
  have e3 : mk8 51 (k + 1) % 256 = 51 := by show (51 + 256 * mk8 51 k) % 256 = 51; omega
  have e4 : mk8 51 (k + 1) / 256 = mk8 51 k := by show (51 + 256 * mk8 51 k) / 256 = mk8 51 k; omega
  have e5 : (b + 256 * y) % 256 = b := by omega
  have e6 : (b + 256 * y) / 256 = y := by omega
  have t := st2_t ⟨b, hb⟩ ⟨y % 4, by omega⟩
  simp only at t
  rw [e1, e2, e3, e4, t] at f
  rw [e3, e4, e5, e6] at e
  unfold g2 sb2
  rw [e, f]
  omega
theorem g3_s (k b y : Nat) (hb : b ≤ 68) (hy : y % 16 ≤ 4) : g3 (k + 1) (b + 256 * y) = (b + b / 16 &&& 15) + 256 * g3 k y := by
  have e := and_b (b + 256 * y + (b + 256 * y) / 16) (mk8 15 (k + 1))
  have e1 : (b + 256 * y + (b + 256 * y) / 16) % 256 = (b + b / 16 + 16 * (y % 16)) % 256 := by omega
  have e2 : (b + 256 * y + (b + 256 * y) / 16) / 256 = y + y / 16 := by omega
  have e3 : mk8 15 (k + 1) % 256 = 15 := by show (15 + 256 * mk8 15 k) % 256 = 15; omega
  have e4 : mk8 15 (k + 1) / 256 = mk8 15 k := by show (15 + 256 * mk8 15 k) / 256 = mk8 15 k; omega
  have t := st4_t ⟨b + b / 16, by omega⟩ ⟨y % 16, by omega⟩
  simp only at t
  rw [e1, e2, e3, e4, t] at e
  exact e
def G8 (k x : Nat) : Nat := g3 k (g2 k (g1 k x))
theorem G8_all : ∀ k, (∀ y, (y / 2 &&& mk8 85 k) ≤ y) ∧ (∀ x, g2 k (g1 k x) % 16 ≤ 4) ∧ ∀ b y, b < 256 → G8 (k + 1) (b + 256 * y) = pop8 b + 256 * G8 k y
  | 0 => by
    refine ⟨fun y => by show (y / 2 &&& 0) ≤ y; rw [Nat.and_zero]; omega, fun x => by show ((g1 0 x &&& 0) + (g1 0 x / 4 &&& 0)) % 16 ≤ 4; rw [Nat.and_zero, Nat.and_zero]; omega, fun b y hb => ?_⟩
    have h1 := g1_s 0 b y hb (by show (y / 2 &&& 0) ≤ y; rw [Nat.and_zero]; omega)
    have t := st3_t ⟨b, hb⟩
    simp only at t
    unfold G8
    rw [h1.1, g2_s 0 _ _ t.2.2.2.1, g3_s 0 _ _ t.1 (by show ((g1 0 y &&& 0) + (g1 0 y / 4 &&& 0)) % 16 ≤ 4; rw [Nat.and_zero, Nat.and_zero]; omega), t.2.2.1]
  | k + 1 => by
    obtain ⟨i1, i2, -⟩ := G8_all k
    have j1 : ∀ y, (y / 2 &&& mk8 85 (k + 1)) ≤ y := by
      intro y
      have h := (g1_s k (y % 256) (y / 256) (by omega) (i1 _)).2
      have e : y % 256 + 256 * (y / 256) = y := by omega
      rw [e] at h
      exact h
    have j2 : ∀ x, g2 (k + 1) (g1 (k + 1) x) % 16 ≤ 4 := by
      intro x
      have e : x % 256 + 256 * (x / 256) = x := by omega
      have h1 := (g1_s k (x % 256) (x / 256) (by omega) (i1 _)).1
      have t := st3_t ⟨x % 256, by omega⟩
      simp only at t
      rw [e] at h1
      rw [h1, g2_s k _ _ t.2.2.2.1]
      have := t.2.1
      omega
    refine ⟨j1, j2, fun b y hb => ?_⟩
    have h1 := g1_s (k + 1) b y hb (j1 y)
    have t := st3_t ⟨b, hb⟩
    simp only at t
    unfold G8
    rw [h1.1, g2_s (k + 1) _ _ t.2.2.2.1, g3_s (k + 1) _ _ t.1 (j2 y), t.2.2.1]
theorem cnt_add (f : Nat → Bool) (a : Nat) : ∀ b, cnt f (a + b) = cnt f a + cnt (fun i => f (a + i)) b
  | 0 => rfl
  | b + 1 => by
    show cnt f (a + b) + (if f (a + b) then 1 else 0) = cnt f a + (cnt (fun i => f (a + i)) b + (if f (a + b) then 1 else 0))
    rw [cnt_add f a b]
    omega
theorem cnt_8 (x k : Nat) : cnt (Nat.testBit x) (8 + k) = pop8 (x % 256) + cnt (Nat.testBit (x / 256)) k := by
  rw [cnt_add]
  have h1 : cnt (Nat.testBit x) 8 = pop8 (x % 256) := cnt_congr fun p hp => by
    rw [show (256 : Nat) = 2 ^ 8 from rfl, Nat.testBit_mod_two_pow]
    simp [hp]
  have h2 : cnt (fun i => x.testBit (8 + i)) k = cnt (Nat.testBit (x / 256)) k := cnt_congr fun p hp => by
    rw [show (256 : Nat) = 2 ^ 8 from rfl, Nat.testBit_div_two_pow, Nat.add_comm]
  rw [h1, h2]
theorem G8_s (k x : Nat) : G8 (k + 1) x = pop8 (x % 256) + 256 * G8 k (x / 256) := by
  have h := (G8_all k).2.2 (x % 256) (x / 256) (by omega)
  have e : x % 256 + 256 * (x / 256) = x := by omega
  rw [e] at h
  exact h
theorem pop8_le (x : Nat) : pop8 (x % 256) ≤ 8 := (st3_t ⟨x % 256, by omega⟩).2.2.2.2
theorem G8_0 (x : Nat) : G8 0 x = 0 := by show (_ &&& 0) = 0; rw [Nat.and_zero]
theorem mk_85 : mk8 85 8 = 6148914691236517205 := by decide +kernel
theorem mk_51 : mk8 51 8 = 3689348814741910323 := by decide +kernel
theorem mk_15 : mk8 15 8 = 1085102592571150095 := by decide +kernel
theorem g2_lt (k x : Nat) : g2 k x ≤ 2 * mk8 51 k := by
  unfold g2
  have h1 : (x &&& mk8 51 k) ≤ mk8 51 k := Nat.and_le_right
  have h2 : (x / 4 &&& mk8 51 k) ≤ mk8 51 k := Nat.and_le_right
  omega
theorem swar_end {A b c e p0 p1 p2 p3 p4 p5 p6 p7 : Nat} (hA : A = p0 + 256 * (p1 + 256 * (p2 + 256 * (p3 + 256 * (p4 + 256 * (p5 + 256 * (p6 + 256 * p7))))))) (hb : b = A + A / 256) (hc : c = b + b / 65536) (he : e = c + c / 4294967296) (d0 : p0 ≤ 8) (d1 : p1 ≤ 8) (d2 : p2 ≤ 8) (d3 : p3 ≤ 8) (d4 : p4 ≤ 8) (d5 : p5 ≤ 8) (d6 : p6 ≤ 8) (d7 : p7 ≤ 8) : e % 128 = p0 + p1 + p2 + p3 + p4 + p5 + p6 + p7 := by
  have dv1 : ∀ r X : Nat, r < 256 → (r + 256 * X) / 256 = X := fun r X h => by omega
  have dv2 : ∀ r X : Nat, r < 65536 → (r + 65536 * X) / 65536 = X := fun r X h => by omega
  have dv3 : ∀ r X : Nat, r < 4294967296 → (r + 4294967296 * X) / 4294967296 = X := fun r X h => by omega
  have md : ∀ r X : Nat, r < 128 → (r + 128 * X) % 128 = r := fun r X h => by omega
  have u1 : A / 256 = p1 + 256 * (p2 + 256 * (p3 + 256 * (p4 + 256 * (p5 + 256 * (p6 + 256 * p7))))) := by rw [hA]; exact dv1 _ _ (by omega)
  rw [u1, hA] at hb
  have l1 : b = (p0 + p1 + 256 * (p1 + p2)) + 65536 * ((p2 + p3) + 256 * ((p3 + p4) + 256 * ((p4 + p5) + 256 * ((p5 + p6) + 256 * ((p6 + p7) + 256 * p7))))) := by
    clear hc he u1 hA
    omega
  clear hb u1 hA
  have u2 : b / 65536 = (p2 + p3) + 256 * ((p3 + p4) + 256 * ((p4 + p5) + 256 * ((p5 + p6) + 256 * ((p6 + p7) + 256 * p7)))) := by
    rw [l1]
    exact dv2 _ _ (by clear l1 hc he; omega)
  rw [u2, l1] at hc
  clear u2 l1
  have l2 : c = (p0 + p1 + p2 + p3 + 256 * (p1 + p2 + p3 + p4) + 65536 * (p2 + p3 + p4 + p5) + 16777216 * (p3 + p4 + p5 + p6)) + 4294967296 * ((p4 + p5 + p6 + p7) + 256 * ((p5 + p6 + p7) + 256 * ((p6 + p7) + 256 * p7))) := by
    clear he
    omega
  clear hc
  have u3 : c / 4294967296 = (p4 + p5 + p6 + p7) + 256 * ((p5 + p6 + p7) + 256 * ((p6 + p7) + 256 * p7)) := by
    rw [l2]
    exact dv3 _ _ (by clear l2 he; omega)
  rw [u3, l2] at he
  clear u3 l2
  have l3 : e = (p0 + p1 + p2 + p3 + p4 + p5 + p6 + p7) + 128 * (2 * ((p1 + p2 + p3 + p4) + 256 * (p2 + p3 + p4 + p5) + 65536 * (p3 + p4 + p5 + p6) + 16777216 * ((p4 + p5 + p6 + p7) + 256 * ((p5 + p6 + p7) + 256 * ((p6 + p7) + 256 * p7))) + ((p5 + p6 + p7) + 256 * ((p6 + p7) + 256 * p7)))) := by
    omega
  rw [l3]
  exact md _ _ (by clear l3 he; omega)
theorem sw_0 {p0 p1 p2 p3 p4 p5 p6 p7 : Nat} (d0 : p0 ≤ 8) (d1 : p1 ≤ 8) (d2 : p2 ≤ 8) (d3 : p3 ≤ 8) (d4 : p4 ≤ 8) (d5 : p5 ≤ 8) (d6 : p6 ≤ 8) (d7 : p7 ≤ 8) : p0 + 256 * (p1 + 256 * (p2 + 256 * (p3 + 256 * (p4 + 256 * (p5 + 256 * (p6 + 256 * p7)))))) < 1152921504606846976 := by omega
theorem sw_1 {A : Nat} (h : A < 1152921504606846976) : A + A / 256 < 2305843009213693952 := by omega
theorem sw_2 {A : Nat} (h : A < 2305843009213693952) : A + A / 65536 < 4611686018427387904 := by omega
theorem sw_3 {A : Nat} (h : A < 4611686018427387904) : A + A / 4294967296 < 2 ^ 64 := by omega
theorem q_bc_cnt (x : Int64) : q_bc x = nI (cnt (bt x) 64) := by
  have a1 : uNx (q_bc1 x) = g1 8 (uNx x) := by
    have e : uNx (q_us x 1 &&& 6148914691236517205) = (uNx x / 2 &&& mk8 85 8) := by
      rw [uNx_and, uNx_us (k := 1) (by decide +kernel), mk_85]
      rfl
    unfold q_bc1 g1
    rw [uNx_sub (by rw [e]; exact (G8_all 8).1 _), e]
  have a2 : uNx (q_bc2 (q_bc1 x)) = g2 8 (g1 8 (uNx x)) := by
    have hl := g2_lt 8 (g1 8 (uNx x))
    rw [mk_51] at hl
    unfold q_bc2
    rw [uNx_add, uNx_and, uNx_and, uNx_us (k := 2) (by decide +kernel), a1]
    unfold g2 at hl ⊢
    rw [mk_51] at hl ⊢
    rw [show uNx 3689348814741910323 = 3689348814741910323 from by decide +kernel, show (2 : Nat) ^ 2 = 4 from rfl]
    omega
  have a3 : uNx (q_bc3 (q_bc2 (q_bc1 x))) = G8 8 (uNx x) := by
    have hl := g2_lt 8 (g1 8 (uNx x))
    rw [mk_51] at hl
    unfold q_bc3 G8 g3
    rw [uNx_and, uNx_add, uNx_us (k := 4) (by decide +kernel), a2, mk_15, show (2 : Nat) ^ 4 = 16 from rfl]
    rw [show uNx 1085102592571150095 = 1085102592571150095 from by decide +kernel]
    rw [Nat.mod_eq_of_lt (by omega)]
  have hcn : cnt (bt x) 64 = cnt (Nat.testBit (uNx x)) 64 := rfl
  rw [hcn]
  have c0 := cnt_8 (uNx x) 56
  have c1 := cnt_8 (uNx x / 256) 48
  have c2 := cnt_8 (uNx x / 256 / 256) 40
  have c3 := cnt_8 (uNx x / 256 / 256 / 256) 32
  have c4 := cnt_8 (uNx x / 256 / 256 / 256 / 256) 24
  have c5 := cnt_8 (uNx x / 256 / 256 / 256 / 256 / 256) 16
  have c6 := cnt_8 (uNx x / 256 / 256 / 256 / 256 / 256 / 256) 8
  have c7 := cnt_8 (uNx x / 256 / 256 / 256 / 256 / 256 / 256 / 256) 0
  have c8 : cnt (Nat.testBit (uNx x / 256 / 256 / 256 / 256 / 256 / 256 / 256 / 256)) 0 = 0 := rfl
  have hG : G8 8 (uNx x) = pop8 (uNx x % 256) + 256 * (pop8 (uNx x / 256 % 256) + 256 * (pop8 (uNx x / 256 / 256 % 256) + 256 * (pop8 (uNx x / 256 / 256 / 256 % 256) + 256 * (pop8 (uNx x / 256 / 256 / 256 / 256 % 256) + 256 * (pop8 (uNx x / 256 / 256 / 256 / 256 / 256 % 256) + 256 * (pop8 (uNx x / 256 / 256 / 256 / 256 / 256 / 256 % 256) + 256 * pop8 (uNx x / 256 / 256 / 256 / 256 / 256 / 256 / 256 % 256))))))) := by
    rw [G8_s 7, G8_s 6, G8_s 5, G8_s 4, G8_s 3, G8_s 2, G8_s 1, G8_s 0, G8_0, Nat.mul_zero, Nat.add_zero]
  have d0 := pop8_le (uNx x)
  have d1 := pop8_le (uNx x / 256)
  have d2 := pop8_le (uNx x / 256 / 256)
  have d3 := pop8_le (uNx x / 256 / 256 / 256)
  have d4 := pop8_le (uNx x / 256 / 256 / 256 / 256)
  have d5 := pop8_le (uNx x / 256 / 256 / 256 / 256 / 256)
  have d6 := pop8_le (uNx x / 256 / 256 / 256 / 256 / 256 / 256)
  have d7 := pop8_le (uNx x / 256 / 256 / 256 / 256 / 256 / 256 / 256)
  generalize pop8 (uNx x % 256) = p0 at *
  generalize pop8 (uNx x / 256 % 256) = p1 at *
  generalize pop8 (uNx x / 256 / 256 % 256) = p2 at *
  generalize pop8 (uNx x / 256 / 256 / 256 % 256) = p3 at *
  generalize pop8 (uNx x / 256 / 256 / 256 / 256 % 256) = p4 at *
  generalize pop8 (uNx x / 256 / 256 / 256 / 256 / 256 % 256) = p5 at *
  generalize pop8 (uNx x / 256 / 256 / 256 / 256 / 256 / 256 % 256) = p6 at *
  generalize pop8 (uNx x / 256 / 256 / 256 / 256 / 256 / 256 / 256 % 256) = p7 at *
  have hs : cnt (Nat.testBit (uNx x)) 64 = p0 + p1 + p2 + p3 + p4 + p5 + p6 + p7 := by
    have e0 : cnt (Nat.testBit (uNx x)) (8 + 56) = cnt (Nat.testBit (uNx x)) 64 := rfl
    have e1 : cnt (Nat.testBit (uNx x / 256)) (8 + 48) = cnt (Nat.testBit (uNx x / 256)) 56 := rfl
    have e2 : cnt (Nat.testBit (uNx x / 256 / 256)) (8 + 40) = cnt (Nat.testBit (uNx x / 256 / 256)) 48 := rfl
    have e3 : cnt (Nat.testBit (uNx x / 256 / 256 / 256)) (8 + 32) = cnt (Nat.testBit (uNx x / 256 / 256 / 256)) 40 := rfl
    have e4 : cnt (Nat.testBit (uNx x / 256 / 256 / 256 / 256)) (8 + 24) = cnt (Nat.testBit (uNx x / 256 / 256 / 256 / 256)) 32 := rfl
    have e5 : cnt (Nat.testBit (uNx x / 256 / 256 / 256 / 256 / 256)) (8 + 16) = cnt (Nat.testBit (uNx x / 256 / 256 / 256 / 256 / 256)) 24 := rfl
    have e6 : cnt (Nat.testBit (uNx x / 256 / 256 / 256 / 256 / 256 / 256)) (8 + 8) = cnt (Nat.testBit (uNx x / 256 / 256 / 256 / 256 / 256 / 256)) 16 := rfl
    have e7 : cnt (Nat.testBit (uNx x / 256 / 256 / 256 / 256 / 256 / 256 / 256)) (8 + 0) = cnt (Nat.testBit (uNx x / 256 / 256 / 256 / 256 / 256 / 256 / 256)) 8 := rfl
    omega
  rw [hs]
  rw [hG] at a3
  clear hs hG a1 a2 c0 c1 c2 c3 c4 c5 c6 c7 c8 hcn
  have hq : q_bc x = (fun a : Int64 => Int64.toInt32 (a + q_us a 8 + q_us (a + q_us a 8) 16 + q_us (a + q_us a 8 + q_us (a + q_us a 8) 16) 32) &&& 127) (q_bc3 (q_bc2 (q_bc1 x))) := rfl
  rw [hq]
  generalize q_bc3 (q_bc2 (q_bc1 x)) = a at a3 ⊢
  have hA60 : uNx a < 1152921504606846976 := by
    rw [a3]
    exact sw_0 d0 d1 d2 d3 d4 d5 d6 d7
  have b1 : uNx (a + q_us a 8) = uNx a + uNx a / 256 := by
    rw [uNx_add, uNx_us (k := 8) (by decide +kernel), show (2 : Nat) ^ 8 = 256 from rfl]
    exact Nat.mod_eq_of_lt (Nat.lt_of_lt_of_le (sw_1 hA60) (by decide))
  have hB : uNx (a + q_us a 8) < 2305843009213693952 := by rw [b1]; exact sw_1 hA60
  have b2 : uNx (a + q_us a 8 + q_us (a + q_us a 8) 16) = uNx (a + q_us a 8) + uNx (a + q_us a 8) / 65536 := by
    rw [uNx_add, uNx_us (k := 16) (by decide +kernel), show (2 : Nat) ^ 16 = 65536 from rfl]
    exact Nat.mod_eq_of_lt (Nat.lt_of_lt_of_le (sw_2 hB) (by decide))
  have hC : uNx (a + q_us a 8 + q_us (a + q_us a 8) 16) < 4611686018427387904 := by rw [b2]; exact sw_2 hB
  have b3 : uNx (a + q_us a 8 + q_us (a + q_us a 8) 16 + q_us (a + q_us a 8 + q_us (a + q_us a 8) 16) 32) = uNx (a + q_us a 8 + q_us (a + q_us a 8) 16) + uNx (a + q_us a 8 + q_us (a + q_us a 8) 16) / 4294967296 := by
    rw [uNx_add, uNx_us (k := 32) (by decide +kernel), show (2 : Nat) ^ 32 = 4294967296 from rfl]
    exact Nat.mod_eq_of_lt (sw_3 hC)
  show Int64.toInt32 (a + q_us a 8 + q_us (a + q_us a 8) 16 + q_us (a + q_us a 8 + q_us (a + q_us a 8) 16) 32) &&& 127 = _
  generalize a + q_us a 8 + q_us (a + q_us a 8) 16 + q_us (a + q_us a 8 + q_us (a + q_us a 8) 16) 32 = e at b3 ⊢
  have he : uNx e % 128 = p0 + p1 + p2 + p3 + p4 + p5 + p6 + p7 := by
    exact swar_end a3 b1 b2 b3 d0 d1 d2 d3 d4 d5 d6 d7
  rw [← he]
  apply Int32.toBitVec_inj.mp
  apply BitVec.eq_of_toNat_eq
  have z1 : (Int64.toInt32 e &&& 127).toBitVec.toNat = (uNx e % 4294967296 &&& 127) := by
    rw [Int32.toBitVec_and, BitVec.toNat_and, Int64.toBitVec_toInt32, BitVec.signExtend_eq_setWidth_of_le _ (by decide), BitVec.toNat_setWidth]
    rfl
  have z2 : (nI (uNx e % 128)).toBitVec.toNat = uNx e % 128 := by
    simp [nI]
    omega
  rw [z1, z2, show (127 : Nat) = 2 ^ 7 - 1 from rfl, Nat.and_two_pow_sub_one_eq_mod]
  omega
theorem m_b8_q (x : Int64) {k : Nat} (hk : k < 8) : m_b8 x k = q_b8 x k := by
  have e3 : ∀ k : Fin 8, (Int64.toUInt64 (Int32.toInt64 (nI (56 - 8 * k.val))) &&& Int64.toUInt64 63).toNat % 64 = 56 - 8 * k.val := by decide +kernel
  have f3 := e3 ⟨k, hk⟩
  simp only at f3
  have hu : (q_us x (nI (56 - 8 * k))).toBitVec = x.toBitVec >>> (56 - 8 * k) := by
    apply BitVec.eq_of_toNat_eq
    show uNx (q_us x (nI (56 - 8 * k))) = _
    rw [uNx_us f3, BitVec.toNat_ushiftRight, Nat.shiftRight_eq_div_pow]
    rfl
  have hs := bt_shr x (56 - 8 * k) (by omega)
  unfold m_b8 q_b8
  apply Int32.toBitVec_inj.mp
  apply BitVec.eq_of_getLsbD_eq
  intro i hi
  rw [Int32.toBitVec_and, Int32.toBitVec_and, BitVec.getLsbD_and, BitVec.getLsbD_and]
  by_cases h8 : i < 8
  · have : (Int64.toInt32 (x >>> (Int32.toInt64 (nI (56 - 8 * k)) &&& 63))).toBitVec.getLsbD i = (Int64.toInt32 (q_us x (nI (56 - 8 * k)))).toBitVec.getLsbD i := by
      rw [Int64.toBitVec_toInt32, Int64.toBitVec_toInt32, hs, hu, BitVec.getLsbD_signExtend, BitVec.getLsbD_signExtend, if_pos (by omega), if_pos (by omega), BitVec.getLsbD_sshiftRight, BitVec.getLsbD_ushiftRight, if_pos (by omega)]
      have : ¬ 64 ≤ i := by omega
      simp [this]
    rw [this]
  · have : ((255 : Int32).toBitVec).getLsbD i = false := by
      have := (by decide +kernel : ∀ i : Fin 32, ¬ i.val < 8 → ((255 : Int32).toBitVec).getLsbD i.val = false) ⟨i, hi⟩ h8
      exact this
    rw [this, Bool.and_false, Bool.and_false]
theorem q_b8_pos (x : Int64) (k : Nat) : 0 < q_b8 x k ↔ ¬ q_b8 x k = 0 := by
  obtain ⟨C, hC, e⟩ : ∃ C, C < 256 ∧ q_b8 x k = nI C := by
    refine ⟨(Int64.toInt32 (q_us x (nI (56 - 8 * k)))).toBitVec.toNat % 256, by omega, ?_⟩
    unfold q_b8
    apply Int32.toBitVec_inj.mp
    apply BitVec.eq_of_toNat_eq
    have z2 : (nI ((Int64.toInt32 (q_us x (nI (56 - 8 * k)))).toBitVec.toNat % 256)).toBitVec.toNat = (Int64.toInt32 (q_us x (nI (56 - 8 * k)))).toBitVec.toNat % 256 := by
      simp [nI]
      omega
    rw [z2, Int32.toBitVec_and, BitVec.toNat_and, show ((255 : Int32).toBitVec.toNat) = 2 ^ 8 - 1 from by decide +kernel, Nat.and_two_pow_sub_one_eq_mod]
  have := (by decide +kernel : ∀ C : Fin 256, (0 : Int32) < nI C.val ↔ ¬ nI C.val = 0) ⟨C, hC⟩
  rw [e]
  exact this
def MTl (F B : Nat → Int32) (n : Nat) : Prop := ∀ i, i < n → F i = B i &&& 255
theorem MTl.st {F B : Nat → Int32} {n : Nat} {v w : Int32} (h : MTl F B n) (e : v = w &&& 255) : MTl (jm_up F n v) (jm_up B n w) (n + 1) := by
  intro i hi
  unfold jm_up
  by_cases q : i = n
  · rw [if_pos q, if_pos q]; exact e
  · rw [if_neg q, if_neg q]; exact h i (by omega)
theorem mai_at (s : MS) (i : Nat) (v : Int32) : (mai s 1 i v).2.2.1 1 = jm_up (s.2.2.1 1) i v := by simp [mai, jm_up]
theorem mi_at (s : MS) (k : Nat) (v : Int32) : (mi s k v).2.2.1 = s.2.2.1 := rfl
theorem mt_feed {s : MS} {B : Nat → Int32} {n : Nat} {wa wb wc wd we : Int32} (hT : MT s B n) (hr : n + 20 ≤ 2000) : MT (m_feed s n wa wb wc wd we) (q_feed B n wa wb wc wd we) (n + 20) := by
  refine ⟨by unfold m_feed; simp [mi, jm_up], hr, ?_⟩
  have h0 : MTl (s.2.2.1 1) B n := hT.2.2
  have q : ∀ w : Int32, m_by w 24 = q_byte w 24 &&& 255 ∧ m_by w 16 = q_byte w 16 &&& 255 ∧ m_by w 8 = q_byte w 8 &&& 255 ∧ m_by w 0 = q_byte w 0 &&& 255 := fun w => ⟨m_by_q w 24 (by omega), m_by_q w 16 (by omega), m_by_q w 8 (by omega), m_by_q w 0 (by omega)⟩
  have st4 : ∀ (F B : Nat → Int32) (n : Nat) (w : Int32), MTl F B n → MTl (jm_up (jm_up (jm_up (jm_up F n (m_by w 24)) (n + 1) (m_by w 16)) (n + 2) (m_by w 8)) (n + 3) (m_by w 0)) (q_add B n w) (n + 4) := fun F B n w h => (((h.st (q w).1).st (q w).2.1).st (q w).2.2.1).st (q w).2.2.2
  have h5 := st4 _ _ _ we (st4 _ _ _ wd (st4 _ _ _ wc (st4 _ _ _ wb (st4 _ _ _ wa h0))))
  have h6 : MTl ((m_feed s n wa wb wc wd we).2.2.1 1) (q_feed B n wa wb wc wd we) (n + 20) := by
    unfold m_feed
    simp only [mi_at, mai_at]
    exact h5
  exact h6
theorem cnt_none {g : Nat → Bool} : ∀ {n : Nat}, (∀ p, p < n → g p = false) → cnt g n = 0
  | 0, _ => rfl
  | n + 1, h => by
    show cnt g n + (if g n then 1 else 0) = 0
    rw [cnt_none fun p hp => h p (by omega), h n (by omega)]
    rfl
theorem cnt_off {g : Nat → Bool} {c : Nat} : ∀ {n : Nat}, c < n → g c = true → cnt g n = cnt (fun i => g i && decide (i ≠ c)) n + 1
  | 0, h, _ => by omega
  | n + 1, h, hg => by
    show cnt g n + (if g n then 1 else 0) = cnt (fun i => g i && decide (i ≠ c)) n + (if g n && decide (n ≠ c) then 1 else 0) + 1
    by_cases e : n = c
    · have h1 : cnt g n = cnt (fun i => g i && decide (i ≠ c)) n := cnt_congr fun p hp => by simp [show p ≠ c by omega]
      rw [h1, e, hg]
      simp
    · rw [cnt_off (by omega : c < n) hg]
      simp [e]
      omega
/-- as many here as there -/
theorem cnt_bij {f : Nat → Bool} {σ : Nat → Nat} {n : Nat} : ∀ (m : Nat) (g : Nat → Bool), (∀ p, p < m → f p = true → σ p < n ∧ g (σ p) = true) → (∀ p q, p < m → q < m → f p = true → f q = true → σ p = σ q → p = q) → (∀ c, c < n → g c = true → ∃ p, p < m ∧ f p = true ∧ σ p = c) → cnt f m = cnt g n
  | 0, g, _, _, h3 => by
    rw [cnt_none (g := g) fun c hc => by
      cases e : g c with
      | false => rfl
      | true => obtain ⟨p, hp, -⟩ := h3 c hc e; omega]
    rfl
  | m + 1, g, h1, h2, h3 => by
    show cnt f m + (if f m then 1 else 0) = cnt g n
    cases e : f m with
    | false =>
      rw [cnt_bij m g (fun p hp => h1 p (by omega)) (fun p q hp hq => h2 p q (by omega) (by omega)) fun c hc hg => by
        obtain ⟨p, hp, hf, hs⟩ := h3 c hc hg
        refine ⟨p, ?_, hf, hs⟩
        have : p ≠ m := fun x => by rw [x, e] at hf; cases hf
        omega]
      simp
    | true =>
      have q := h1 m (by omega) e
      rw [cnt_off q.1 q.2, cnt_bij m (fun i => g i && decide (i ≠ σ m)) (fun p hp hf => by
        have z := h1 p (by omega) hf
        refine ⟨z.1, ?_⟩
        have : σ p ≠ σ m := fun x => by have := h2 p m (by omega) (by omega) hf e x; omega
        simp [z.2, this]) (fun p q hp hq => h2 p q (by omega) (by omega)) fun c hc hg => by
        simp at hg
        obtain ⟨p, hp, hf, hs⟩ := h3 c hc hg.1
        refine ⟨p, ?_, hf, hs⟩
        have : p ≠ m := fun x => hg.2 (by rw [← hs, x])
        omega]
      simp
theorem srt_eq {F F' : Nat → Int64} {n : Nat} (h1 : SrtB F n) (h2 : SrtB F' n) (h3 : ∀ i, i < n → ∃ j, j < n ∧ F i = F' j) (h4 : ∀ j, j < n → ∃ i, i < n ∧ F' j = F i) : ∀ t i, i < t → i < n → F i = F' i
  | 0, i, h, _ => by omega
  | t + 1, i, h, hi => by
    have ih : ∀ k, k < i → F k = F' k := fun k hk => srt_eq h1 h2 h3 h4 t k (by omega) (by omega)
    obtain ⟨j, hj, e1⟩ := h3 i hi
    obtain ⟨k, hk, e2⟩ := h4 i hi
    have a1 : F' i ≤ F i := by
      by_cases q : j < i
      · have z1 := ih j q
        have z2 := h1 j i q hi
        rw [e1, ← z1] at z2
        exact (Int64.lt_irrefl z2).elim
      · by_cases q2 : i = j
        · rw [e1, ← q2]; exact Int64.le_refl _
        · rw [e1]; exact Int64.le_of_lt (h2 i j (by omega) hj)
    have a2 : F i ≤ F' i := by
      by_cases q : k < i
      · have z1 := ih k q
        have z2 := h2 k i q hi
        rw [e2, z1] at z2
        exact (Int64.lt_irrefl z2).elim
      · by_cases q2 : i = k
        · rw [e2, ← q2]; exact Int64.le_refl _
        · rw [e2]; exact Int64.le_of_lt (h1 i k (by omega) hk)
    exact Int64.le_antisymm a2 a1
/-- the names that are kept stand in their order -/
theorem kl_spec {R : Nat → CRec} {wo : Int64} {LT : Nat → Int64} {m : Nat} (hs : SortR R m) : ∀ p, p ≤ m → SrtB (q_kl R wo LT p) (cnt (bt wo) p) ∧ (∀ i, i < cnt (bt wo) p → ∃ q, q < p ∧ bt wo q = true ∧ q_kl R wo LT p i = k_n (R q)) ∧ ∀ q, q < p → bt wo q = true → ∃ i, i < cnt (bt wo) p ∧ q_kl R wo LT p i = k_n (R q)
  | 0, _ => ⟨fun i j _ hj => by have : j < 0 := hj; omega, fun i hi => by have : i < 0 := hi; omega, fun q hq => by omega⟩
  | p + 1, hp => by
    obtain ⟨i1, i2, i3⟩ := kl_spec hs p (by omega)
    by_cases e : bt wo p = true
    · have ek : q_kl R wo LT (p + 1) = jm_up (q_kl R wo LT p) (cnt (bt wo) p) (k_n (R p)) := by
        show (if bt wo p = true then _ else _) = _
        rw [if_pos e]
      have ec := cnt_t (f := bt wo) e
      rw [ek, ec]
      have at1 : ∀ i, i < cnt (bt wo) p → jm_up (q_kl R wo LT p) (cnt (bt wo) p) (k_n (R p)) i = q_kl R wo LT p i := fun i hi => by unfold jm_up; rw [if_neg (by omega)]
      have at2 : jm_up (q_kl R wo LT p) (cnt (bt wo) p) (k_n (R p)) (cnt (bt wo) p) = k_n (R p) := by unfold jm_up; rw [if_pos rfl]
      refine ⟨?_, ?_, ?_⟩
      · intro i j hij hj
        by_cases q : j < cnt (bt wo) p
        · rw [at1 i (by omega), at1 j q]; exact i1 i j hij q
        · have ej : j = cnt (bt wo) p := by omega
          rw [ej, at2, at1 i (by omega)]
          obtain ⟨r, hr, -, e3⟩ := i2 i (by omega)
          rw [e3]
          exact hs r p hr (by omega)
      · intro i hi
        by_cases q : i < cnt (bt wo) p
        · obtain ⟨r, hr, b1, e3⟩ := i2 i q
          exact ⟨r, by omega, b1, (at1 i q).trans e3⟩
        · have ei : i = cnt (bt wo) p := by omega
          exact ⟨p, by omega, e, by rw [ei]; exact at2⟩
      · intro q hq hb
        by_cases z : q = p
        · rw [z]; exact ⟨_, Nat.lt_succ_self _, at2⟩
        · obtain ⟨i, hi, e3⟩ := i3 q (by omega) hb
          exact ⟨i, by omega, (at1 i hi).trans e3⟩
    · have e0 : bt wo p = false := by simpa using e
      have ek : q_kl R wo LT (p + 1) = q_kl R wo LT p := by
        show (if bt wo p = true then _ else _) = _
        rw [if_neg e]
      have ec := cnt_f (f := bt wo) e0
      rw [ek, ec]
      refine ⟨i1, fun i hi => ?_, fun q hq hb => ?_⟩
      · obtain ⟨r, hr, b1, e3⟩ := i2 i hi
        exact ⟨r, by omega, b1, e3⟩
      · have : q ≠ p := fun z => by rw [z, e0] at hb; cases hb
        exact i3 q (by omega) hb
