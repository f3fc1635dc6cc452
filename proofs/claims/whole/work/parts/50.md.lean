/-! the reference: its state as functions, and the heap that holds a state -/
abbrev MS : Type := (Nat → Int32) × (Nat → Int64) × (Nat → Nat → Int32) × (Nat → Nat → Int64) × (Nat → Nat → Bool)
def md_fi : Nat → Bool := fun k => match k with
  | 0 => true
  | 2 => true
  | 3 => true
  | 4 => true
  | 19 => true
  | 21 => true
  | 22 => true
  | 23 => true
  | 24 => true
  | 32 => true
  | 35 => true
  | 37 => true
  | 38 => true
  | 39 => true
  | 43 => true
  | _ => false
def md_fl : Nat → Bool := fun k => match k with
  | 25 => true
  | 44 => true
  | _ => false
def md_ai : Nat → Nat := fun k => match k with
  | 1 => 2000
  | 4 => 64
  | 7 => 64
  | 8 => 64
  | 9 => 2560
  | 10 => 2560
  | 11 => 2560
  | 12 => 2560
  | 14 => 2560
  | 17 => 40
  | 18 => 40
  | 19 => 40
  | 20 => 40
  | 22 => 40
  | 23 => 100
  | 24 => 100
  | 25 => 100
  | 26 => 64
  | 27 => 64
  | _ => 0
def md_al : Nat → Nat := fun k => match k with
  | 3 => 64
  | 5 => 64
  | 13 => 2560
  | 15 => 2560
  | 16 => 64
  | 21 => 40
  | 28 => 64
  | _ => 0
def md_az : Nat → Nat := fun k => match k with
  | 2 => 64
  | 6 => 64
  | _ => 0
def md_rf : Nat → Nat := fun k => match k with
  | 1 => 1
  | 5 => 2
  | 6 => 3
  | 7 => 4
  | 8 => 5
  | 9 => 6
  | 10 => 7
  | 11 => 8
  | 12 => 9
  | 13 => 10
  | 14 => 11
  | 15 => 12
  | 16 => 13
  | 17 => 14
  | 18 => 15
  | 20 => 16
  | 26 => 17
  | 27 => 18
  | 28 => 19
  | 29 => 20
  | 30 => 21
  | 31 => 22
  | 33 => 23
  | 34 => 24
  | 36 => 25
  | 40 => 26
  | 41 => 27
  | 42 => 28
  | _ => 0
def md_kd : Nat → (Nat × Nat) := fun k => match k with
  | 1 => (1, 2000)
  | 2 => (3, 64)
  | 3 => (2, 64)
  | 4 => (1, 64)
  | 5 => (2, 64)
  | 6 => (3, 64)
  | 7 => (1, 64)
  | 8 => (1, 64)
  | 9 => (1, 2560)
  | 10 => (1, 2560)
  | 11 => (1, 2560)
  | 12 => (1, 2560)
  | 13 => (2, 2560)
  | 14 => (1, 2560)
  | 15 => (2, 2560)
  | 16 => (2, 64)
  | 17 => (1, 40)
  | 18 => (1, 40)
  | 19 => (1, 40)
  | 20 => (1, 40)
  | 21 => (2, 40)
  | 22 => (1, 40)
  | 23 => (1, 100)
  | 24 => (1, 100)
  | 25 => (1, 100)
  | 26 => (1, 64)
  | 27 => (1, 64)
  | 28 => (2, 64)
  | _ => (9, 0)
def mi (s : MS) (k : Nat) (v : Int32) : MS := (jm_up s.1 k v, s.2)
def ml (s : MS) (k : Nat) (v : Int64) : MS := (s.1, jm_up s.2.1 k v, s.2.2)
def mai (s : MS) (j i : Nat) (v : Int32) : MS := (s.1, s.2.1, jm_up s.2.2.1 j (jm_up (s.2.2.1 j) i v), s.2.2.2)
def mal (s : MS) (j i : Nat) (v : Int64) : MS := (s.1, s.2.1, s.2.2.1, jm_up s.2.2.2.1 j (jm_up (s.2.2.2.1 j) i v), s.2.2.2.2)
def maz (s : MS) (j i : Nat) (v : Bool) : MS := (s.1, s.2.1, s.2.2.1, s.2.2.2.1, jm_up s.2.2.2.2 j (jm_up (s.2.2.2.2 j) i v))
theorem jm_up_self {α : Type} (F : Nat → α) (k : Nat) : jm_up F k (F k) = F := by
  funext j
  unfold jm_up
  split
  · rename_i e; rw [e]
  · rfl
theorem jm_up_up {α : Type} (F : Nat → α) (k : Nat) (v w : α) : jm_up (jm_up F k v) k w = jm_up F k w := by
  funext j
  unfold jm_up
  split <;> rfl
theorem jm_up_com {α : Type} (F : Nat → α) {k k' : Nat} (v w : α) (hk : k ≠ k') : jm_up (jm_up F k v) k' w = jm_up (jm_up F k' w) k v := by
  funext j
  unfold jm_up
  by_cases h1 : j = k'
  · subst h1; rw [if_pos rfl, if_neg (fun e => hk e.symm), if_pos rfl]
  · by_cases h2 : j = k
    · subst h2; rw [if_neg h1, if_pos rfl, if_pos rfl]
    · rw [if_neg h1, if_neg h2, if_neg h2, if_neg h1]
theorem mi_self (s : MS) (k : Nat) : mi s k (s.1 k) = s := by
  obtain ⟨s1, s2⟩ := s
  show (jm_up s1 k (s1 k), s2) = _
  rw [jm_up_self]
theorem ml_self (s : MS) (k : Nat) : ml s k (s.2.1 k) = s := by
  obtain ⟨s1, s2, s3⟩ := s
  show (s1, jm_up s2 k (s2 k), s3) = _
  rw [jm_up_self]
theorem mi_mi (s : MS) (k : Nat) (v w : Int32) : mi (mi s k v) k w = mi s k w := by
  show (jm_up (jm_up s.1 k v) k w, s.2) = _
  rw [jm_up_up]; rfl
theorem mi_com (s : MS) {k k' : Nat} (v w : Int32) (hk : k ≠ k') : mi (mi s k v) k' w = mi (mi s k' w) k v := by
  show (jm_up (jm_up s.1 k v) k' w, s.2) = (jm_up (jm_up s.1 k' w) k v, s.2)
  rw [jm_up_com _ _ _ hk]
theorem ml_ml (s : MS) (k : Nat) (v w : Int64) : ml (ml s k v) k w = ml s k w := by
  show (s.1, jm_up (jm_up s.2.1 k v) k w, s.2.2) = _
  rw [jm_up_up]; rfl
def md_v (h : jm_H) (a : Nat) (s : MS) (b j : Nat) : Value :=
  if b = a then (if md_fi j = true then .int (s.1 j) else if md_fl j = true then .long (s.2.1 j) else h.2.2.2 b j)
  else if a < b ∧ j < md_ai (b - a) then .int (s.2.2.1 (b - a) j)
  else if a < b ∧ j < md_al (b - a) then .long (s.2.2.2.1 (b - a) j)
  else if a < b ∧ j < md_az (b - a) then .int (jb (s.2.2.2.2 (b - a) j))
  else h.2.2.2 b j
def mdH (h : jm_H) (a : Nat) (s : MS) : jm_H := (h.1, h.2.1, h.2.2.1, md_v h a s)
/-- the reference's cells at a: kinds, and where its arrays lie -/
def MdK (h : jm_H) (a : Nat) : Prop := h.2.2.1 a = (jm_o 8, 45) ∧ (∀ k, md_rf k ≠ 0 → h.2.2.2 a k = .ref (a + md_rf k)) ∧ ∀ j, md_kd j ≠ (9, 0) → h.2.2.1 (a + j) = (jm_a (md_kd j).1, (md_kd j).2)
section MDH
variable {h : jm_H} {a : Nat} {s : MS}
theorem md_tg (hK : MdK h a) : (mdH h a s).2.2.1 a = (jm_o 8, 45) := hK.1
theorem md_ta (hK : MdK h a) {j t n : Nat} (e : md_kd j = (t, n)) (ht : t ≠ 9 := by decide) : (mdH h a s).2.2.1 (a + j) = (jm_a t, n) := by
  have := hK.2.2 j (by rw [e]; intro q; cases q; exact ht rfl)
  rw [e] at this
  exact this
theorem md_ri {k : Nat} (hk : md_fi k = true) : (mdH h a s).2.2.2 a k = .int (s.1 k) := by
  show md_v h a s a k = _
  unfold md_v
  rw [if_pos rfl, if_pos hk]
theorem md_fil {k : Nat} (hk : md_fl k = true) : md_fi k = false := by
  unfold md_fl at hk
  split at hk <;> first | rfl | cases hk
theorem md_rl {k : Nat} (hk : md_fl k = true) : (mdH h a s).2.2.2 a k = .long (s.2.1 k) := by
  show md_v h a s a k = _
  unfold md_v
  rw [if_pos rfl, if_neg (by rw [md_fil hk]; decide), if_pos hk]
theorem md_rr (hK : MdK h a) {k j : Nat} (h1 : md_fi k = false) (h2 : md_fl k = false) (h3 : md_rf k = j) (h4 : j ≠ 0 := by decide) : (mdH h a s).2.2.2 a k = .ref (a + j) := by
  show md_v h a s a k = _
  unfold md_v
  rw [if_pos rfl, if_neg (by rw [h1]; decide), if_neg (by rw [h2]; decide), hK.2.1 k (by rw [h3]; exact h4), h3]
theorem md_ai0 : md_ai 0 = 0 := rfl
theorem md_al0 : md_al 0 = 0 := rfl
theorem md_az0 : md_az 0 = 0 := rfl
theorem md_al_ai {j i : Nat} (hi : i < md_al j) : md_ai j = 0 := by
  unfold md_al at hi
  split at hi <;> first | rfl | omega
theorem md_az_ai {j i : Nat} (hi : i < md_az j) : md_ai j = 0 ∧ md_al j = 0 := by
  unfold md_az at hi
  split at hi <;> first | exact ⟨rfl, rfl⟩ | omega
theorem md_rai {j i : Nat} (hi : i < md_ai j) : (mdH h a s).2.2.2 (a + j) i = .int (s.2.2.1 j i) := by
  show md_v h a s (a + j) i = _
  unfold md_v
  have hj : j ≠ 0 := fun e => by rw [e, md_ai0] at hi; omega
  rw [if_neg (by omega), show a + j - a = j by omega, if_pos ⟨by omega, hi⟩]
theorem md_ral {j i : Nat} (hi : i < md_al j) : (mdH h a s).2.2.2 (a + j) i = .long (s.2.2.2.1 j i) := by
  show md_v h a s (a + j) i = _
  unfold md_v
  have hj : j ≠ 0 := fun e => by rw [e, md_al0] at hi; omega
  have := md_al_ai hi
  rw [if_neg (by omega), show a + j - a = j by omega, if_neg (by omega), if_pos ⟨by omega, hi⟩]
theorem md_raz {j i : Nat} (hi : i < md_az j) : (mdH h a s).2.2.2 (a + j) i = .int (jb (s.2.2.2.2 j i)) := by
  show md_v h a s (a + j) i = _
  unfold md_v
  have hj : j ≠ 0 := fun e => by rw [e, md_az0] at hi; omega
  have := md_az_ai hi
  rw [if_neg (by omega), show a + j - a = j by omega, if_neg (by omega), if_neg (by omega), if_pos ⟨by omega, hi⟩]
theorem md_wi {k : Nat} {v : Int32} (hk : md_fi k = true) : jm_put (mdH h a s) a k (.int v) = mdH h a (mi s k v) := by
  refine jm_heq rfl rfl rfl fun b j => ?_
  show (if b = a ∧ j = k then Value.int v else md_v h a s b j) = md_v h a (mi s k v) b j
  unfold md_v mi jm_up
  by_cases hb : b = a
  · by_cases hj : j = k
    · subst hj; subst hb; simp [hk]
    · subst hb; simp [hj]
  · simp [hb]
theorem md_wl {k : Nat} {v : Int64} (hk : md_fl k = true) : jm_put (mdH h a s) a k (.long v) = mdH h a (ml s k v) := by
  refine jm_heq rfl rfl rfl fun b j => ?_
  show (if b = a ∧ j = k then Value.long v else md_v h a s b j) = md_v h a (ml s k v) b j
  unfold md_v ml jm_up
  by_cases hb : b = a
  · by_cases hj : j = k
    · subst hj; subst hb; simp [hk, md_fil hk]
    · subst hb; simp [hj]
  · simp [hb]
theorem md_wai {j i : Nat} {v : Int32} (hi : i < md_ai j) : jm_put (mdH h a s) (a + j) i (.int v) = mdH h a (mai s j i v) := by
  have hj : j ≠ 0 := fun e => by rw [e, md_ai0] at hi; omega
  refine jm_heq rfl rfl rfl fun b i' => ?_
  show (if b = a + j ∧ i' = i then Value.int v else md_v h a s b i') = md_v h a (mai s j i v) b i'
  unfold md_v mai jm_up
  by_cases hb : b = a + j
  · subst hb
    by_cases e : i' = i
    · subst e; simp [hj, hi]
    · simp [e, hj]
  · by_cases h2 : a < b ∧ i' < md_ai (b - a)
    · have : b - a ≠ j := by omega
      simp [hb, h2, this]
    · simp [hb, h2]
theorem md_wal {j i : Nat} {v : Int64} (hi : i < md_al j) : jm_put (mdH h a s) (a + j) i (.long v) = mdH h a (mal s j i v) := by
  have hj : j ≠ 0 := fun e => by rw [e, md_al0] at hi; omega
  have h0 := md_al_ai hi
  refine jm_heq rfl rfl rfl fun b i' => ?_
  show (if b = a + j ∧ i' = i then Value.long v else md_v h a s b i') = md_v h a (mal s j i v) b i'
  unfold md_v mal jm_up
  by_cases hb : b = a + j
  · subst hb
    by_cases e : i' = i
    · subst e; simp [hj, hi, h0]
    · simp [e, hj]
  · by_cases h2 : a < b ∧ i' < md_al (b - a)
    · have : b - a ≠ j := by omega
      simp [hb, h2, this]
    · simp [hb, h2]
theorem md_waz {j i : Nat} {v : Bool} (hi : i < md_az j) : jm_put (mdH h a s) (a + j) i (.int (jb v)) = mdH h a (maz s j i v) := by
  have hj : j ≠ 0 := fun e => by rw [e, md_az0] at hi; omega
  have h0 := md_az_ai hi
  refine jm_heq rfl rfl rfl fun b i' => ?_
  show (if b = a + j ∧ i' = i then Value.int (jb v) else md_v h a s b i') = md_v h a (maz s j i v) b i'
  unfold md_v maz jm_up
  by_cases hb : b = a + j
  · subst hb
    by_cases e : i' = i
    · subst e; simp [hj, hi, h0.1, h0.2]
    · simp [e, hj]
  · by_cases h2 : a < b ∧ i' < md_az (b - a)
    · have : b - a ≠ j := by omega
      simp [hb, h2, this]
    · simp [hb, h2]
end MDH
