def q_blank (c : Int32) : Bool := decide (c = 9 ∨ c = 10 ∨ c = 13 ∨ c = 32)
set_option maxHeartbeats 4000000 in
set_option maxRecDepth 100000 in
theorem c_Tp_isBlank (l : Launch) (G : jm_G) (d : Nat) (h : jm_H) (c : Int32) : jm_C l G mm_Tp_isBlank d [.int c] h (some (.int (jb (q_blank c)))) h := by
  refine jm_ofE (by decide) rfl (Nat.le_of_ble_eq_true rfl) ?_
  refine jx_iload_n d_Tp_isBlank_0 0 rfl ?_
  refine jx_bipush (v0 := 9) d_Tp_isBlank_1 (by decide) ?_
  refine jx_icmp_eq (tgt := 24) d_Tp_isBlank_3 (by decide) (fun c1 => ?_) (fun c1 => ?_)
  ·
    refine jx_iconst (v0 := 1) d_Tp_isBlank_24 (by decide) ?_
    refine jx_goto (tgt := 29) d_Tp_isBlank_25 (by decide) ?_
    exact jx_zret d_Tp_isBlank_29 rfl (by first | rfl | decide) (⟨by grind [jb, q_blank], rfl⟩)
  ·
    refine jx_iload_n d_Tp_isBlank_6 0 rfl ?_
    refine jx_bipush (v0 := 10) d_Tp_isBlank_7 (by decide) ?_
    refine jx_icmp_eq (tgt := 24) d_Tp_isBlank_9 (by decide) (fun c2 => ?_) (fun c2 => ?_)
    ·
      refine jx_iconst (v0 := 1) d_Tp_isBlank_24 (by decide) ?_
      refine jx_goto (tgt := 29) d_Tp_isBlank_25 (by decide) ?_
      exact jx_zret d_Tp_isBlank_29 rfl (by first | rfl | decide) (⟨by grind [jb, q_blank], rfl⟩)
    ·
      refine jx_iload_n d_Tp_isBlank_12 0 rfl ?_
      refine jx_bipush (v0 := 13) d_Tp_isBlank_13 (by decide) ?_
      refine jx_icmp_eq (tgt := 24) d_Tp_isBlank_15 (by decide) (fun c3 => ?_) (fun c3 => ?_)
      ·
        refine jx_iconst (v0 := 1) d_Tp_isBlank_24 (by decide) ?_
        refine jx_goto (tgt := 29) d_Tp_isBlank_25 (by decide) ?_
        exact jx_zret d_Tp_isBlank_29 rfl (by first | rfl | decide) (⟨by grind [jb, q_blank], rfl⟩)
      ·
        refine jx_iload_n d_Tp_isBlank_18 0 rfl ?_
        refine jx_bipush (v0 := 32) d_Tp_isBlank_19 (by decide) ?_
        refine jx_icmp_ne (tgt := 28) d_Tp_isBlank_21 (by decide) (fun c4 => ?_) (fun c4 => ?_)
        ·
          refine jx_iconst (v0 := 0) d_Tp_isBlank_28 (by decide) ?_
          exact jx_zret d_Tp_isBlank_29 rfl (by first | rfl | decide) (⟨by grind [jb, q_blank], rfl⟩)
        ·
          refine jx_iconst (v0 := 1) d_Tp_isBlank_24 (by decide) ?_
          refine jx_goto (tgt := 29) d_Tp_isBlank_25 (by decide) ?_
          exact jx_zret d_Tp_isBlank_29 rfl (by first | rfl | decide) (⟨by grind [jb, q_blank], rfl⟩)
def q_letter (c : Int32) : Bool := decide ((97 ≤ c ∧ c ≤ 122) ∨ (65 ≤ c ∧ c ≤ 90))
set_option maxHeartbeats 4000000 in
set_option maxRecDepth 100000 in
theorem c_Tp_isLetter (l : Launch) (G : jm_G) (d : Nat) (h : jm_H) (c : Int32) : jm_C l G mm_Tp_isLetter d [.int c] h (some (.int (jb (q_letter c)))) h := by
  refine jm_ofE (by decide) rfl (Nat.le_of_ble_eq_true rfl) ?_
  refine jx_iload_n d_Tp_isLetter_0 0 rfl ?_
  refine jx_bipush (v0 := 97) d_Tp_isLetter_1 (by decide) ?_
  refine jx_icmp_lt (tgt := 12) d_Tp_isLetter_3 (by decide) (fun c1 => ?_) (fun c1 => ?_)
  ·
    refine jx_iload_n d_Tp_isLetter_12 0 rfl ?_
    refine jx_bipush (v0 := 65) d_Tp_isLetter_13 (by decide) ?_
    refine jx_icmp_lt (tgt := 28) d_Tp_isLetter_15 (by decide) (fun c2 => ?_) (fun c2 => ?_)
    ·
      refine jx_iconst (v0 := 0) d_Tp_isLetter_28 (by decide) ?_
      exact jx_zret d_Tp_isLetter_29 rfl (by first | rfl | decide) (⟨by grind [jb, q_letter], rfl⟩)
    ·
      refine jx_iload_n d_Tp_isLetter_18 0 rfl ?_
      refine jx_bipush (v0 := 90) d_Tp_isLetter_19 (by decide) ?_
      refine jx_icmp_gt (tgt := 28) d_Tp_isLetter_21 (by decide) (fun c3 => ?_) (fun c3 => ?_)
      ·
        refine jx_iconst (v0 := 0) d_Tp_isLetter_28 (by decide) ?_
        exact jx_zret d_Tp_isLetter_29 rfl (by first | rfl | decide) (⟨by grind [jb, q_letter], rfl⟩)
      ·
        refine jx_iconst (v0 := 1) d_Tp_isLetter_24 (by decide) ?_
        refine jx_goto (tgt := 29) d_Tp_isLetter_25 (by decide) ?_
        exact jx_zret d_Tp_isLetter_29 rfl (by first | rfl | decide) (⟨by grind [jb, q_letter], rfl⟩)
  ·
    refine jx_iload_n d_Tp_isLetter_6 0 rfl ?_
    refine jx_bipush (v0 := 122) d_Tp_isLetter_7 (by decide) ?_
    refine jx_icmp_le (tgt := 24) d_Tp_isLetter_9 (by decide) (fun c4 => ?_) (fun c4 => ?_)
    ·
      refine jx_iconst (v0 := 1) d_Tp_isLetter_24 (by decide) ?_
      refine jx_goto (tgt := 29) d_Tp_isLetter_25 (by decide) ?_
      exact jx_zret d_Tp_isLetter_29 rfl (by first | rfl | decide) (⟨by grind [jb, q_letter], rfl⟩)
    ·
      refine jx_iload_n d_Tp_isLetter_12 0 rfl ?_
      refine jx_bipush (v0 := 65) d_Tp_isLetter_13 (by decide) ?_
      refine jx_icmp_lt (tgt := 28) d_Tp_isLetter_15 (by decide) (fun c5 => ?_) (fun c5 => ?_)
      ·
        refine jx_iconst (v0 := 0) d_Tp_isLetter_28 (by decide) ?_
        exact jx_zret d_Tp_isLetter_29 rfl (by first | rfl | decide) (⟨by grind [jb, q_letter], rfl⟩)
      ·
        refine jx_iload_n d_Tp_isLetter_18 0 rfl ?_
        refine jx_bipush (v0 := 90) d_Tp_isLetter_19 (by decide) ?_
        refine jx_icmp_gt (tgt := 28) d_Tp_isLetter_21 (by decide) (fun c6 => ?_) (fun c6 => ?_)
        ·
          refine jx_iconst (v0 := 0) d_Tp_isLetter_28 (by decide) ?_
          exact jx_zret d_Tp_isLetter_29 rfl (by first | rfl | decide) (⟨by grind [jb, q_letter], rfl⟩)
        ·
          refine jx_iconst (v0 := 1) d_Tp_isLetter_24 (by decide) ?_
          refine jx_goto (tgt := 29) d_Tp_isLetter_25 (by decide) ?_
          exact jx_zret d_Tp_isLetter_29 rfl (by first | rfl | decide) (⟨by grind [jb, q_letter], rfl⟩)
def q_digit (c : Int32) : Bool := decide (48 ≤ c ∧ c ≤ 57)
set_option maxHeartbeats 4000000 in
set_option maxRecDepth 100000 in
theorem c_Tp_isDigit (l : Launch) (G : jm_G) (d : Nat) (h : jm_H) (c : Int32) : jm_C l G mm_Tp_isDigit d [.int c] h (some (.int (jb (q_digit c)))) h := by
  refine jm_ofE (by decide) rfl (Nat.le_of_ble_eq_true rfl) ?_
  refine jx_iload_n d_Tp_isDigit_0 0 rfl ?_
  refine jx_bipush (v0 := 48) d_Tp_isDigit_1 (by decide) ?_
  refine jx_icmp_lt (tgt := 16) d_Tp_isDigit_3 (by decide) (fun c1 => ?_) (fun c1 => ?_)
  ·
    refine jx_iconst (v0 := 0) d_Tp_isDigit_16 (by decide) ?_
    exact jx_zret d_Tp_isDigit_17 rfl (by first | rfl | decide) (⟨by grind [jb, q_digit], rfl⟩)
  ·
    refine jx_iload_n d_Tp_isDigit_6 0 rfl ?_
    refine jx_bipush (v0 := 57) d_Tp_isDigit_7 (by decide) ?_
    refine jx_icmp_gt (tgt := 16) d_Tp_isDigit_9 (by decide) (fun c2 => ?_) (fun c2 => ?_)
    ·
      refine jx_iconst (v0 := 0) d_Tp_isDigit_16 (by decide) ?_
      exact jx_zret d_Tp_isDigit_17 rfl (by first | rfl | decide) (⟨by grind [jb, q_digit], rfl⟩)
    ·
      refine jx_iconst (v0 := 1) d_Tp_isDigit_12 (by decide) ?_
      refine jx_goto (tgt := 17) d_Tp_isDigit_13 (by decide) ?_
      exact jx_zret d_Tp_isDigit_17 rfl (by first | rfl | decide) (⟨by grind [jb, q_digit], rfl⟩)
def q_mark (c : Int32) : Bool := decide (c = 61 ∨ c = 43 ∨ c = 45 ∨ c = 42 ∨ c = 47 ∨ c = 40 ∨ c = 41 ∨ c = 44)
set_option maxHeartbeats 4000000 in
set_option maxRecDepth 100000 in
theorem c_Tp_isMark (l : Launch) (G : jm_G) (d : Nat) (h : jm_H) (c : Int32) : jm_C l G mm_Tp_isMark d [.int c] h (some (.int (jb (q_mark c)))) h := by
  refine jm_ofE (by decide) rfl (Nat.le_of_ble_eq_true rfl) ?_
  refine jx_iload_n d_Tp_isMark_0 0 rfl ?_
  refine jx_bipush (v0 := 61) d_Tp_isMark_1 (by decide) ?_
  refine jx_icmp_eq (tgt := 48) d_Tp_isMark_3 (by decide) (fun c1 => ?_) (fun c1 => ?_)
  ·
    refine jx_iconst (v0 := 1) d_Tp_isMark_48 (by decide) ?_
    refine jx_goto (tgt := 53) d_Tp_isMark_49 (by decide) ?_
    exact jx_zret d_Tp_isMark_53 rfl (by first | rfl | decide) (⟨by grind [jb, q_mark], rfl⟩)
  ·
    refine jx_iload_n d_Tp_isMark_6 0 rfl ?_
    refine jx_bipush (v0 := 43) d_Tp_isMark_7 (by decide) ?_
    refine jx_icmp_eq (tgt := 48) d_Tp_isMark_9 (by decide) (fun c2 => ?_) (fun c2 => ?_)
    ·
      refine jx_iconst (v0 := 1) d_Tp_isMark_48 (by decide) ?_
      refine jx_goto (tgt := 53) d_Tp_isMark_49 (by decide) ?_
      exact jx_zret d_Tp_isMark_53 rfl (by first | rfl | decide) (⟨by grind [jb, q_mark], rfl⟩)
    ·
      refine jx_iload_n d_Tp_isMark_12 0 rfl ?_
      refine jx_bipush (v0 := 45) d_Tp_isMark_13 (by decide) ?_
      refine jx_icmp_eq (tgt := 48) d_Tp_isMark_15 (by decide) (fun c3 => ?_) (fun c3 => ?_)
      ·
        refine jx_iconst (v0 := 1) d_Tp_isMark_48 (by decide) ?_
        refine jx_goto (tgt := 53) d_Tp_isMark_49 (by decide) ?_
        exact jx_zret d_Tp_isMark_53 rfl (by first | rfl | decide) (⟨by grind [jb, q_mark], rfl⟩)
      ·
        refine jx_iload_n d_Tp_isMark_18 0 rfl ?_
        refine jx_bipush (v0 := 42) d_Tp_isMark_19 (by decide) ?_
        refine jx_icmp_eq (tgt := 48) d_Tp_isMark_21 (by decide) (fun c4 => ?_) (fun c4 => ?_)
        ·
          refine jx_iconst (v0 := 1) d_Tp_isMark_48 (by decide) ?_
          refine jx_goto (tgt := 53) d_Tp_isMark_49 (by decide) ?_
          exact jx_zret d_Tp_isMark_53 rfl (by first | rfl | decide) (⟨by grind [jb, q_mark], rfl⟩)
        ·
          refine jx_iload_n d_Tp_isMark_24 0 rfl ?_
          refine jx_bipush (v0 := 47) d_Tp_isMark_25 (by decide) ?_
          refine jx_icmp_eq (tgt := 48) d_Tp_isMark_27 (by decide) (fun c5 => ?_) (fun c5 => ?_)
          ·
            refine jx_iconst (v0 := 1) d_Tp_isMark_48 (by decide) ?_
            refine jx_goto (tgt := 53) d_Tp_isMark_49 (by decide) ?_
            exact jx_zret d_Tp_isMark_53 rfl (by first | rfl | decide) (⟨by grind [jb, q_mark], rfl⟩)
          ·
            refine jx_iload_n d_Tp_isMark_30 0 rfl ?_
            refine jx_bipush (v0 := 40) d_Tp_isMark_31 (by decide) ?_
            refine jx_icmp_eq (tgt := 48) d_Tp_isMark_33 (by decide) (fun c6 => ?_) (fun c6 => ?_)
            ·
              refine jx_iconst (v0 := 1) d_Tp_isMark_48 (by decide) ?_
              refine jx_goto (tgt := 53) d_Tp_isMark_49 (by decide) ?_
              exact jx_zret d_Tp_isMark_53 rfl (by first | rfl | decide) (⟨by grind [jb, q_mark], rfl⟩)
            ·
              refine jx_iload_n d_Tp_isMark_36 0 rfl ?_
              refine jx_bipush (v0 := 41) d_Tp_isMark_37 (by decide) ?_
              refine jx_icmp_eq (tgt := 48) d_Tp_isMark_39 (by decide) (fun c7 => ?_) (fun c7 => ?_)
              ·
                refine jx_iconst (v0 := 1) d_Tp_isMark_48 (by decide) ?_
                refine jx_goto (tgt := 53) d_Tp_isMark_49 (by decide) ?_
                exact jx_zret d_Tp_isMark_53 rfl (by first | rfl | decide) (⟨by grind [jb, q_mark], rfl⟩)
              ·
                refine jx_iload_n d_Tp_isMark_42 0 rfl ?_
                refine jx_bipush (v0 := 44) d_Tp_isMark_43 (by decide) ?_
                refine jx_icmp_ne (tgt := 52) d_Tp_isMark_45 (by decide) (fun c8 => ?_) (fun c8 => ?_)
                ·
                  refine jx_iconst (v0 := 0) d_Tp_isMark_52 (by decide) ?_
                  exact jx_zret d_Tp_isMark_53 rfl (by first | rfl | decide) (⟨by grind [jb, q_mark], rfl⟩)
                ·
                  refine jx_iconst (v0 := 1) d_Tp_isMark_48 (by decide) ?_
                  refine jx_goto (tgt := 53) d_Tp_isMark_49 (by decide) ?_
                  exact jx_zret d_Tp_isMark_53 rfl (by first | rfl | decide) (⟨by grind [jb, q_mark], rfl⟩)
theorem jm_lok {m d : Nat} (h : m ≤ 45) : 19 + m + jm_lo d ≤ jm_lo (d + 1) := by unfold jm_lo; omega
theorem jm_put_id {h : jm_H} {a k : Nat} {v : Value} (p : h.2.2.2 a k = v) : jm_put h a k v = h := jm_heq rfl rfl rfl (fun b j => by
  simp only [jm_put]
  split
  · rename_i q
    rw [q.1, q.2, p]
  · rfl)
theorem jm_put_put (h : jm_H) (a k : Nat) (v w : Value) : jm_put (jm_put h a k v) a k w = jm_put h a k w := jm_heq rfl rfl rfl (fun b j => by
  simp only [jm_put]
  split <;> rfl)
theorem jm_put_comm (h : jm_H) {a k a' k' : Nat} (v w : Value) (hn : ¬ (a = a' ∧ k = k')) : jm_put (jm_put h a k v) a' k' w = jm_put (jm_put h a' k' w) a k v := jm_heq rfl rfl rfl (fun b j => by
  simp only [jm_put]
  grind)
theorem jx_eqv {l : Launch} {G : jm_G} {M : jm_M} {n0 s0 : Nat} {Z : jm_Z} {Post : jm_r → jm_H → Prop} {pc : Nat} {lv : List (Nat × Value)} {st : List Value} {h h' : jm_H} (k : jm_X l G M n0 s0 Z Post pc lv st h') (h1 : h.1 = h'.1) (h2 : h.2.1 = h'.2.1) (h3 : h.2.2.1 = h'.2.2.1) (h4 : ∀ b j, h.2.2.2 b j = h'.2.2.2 b j) : jm_X l G M n0 s0 Z Post pc lv st h := by
  rw [jm_heq h1 h2 h3 h4]
  exact k
theorem lg_cmp0 (x y : Int64) : lg_cmp x y = 0 ↔ x = y := by
  unfold lg_cmp
  grind
def q_kow (w : Int64) : Int32 := if w = 7883953568967819264 then 4 else if w = 7881712764270411776 then 5 else if w = 7594757821606920192 then 6 else 2
set_option maxHeartbeats 4000000 in
set_option maxRecDepth 100000 in
theorem c_Tp_kindOfWord (l : Launch) (G : jm_G) (d : Nat) (h : jm_H) (w : Int64) : jm_C l G mm_Tp_kindOfWord d [.long w] h (some (.int (q_kow w))) h := by
  refine jm_ofE (by decide) rfl (Nat.le_of_ble_eq_true rfl) ?_
  refine jx_lload_n d_Tp_kindOfWord_0 0 rfl ?_
  refine jx_ldc2 d_Tp_kindOfWord_1 lk_Tp_68 ?_
  refine jx_lcmp d_Tp_kindOfWord_4 ?_
  refine jx_if_ne (tgt := 10) d_Tp_kindOfWord_5 (by decide) (fun c1 => ?_) (fun c1 => ?_)
  ·
    refine jx_lload_n d_Tp_kindOfWord_10 0 rfl ?_
    refine jx_ldc2 d_Tp_kindOfWord_11 lk_Tp_70 ?_
    refine jx_lcmp d_Tp_kindOfWord_14 ?_
    refine jx_if_ne (tgt := 20) d_Tp_kindOfWord_15 (by decide) (fun c2 => ?_) (fun c2 => ?_)
    ·
      refine jx_lload_n d_Tp_kindOfWord_20 0 rfl ?_
      refine jx_ldc2 d_Tp_kindOfWord_21 lk_Tp_72 ?_
      refine jx_lcmp d_Tp_kindOfWord_24 ?_
      refine jx_if_ne (tgt := 33) d_Tp_kindOfWord_25 (by decide) (fun c3 => ?_) (fun c3 => ?_)
      ·
        refine jx_iconst (v0 := 2) d_Tp_kindOfWord_33 (by decide) ?_
        exact jx_iret d_Tp_kindOfWord_34 rfl (⟨by grind [q_kow, lg_cmp0], rfl⟩)
      ·
        refine jx_bipush (v0 := 6) d_Tp_kindOfWord_28 (by decide) ?_
        refine jx_goto (tgt := 34) d_Tp_kindOfWord_30 (by decide) ?_
        exact jx_iret d_Tp_kindOfWord_34 rfl (⟨by grind [q_kow, lg_cmp0], rfl⟩)
    ·
      refine jx_iconst (v0 := 5) d_Tp_kindOfWord_18 (by decide) ?_
      exact jx_iret d_Tp_kindOfWord_19 rfl (⟨by grind [q_kow, lg_cmp0], rfl⟩)
  ·
    refine jx_iconst (v0 := 4) d_Tp_kindOfWord_8 (by decide) ?_
    exact jx_iret d_Tp_kindOfWord_9 rfl (⟨by grind [q_kow, lg_cmp0], rfl⟩)
/-- a Tape at a, its bytes at b: length n, next p, kind, start, name, number -/
def TpA (h : jm_H) (a b n p : Nat) (K : Int32) (s : Nat) (nm : Int64) (nu : Int32) : Prop := h.2.2.1 a = (jm_o 2, 7) ∧ h.2.2.2 a 0 = .ref b ∧ h.2.2.2 a 1 = .int (nI n) ∧ h.2.2.2 a 2 = .int (nI p) ∧ h.2.2.2 a 3 = .int K ∧ h.2.2.2 a 4 = .int (nI s) ∧ h.2.2.2 a 5 = .long nm ∧ h.2.2.2 a 6 = .int nu ∧ h.2.2.1 b = (jm_a 0, 2000)
def TpB (h : jm_H) (b : Nat) (B : Nat → Int32) : Prop := ∀ j, j < 2000 → h.2.2.2 b j = .int (B j)
/-- byte p of a tape of n bytes, as a number from 0 to 255; -1 behind its end -/
def q_at (B : Nat → Int32) (n p : Nat) : Int32 := if p < n then B p &&& 255 else -1
def q_skip (B : Nat → Int32) (n p : Nat) : Nat := if p < n ∧ q_blank (q_at B n p) = true then q_skip B n (p + 1) else p
termination_by n - p
theorem q_skip_le (B : Nat → Int32) (n p : Nat) (h : p ≤ n) : p ≤ q_skip B n p ∧ q_skip B n p ≤ n := by
  induction hm : n - p generalizing p with
  | zero => unfold q_skip; rw [if_neg (by omega)]; omega
  | succ m ih =>
    unfold q_skip
    split
    · have := ih (p + 1) (by omega) (by omega)
      omega
    · omega
set_option maxHeartbeats 4000000 in
set_option maxRecDepth 100000 in
theorem c_Tp_byteAt (l : Launch) (G : jm_G) (d : Nat) {h : jm_H} {a b n p s : Nat} {K : Int32} {nm : Int64} {nu : Int32} {B : Nat → Int32} {i : Nat} (hT : TpA h a b n p K s nm nu) (hB : TpB h b B) (hn : n ≤ 2000) (hi : i < 2 ^ 31) : jm_C l G mm_Tp_byteAt d [.ref a, .int (nI i)] h (some (.int (q_at B n i))) h := by
  obtain ⟨ta, f0, f1, f2, f3, f4, f5, f6, tb⟩ := id hT
  have fB := hB
  refine jm_ofE (by decide) rfl (Nat.le_of_ble_eq_true rfl) ?_
  refine jx_iload_n d_Tp_byteAt_0 1 rfl ?_
  refine jx_if_ltN (tgt := 34) (i) d_Tp_byteAt_1 rfl (by omega) (by decide) (fun c1 => ?_) (fun c1 => ?_)
  · omega
  ·
    refine jx_iload_n d_Tp_byteAt_4 1 rfl ?_
    refine jx_aload_n d_Tp_byteAt_5 0 rfl ?_
    refine jx_get d_Tp_byteAt_6 fF_Tp_15 ta f1 ?_
    refine jx_icmp_geN (tgt := 34) (i) (n) d_Tp_byteAt_9 rfl rfl (by omega) (by omega) (by decide) (fun c2 => ?_) (fun c2 => ?_)
    ·
      refine jx_iconst (v0 := -1) d_Tp_byteAt_34 (by decide) ?_
      exact jx_iret d_Tp_byteAt_35 rfl (⟨by first | (simp [q_at]; omega) | (rw [q_at, if_pos (by omega)]) | (rw [q_at, if_neg (by omega)])  , rfl⟩)
    ·
      refine jx_iload_n d_Tp_byteAt_12 1 rfl ?_
      refine jx_aload_n d_Tp_byteAt_13 0 rfl ?_
      refine jx_get d_Tp_byteAt_14 fF_Tp_9 ta f0 ?_
      refine jx_alen (v0 := 2000) d_Tp_byteAt_17 tb (by decide) ?_
      refine jx_icmp_geN (tgt := 34) (i) (2000) d_Tp_byteAt_18 rfl rfl (by omega) (by omega) (by decide) (fun c3 => ?_) (fun c3 => ?_)
      ·
        refine jx_iconst (v0 := -1) d_Tp_byteAt_34 (by decide) ?_
        exact jx_iret d_Tp_byteAt_35 rfl (⟨by first | (simp [q_at]; omega) | (rw [q_at, if_pos (by omega)]) | (rw [q_at, if_neg (by omega)])  , rfl⟩)
      ·
        refine jx_aload_n d_Tp_byteAt_21 0 rfl ?_
        refine jx_get d_Tp_byteAt_22 fF_Tp_9 ta f0 ?_
        refine jx_iload_n d_Tp_byteAt_25 1 rfl ?_
        refine jx_bald d_Tp_byteAt_26 tb rfl (jm_vinN (by omega) (by decide)) (jm_atN (by omega) (fB _ (by omega))) ?_
        refine jx_sipush (v0 := 255) d_Tp_byteAt_27 (by decide) ?_
        refine jx_iand d_Tp_byteAt_30 ?_
        refine jx_goto (tgt := 35) d_Tp_byteAt_31 (by decide) ?_
        exact jx_iret d_Tp_byteAt_35 rfl (⟨by first | (simp [q_at]; omega) | (rw [q_at, if_pos (by omega)]) | (rw [q_at, if_neg (by omega)])  , rfl⟩)
set_option maxHeartbeats 4000000 in
set_option maxRecDepth 100000 in
theorem c_Tp_rewind (l : Launch) (G : jm_G) (d : Nat) {h : jm_H} {a b n p s : Nat} {K : Int32} {nm : Int64} {nu : Int32} {B : Nat → Int32} (hT : TpA h a b n p K s nm nu) (hB : TpB h b B) : jm_C l G mm_Tp_rewind d [.ref a] h none (jm_put h a 2 (.int 0)) := by
  obtain ⟨ta, f0, f1, f2, f3, f4, f5, f6, tb⟩ := id hT
  have fB := hB
  refine jm_ofE (by decide) rfl (Nat.le_of_ble_eq_true rfl) ?_
  refine jx_aload_n d_Tp_rewind_0 0 rfl ?_
  refine jx_iconst (v0 := 0) d_Tp_rewind_1 (by decide) ?_
  refine jx_put (v0 := .int (0)) d_Tp_rewind_2 fF_Tp_19 jv_Tp ft_Tp_next ta rfl rfl ?_
  exact jx_vret d_Tp_rewind_5 rfl (⟨rfl, rfl⟩)
def q_nloop (B : Nat → Int32) (n p : Nat) (acc : Int32) : Nat × Int32 := if p < n ∧ q_digit (q_at B n p) = true then q_nloop B n (p + 1) (10 * acc + q_at B n p - 48) else (p, acc)
termination_by n - p
def q_alnum (c : Int32) : Bool := q_letter c || q_digit c
def q_sh (c : Int32) (k : Nat) : Int64 := c.toInt64 <<< ((56 - 8 * nI k).toInt64 &&& 63)
def q_wloop (B : Nat → Int32) (n s p : Nat) (acc : Int64) : Nat × Int64 := if p < n ∧ q_alnum (q_at B n p) = true then q_wloop B n s (p + 1) (if p - s < 8 then acc ||| q_sh (q_at B n p) (p - s) else acc) else (p, acc)
termination_by n - p
set_option maxHeartbeats 4000000 in
set_option maxRecDepth 100000 in
theorem lp_Tp_readNumber (l : Launch) (G : jm_G) {a b n s : Nat} {K : Int32} {nm : Int64} {B : Nat → Int32} {n0 s0 d : Nat} {Post : jm_r → jm_H → Prop} (hn : n ≤ 2000) (m : Nat) : ∀ {h : jm_H} (p : Nat) (nu : Int32), n - p < m → p ≤ n → TpA h a b n p K s nm nu → TpB h b B →
    jm_X l G mm_Tp_readNumber n0 s0 (jm_zn G (d + 1) n0 s0) Post 66 [(0, .ref a)] [] (jm_put (jm_put h a 6 (.int (q_nloop B n p nu).2)) a 2 (.int (nI (q_nloop B n p nu).1))) → jm_X l G mm_Tp_readNumber n0 s0 (jm_zn G (d + 1) n0 s0) Post 5 [(0, .ref a)] [] h := by
  induction m with
  | zero => intro h p nu hm; omega
  | succ m ih =>
    intro h p nu hm hp hT hB k
    obtain ⟨ta, f0, f1, f2, f3, f4, f5, f6, tb⟩ := id hT
    have fB := hB
    refine jx_aload_n d_Tp_readNumber_5 0 rfl ?_
    refine jx_get d_Tp_readNumber_6 fF_Tp_19 ta f2 ?_
    refine jx_aload_n d_Tp_readNumber_9 0 rfl ?_
    refine jx_get d_Tp_readNumber_10 fF_Tp_15 ta f1 ?_
    refine jx_icmp_geN (tgt := 66) (p) (n) d_Tp_readNumber_13 rfl rfl (by omega) (by omega) (by decide) (fun c1 => ?_) (fun c1 => ?_)
    ·
      rw [q_nloop, if_neg (by grind [jb])] at k
      exact jx_ath (by rw [jm_put_id f6, jm_put_id f2]) k
    ·
      refine jx_aload_n d_Tp_readNumber_16 0 rfl ?_
      refine jx_aload_n d_Tp_readNumber_17 0 rfl ?_
      refine jx_get d_Tp_readNumber_18 fF_Tp_19 ta f2 ?_
      refine jx_callV (M2 := mm_Tp_byteAt) rfl ta lk_Tp_41 wi_Tp_byteAt ws_Tp_byteAt d_Tp_readNumber_21 (c_Tp_byteAt l G d ⟨ta, f0, f1, f2, f3, f4, f5, f6, tb⟩ fB (by omega) (by omega)) cd_Tp_byteAt rfl rfl (Nat.le_of_ble_eq_true rfl) (Nat.le_refl _) (jm_lok (by decide)) ?_
      refine jx_callS (M2 := mm_Tp_isDigit) lk_Tp_55 wt_Tp_isDigit d_Tp_readNumber_24 (c_Tp_isDigit l G d _ _) cd_Tp_isDigit rfl rfl (Nat.le_of_ble_eq_true rfl) (Nat.le_refl _) (jm_lok (by decide)) ?_
      refine jx_if_eq (tgt := 66) d_Tp_readNumber_27 (by decide) (fun c2 => ?_) (fun c2 => ?_)
      ·
        rw [q_nloop, if_neg (by grind [jb])] at k
        exact jx_ath (by rw [jm_put_id f6, jm_put_id f2]) k
      ·
        refine jx_aload_n d_Tp_readNumber_30 0 rfl ?_
        refine jx_bipush (v0 := 10) d_Tp_readNumber_31 (by decide) ?_
        refine jx_aload_n d_Tp_readNumber_33 0 rfl ?_
        refine jx_get d_Tp_readNumber_34 fF_Tp_32 ta f6 ?_
        refine jx_imul d_Tp_readNumber_37 ?_
        refine jx_aload_n d_Tp_readNumber_38 0 rfl ?_
        refine jx_aload_n d_Tp_readNumber_39 0 rfl ?_
        refine jx_get d_Tp_readNumber_40 fF_Tp_19 ta f2 ?_
        refine jx_callV (M2 := mm_Tp_byteAt) rfl ta lk_Tp_41 wi_Tp_byteAt ws_Tp_byteAt d_Tp_readNumber_43 (c_Tp_byteAt l G d ⟨ta, f0, f1, f2, f3, f4, f5, f6, tb⟩ fB (by omega) (by omega)) cd_Tp_byteAt rfl rfl (Nat.le_of_ble_eq_true rfl) (Nat.le_refl _) (jm_lok (by decide)) ?_
        refine jx_iadd d_Tp_readNumber_46 ?_
        refine jx_bipush (v0 := 48) d_Tp_readNumber_47 (by decide) ?_
        refine jx_isub d_Tp_readNumber_49 ?_
        refine jx_put (v0 := .int ((((10 * nu) + q_at B (n) (p)) - 48))) d_Tp_readNumber_50 fF_Tp_32 jv_Tp ft_Tp_number ta rfl rfl ?_
        refine jx_aload_n d_Tp_readNumber_53 0 rfl ?_
        refine jx_dup d_Tp_readNumber_54 rfl ?_
        refine jx_get d_Tp_readNumber_55 fF_Tp_19 ta (jm_rd_k (by decide) f2) ?_
        refine jx_iconst (v0 := 1) d_Tp_readNumber_58 (by decide) ?_
        refine jx_iadd d_Tp_readNumber_59 ?_
        refine jx_ati (nI_add (p) (1)) ?_
        refine jx_put (v0 := .int (nI ((p) + (1)))) d_Tp_readNumber_60 fF_Tp_19 jv_Tp ft_Tp_next ta rfl rfl ?_
        refine jx_goto (tgt := 5) d_Tp_readNumber_63 (by decide) ?_
        exact ih (p + 1) (10 * nu + q_at B n p - 48) (by omega) (by omega) ⟨ta, (jm_rd_k (by decide) (jm_rd_k (by decide) f0)), (jm_rd_k (by decide) (jm_rd_k (by decide) f1)), (jm_rd_s _ _ _ _), (jm_rd_k (by decide) (jm_rd_k (by decide) f3)), (jm_rd_k (by decide) (jm_rd_k (by decide) f4)), (jm_rd_k (by decide) (jm_rd_k (by decide) f5)), (jm_rd_k (by decide) (jm_rd_s _ _ _ _)), tb⟩ (fun j hj => jm_rd_a (Ne.symm (jm_ne_oa ta tb)) ((fun j hj => jm_rd_a (Ne.symm (jm_ne_oa ta tb)) (fB j hj)) j hj)) (by rw [q_nloop, if_pos (by grind [jb])] at k; exact jx_eqv k rfl rfl rfl (fun b9 j9 => by simp only [jm_put]; grind))
theorem q_nloop_le (B : Nat → Int32) (n p : Nat) (acc : Int32) (h : p ≤ n) : p ≤ (q_nloop B n p acc).1 ∧ (q_nloop B n p acc).1 ≤ n := by
  induction hm : n - p generalizing p acc with
  | zero => unfold q_nloop; rw [if_neg (by omega)]; exact ⟨Nat.le_refl _, h⟩
  | succ m ih =>
    unfold q_nloop
    split
    · have := ih (p + 1) (10 * acc + q_at B n p - 48) (by omega) (by omega)
      omega
    · exact ⟨Nat.le_refl _, h⟩
set_option maxHeartbeats 4000000 in
set_option maxRecDepth 100000 in
theorem c_Tp_readNumber (l : Launch) (G : jm_G) (d : Nat) {h : jm_H} {a b n p : Nat} {K : Int32} {nm : Int64} {nu : Int32} {B : Nat → Int32} (hT : TpA h a b n p K p nm nu) (hB : TpB h b B) (hn : n ≤ 2000) (hp : p ≤ n) : jm_C l G mm_Tp_readNumber (d + 1) [.ref a] h none (jm_put (jm_put (jm_put h a 6 (.int (q_nloop B n p 0).2)) a 2 (.int (nI (q_nloop B n p 0).1))) a 3 (.int (if (q_nloop B n p 0).1 - p > 9 then 1 else 3))) := by
  obtain ⟨ta, f0, f1, f2, f3, f4, f5, f6, tb⟩ := id hT
  have fB := hB
  have hle := q_nloop_le B n p 0 hp
  refine jm_ofE (by decide) rfl (Nat.le_of_ble_eq_true rfl) ?_
  refine jx_aload_n d_Tp_readNumber_0 0 rfl ?_
  refine jx_iconst (v0 := 0) d_Tp_readNumber_1 (by decide) ?_
  refine jx_put (v0 := .int (0)) d_Tp_readNumber_2 fF_Tp_32 jv_Tp ft_Tp_number ta rfl rfl ?_
  refine lp_Tp_readNumber l G hn (n + 1) p 0 (by omega) hp ⟨ta, (jm_rd_k (by decide) f0), (jm_rd_k (by decide) f1), (jm_rd_k (by decide) f2), (jm_rd_k (by decide) f3), (jm_rd_k (by decide) f4), (jm_rd_k (by decide) f5), (jm_rd_s _ _ _ _), tb⟩ (fun j hj => jm_rd_a (Ne.symm (jm_ne_oa ta tb)) (fB j hj)) ?_
  refine jx_aload_n d_Tp_readNumber_66 0 rfl ?_
  refine jx_aload_n d_Tp_readNumber_67 0 rfl ?_
  refine jx_get d_Tp_readNumber_68 fF_Tp_19 ta (jm_rd_s _ _ _ _) ?_
  refine jx_aload_n d_Tp_readNumber_71 0 rfl ?_
  refine jx_get d_Tp_readNumber_72 fF_Tp_25 ta (jm_rd_k (by decide) (jm_rd_k (by decide) (jm_rd_k (by decide) f4))) ?_
  refine jx_isub d_Tp_readNumber_75 ?_
  refine jx_ati (pk_sub (a := (q_nloop B n p 0).1) (b := p) (by omega)) ?_
  refine jx_bipush (v0 := 9) d_Tp_readNumber_76 (by decide) ?_
  refine jx_icmp_leN (tgt := 85) (((q_nloop B n p 0).1) - (p)) (9) d_Tp_readNumber_78 rfl rfl (by omega) (by omega) (by decide) (fun c1 => ?_) (fun c1 => ?_)
  ·
    refine jx_iconst (v0 := 3) d_Tp_readNumber_85 (by decide) ?_
    refine jx_put (v0 := .int (3)) d_Tp_readNumber_86 fF_Tp_22 jv_Tp ft_Tp_kind ta rfl rfl ?_
    exact jx_vret d_Tp_readNumber_89 rfl (⟨rfl, by first | (rw [if_pos (by omega), jm_put_put]) | (rw [if_neg (by omega), jm_put_put])⟩)
  ·
    refine jx_iconst (v0 := 1) d_Tp_readNumber_81 (by decide) ?_
    refine jx_goto (tgt := 86) d_Tp_readNumber_82 (by decide) ?_
    refine jx_put (v0 := .int (1)) d_Tp_readNumber_86 fF_Tp_22 jv_Tp ft_Tp_kind ta rfl rfl ?_
    exact jx_vret d_Tp_readNumber_89 rfl (⟨rfl, by first | (rw [if_pos (by omega), jm_put_put]) | (rw [if_neg (by omega), jm_put_put])⟩)
set_option maxHeartbeats 4000000 in
set_option maxRecDepth 100000 in
theorem lp_Tp_readWord (l : Launch) (G : jm_G) {a b n s : Nat} {K : Int32} {nu : Int32} {B : Nat → Int32} {n0 s0 d : Nat} {Post : jm_r → jm_H → Prop} (hn : n ≤ 2000) (m : Nat) : ∀ {h : jm_H} (p : Nat) (nm : Int64), n - p < m → p ≤ n → s ≤ p → TpA h a b n p K s nm nu → TpB h b B →
    jm_X l G mm_Tp_readWord n0 s0 (jm_zn G (d + 1) n0 s0) Post 99 [(0, .ref a)] [] (jm_put (jm_put h a 5 (.long (q_wloop B n s p nm).2)) a 2 (.int (nI (q_wloop B n s p nm).1))) → jm_X l G mm_Tp_readWord n0 s0 (jm_zn G (d + 1) n0 s0) Post 5 [(0, .ref a)] [] h := by
  induction m with
  | zero => intro h p nm hm; omega
  | succ m ih =>
    intro h p nm hm hp hs hT hB k
    obtain ⟨ta, f0, f1, f2, f3, f4, f5, f6, tb⟩ := id hT
    have fB := hB
    refine jx_aload_n d_Tp_readWord_5 0 rfl ?_
    refine jx_get d_Tp_readWord_6 fF_Tp_19 ta f2 ?_
    refine jx_aload_n d_Tp_readWord_9 0 rfl ?_
    refine jx_get d_Tp_readWord_10 fF_Tp_15 ta f1 ?_
    refine jx_icmp_geN (tgt := 99) (p) (n) d_Tp_readWord_13 rfl rfl (by omega) (by omega) (by decide) (fun c1 => ?_) (fun c1 => ?_)
    ·
      rw [q_wloop, if_neg (by grind [jb, q_alnum])] at k
      exact jx_ath (by rw [jm_put_id f5, jm_put_id f2]) k
    ·
      refine jx_aload_n d_Tp_readWord_16 0 rfl ?_
      refine jx_aload_n d_Tp_readWord_17 0 rfl ?_
      refine jx_get d_Tp_readWord_18 fF_Tp_19 ta f2 ?_
      refine jx_callV (M2 := mm_Tp_byteAt) rfl ta lk_Tp_41 wi_Tp_byteAt ws_Tp_byteAt d_Tp_readWord_21 (c_Tp_byteAt l G d ⟨ta, f0, f1, f2, f3, f4, f5, f6, tb⟩ fB (by omega) (by omega)) cd_Tp_byteAt rfl rfl (Nat.le_of_ble_eq_true rfl) (Nat.le_refl _) (jm_lok (by decide)) ?_
      refine jx_callS (M2 := mm_Tp_isLetter) lk_Tp_49 wt_Tp_isLetter d_Tp_readWord_24 (c_Tp_isLetter l G d _ _) cd_Tp_isLetter rfl rfl (Nat.le_of_ble_eq_true rfl) (Nat.le_refl _) (jm_lok (by decide)) ?_
      refine jx_if_ne (tgt := 44) d_Tp_readWord_27 (by decide) (fun c2 => ?_) (fun c2 => ?_)
      ·
        refine jx_aload_n d_Tp_readWord_44 0 rfl ?_
        refine jx_get d_Tp_readWord_45 fF_Tp_19 ta f2 ?_
        refine jx_aload_n d_Tp_readWord_48 0 rfl ?_
        refine jx_get d_Tp_readWord_49 fF_Tp_25 ta f4 ?_
        refine jx_isub d_Tp_readWord_52 ?_
        refine jx_ati (pk_sub (a := p) (b := s) (by omega)) ?_
        refine jx_istore_n (lv' := [(1, .int (nI ((p) - (s)))), (0, .ref (a))]) d_Tp_readWord_53 (by decide) rfl ?_
        refine jx_iload_n d_Tp_readWord_54 0 rfl ?_
        refine jx_bipush (v0 := 8) d_Tp_readWord_55 (by decide) ?_
        refine jx_icmp_geN (tgt := 86) ((p) - (s)) (8) d_Tp_readWord_57 rfl rfl (by omega) (by omega) (by decide) (fun c3 => ?_) (fun c3 => ?_)
        ·
          refine jx_aload_n d_Tp_readWord_86 1 rfl ?_
          refine jx_dup d_Tp_readWord_87 rfl ?_
          refine jx_get d_Tp_readWord_88 fF_Tp_19 ta f2 ?_
          refine jx_iconst (v0 := 1) d_Tp_readWord_91 (by decide) ?_
          refine jx_iadd d_Tp_readWord_92 ?_
          refine jx_ati (nI_add (p) (1)) ?_
          refine jx_put (v0 := .int (nI ((p) + (1)))) d_Tp_readWord_93 fF_Tp_19 jv_Tp ft_Tp_next ta rfl rfl ?_
          refine jx_goto (tgt := 5) d_Tp_readWord_96 (by decide) ?_
          refine jx_lv [1] rfl ?_
          exact ih (p + 1) (nm) (by omega) (by omega) (by omega) ⟨ta, (jm_rd_k (by decide) f0), (jm_rd_k (by decide) f1), (jm_rd_s _ _ _ _), (jm_rd_k (by decide) f3), (jm_rd_k (by decide) f4), (jm_rd_k (by decide) f5), (jm_rd_k (by decide) f6), tb⟩ (fun j hj => jm_rd_a (Ne.symm (jm_ne_oa ta tb)) (fB j hj)) (by rw [q_wloop, if_pos (by grind [jb, q_alnum]), if_neg (by omega)] at k; exact jx_eqv k rfl rfl rfl (fun b9 j9 => by simp only [jm_put]; grind))
        ·
          refine jx_aload_n d_Tp_readWord_60 1 rfl ?_
          refine jx_dup d_Tp_readWord_61 rfl ?_
          refine jx_get d_Tp_readWord_62 fF_Tp_28 ta f5 ?_
          refine jx_aload_n d_Tp_readWord_65 1 rfl ?_
          refine jx_aload_n d_Tp_readWord_66 1 rfl ?_
          refine jx_get d_Tp_readWord_67 fF_Tp_19 ta f2 ?_
          refine jx_callV (M2 := mm_Tp_byteAt) rfl ta lk_Tp_41 wi_Tp_byteAt ws_Tp_byteAt d_Tp_readWord_70 (c_Tp_byteAt l G d ⟨ta, f0, f1, f2, f3, f4, f5, f6, tb⟩ fB (by omega) (by omega)) cd_Tp_byteAt rfl rfl (Nat.le_of_ble_eq_true rfl) (Nat.le_refl _) (jm_lok (by decide)) ?_
          refine jx_i2l d_Tp_readWord_73 ?_
          refine jx_bipush (v0 := 56) d_Tp_readWord_74 (by decide) ?_
          refine jx_bipush (v0 := 8) d_Tp_readWord_76 (by decide) ?_
          refine jx_iload_n d_Tp_readWord_78 0 rfl ?_
          refine jx_imul d_Tp_readWord_79 ?_
          refine jx_isub d_Tp_readWord_80 ?_
          refine jx_lshl d_Tp_readWord_81 ?_
          refine jx_lor d_Tp_readWord_82 ?_
          refine jx_put (v0 := .long ((nm ||| ((Int32.toInt64 (q_at B (n) (p))) <<< (Int32.toInt64 (56 - (8 * nI ((p) - (s)))) &&& 63))))) d_Tp_readWord_83 fF_Tp_28 jv_Tp ft_Tp_name ta rfl rfl ?_
          refine jx_aload_n d_Tp_readWord_86 1 rfl ?_
          refine jx_dup d_Tp_readWord_87 rfl ?_
          refine jx_get d_Tp_readWord_88 fF_Tp_19 ta (jm_rd_k (by decide) f2) ?_
          refine jx_iconst (v0 := 1) d_Tp_readWord_91 (by decide) ?_
          refine jx_iadd d_Tp_readWord_92 ?_
          refine jx_ati (nI_add (p) (1)) ?_
          refine jx_put (v0 := .int (nI ((p) + (1)))) d_Tp_readWord_93 fF_Tp_19 jv_Tp ft_Tp_next ta rfl rfl ?_
          refine jx_goto (tgt := 5) d_Tp_readWord_96 (by decide) ?_
          refine jx_lv [1] rfl ?_
          exact ih (p + 1) (nm ||| q_sh (q_at B n p) (p - s)) (by omega) (by omega) (by omega) ⟨ta, (jm_rd_k (by decide) (jm_rd_k (by decide) f0)), (jm_rd_k (by decide) (jm_rd_k (by decide) f1)), (jm_rd_s _ _ _ _), (jm_rd_k (by decide) (jm_rd_k (by decide) f3)), (jm_rd_k (by decide) (jm_rd_k (by decide) f4)), (jm_rd_k (by decide) (jm_rd_s _ _ _ _)), (jm_rd_k (by decide) (jm_rd_k (by decide) f6)), tb⟩ (fun j hj => jm_rd_a (Ne.symm (jm_ne_oa ta tb)) ((fun j hj => jm_rd_a (Ne.symm (jm_ne_oa ta tb)) (fB j hj)) j hj)) (by rw [q_wloop, if_pos (by grind [jb, q_alnum]), if_pos (by omega)] at k; exact jx_eqv k rfl rfl rfl (fun b9 j9 => by simp only [jm_put]; grind))
      ·
        refine jx_aload_n d_Tp_readWord_30 0 rfl ?_
        refine jx_aload_n d_Tp_readWord_31 0 rfl ?_
        refine jx_get d_Tp_readWord_32 fF_Tp_19 ta f2 ?_
        refine jx_callV (M2 := mm_Tp_byteAt) rfl ta lk_Tp_41 wi_Tp_byteAt ws_Tp_byteAt d_Tp_readWord_35 (c_Tp_byteAt l G d ⟨ta, f0, f1, f2, f3, f4, f5, f6, tb⟩ fB (by omega) (by omega)) cd_Tp_byteAt rfl rfl (Nat.le_of_ble_eq_true rfl) (Nat.le_refl _) (jm_lok (by decide)) ?_
        refine jx_callS (M2 := mm_Tp_isDigit) lk_Tp_55 wt_Tp_isDigit d_Tp_readWord_38 (c_Tp_isDigit l G d _ _) cd_Tp_isDigit rfl rfl (Nat.le_of_ble_eq_true rfl) (Nat.le_refl _) (jm_lok (by decide)) ?_
        refine jx_if_eq (tgt := 99) d_Tp_readWord_41 (by decide) (fun c4 => ?_) (fun c4 => ?_)
        ·
          rw [q_wloop, if_neg (by grind [jb, q_alnum])] at k
          exact jx_ath (by rw [jm_put_id f5, jm_put_id f2]) k
        ·
          refine jx_aload_n d_Tp_readWord_44 0 rfl ?_
          refine jx_get d_Tp_readWord_45 fF_Tp_19 ta f2 ?_
          refine jx_aload_n d_Tp_readWord_48 0 rfl ?_
          refine jx_get d_Tp_readWord_49 fF_Tp_25 ta f4 ?_
          refine jx_isub d_Tp_readWord_52 ?_
          refine jx_ati (pk_sub (a := p) (b := s) (by omega)) ?_
          refine jx_istore_n (lv' := [(1, .int (nI ((p) - (s)))), (0, .ref (a))]) d_Tp_readWord_53 (by decide) rfl ?_
          refine jx_iload_n d_Tp_readWord_54 0 rfl ?_
          refine jx_bipush (v0 := 8) d_Tp_readWord_55 (by decide) ?_
          refine jx_icmp_geN (tgt := 86) ((p) - (s)) (8) d_Tp_readWord_57 rfl rfl (by omega) (by omega) (by decide) (fun c5 => ?_) (fun c5 => ?_)
          ·
            refine jx_aload_n d_Tp_readWord_86 1 rfl ?_
            refine jx_dup d_Tp_readWord_87 rfl ?_
            refine jx_get d_Tp_readWord_88 fF_Tp_19 ta f2 ?_
            refine jx_iconst (v0 := 1) d_Tp_readWord_91 (by decide) ?_
            refine jx_iadd d_Tp_readWord_92 ?_
            refine jx_ati (nI_add (p) (1)) ?_
            refine jx_put (v0 := .int (nI ((p) + (1)))) d_Tp_readWord_93 fF_Tp_19 jv_Tp ft_Tp_next ta rfl rfl ?_
            refine jx_goto (tgt := 5) d_Tp_readWord_96 (by decide) ?_
            refine jx_lv [1] rfl ?_
            exact ih (p + 1) (nm) (by omega) (by omega) (by omega) ⟨ta, (jm_rd_k (by decide) f0), (jm_rd_k (by decide) f1), (jm_rd_s _ _ _ _), (jm_rd_k (by decide) f3), (jm_rd_k (by decide) f4), (jm_rd_k (by decide) f5), (jm_rd_k (by decide) f6), tb⟩ (fun j hj => jm_rd_a (Ne.symm (jm_ne_oa ta tb)) (fB j hj)) (by rw [q_wloop, if_pos (by grind [jb, q_alnum]), if_neg (by omega)] at k; exact jx_eqv k rfl rfl rfl (fun b9 j9 => by simp only [jm_put]; grind))
          ·
            refine jx_aload_n d_Tp_readWord_60 1 rfl ?_
            refine jx_dup d_Tp_readWord_61 rfl ?_
            refine jx_get d_Tp_readWord_62 fF_Tp_28 ta f5 ?_
            refine jx_aload_n d_Tp_readWord_65 1 rfl ?_
            refine jx_aload_n d_Tp_readWord_66 1 rfl ?_
            refine jx_get d_Tp_readWord_67 fF_Tp_19 ta f2 ?_
            refine jx_callV (M2 := mm_Tp_byteAt) rfl ta lk_Tp_41 wi_Tp_byteAt ws_Tp_byteAt d_Tp_readWord_70 (c_Tp_byteAt l G d ⟨ta, f0, f1, f2, f3, f4, f5, f6, tb⟩ fB (by omega) (by omega)) cd_Tp_byteAt rfl rfl (Nat.le_of_ble_eq_true rfl) (Nat.le_refl _) (jm_lok (by decide)) ?_
            refine jx_i2l d_Tp_readWord_73 ?_
            refine jx_bipush (v0 := 56) d_Tp_readWord_74 (by decide) ?_
            refine jx_bipush (v0 := 8) d_Tp_readWord_76 (by decide) ?_
            refine jx_iload_n d_Tp_readWord_78 0 rfl ?_
            refine jx_imul d_Tp_readWord_79 ?_
            refine jx_isub d_Tp_readWord_80 ?_
            refine jx_lshl d_Tp_readWord_81 ?_
            refine jx_lor d_Tp_readWord_82 ?_
            refine jx_put (v0 := .long ((nm ||| ((Int32.toInt64 (q_at B (n) (p))) <<< (Int32.toInt64 (56 - (8 * nI ((p) - (s)))) &&& 63))))) d_Tp_readWord_83 fF_Tp_28 jv_Tp ft_Tp_name ta rfl rfl ?_
            refine jx_aload_n d_Tp_readWord_86 1 rfl ?_
            refine jx_dup d_Tp_readWord_87 rfl ?_
            refine jx_get d_Tp_readWord_88 fF_Tp_19 ta (jm_rd_k (by decide) f2) ?_
            refine jx_iconst (v0 := 1) d_Tp_readWord_91 (by decide) ?_
            refine jx_iadd d_Tp_readWord_92 ?_
            refine jx_ati (nI_add (p) (1)) ?_
            refine jx_put (v0 := .int (nI ((p) + (1)))) d_Tp_readWord_93 fF_Tp_19 jv_Tp ft_Tp_next ta rfl rfl ?_
            refine jx_goto (tgt := 5) d_Tp_readWord_96 (by decide) ?_
            refine jx_lv [1] rfl ?_
            exact ih (p + 1) (nm ||| q_sh (q_at B n p) (p - s)) (by omega) (by omega) (by omega) ⟨ta, (jm_rd_k (by decide) (jm_rd_k (by decide) f0)), (jm_rd_k (by decide) (jm_rd_k (by decide) f1)), (jm_rd_s _ _ _ _), (jm_rd_k (by decide) (jm_rd_k (by decide) f3)), (jm_rd_k (by decide) (jm_rd_k (by decide) f4)), (jm_rd_k (by decide) (jm_rd_s _ _ _ _)), (jm_rd_k (by decide) (jm_rd_k (by decide) f6)), tb⟩ (fun j hj => jm_rd_a (Ne.symm (jm_ne_oa ta tb)) ((fun j hj => jm_rd_a (Ne.symm (jm_ne_oa ta tb)) (fB j hj)) j hj)) (by rw [q_wloop, if_pos (by grind [jb, q_alnum]), if_pos (by omega)] at k; exact jx_eqv k rfl rfl rfl (fun b9 j9 => by simp only [jm_put]; grind))
theorem q_wloop_le (B : Nat → Int32) (n s p : Nat) (acc : Int64) (h : p ≤ n) : p ≤ (q_wloop B n s p acc).1 ∧ (q_wloop B n s p acc).1 ≤ n := by
  induction hm : n - p generalizing p acc with
  | zero => unfold q_wloop; rw [if_neg (by omega)]; exact ⟨Nat.le_refl _, h⟩
  | succ m ih =>
    unfold q_wloop
    split
    · have := ih (p + 1) (if p - s < 8 then acc ||| q_sh (q_at B n p) (p - s) else acc) (by omega) (by omega)
      omega
    · exact ⟨Nat.le_refl _, h⟩
set_option maxHeartbeats 4000000 in
set_option maxRecDepth 100000 in
theorem c_Tp_readWord (l : Launch) (G : jm_G) (d : Nat) {h : jm_H} {a b n p : Nat} {K : Int32} {nm : Int64} {nu : Int32} {B : Nat → Int32} (hT : TpA h a b n p K p nm nu) (hB : TpB h b B) (hn : n ≤ 2000) (hp : p ≤ n) : jm_C l G mm_Tp_readWord (d + 1) [.ref a] h none (jm_put (jm_put (jm_put h a 5 (.long (q_wloop B n p p 0).2)) a 2 (.int (nI (q_wloop B n p p 0).1))) a 3 (.int (if (q_wloop B n p p 0).1 - p > 8 then 1 else q_kow (q_wloop B n p p 0).2))) := by
  obtain ⟨ta, f0, f1, f2, f3, f4, f5, f6, tb⟩ := id hT
  have fB := hB
  have hle := q_wloop_le B n p p 0 hp
  refine jm_ofE (by decide) rfl (Nat.le_of_ble_eq_true rfl) ?_
  refine jx_aload_n d_Tp_readWord_0 0 rfl ?_
  refine jx_lconst (v0 := 0) d_Tp_readWord_1 (by decide) ?_
  refine jx_put (v0 := .long (0)) d_Tp_readWord_2 fF_Tp_28 jv_Tp ft_Tp_name ta rfl rfl ?_
  refine lp_Tp_readWord l G hn (n + 1) p 0 (by omega) hp (Nat.le_refl _) ⟨ta, (jm_rd_k (by decide) f0), (jm_rd_k (by decide) f1), (jm_rd_k (by decide) f2), (jm_rd_k (by decide) f3), (jm_rd_k (by decide) f4), (jm_rd_s _ _ _ _), (jm_rd_k (by decide) f6), tb⟩ (fun j hj => jm_rd_a (Ne.symm (jm_ne_oa ta tb)) (fB j hj)) ?_
  refine jx_aload_n d_Tp_readWord_99 0 rfl ?_
  refine jx_aload_n d_Tp_readWord_100 0 rfl ?_
  refine jx_get d_Tp_readWord_101 fF_Tp_19 ta (jm_rd_s _ _ _ _) ?_
  refine jx_aload_n d_Tp_readWord_104 0 rfl ?_
  refine jx_get d_Tp_readWord_105 fF_Tp_25 ta (jm_rd_k (by decide) (jm_rd_k (by decide) (jm_rd_k (by decide) f4))) ?_
  refine jx_isub d_Tp_readWord_108 ?_
  refine jx_ati (pk_sub (a := (q_wloop B n p p 0).1) (b := p) (by omega)) ?_
  refine jx_bipush (v0 := 8) d_Tp_readWord_109 (by decide) ?_
  refine jx_icmp_leN (tgt := 118) (((q_wloop B n p p 0).1) - (p)) (8) d_Tp_readWord_111 rfl rfl (by omega) (by omega) (by decide) (fun c1 => ?_) (fun c1 => ?_)
  ·
    refine jx_aload_n d_Tp_readWord_118 0 rfl ?_
    refine jx_get d_Tp_readWord_119 fF_Tp_28 ta (jm_rd_k (by decide) (jm_rd_s _ _ _ _)) ?_
    refine jx_callS (M2 := mm_Tp_kindOfWord) lk_Tp_64 wt_Tp_kindOfWord d_Tp_readWord_122 (c_Tp_kindOfWord l G d _ _) cd_Tp_kindOfWord rfl rfl (Nat.le_of_ble_eq_true rfl) (Nat.le_refl _) (jm_lok (by decide)) ?_
    refine jx_put (v0 := .int (q_kow ((q_wloop B n p p 0).2))) d_Tp_readWord_125 fF_Tp_22 jv_Tp ft_Tp_kind ta rfl rfl ?_
    exact jx_vret d_Tp_readWord_128 rfl (⟨rfl, by first | (rw [if_pos (by omega), jm_put_put]) | (rw [if_neg (by omega), jm_put_put])⟩)
  ·
    refine jx_iconst (v0 := 1) d_Tp_readWord_114 (by decide) ?_
    refine jx_goto (tgt := 125) d_Tp_readWord_115 (by decide) ?_
    refine jx_put (v0 := .int (1)) d_Tp_readWord_125 fF_Tp_22 jv_Tp ft_Tp_kind ta rfl rfl ?_
    exact jx_vret d_Tp_readWord_128 rfl (⟨rfl, by first | (rw [if_pos (by omega), jm_put_put]) | (rw [if_neg (by omega), jm_put_put])⟩)
set_option maxHeartbeats 4000000 in
set_option maxRecDepth 100000 in
theorem lp_Tp_readToken (l : Launch) (G : jm_G) {a b n s : Nat} {K : Int32} {nm : Int64} {nu : Int32} {B : Nat → Int32} {n0 s0 d : Nat} {Post : jm_r → jm_H → Prop} (hn : n ≤ 2000) (m : Nat) : ∀ {h : jm_H} (p : Nat), n - p < m → p ≤ n → TpA h a b n p K s nm nu → TpB h b B →
    jm_X l G mm_Tp_readToken n0 s0 (jm_zn G (d + 2) n0 s0) Post 38 [(0, .ref a)] [] (jm_put h a 2 (.int (nI (q_skip B n p)))) → jm_X l G mm_Tp_readToken n0 s0 (jm_zn G (d + 2) n0 s0) Post 0 [(0, .ref a)] [] h := by
  induction m with
  | zero => intro h p hm; omega
  | succ m ih =>
    intro h p hm hp hT hB k
    obtain ⟨ta, f0, f1, f2, f3, f4, f5, f6, tb⟩ := id hT
    have fB := hB
    refine jx_aload_n d_Tp_readToken_0 0 rfl ?_
    refine jx_get d_Tp_readToken_1 fF_Tp_19 ta f2 ?_
    refine jx_aload_n d_Tp_readToken_4 0 rfl ?_
    refine jx_get d_Tp_readToken_5 fF_Tp_15 ta f1 ?_
    refine jx_icmp_geN (tgt := 38) (p) (n) d_Tp_readToken_8 rfl rfl (by omega) (by omega) (by decide) (fun c1 => ?_) (fun c1 => ?_)
    ·
      rw [q_skip, if_neg (by grind [jb])] at k
      exact jx_ath (by rw [jm_put_id f2]) k
    ·
      refine jx_aload_n d_Tp_readToken_11 0 rfl ?_
      refine jx_aload_n d_Tp_readToken_12 0 rfl ?_
      refine jx_get d_Tp_readToken_13 fF_Tp_19 ta f2 ?_
      refine jx_callV (M2 := mm_Tp_byteAt) rfl ta lk_Tp_41 wi_Tp_byteAt ws_Tp_byteAt d_Tp_readToken_16 (c_Tp_byteAt l G (d + 1) ⟨ta, f0, f1, f2, f3, f4, f5, f6, tb⟩ fB (by omega) (by omega)) cd_Tp_byteAt rfl rfl (Nat.le_of_ble_eq_true rfl) (Nat.le_refl _) (jm_lok (by decide)) ?_
      refine jx_callS (M2 := mm_Tp_isBlank) lk_Tp_45 wt_Tp_isBlank d_Tp_readToken_19 (c_Tp_isBlank l G (d + 1) _ _) cd_Tp_isBlank rfl rfl (Nat.le_of_ble_eq_true rfl) (Nat.le_refl _) (jm_lok (by decide)) ?_
      refine jx_if_eq (tgt := 38) d_Tp_readToken_22 (by decide) (fun c2 => ?_) (fun c2 => ?_)
      ·
        rw [q_skip, if_neg (by grind [jb])] at k
        exact jx_ath (by rw [jm_put_id f2]) k
      ·
        refine jx_aload_n d_Tp_readToken_25 0 rfl ?_
        refine jx_dup d_Tp_readToken_26 rfl ?_
        refine jx_get d_Tp_readToken_27 fF_Tp_19 ta f2 ?_
        refine jx_iconst (v0 := 1) d_Tp_readToken_30 (by decide) ?_
        refine jx_iadd d_Tp_readToken_31 ?_
        refine jx_ati (nI_add (p) (1)) ?_
        refine jx_put (v0 := .int (nI ((p) + (1)))) d_Tp_readToken_32 fF_Tp_19 jv_Tp ft_Tp_next ta rfl rfl ?_
        refine jx_goto (tgt := 0) d_Tp_readToken_35 (by decide) ?_
        exact ih (p + 1) (by omega) (by omega) ⟨ta, (jm_rd_k (by decide) f0), (jm_rd_k (by decide) f1), (jm_rd_s _ _ _ _), (jm_rd_k (by decide) f3), (jm_rd_k (by decide) f4), (jm_rd_k (by decide) f5), (jm_rd_k (by decide) f6), tb⟩ (fun j hj => jm_rd_a (Ne.symm (jm_ne_oa ta tb)) (fB j hj)) (by rw [q_skip, if_pos (by grind [jb])] at k; exact jx_eqv k rfl rfl rfl (fun b9 j9 => by simp only [jm_put]; grind))
/-- the token that begins at p (no blank there): kind, where it ends, name and number as they are then -/
def q_tok (B : Nat → Int32) (n p : Nat) (nm : Int64) (nu : Int32) : Int32 × Nat × Int64 × Int32 :=
  if q_at B n p = -1 then (0, p, nm, nu)
  else if q_letter (q_at B n p) = true then (if (q_wloop B n p p 0).1 - p > 8 then 1 else q_kow (q_wloop B n p p 0).2, (q_wloop B n p p 0).1, (q_wloop B n p p 0).2, nu)
  else if q_digit (q_at B n p) = true then (if (q_nloop B n p 0).1 - p > 9 then 1 else 3, (q_nloop B n p 0).1, nm, (q_nloop B n p 0).2)
  else (if q_mark (q_at B n p) = true then q_at B n p else 1, p + 1, nm, nu)
/-- the Tape behind a token -/
def tp_set (h : jm_H) (a p : Nat) (K : Int32) (s : Nat) (nm : Int64) (nu : Int32) : jm_H := jm_put (jm_put (jm_put (jm_put (jm_put h a 2 (.int (nI p))) a 3 (.int K)) a 4 (.int (nI s))) a 5 (.long nm)) a 6 (.int nu)
def tp_tok (h : jm_H) (a n : Nat) (B : Nat → Int32) (p : Nat) (nm : Int64) (nu : Int32) : jm_H := tp_set h a (q_tok B n (q_skip B n p) nm nu).2.1 (q_tok B n (q_skip B n p) nm nu).1 (q_skip B n p) (q_tok B n (q_skip B n p) nm nu).2.2.1 (q_tok B n (q_skip B n p) nm nu).2.2.2
set_option maxHeartbeats 4000000 in
set_option maxRecDepth 100000 in
theorem c_Tp_readToken (l : Launch) (G : jm_G) (d : Nat) {h : jm_H} {a b n p s : Nat} {K : Int32} {nm : Int64} {nu : Int32} {B : Nat → Int32} (hT : TpA h a b n p K s nm nu) (hB : TpB h b B) (hn : n ≤ 2000) (hp : p ≤ n) : jm_C l G mm_Tp_readToken (d + 2) [.ref a] h none (tp_tok h a n B p nm nu) := by
  obtain ⟨ta, f0, f1, f2, f3, f4, f5, f6, tb⟩ := id hT
  have fB := hB
  have hle := q_skip_le B n p hp
  obtain ⟨F, hF⟩ : ∃ z, z = tp_tok h a n B p nm nu := ⟨_, rfl⟩
  rw [← hF]
  unfold tp_tok at hF
  refine jm_ofE (by decide) rfl (Nat.le_of_ble_eq_true rfl) ?_
  refine lp_Tp_readToken l G hn (n + 1) p (by omega) hp ⟨ta, f0, f1, f2, f3, f4, f5, f6, tb⟩ fB ?_
  generalize hq : q_skip B n p = q at hle ⊢
  rw [hq] at hF
  refine jx_aload_n d_Tp_readToken_38 0 rfl ?_
  refine jx_aload_n d_Tp_readToken_39 0 rfl ?_
  refine jx_get d_Tp_readToken_40 fF_Tp_19 ta (jm_rd_s _ _ _ _) ?_
  refine jx_put (v0 := .int (nI (q))) d_Tp_readToken_43 fF_Tp_25 jv_Tp ft_Tp_start ta rfl rfl ?_
  refine jx_aload_n d_Tp_readToken_46 0 rfl ?_
  refine jx_aload_n d_Tp_readToken_47 0 rfl ?_
  refine jx_get d_Tp_readToken_48 fF_Tp_25 ta (jm_rd_s _ _ _ _) ?_
  refine jx_callV (M2 := mm_Tp_byteAt) rfl ta lk_Tp_41 wi_Tp_byteAt ws_Tp_byteAt d_Tp_readToken_51 (c_Tp_byteAt l G (d + 1) ⟨ta, (jm_rd_k (by decide) (jm_rd_k (by decide) f0)), (jm_rd_k (by decide) (jm_rd_k (by decide) f1)), (jm_rd_k (by decide) (jm_rd_s _ _ _ _)), (jm_rd_k (by decide) (jm_rd_k (by decide) f3)), (jm_rd_s _ _ _ _), (jm_rd_k (by decide) (jm_rd_k (by decide) f5)), (jm_rd_k (by decide) (jm_rd_k (by decide) f6)), tb⟩ (fun j hj => jm_rd_a (Ne.symm (jm_ne_oa ta tb)) ((fun j hj => jm_rd_a (Ne.symm (jm_ne_oa ta tb)) (fB j hj)) j hj)) (by omega) (by omega)) cd_Tp_byteAt rfl rfl (Nat.le_of_ble_eq_true rfl) (Nat.le_refl _) (jm_lok (by decide)) ?_
  refine jx_istore_n (lv' := [(1, .int (q_at B (n) (q))), (0, .ref (a))]) d_Tp_readToken_54 (by decide) rfl ?_
  refine jx_iload_n d_Tp_readToken_55 0 rfl ?_
  refine jx_iconst (v0 := -1) d_Tp_readToken_56 (by decide) ?_
  refine jx_icmp_ne (tgt := 68) d_Tp_readToken_57 (by decide) (fun c1 => ?_) (fun c1 => ?_)
  ·
    refine jx_iload_n d_Tp_readToken_68 0 rfl ?_
    refine jx_callS (M2 := mm_Tp_isLetter) lk_Tp_49 wt_Tp_isLetter d_Tp_readToken_69 (c_Tp_isLetter l G (d + 1) _ _) cd_Tp_isLetter rfl rfl (Nat.le_of_ble_eq_true rfl) (Nat.le_refl _) (jm_lok (by decide)) ?_
    refine jx_if_eq (tgt := 82) d_Tp_readToken_72 (by decide) (fun c2 => ?_) (fun c2 => ?_)
    ·
      refine jx_iload_n d_Tp_readToken_82 0 rfl ?_
      refine jx_callS (M2 := mm_Tp_isDigit) lk_Tp_55 wt_Tp_isDigit d_Tp_readToken_83 (c_Tp_isDigit l G (d + 1) _ _) cd_Tp_isDigit rfl rfl (Nat.le_of_ble_eq_true rfl) (Nat.le_refl _) (jm_lok (by decide)) ?_
      refine jx_if_eq (tgt := 96) d_Tp_readToken_86 (by decide) (fun c3 => ?_) (fun c3 => ?_)
      ·
        refine jx_aload_n d_Tp_readToken_96 1 rfl ?_
        refine jx_iload_n d_Tp_readToken_97 0 rfl ?_
        refine jx_callS (M2 := mm_Tp_isMark) lk_Tp_61 wt_Tp_isMark d_Tp_readToken_98 (c_Tp_isMark l G (d + 1) _ _) cd_Tp_isMark rfl rfl (Nat.le_of_ble_eq_true rfl) (Nat.le_refl _) (jm_lok (by decide)) ?_
        refine jx_if_eq (tgt := 108) d_Tp_readToken_101 (by decide) (fun c4 => ?_) (fun c4 => ?_)
        ·
          refine jx_iconst (v0 := 1) d_Tp_readToken_108 (by decide) ?_
          refine jx_put (v0 := .int (1)) d_Tp_readToken_109 fF_Tp_22 jv_Tp ft_Tp_kind ta rfl rfl ?_
          refine jx_aload_n d_Tp_readToken_112 1 rfl ?_
          refine jx_dup d_Tp_readToken_113 rfl ?_
          refine jx_get d_Tp_readToken_114 fF_Tp_19 ta (jm_rd_k (by decide) (jm_rd_k (by decide) (jm_rd_s _ _ _ _))) ?_
          refine jx_iconst (v0 := 1) d_Tp_readToken_117 (by decide) ?_
          refine jx_iadd d_Tp_readToken_118 ?_
          refine jx_ati (nI_add (q) (1)) ?_
          refine jx_put (v0 := .int (nI ((q) + (1)))) d_Tp_readToken_119 fF_Tp_19 jv_Tp ft_Tp_next ta rfl rfl ?_
          exact jx_vret d_Tp_readToken_122 rfl (⟨rfl, by rw [hF]; refine jm_heq rfl rfl rfl (fun b9 j9 => ?_); simp only [tp_set, q_tok, jm_put]; grind [jb]⟩)
        ·
          refine jx_iload_n d_Tp_readToken_104 0 rfl ?_
          refine jx_goto (tgt := 109) d_Tp_readToken_105 (by decide) ?_
          refine jx_put (v0 := .int (q_at B (n) (q))) d_Tp_readToken_109 fF_Tp_22 jv_Tp ft_Tp_kind ta rfl rfl ?_
          refine jx_aload_n d_Tp_readToken_112 1 rfl ?_
          refine jx_dup d_Tp_readToken_113 rfl ?_
          refine jx_get d_Tp_readToken_114 fF_Tp_19 ta (jm_rd_k (by decide) (jm_rd_k (by decide) (jm_rd_s _ _ _ _))) ?_
          refine jx_iconst (v0 := 1) d_Tp_readToken_117 (by decide) ?_
          refine jx_iadd d_Tp_readToken_118 ?_
          refine jx_ati (nI_add (q) (1)) ?_
          refine jx_put (v0 := .int (nI ((q) + (1)))) d_Tp_readToken_119 fF_Tp_19 jv_Tp ft_Tp_next ta rfl rfl ?_
          exact jx_vret d_Tp_readToken_122 rfl (⟨rfl, by rw [hF]; refine jm_heq rfl rfl rfl (fun b9 j9 => ?_); simp only [tp_set, q_tok, jm_put]; grind [jb]⟩)
      ·
        refine jx_aload_n d_Tp_readToken_89 1 rfl ?_
        refine jx_callV (M2 := mm_Tp_readNumber) rfl ta lk_Tp_58 wi_Tp_readNumber ws_Tp_readNumber d_Tp_readToken_90 (c_Tp_readNumber l G d ⟨ta, (jm_rd_k (by decide) (jm_rd_k (by decide) f0)), (jm_rd_k (by decide) (jm_rd_k (by decide) f1)), (jm_rd_k (by decide) (jm_rd_s _ _ _ _)), (jm_rd_k (by decide) (jm_rd_k (by decide) f3)), (jm_rd_s _ _ _ _), (jm_rd_k (by decide) (jm_rd_k (by decide) f5)), (jm_rd_k (by decide) (jm_rd_k (by decide) f6)), tb⟩ (fun j hj => jm_rd_a (Ne.symm (jm_ne_oa ta tb)) ((fun j hj => jm_rd_a (Ne.symm (jm_ne_oa ta tb)) (fB j hj)) j hj)) hn hle.2) cd_Tp_readNumber rfl rfl (Nat.le_of_ble_eq_true rfl) (Nat.le_refl _) (jm_lok (by decide)) ?_
        refine jx_goto (tgt := 122) d_Tp_readToken_93 (by decide) ?_
        exact jx_vret d_Tp_readToken_122 rfl (⟨rfl, by rw [hF]; refine jm_heq rfl rfl rfl (fun b9 j9 => ?_); simp only [tp_set, q_tok, jm_put]; grind [jb]⟩)
    ·
      refine jx_aload_n d_Tp_readToken_75 1 rfl ?_
      refine jx_callV (M2 := mm_Tp_readWord) rfl ta lk_Tp_52 wi_Tp_readWord ws_Tp_readWord d_Tp_readToken_76 (c_Tp_readWord l G d ⟨ta, (jm_rd_k (by decide) (jm_rd_k (by decide) f0)), (jm_rd_k (by decide) (jm_rd_k (by decide) f1)), (jm_rd_k (by decide) (jm_rd_s _ _ _ _)), (jm_rd_k (by decide) (jm_rd_k (by decide) f3)), (jm_rd_s _ _ _ _), (jm_rd_k (by decide) (jm_rd_k (by decide) f5)), (jm_rd_k (by decide) (jm_rd_k (by decide) f6)), tb⟩ (fun j hj => jm_rd_a (Ne.symm (jm_ne_oa ta tb)) ((fun j hj => jm_rd_a (Ne.symm (jm_ne_oa ta tb)) (fB j hj)) j hj)) hn hle.2) cd_Tp_readWord rfl rfl (Nat.le_of_ble_eq_true rfl) (Nat.le_refl _) (jm_lok (by decide)) ?_
      refine jx_goto (tgt := 122) d_Tp_readToken_79 (by decide) ?_
      exact jx_vret d_Tp_readToken_122 rfl (⟨rfl, by rw [hF]; refine jm_heq rfl rfl rfl (fun b9 j9 => ?_); simp only [tp_set, q_tok, jm_put]; grind [jb]⟩)
  ·
    refine jx_aload_n d_Tp_readToken_60 1 rfl ?_
    refine jx_iconst (v0 := 0) d_Tp_readToken_61 (by decide) ?_
    refine jx_put (v0 := .int (0)) d_Tp_readToken_62 fF_Tp_22 jv_Tp ft_Tp_kind ta rfl rfl ?_
    refine jx_goto (tgt := 122) d_Tp_readToken_65 (by decide) ?_
    exact jx_vret d_Tp_readToken_122 rfl (⟨rfl, by rw [hF]; refine jm_heq rfl rfl rfl (fun b9 j9 => ?_); simp only [tp_set, q_tok, jm_put]; grind [jb]⟩)
/-- four bytes more, the word's highest first -/
def q_byte (w : Int32) (k : Int32) : Int32 := ((w.toUInt32 >>> (k.toUInt32 &&& Int32.toUInt32 31)).toInt32).toInt8.toInt32
def tp_add (h : jm_H) (a b n : Nat) (w : Int32) : jm_H := jm_put (jm_put (jm_put (jm_put (jm_put (jm_put (jm_put (jm_put h b n (.int (q_byte w 24))) a 1 (.int (nI (n + 1)))) b (n + 1) (.int (q_byte w 16))) a 1 (.int (nI (n + 2)))) b (n + 2) (.int (q_byte w 8))) a 1 (.int (nI (n + 3)))) b (n + 3) (.int (q_byte w 0))) a 1 (.int (nI (n + 4)))
theorem jm_bb (x : Int32) : x.toInt8.toInt32.toInt8.toInt32 = x.toInt8.toInt32 := by simp
set_option maxHeartbeats 4000000 in
set_option maxRecDepth 100000 in
theorem c_Tp_add (l : Launch) (G : jm_G) (d : Nat) {h : jm_H} {a b n p s : Nat} {K : Int32} {nm : Int64} {nu : Int32} {B : Nat → Int32} {w : Int32} (hT : TpA h a b n p K s nm nu) (hB : TpB h b B) (hn : n + 4 ≤ 2000) : jm_C l G mm_Tp_add d [.ref a, .int w] h none (tp_add h a b n w) := by
  obtain ⟨ta, f0, f1, f2, f3, f4, f5, f6, tb⟩ := id hT
  have fB := hB
  refine jm_ofE (by decide) rfl (Nat.le_of_ble_eq_true rfl) ?_
  refine jx_bipush (v0 := 24) d_Tp_add_0 (by decide) ?_
  refine jx_istore_n (lv' := [(2, .int (24)), (0, .ref (a)), (1, .int (w))]) d_Tp_add_2 (by decide) rfl ?_
  refine jx_iload_n d_Tp_add_3 0 rfl ?_
  refine jx_if_lt (tgt := 55) d_Tp_add_4 (by decide) (fun c1 => absurd c1 (by decide)) (fun c1 => ?_)
  refine jx_aload_n d_Tp_add_7 1 rfl ?_
  refine jx_get d_Tp_add_8 fF_Tp_15 ta f1 ?_
  refine jx_if_ltN (tgt := 49) (n) d_Tp_add_11 rfl (by omega) (by decide) (fun c2 => ?_) (fun c2 => ?_)
  · omega
  ·
    refine jx_aload_n d_Tp_add_14 1 rfl ?_
    refine jx_get d_Tp_add_15 fF_Tp_15 ta f1 ?_
    refine jx_aload_n d_Tp_add_18 1 rfl ?_
    refine jx_get d_Tp_add_19 fF_Tp_9 ta f0 ?_
    refine jx_alen (v0 := 2000) d_Tp_add_22 tb (by decide) ?_
    refine jx_icmp_geN (tgt := 49) (n) (2000) d_Tp_add_23 rfl rfl (by omega) (by omega) (by decide) (fun c3 => ?_) (fun c3 => ?_)
    · omega
    ·
      refine jx_aload_n d_Tp_add_26 1 rfl ?_
      refine jx_get d_Tp_add_27 fF_Tp_9 ta f0 ?_
      refine jx_aload_n d_Tp_add_30 1 rfl ?_
      refine jx_get d_Tp_add_31 fF_Tp_15 ta f1 ?_
      refine jx_iload_n d_Tp_add_34 2 rfl ?_
      refine jx_iload_n d_Tp_add_35 0 rfl ?_
      refine jx_iushr d_Tp_add_36 ?_
      refine jx_i2b d_Tp_add_37 ?_
      refine jx_bast d_Tp_add_38 tb rfl (jm_vinN (by omega) (by decide)) ?_
      rw [jm_putN (by omega)]
      refine jx_aload_n d_Tp_add_39 1 rfl ?_
      refine jx_dup d_Tp_add_40 rfl ?_
      refine jx_get d_Tp_add_41 fF_Tp_15 ta (jm_rd_a (jm_ne_oa ta tb) f1) ?_
      refine jx_iconst (v0 := 1) d_Tp_add_44 (by decide) ?_
      refine jx_iadd d_Tp_add_45 ?_
      refine jx_ati (nI_add (n) (1)) ?_
      refine jx_put (v0 := .int (nI ((n) + (1)))) d_Tp_add_46 fF_Tp_15 jv_Tp ft_Tp_length ta rfl rfl ?_
      refine jx_iinc (v0 := 16) (lv' := [(2, .int (16)), (0, .ref (a)), (1, .int (w))]) d_Tp_add_49 0 rfl (by decide) (by decide) rfl ?_
      refine jx_goto (tgt := 3) d_Tp_add_52 (by decide) ?_
      refine jx_iload_n d_Tp_add_3 0 rfl ?_
      refine jx_if_lt (tgt := 55) d_Tp_add_4 (by decide) (fun c4 => absurd c4 (by decide)) (fun c4 => ?_)
      refine jx_aload_n d_Tp_add_7 1 rfl ?_
      refine jx_get d_Tp_add_8 fF_Tp_15 ta (jm_rd_s _ _ _ _) ?_
      refine jx_if_ltN (tgt := 49) ((n) + (1)) d_Tp_add_11 rfl (by omega) (by decide) (fun c5 => ?_) (fun c5 => ?_)
      · omega
      ·
        refine jx_aload_n d_Tp_add_14 1 rfl ?_
        refine jx_get d_Tp_add_15 fF_Tp_15 ta (jm_rd_s _ _ _ _) ?_
        refine jx_aload_n d_Tp_add_18 1 rfl ?_
        refine jx_get d_Tp_add_19 fF_Tp_9 ta (jm_rd_k (by decide) (jm_rd_a (jm_ne_oa ta tb) f0)) ?_
        refine jx_alen (v0 := 2000) d_Tp_add_22 tb (by decide) ?_
        refine jx_icmp_geN (tgt := 49) ((n) + (1)) (2000) d_Tp_add_23 rfl rfl (by omega) (by omega) (by decide) (fun c6 => ?_) (fun c6 => ?_)
        · omega
        ·
          refine jx_aload_n d_Tp_add_26 1 rfl ?_
          refine jx_get d_Tp_add_27 fF_Tp_9 ta (jm_rd_k (by decide) (jm_rd_a (jm_ne_oa ta tb) f0)) ?_
          refine jx_aload_n d_Tp_add_30 1 rfl ?_
          refine jx_get d_Tp_add_31 fF_Tp_15 ta (jm_rd_s _ _ _ _) ?_
          refine jx_iload_n d_Tp_add_34 2 rfl ?_
          refine jx_iload_n d_Tp_add_35 0 rfl ?_
          refine jx_iushr d_Tp_add_36 ?_
          refine jx_i2b d_Tp_add_37 ?_
          refine jx_bast d_Tp_add_38 tb rfl (jm_vinN (by omega) (by decide)) ?_
          rw [jm_putN (by omega)]
          refine jx_aload_n d_Tp_add_39 1 rfl ?_
          refine jx_dup d_Tp_add_40 rfl ?_
          refine jx_get d_Tp_add_41 fF_Tp_15 ta (jm_rd_a (jm_ne_oa ta tb) (jm_rd_s _ _ _ _)) ?_
          refine jx_iconst (v0 := 1) d_Tp_add_44 (by decide) ?_
          refine jx_iadd d_Tp_add_45 ?_
          refine jx_ati (nI_add ((n) + (1)) (1)) ?_
          refine jx_put (v0 := .int (nI (((n) + (1)) + (1)))) d_Tp_add_46 fF_Tp_15 jv_Tp ft_Tp_length ta rfl rfl ?_
          refine jx_iinc (v0 := 8) (lv' := [(2, .int (8)), (0, .ref (a)), (1, .int (w))]) d_Tp_add_49 0 rfl (by decide) (by decide) rfl ?_
          refine jx_goto (tgt := 3) d_Tp_add_52 (by decide) ?_
          refine jx_iload_n d_Tp_add_3 0 rfl ?_
          refine jx_if_lt (tgt := 55) d_Tp_add_4 (by decide) (fun c7 => absurd c7 (by decide)) (fun c7 => ?_)
          refine jx_aload_n d_Tp_add_7 1 rfl ?_
          refine jx_get d_Tp_add_8 fF_Tp_15 ta (jm_rd_s _ _ _ _) ?_
          refine jx_if_ltN (tgt := 49) (((n) + (1)) + (1)) d_Tp_add_11 rfl (by omega) (by decide) (fun c8 => ?_) (fun c8 => ?_)
          · omega
          ·
            refine jx_aload_n d_Tp_add_14 1 rfl ?_
            refine jx_get d_Tp_add_15 fF_Tp_15 ta (jm_rd_s _ _ _ _) ?_
            refine jx_aload_n d_Tp_add_18 1 rfl ?_
            refine jx_get d_Tp_add_19 fF_Tp_9 ta (jm_rd_k (by decide) (jm_rd_a (jm_ne_oa ta tb) (jm_rd_k (by decide) (jm_rd_a (jm_ne_oa ta tb) f0)))) ?_
            refine jx_alen (v0 := 2000) d_Tp_add_22 tb (by decide) ?_
            refine jx_icmp_geN (tgt := 49) (((n) + (1)) + (1)) (2000) d_Tp_add_23 rfl rfl (by omega) (by omega) (by decide) (fun c9 => ?_) (fun c9 => ?_)
            · omega
            ·
              refine jx_aload_n d_Tp_add_26 1 rfl ?_
              refine jx_get d_Tp_add_27 fF_Tp_9 ta (jm_rd_k (by decide) (jm_rd_a (jm_ne_oa ta tb) (jm_rd_k (by decide) (jm_rd_a (jm_ne_oa ta tb) f0)))) ?_
              refine jx_aload_n d_Tp_add_30 1 rfl ?_
              refine jx_get d_Tp_add_31 fF_Tp_15 ta (jm_rd_s _ _ _ _) ?_
              refine jx_iload_n d_Tp_add_34 2 rfl ?_
              refine jx_iload_n d_Tp_add_35 0 rfl ?_
              refine jx_iushr d_Tp_add_36 ?_
              refine jx_i2b d_Tp_add_37 ?_
              refine jx_bast d_Tp_add_38 tb rfl (jm_vinN (by omega) (by decide)) ?_
              rw [jm_putN (by omega)]
              refine jx_aload_n d_Tp_add_39 1 rfl ?_
              refine jx_dup d_Tp_add_40 rfl ?_
              refine jx_get d_Tp_add_41 fF_Tp_15 ta (jm_rd_a (jm_ne_oa ta tb) (jm_rd_s _ _ _ _)) ?_
              refine jx_iconst (v0 := 1) d_Tp_add_44 (by decide) ?_
              refine jx_iadd d_Tp_add_45 ?_
              refine jx_ati (nI_add (((n) + (1)) + (1)) (1)) ?_
              refine jx_put (v0 := .int (nI ((((n) + (1)) + (1)) + (1)))) d_Tp_add_46 fF_Tp_15 jv_Tp ft_Tp_length ta rfl rfl ?_
              refine jx_iinc (v0 := 0) (lv' := [(2, .int (0)), (0, .ref (a)), (1, .int (w))]) d_Tp_add_49 0 rfl (by decide) (by decide) rfl ?_
              refine jx_goto (tgt := 3) d_Tp_add_52 (by decide) ?_
              refine jx_iload_n d_Tp_add_3 0 rfl ?_
              refine jx_if_lt (tgt := 55) d_Tp_add_4 (by decide) (fun c10 => absurd c10 (by decide)) (fun c10 => ?_)
              refine jx_aload_n d_Tp_add_7 1 rfl ?_
              refine jx_get d_Tp_add_8 fF_Tp_15 ta (jm_rd_s _ _ _ _) ?_
              refine jx_if_ltN (tgt := 49) ((((n) + (1)) + (1)) + (1)) d_Tp_add_11 rfl (by omega) (by decide) (fun c11 => ?_) (fun c11 => ?_)
              · omega
              ·
                refine jx_aload_n d_Tp_add_14 1 rfl ?_
                refine jx_get d_Tp_add_15 fF_Tp_15 ta (jm_rd_s _ _ _ _) ?_
                refine jx_aload_n d_Tp_add_18 1 rfl ?_
                refine jx_get d_Tp_add_19 fF_Tp_9 ta (jm_rd_k (by decide) (jm_rd_a (jm_ne_oa ta tb) (jm_rd_k (by decide) (jm_rd_a (jm_ne_oa ta tb) (jm_rd_k (by decide) (jm_rd_a (jm_ne_oa ta tb) f0)))))) ?_
                refine jx_alen (v0 := 2000) d_Tp_add_22 tb (by decide) ?_
                refine jx_icmp_geN (tgt := 49) ((((n) + (1)) + (1)) + (1)) (2000) d_Tp_add_23 rfl rfl (by omega) (by omega) (by decide) (fun c12 => ?_) (fun c12 => ?_)
                · omega
                ·
                  refine jx_aload_n d_Tp_add_26 1 rfl ?_
                  refine jx_get d_Tp_add_27 fF_Tp_9 ta (jm_rd_k (by decide) (jm_rd_a (jm_ne_oa ta tb) (jm_rd_k (by decide) (jm_rd_a (jm_ne_oa ta tb) (jm_rd_k (by decide) (jm_rd_a (jm_ne_oa ta tb) f0)))))) ?_
                  refine jx_aload_n d_Tp_add_30 1 rfl ?_
                  refine jx_get d_Tp_add_31 fF_Tp_15 ta (jm_rd_s _ _ _ _) ?_
                  refine jx_iload_n d_Tp_add_34 2 rfl ?_
                  refine jx_iload_n d_Tp_add_35 0 rfl ?_
                  refine jx_iushr d_Tp_add_36 ?_
                  refine jx_i2b d_Tp_add_37 ?_
                  refine jx_bast d_Tp_add_38 tb rfl (jm_vinN (by omega) (by decide)) ?_
                  rw [jm_putN (by omega)]
                  refine jx_aload_n d_Tp_add_39 1 rfl ?_
                  refine jx_dup d_Tp_add_40 rfl ?_
                  refine jx_get d_Tp_add_41 fF_Tp_15 ta (jm_rd_a (jm_ne_oa ta tb) (jm_rd_s _ _ _ _)) ?_
                  refine jx_iconst (v0 := 1) d_Tp_add_44 (by decide) ?_
                  refine jx_iadd d_Tp_add_45 ?_
                  refine jx_ati (nI_add ((((n) + (1)) + (1)) + (1)) (1)) ?_
                  refine jx_put (v0 := .int (nI (((((n) + (1)) + (1)) + (1)) + (1)))) d_Tp_add_46 fF_Tp_15 jv_Tp ft_Tp_length ta rfl rfl ?_
                  refine jx_iinc (v0 := -8) (lv' := [(2, .int ((-8))), (0, .ref (a)), (1, .int (w))]) d_Tp_add_49 0 rfl (by decide) (by decide) rfl ?_
                  refine jx_goto (tgt := 3) d_Tp_add_52 (by decide) ?_
                  refine jx_iload_n d_Tp_add_3 0 rfl ?_
                  refine jx_if_lt (tgt := 55) d_Tp_add_4 (by decide) (fun c9 => ?_) (fun c9 => absurd (by decide) c9)
                  exact jx_vret d_Tp_add_55 rfl (⟨rfl, by simp only [tp_add, q_byte, jm_bb]⟩)
/-- the name, when the tape is just a NAME; else 0 -/
def q_only (B : Nat → Int32) (n : Nat) (nm : Int64) (nu : Int32) : Int64 :=
  if (q_tok B n (q_skip B n (q_tok B n (q_skip B n 0) nm nu).2.1) (q_tok B n (q_skip B n 0) nm nu).2.2.1 (q_tok B n (q_skip B n 0) nm nu).2.2.2).1 = 0
  then (if (q_tok B n (q_skip B n 0) nm nu).1 = 2 then (q_tok B n (q_skip B n 0) nm nu).2.2.1 else 0) else 0
theorem q_tok_le (B : Nat → Int32) (n p : Nat) (nm : Int64) (nu : Int32) (h : p ≤ n) : p ≤ (q_tok B n p nm nu).2.1 ∧ (q_tok B n p nm nu).2.1 ≤ n := by
  have h1 := q_wloop_le B n p p 0 h
  have h2 := q_nloop_le B n p 0 h
  by_cases hp : p < n
  · unfold q_tok
    split
    · exact ⟨Nat.le_refl _, h⟩
    · split
      · exact h1
      · split
        · exact h2
        · exact ⟨Nat.le_succ _, hp⟩
  · have e : q_at B n p = -1 := by unfold q_at; rw [if_neg hp]
    unfold q_tok
    rw [if_pos e]
    exact ⟨Nat.le_refl _, h⟩
def tp_only (h : jm_H) (a n : Nat) (B : Nat → Int32) (nm : Int64) (nu : Int32) : jm_H := tp_tok (tp_tok (jm_put h a 2 (.int 0)) a n B 0 nm nu) a n B (q_tok B n (q_skip B n 0) nm nu).2.1 (q_tok B n (q_skip B n 0) nm nu).2.2.1 (q_tok B n (q_skip B n 0) nm nu).2.2.2
theorem TpA.tok {h : jm_H} {a b n p s : Nat} {K : Int32} {nm : Int64} {nu : Int32} {B : Nat → Int32} (hT : TpA h a b n p K s nm nu) : TpA (tp_tok h a n B p nm nu) a b n (q_tok B n (q_skip B n p) nm nu).2.1 (q_tok B n (q_skip B n p) nm nu).1 (q_skip B n p) (q_tok B n (q_skip B n p) nm nu).2.2.1 (q_tok B n (q_skip B n p) nm nu).2.2.2 := by
  obtain ⟨ta, f0, f1, f2, f3, f4, f5, f6, tb⟩ := hT
  refine ⟨ta, ?_, ?_, ?_, ?_, ?_, ?_, ?_, tb⟩ <;> simp [tp_tok, tp_set, jm_put, f0, f1]
theorem TpB.tok {h : jm_H} {a b n p s : Nat} {K : Int32} {nm : Int64} {nu : Int32} {B : Nat → Int32} (hT : TpA h a b n p K s nm nu) (hB : TpB h b B) : TpB (tp_tok h a n B p nm nu) b B := by
  have hne : b ≠ a := Ne.symm (jm_ne_oa hT.1 hT.2.2.2.2.2.2.2.2)
  intro j hj
  simp [tp_tok, tp_set, jm_put, hne, hB j hj]
set_option maxHeartbeats 4000000 in
set_option maxRecDepth 100000 in
theorem c_Tp_onlyName (l : Launch) (G : jm_G) (d : Nat) {h : jm_H} {a b n p s : Nat} {K : Int32} {nm : Int64} {nu : Int32} {B : Nat → Int32} (hT : TpA h a b n p K s nm nu) (hB : TpB h b B) (hn : n ≤ 2000) : jm_C l G mm_Tp_onlyName (d + 3) [.ref a] h (some (.long (q_only B n nm nu))) (tp_only h a n B nm nu) := by
  obtain ⟨ta, f0, f1, f2, f3, f4, f5, f6, tb⟩ := id hT
  have fB := hB
  have hT0 : TpA (jm_put h a 2 (.int 0)) a b n 0 K s nm nu := ⟨ta, jm_rd_k (by decide) f0, jm_rd_k (by decide) f1, jm_rd_s _ _ _ _, jm_rd_k (by decide) f3, jm_rd_k (by decide) f4, jm_rd_k (by decide) f5, jm_rd_k (by decide) f6, tb⟩
  have hB0 : TpB (jm_put h a 2 (.int 0)) b B := fun j hj => jm_rd_a (Ne.symm (jm_ne_oa ta tb)) (hB j hj)
  have hT1 := hT0.tok (B := B)
  have hB1 := TpB.tok hT0 hB0
  have hq1 := q_tok_le B n (q_skip B n 0) nm nu (q_skip_le B n 0 (Nat.zero_le _)).2
  have hT2 := hT1.tok (B := B)
  have hB2 := TpB.tok hT1 hB1
  refine jm_ofE (by decide) rfl (Nat.le_of_ble_eq_true rfl) ?_
  refine jx_aload_n d_Tp_onlyName_0 0 rfl ?_
  refine jx_callV (M2 := mm_Tp_rewind) rfl ta lk_Tp_35 wi_Tp_rewind ws_Tp_rewind d_Tp_onlyName_1 (c_Tp_rewind l G (d + 2) ⟨ta, f0, f1, f2, f3, f4, f5, f6, tb⟩ fB) cd_Tp_rewind rfl rfl (Nat.le_of_ble_eq_true rfl) (Nat.le_refl _) (jm_lok (by decide)) ?_
  refine jx_aload_n d_Tp_onlyName_4 0 rfl ?_
  refine jx_callV (M2 := mm_Tp_readToken) rfl ta lk_Tp_38 wi_Tp_readToken ws_Tp_readToken d_Tp_onlyName_5 (c_Tp_readToken l G d hT0 hB0 hn (Nat.zero_le _)) cd_Tp_readToken rfl rfl (Nat.le_of_ble_eq_true rfl) (Nat.le_refl _) (jm_lok (by decide)) ?_
  refine jx_aload_n d_Tp_onlyName_8 0 rfl ?_
  refine jx_get d_Tp_onlyName_9 fF_Tp_22 hT1.1 hT1.2.2.2.2.1 ?_
  refine jx_iconst (v0 := 2) d_Tp_onlyName_12 (by decide) ?_
  refine jx_icmp_ne (tgt := 23) d_Tp_onlyName_13 (by decide) (fun c1 => ?_) (fun c1 => ?_)
  ·
    refine jx_lconst (v0 := 0) d_Tp_onlyName_23 (by decide) ?_
    refine jx_lstore_n (lv' := [(1, .long (0)), (0, .ref (a))]) d_Tp_onlyName_24 (by decide) rfl ?_
    refine jx_aload_n d_Tp_onlyName_25 1 rfl ?_
    refine jx_callV (M2 := mm_Tp_readToken) rfl hT1.1 lk_Tp_38 wi_Tp_readToken ws_Tp_readToken d_Tp_onlyName_26 (c_Tp_readToken l G d hT1 hB1 hn hq1.2) cd_Tp_readToken rfl rfl (Nat.le_of_ble_eq_true rfl) (Nat.le_refl _) (jm_lok (by decide)) ?_
    refine jx_aload_n d_Tp_onlyName_29 1 rfl ?_
    refine jx_get d_Tp_onlyName_30 fF_Tp_22 hT2.1 hT2.2.2.2.2.1 ?_
    refine jx_if_ne (tgt := 40) d_Tp_onlyName_33 (by decide) (fun c2 => ?_) (fun c2 => ?_)
    ·
      refine jx_lconst (v0 := 0) d_Tp_onlyName_40 (by decide) ?_
      exact jx_lret d_Tp_onlyName_41 rfl (⟨by grind [q_only], rfl⟩)
    ·
      refine jx_lload_n d_Tp_onlyName_36 0 rfl ?_
      refine jx_goto (tgt := 41) d_Tp_onlyName_37 (by decide) ?_
      exact jx_lret d_Tp_onlyName_41 rfl (⟨by grind [q_only], rfl⟩)
  ·
    refine jx_aload_n d_Tp_onlyName_16 0 rfl ?_
    refine jx_get d_Tp_onlyName_17 fF_Tp_28 hT1.1 hT1.2.2.2.2.2.2.1 ?_
    refine jx_goto (tgt := 24) d_Tp_onlyName_20 (by decide) ?_
    refine jx_topl fun x3 ex3 => ?_
    refine jx_lstore_n (lv' := [(1, .long (x3)), (0, .ref (a))]) d_Tp_onlyName_24 (by decide) rfl ?_
    refine jx_aload_n d_Tp_onlyName_25 1 rfl ?_
    refine jx_callV (M2 := mm_Tp_readToken) rfl hT1.1 lk_Tp_38 wi_Tp_readToken ws_Tp_readToken d_Tp_onlyName_26 (c_Tp_readToken l G d hT1 hB1 hn hq1.2) cd_Tp_readToken rfl rfl (Nat.le_of_ble_eq_true rfl) (Nat.le_refl _) (jm_lok (by decide)) ?_
    refine jx_aload_n d_Tp_onlyName_29 1 rfl ?_
    refine jx_get d_Tp_onlyName_30 fF_Tp_22 hT2.1 hT2.2.2.2.2.1 ?_
    refine jx_if_ne (tgt := 40) d_Tp_onlyName_33 (by decide) (fun c4 => ?_) (fun c4 => ?_)
    ·
      refine jx_lconst (v0 := 0) d_Tp_onlyName_40 (by decide) ?_
      exact jx_lret d_Tp_onlyName_41 rfl (⟨by grind [q_only], rfl⟩)
    ·
      refine jx_lload_n d_Tp_onlyName_36 0 rfl ?_
      refine jx_goto (tgt := 41) d_Tp_onlyName_37 (by decide) ?_
      exact jx_lret d_Tp_onlyName_41 rfl (⟨by grind [q_only], rfl⟩)
