def q_blank (c : Int32) : Bool := decide (c = 9 ∨ c = 10 ∨ c = 13 ∨ c = 32)
set_option maxHeartbeats 4000000 in
set_option maxRecDepth 100000 in
theorem c_Tp_isBlank (l : Launch) (G : jm_G) (d : Nat) (h : jm_H) (c : Int32) : jm_C l G mm_Tp_isBlank d [.int c] h (some (.int (jb (q_blank c)))) h := by
  refine jm_ofE (by decide) rfl (Nat.le_of_ble_eq_true rfl) ?_
  refine jx_iload_n d_Tp_isBlank_0 0 rfl ?_
  refine jx_bipush (v0 := 9) d_Tp_isBlank_1 (by decide) ?_
  refine jx_icmp_eq (tgt := 24) d_Tp_isBlank_3 (by decide) (fun c1 => ?_) (fun c1 => ?_)
  ·
    refine jx_iconst (v0 := 1) d_Tp_isBlank_24 (by decide) ?_
    refine jx_goto (tgt := 29) d_Tp_isBlank_25 (by decide) ?_
    exact jx_zret d_Tp_isBlank_29 rfl (by first | rfl | decide) (⟨by grind [jb, q_blank], rfl⟩)
  ·
    refine jx_iload_n d_Tp_isBlank_6 0 rfl ?_
    refine jx_bipush (v0 := 10) d_Tp_isBlank_7 (by decide) ?_
    refine jx_icmp_eq (tgt := 24) d_Tp_isBlank_9 (by decide) (fun c2 => ?_) (fun c2 => ?_)
    ·
      refine jx_iconst (v0 := 1) d_Tp_isBlank_24 (by decide) ?_
      refine jx_goto (tgt := 29) d_Tp_isBlank_25 (by decide) ?_
      exact jx_zret d_Tp_isBlank_29 rfl (by first | rfl | decide) (⟨by grind [jb, q_blank], rfl⟩)
    ·
      refine jx_iload_n d_Tp_isBlank_12 0 rfl ?_
      refine jx_bipush (v0 := 13) d_Tp_isBlank_13 (by decide) ?_
      refine jx_icmp_eq (tgt := 24) d_Tp_isBlank_15 (by decide) (fun c3 => ?_) (fun c3 => ?_)
      ·
        refine jx_iconst (v0 := 1) d_Tp_isBlank_24 (by decide) ?_
        refine jx_goto (tgt := 29) d_Tp_isBlank_25 (by decide) ?_
        exact jx_zret d_Tp_isBlank_29 rfl (by first | rfl | decide) (⟨by grind [jb, q_blank], rfl⟩)
      ·
        refine jx_iload_n d_Tp_isBlank_18 0 rfl ?_
        refine jx_bipush (v0 := 32) d_Tp_isBlank_19 (by decide) ?_
        refine jx_icmp_ne (tgt := 28) d_Tp_isBlank_21 (by decide) (fun c4 => ?_) (fun c4 => ?_)
        ·
          refine jx_iconst (v0 := 0) d_Tp_isBlank_28 (by decide) ?_
          exact jx_zret d_Tp_isBlank_29 rfl (by first | rfl | decide) (⟨by grind [jb, q_blank], rfl⟩)
        ·
          refine jx_iconst (v0 := 1) d_Tp_isBlank_24 (by decide) ?_
          refine jx_goto (tgt := 29) d_Tp_isBlank_25 (by decide) ?_
          exact jx_zret d_Tp_isBlank_29 rfl (by first | rfl | decide) (⟨by grind [jb, q_blank], rfl⟩)
def q_letter (c : Int32) : Bool := decide ((97 ≤ c ∧ c ≤ 122) ∨ (65 ≤ c ∧ c ≤ 90))
set_option maxHeartbeats 4000000 in
set_option maxRecDepth 100000 in
theorem c_Tp_isLetter (l : Launch) (G : jm_G) (d : Nat) (h : jm_H) (c : Int32) : jm_C l G mm_Tp_isLetter d [.int c] h (some (.int (jb (q_letter c)))) h := by
  refine jm_ofE (by decide) rfl (Nat.le_of_ble_eq_true rfl) ?_
  refine jx_iload_n d_Tp_isLetter_0 0 rfl ?_
  refine jx_bipush (v0 := 97) d_Tp_isLetter_1 (by decide) ?_
  refine jx_icmp_lt (tgt := 12) d_Tp_isLetter_3 (by decide) (fun c1 => ?_) (fun c1 => ?_)
  ·
    refine jx_iload_n d_Tp_isLetter_12 0 rfl ?_
    refine jx_bipush (v0 := 65) d_Tp_isLetter_13 (by decide) ?_
    refine jx_icmp_lt (tgt := 28) d_Tp_isLetter_15 (by decide) (fun c2 => ?_) (fun c2 => ?_)
    ·
      refine jx_iconst (v0 := 0) d_Tp_isLetter_28 (by decide) ?_
      exact jx_zret d_Tp_isLetter_29 rfl (by first | rfl | decide) (⟨by grind [jb, q_letter], rfl⟩)
    ·
      refine jx_iload_n d_Tp_isLetter_18 0 rfl ?_
      refine jx_bipush (v0 := 90) d_Tp_isLetter_19 (by decide) ?_
      refine jx_icmp_gt (tgt := 28) d_Tp_isLetter_21 (by decide) (fun c3 => ?_) (fun c3 => ?_)
      ·
        refine jx_iconst (v0 := 0) d_Tp_isLetter_28 (by decide) ?_
        exact jx_zret d_Tp_isLetter_29 rfl (by first | rfl | decide) (⟨by grind [jb, q_letter], rfl⟩)
      ·
        refine jx_iconst (v0 := 1) d_Tp_isLetter_24 (by decide) ?_
        refine jx_goto (tgt := 29) d_Tp_isLetter_25 (by decide) ?_
        exact jx_zret d_Tp_isLetter_29 rfl (by first | rfl | decide) (⟨by grind [jb, q_letter], rfl⟩)
  ·
    refine jx_iload_n d_Tp_isLetter_6 0 rfl ?_
    refine jx_bipush (v0 := 122) d_Tp_isLetter_7 (by decide) ?_
    refine jx_icmp_le (tgt := 24) d_Tp_isLetter_9 (by decide) (fun c4 => ?_) (fun c4 => ?_)
    ·
      refine jx_iconst (v0 := 1) d_Tp_isLetter_24 (by decide) ?_
      refine jx_goto (tgt := 29) d_Tp_isLetter_25 (by decide) ?_
      exact jx_zret d_Tp_isLetter_29 rfl (by first | rfl | decide) (⟨by grind [jb, q_letter], rfl⟩)
    ·
      refine jx_iload_n d_Tp_isLetter_12 0 rfl ?_
      refine jx_bipush (v0 := 65) d_Tp_isLetter_13 (by decide) ?_
      refine jx_icmp_lt (tgt := 28) d_Tp_isLetter_15 (by decide) (fun c5 => ?_) (fun c5 => ?_)
      ·
        refine jx_iconst (v0 := 0) d_Tp_isLetter_28 (by decide) ?_
        exact jx_zret d_Tp_isLetter_29 rfl (by first | rfl | decide) (⟨by grind [jb, q_letter], rfl⟩)
      ·
        refine jx_iload_n d_Tp_isLetter_18 0 rfl ?_
        refine jx_bipush (v0 := 90) d_Tp_isLetter_19 (by decide) ?_
        refine jx_icmp_gt (tgt := 28) d_Tp_isLetter_21 (by decide) (fun c6 => ?_) (fun c6 => ?_)
        ·
          refine jx_iconst (v0 := 0) d_Tp_isLetter_28 (by decide) ?_
          exact jx_zret d_Tp_isLetter_29 rfl (by first | rfl | decide) (⟨by grind [jb, q_letter], rfl⟩)
        ·
          refine jx_iconst (v0 := 1) d_Tp_isLetter_24 (by decide) ?_
          refine jx_goto (tgt := 29) d_Tp_isLetter_25 (by decide) ?_
          exact jx_zret d_Tp_isLetter_29 rfl (by first | rfl | decide) (⟨by grind [jb, q_letter], rfl⟩)
def q_digit (c : Int32) : Bool := decide (48 ≤ c ∧ c ≤ 57)
set_option maxHeartbeats 4000000 in
set_option maxRecDepth 100000 in
theorem c_Tp_isDigit (l : Launch) (G : jm_G) (d : Nat) (h : jm_H) (c : Int32) : jm_C l G mm_Tp_isDigit d [.int c] h (some (.int (jb (q_digit c)))) h := by
  refine jm_ofE (by decide) rfl (Nat.le_of_ble_eq_true rfl) ?_
  refine jx_iload_n d_Tp_isDigit_0 0 rfl ?_
  refine jx_bipush (v0 := 48) d_Tp_isDigit_1 (by decide) ?_
  refine jx_icmp_lt (tgt := 16) d_Tp_isDigit_3 (by decide) (fun c1 => ?_) (fun c1 => ?_)
  ·
    refine jx_iconst (v0 := 0) d_Tp_isDigit_16 (by decide) ?_
    exact jx_zret d_Tp_isDigit_17 rfl (by first | rfl | decide) (⟨by grind [jb, q_digit], rfl⟩)
  ·
    refine jx_iload_n d_Tp_isDigit_6 0 rfl ?_
    refine jx_bipush (v0 := 57) d_Tp_isDigit_7 (by decide) ?_
    refine jx_icmp_gt (tgt := 16) d_Tp_isDigit_9 (by decide) (fun c2 => ?_) (fun c2 => ?_)
    ·
      refine jx_iconst (v0 := 0) d_Tp_isDigit_16 (by decide) ?_
      exact jx_zret d_Tp_isDigit_17 rfl (by first | rfl | decide) (⟨by grind [jb, q_digit], rfl⟩)
    ·
      refine jx_iconst (v0 := 1) d_Tp_isDigit_12 (by decide) ?_
      refine jx_goto (tgt := 17) d_Tp_isDigit_13 (by decide) ?_
      exact jx_zret d_Tp_isDigit_17 rfl (by first | rfl | decide) (⟨by grind [jb, q_digit], rfl⟩)
def q_mark (c : Int32) : Bool := decide (c = 61 ∨ c = 43 ∨ c = 45 ∨ c = 42 ∨ c = 47 ∨ c = 40 ∨ c = 41 ∨ c = 44)
set_option maxHeartbeats 4000000 in
set_option maxRecDepth 100000 in
theorem c_Tp_isMark (l : Launch) (G : jm_G) (d : Nat) (h : jm_H) (c : Int32) : jm_C l G mm_Tp_isMark d [.int c] h (some (.int (jb (q_mark c)))) h := by
  refine jm_ofE (by decide) rfl (Nat.le_of_ble_eq_true rfl) ?_
  refine jx_iload_n d_Tp_isMark_0 0 rfl ?_
  refine jx_bipush (v0 := 61) d_Tp_isMark_1 (by decide) ?_
  refine jx_icmp_eq (tgt := 48) d_Tp_isMark_3 (by decide) (fun c1 => ?_) (fun c1 => ?_)
  ·
    refine jx_iconst (v0 := 1) d_Tp_isMark_48 (by decide) ?_
    refine jx_goto (tgt := 53) d_Tp_isMark_49 (by decide) ?_
    exact jx_zret d_Tp_isMark_53 rfl (by first | rfl | decide) (⟨by grind [jb, q_mark], rfl⟩)
  ·
    refine jx_iload_n d_Tp_isMark_6 0 rfl ?_
    refine jx_bipush (v0 := 43) d_Tp_isMark_7 (by decide) ?_
    refine jx_icmp_eq (tgt := 48) d_Tp_isMark_9 (by decide) (fun c2 => ?_) (fun c2 => ?_)
    ·
      refine jx_iconst (v0 := 1) d_Tp_isMark_48 (by decide) ?_
      refine jx_goto (tgt := 53) d_Tp_isMark_49 (by decide) ?_
      exact jx_zret d_Tp_isMark_53 rfl (by first | rfl | decide) (⟨by grind [jb, q_mark], rfl⟩)
    ·
      refine jx_iload_n d_Tp_isMark_12 0 rfl ?_
      refine jx_bipush (v0 := 45) d_Tp_isMark_13 (by decide) ?_
      refine jx_icmp_eq (tgt := 48) d_Tp_isMark_15 (by decide) (fun c3 => ?_) (fun c3 => ?_)
      ·
        refine jx_iconst (v0 := 1) d_Tp_isMark_48 (by decide) ?_
        refine jx_goto (tgt := 53) d_Tp_isMark_49 (by decide) ?_
        exact jx_zret d_Tp_isMark_53 rfl (by first | rfl | decide) (⟨by grind [jb, q_mark], rfl⟩)
      ·
        refine jx_iload_n d_Tp_isMark_18 0 rfl ?_
        refine jx_bipush (v0 := 42) d_Tp_isMark_19 (by decide) ?_
        refine jx_icmp_eq (tgt := 48) d_Tp_isMark_21 (by decide) (fun c4 => ?_) (fun c4 => ?_)
        ·
          refine jx_iconst (v0 := 1) d_Tp_isMark_48 (by decide) ?_
          refine jx_goto (tgt := 53) d_Tp_isMark_49 (by decide) ?_
          exact jx_zret d_Tp_isMark_53 rfl (by first | rfl | decide) (⟨by grind [jb, q_mark], rfl⟩)
        ·
          refine jx_iload_n d_Tp_isMark_24 0 rfl ?_
          refine jx_bipush (v0 := 47) d_Tp_isMark_25 (by decide) ?_
          refine jx_icmp_eq (tgt := 48) d_Tp_isMark_27 (by decide) (fun c5 => ?_) (fun c5 => ?_)
          ·
            refine jx_iconst (v0 := 1) d_Tp_isMark_48 (by decide) ?_
            refine jx_goto (tgt := 53) d_Tp_isMark_49 (by decide) ?_
            exact jx_zret d_Tp_isMark_53 rfl (by first | rfl | decide) (⟨by grind [jb, q_mark], rfl⟩)
          ·
            refine jx_iload_n d_Tp_isMark_30 0 rfl ?_
            refine jx_bipush (v0 := 40) d_Tp_isMark_31 (by decide) ?_
            refine jx_icmp_eq (tgt := 48) d_Tp_isMark_33 (by decide) (fun c6 => ?_) (fun c6 => ?_)
            ·
              refine jx_iconst (v0 := 1) d_Tp_isMark_48 (by decide) ?_
              refine jx_goto (tgt := 53) d_Tp_isMark_49 (by decide) ?_
              exact jx_zret d_Tp_isMark_53 rfl (by first | rfl | decide) (⟨by grind [jb, q_mark], rfl⟩)
            ·
              refine jx_iload_n d_Tp_isMark_36 0 rfl ?_
              refine jx_bipush (v0 := 41) d_Tp_isMark_37 (by decide) ?_
              refine jx_icmp_eq (tgt := 48) d_Tp_isMark_39 (by decide) (fun c7 => ?_) (fun c7 => ?_)
              ·
                refine jx_iconst (v0 := 1) d_Tp_isMark_48 (by decide) ?_
                refine jx_goto (tgt := 53) d_Tp_isMark_49 (by decide) ?_
                exact jx_zret d_Tp_isMark_53 rfl (by first | rfl | decide) (⟨by grind [jb, q_mark], rfl⟩)
              ·
                refine jx_iload_n d_Tp_isMark_42 0 rfl ?_
                refine jx_bipush (v0 := 44) d_Tp_isMark_43 (by decide) ?_
                refine jx_icmp_ne (tgt := 52) d_Tp_isMark_45 (by decide) (fun c8 => ?_) (fun c8 => ?_)
                ·
                  refine jx_iconst (v0 := 0) d_Tp_isMark_52 (by decide) ?_
                  exact jx_zret d_Tp_isMark_53 rfl (by first | rfl | decide) (⟨by grind [jb, q_mark], rfl⟩)
                ·
                  refine jx_iconst (v0 := 1) d_Tp_isMark_48 (by decide) ?_
                  refine jx_goto (tgt := 53) d_Tp_isMark_49 (by decide) ?_
                  exact jx_zret d_Tp_isMark_53 rfl (by first | rfl | decide) (⟨by grind [jb, q_mark], rfl⟩)
