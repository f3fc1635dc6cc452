theorem ms_ext {s t : MS} (h1 : ∀ k, s.1 k = t.1 k) (h2 : ∀ k, s.2.1 k = t.2.1 k) (h3 : ∀ j i, s.2.2.1 j i = t.2.2.1 j i) (h4 : ∀ j i, s.2.2.2.1 j i = t.2.2.2.1 j i) (h5 : ∀ j i, s.2.2.2.2 j i = t.2.2.2.2 j i) : s = t := by
  obtain ⟨a1, a2, a3, a4, a5⟩ := s
  obtain ⟨b1, b2, b3, b4, b5⟩ := t
  simp only at h1 h2 h3 h4 h5
  have e1 : a1 = b1 := funext h1
  have e2 : a2 = b2 := funext h2
  have e3 : a3 = b3 := funext fun j => funext fun i => h3 j i
  have e4 : a4 = b4 := funext fun j => funext fun i => h4 j i
  have e5 : a5 = b5 := funext fun j => funext fun i => h5 j i
  rw [e1, e2, e3, e4, e5]
/-- the reference's tape -/
def MT (s : MS) (B : Nat → Int32) (n : Nat) : Prop := s.1 2 = nI n ∧ n ≤ 2000 ∧ ∀ i, i < n → s.2.2.1 1 i = B i &&& 255
def q_at0 (B : Nat → Int32) (n k : Nat) : Int32 := if k < n then B k &&& 255 else 0
theorem q_at0_lt {B : Nat → Int32} {n k : Nat} (h : k < n) : q_at0 B n k = q_at B n k := by unfold q_at0 q_at; rw [if_pos h, if_pos h]
theorem q_at0_ge {B : Nat → Int32} {n k : Nat} (h : ¬ k < n) : q_at0 B n k = 0 := by unfold q_at0; rw [if_neg h]
set_option maxHeartbeats 4000000 in
set_option maxRecDepth 100000 in
theorem c_Md_at (l : Launch) (G : jm_G) (d : Nat) {h : jm_H} {a : Nat} {s : MS} {B : Nat → Int32} {n : Nat} {k : Nat} (hK : MdK h a) (hT : MT s B n) (hk : k < 2 ^ 31) : jm_C l G mm_Md_at d [.ref a, .int (nI k)] (mdH h a s) (some (.int (q_at0 B n k))) (mdH h a s) := by
  have hn := hT.2.1
  refine jm_ofE (by decide) rfl (Nat.le_of_ble_eq_true rfl) ?_
  refine jx_iload_n d_Md_at_0 1 rfl ?_
  refine jx_aload_n d_Md_at_1 0 rfl ?_
  refine jx_get d_Md_at_2 fF_Md_100 (md_tg hK) ((show (mdH h a s).2.2.2 a 2 = Value.int (s.1 2) from md_ri rfl).trans (congrArg Value.int hT.1)) ?_
  refine jx_icmp_geN (tgt := 17) (k) (n) d_Md_at_5 rfl rfl (by omega) (by omega) (by decide) (fun c1 => ?_) (fun c1 => ?_)
  ·
    refine jx_iconst (v0 := 0) d_Md_at_17 (by decide) ?_
    exact jx_iret d_Md_at_18 rfl (⟨by unfold q_at0; first | rw [if_pos (by omega)] | rw [if_neg (by omega)], rfl⟩)
  ·
    refine jx_aload_n d_Md_at_8 0 rfl ?_
    refine jx_get d_Md_at_9 fF_Md_7 (md_tg hK) (md_rr hK (k := 1) (j := 1) rfl rfl rfl) ?_
    refine jx_iload_n d_Md_at_12 1 rfl ?_
    refine jx_iald d_Md_at_13 (md_ta hK (j := 1) rfl) rfl (jm_vinN (show k < 2000 by omega) (by decide)) (jm_atN (by omega) ((md_rai (j := 1) (show k < 2000 by omega)).trans (congrArg Value.int (hT.2.2 k (by omega))))) ?_
    refine jx_goto (tgt := 18) d_Md_at_14 (by decide) ?_
    exact jx_iret d_Md_at_18 rfl (⟨by unfold q_at0; first | rw [if_pos (by omega)] | rw [if_neg (by omega)], rfl⟩)
set_option maxHeartbeats 4000000 in
set_option maxRecDepth 100000 in
theorem c_Md_isDigit (l : Launch) (G : jm_G) (d : Nat) {h : jm_H} {c : Int32} : jm_C l G mm_Md_isDigit d [.int c] h (some (.int (jb (q_digit c)))) h := by
  refine jm_ofE (by decide) rfl (Nat.le_of_ble_eq_true rfl) ?_
  refine jx_iload_n d_Md_isDigit_0 0 rfl ?_
  refine jx_bipush (v0 := 47) d_Md_isDigit_1 (by decide) ?_
  refine jx_icmp_le (tgt := 16) d_Md_isDigit_3 (by decide) (fun c1 => ?_) (fun c1 => ?_)
  ·
    refine jx_iconst (v0 := 0) d_Md_isDigit_16 (by decide) ?_
    exact jx_zret d_Md_isDigit_17 rfl (by first | rfl | decide) (⟨by simp only [jb, q_digit]; grind, rfl⟩)
  ·
    refine jx_iload_n d_Md_isDigit_6 0 rfl ?_
    refine jx_bipush (v0 := 58) d_Md_isDigit_7 (by decide) ?_
    refine jx_icmp_ge (tgt := 16) d_Md_isDigit_9 (by decide) (fun c2 => ?_) (fun c2 => ?_)
    ·
      refine jx_iconst (v0 := 0) d_Md_isDigit_16 (by decide) ?_
      exact jx_zret d_Md_isDigit_17 rfl (by first | rfl | decide) (⟨by simp only [jb, q_digit]; grind, rfl⟩)
    ·
      refine jx_iconst (v0 := 1) d_Md_isDigit_12 (by decide) ?_
      refine jx_goto (tgt := 17) d_Md_isDigit_13 (by decide) ?_
      exact jx_zret d_Md_isDigit_17 rfl (by first | rfl | decide) (⟨by simp only [jb, q_digit]; grind, rfl⟩)
set_option maxHeartbeats 4000000 in
set_option maxRecDepth 100000 in
theorem c_Md_isLetter (l : Launch) (G : jm_G) (d : Nat) {h : jm_H} {c : Int32} : jm_C l G mm_Md_isLetter d [.int c] h (some (.int (jb (q_letter c)))) h := by
  refine jm_ofE (by decide) rfl (Nat.le_of_ble_eq_true rfl) ?_
  refine jx_iload_n d_Md_isLetter_0 0 rfl ?_
  refine jx_bipush (v0 := 64) d_Md_isLetter_1 (by decide) ?_
  refine jx_icmp_le (tgt := 12) d_Md_isLetter_3 (by decide) (fun c1 => ?_) (fun c1 => ?_)
  ·
    refine jx_iload_n d_Md_isLetter_12 0 rfl ?_
    refine jx_bipush (v0 := 96) d_Md_isLetter_13 (by decide) ?_
    refine jx_icmp_le (tgt := 28) d_Md_isLetter_15 (by decide) (fun c2 => ?_) (fun c2 => ?_)
    ·
      refine jx_iconst (v0 := 0) d_Md_isLetter_28 (by decide) ?_
      exact jx_zret d_Md_isLetter_29 rfl (by first | rfl | decide) (⟨by simp only [jb, q_letter]; grind, rfl⟩)
    ·
      refine jx_iload_n d_Md_isLetter_18 0 rfl ?_
      refine jx_bipush (v0 := 123) d_Md_isLetter_19 (by decide) ?_
      refine jx_icmp_ge (tgt := 28) d_Md_isLetter_21 (by decide) (fun c3 => ?_) (fun c3 => ?_)
      ·
        refine jx_iconst (v0 := 0) d_Md_isLetter_28 (by decide) ?_
        exact jx_zret d_Md_isLetter_29 rfl (by first | rfl | decide) (⟨by simp only [jb, q_letter]; grind, rfl⟩)
      ·
        refine jx_iconst (v0 := 1) d_Md_isLetter_24 (by decide) ?_
        refine jx_goto (tgt := 29) d_Md_isLetter_25 (by decide) ?_
        exact jx_zret d_Md_isLetter_29 rfl (by first | rfl | decide) (⟨by simp only [jb, q_letter]; grind, rfl⟩)
  ·
    refine jx_iload_n d_Md_isLetter_6 0 rfl ?_
    refine jx_bipush (v0 := 91) d_Md_isLetter_7 (by decide) ?_
    refine jx_icmp_lt (tgt := 24) d_Md_isLetter_9 (by decide) (fun c4 => ?_) (fun c4 => ?_)
    ·
      refine jx_iconst (v0 := 1) d_Md_isLetter_24 (by decide) ?_
      refine jx_goto (tgt := 29) d_Md_isLetter_25 (by decide) ?_
      exact jx_zret d_Md_isLetter_29 rfl (by first | rfl | decide) (⟨by simp only [jb, q_letter]; grind, rfl⟩)
    ·
      refine jx_iload_n d_Md_isLetter_12 0 rfl ?_
      refine jx_bipush (v0 := 96) d_Md_isLetter_13 (by decide) ?_
      refine jx_icmp_le (tgt := 28) d_Md_isLetter_15 (by decide) (fun c5 => ?_) (fun c5 => ?_)
      ·
        refine jx_iconst (v0 := 0) d_Md_isLetter_28 (by decide) ?_
        exact jx_zret d_Md_isLetter_29 rfl (by first | rfl | decide) (⟨by simp only [jb, q_letter]; grind, rfl⟩)
      ·
        refine jx_iload_n d_Md_isLetter_18 0 rfl ?_
        refine jx_bipush (v0 := 123) d_Md_isLetter_19 (by decide) ?_
        refine jx_icmp_ge (tgt := 28) d_Md_isLetter_21 (by decide) (fun c6 => ?_) (fun c6 => ?_)
        ·
          refine jx_iconst (v0 := 0) d_Md_isLetter_28 (by decide) ?_
          exact jx_zret d_Md_isLetter_29 rfl (by first | rfl | decide) (⟨by simp only [jb, q_letter]; grind, rfl⟩)
        ·
          refine jx_iconst (v0 := 1) d_Md_isLetter_24 (by decide) ?_
          refine jx_goto (tgt := 29) d_Md_isLetter_25 (by decide) ?_
          exact jx_zret d_Md_isLetter_29 rfl (by first | rfl | decide) (⟨by simp only [jb, q_letter]; grind, rfl⟩)
set_option maxHeartbeats 4000000 in
set_option maxRecDepth 100000 in
theorem c_Md_isBlank (l : Launch) (G : jm_G) (d : Nat) {h : jm_H} {c : Int32} : jm_C l G mm_Md_isBlank d [.int c] h (some (.int (jb (q_blank c)))) h := by
  refine jm_ofE (by decide) rfl (Nat.le_of_ble_eq_true rfl) ?_
  refine jx_iload_n d_Md_isBlank_0 0 rfl ?_
  refine jx_bipush (v0 := 32) d_Md_isBlank_1 (by decide) ?_
  refine jx_icmp_eq (tgt := 24) d_Md_isBlank_3 (by decide) (fun c1 => ?_) (fun c1 => ?_)
  ·
    refine jx_iconst (v0 := 1) d_Md_isBlank_24 (by decide) ?_
    refine jx_goto (tgt := 29) d_Md_isBlank_25 (by decide) ?_
    exact jx_zret d_Md_isBlank_29 rfl (by first | rfl | decide) (⟨by simp only [jb, q_blank]; grind, rfl⟩)
  ·
    refine jx_iload_n d_Md_isBlank_6 0 rfl ?_
    refine jx_bipush (v0 := 9) d_Md_isBlank_7 (by decide) ?_
    refine jx_icmp_eq (tgt := 24) d_Md_isBlank_9 (by decide) (fun c2 => ?_) (fun c2 => ?_)
    ·
      refine jx_iconst (v0 := 1) d_Md_isBlank_24 (by decide) ?_
      refine jx_goto (tgt := 29) d_Md_isBlank_25 (by decide) ?_
      exact jx_zret d_Md_isBlank_29 rfl (by first | rfl | decide) (⟨by simp only [jb, q_blank]; grind, rfl⟩)
    ·
      refine jx_iload_n d_Md_isBlank_12 0 rfl ?_
      refine jx_bipush (v0 := 10) d_Md_isBlank_13 (by decide) ?_
      refine jx_icmp_eq (tgt := 24) d_Md_isBlank_15 (by decide) (fun c3 => ?_) (fun c3 => ?_)
      ·
        refine jx_iconst (v0 := 1) d_Md_isBlank_24 (by decide) ?_
        refine jx_goto (tgt := 29) d_Md_isBlank_25 (by decide) ?_
        exact jx_zret d_Md_isBlank_29 rfl (by first | rfl | decide) (⟨by simp only [jb, q_blank]; grind, rfl⟩)
      ·
        refine jx_iload_n d_Md_isBlank_18 0 rfl ?_
        refine jx_bipush (v0 := 13) d_Md_isBlank_19 (by decide) ?_
        refine jx_icmp_ne (tgt := 28) d_Md_isBlank_21 (by decide) (fun c4 => ?_) (fun c4 => ?_)
        ·
          refine jx_iconst (v0 := 0) d_Md_isBlank_28 (by decide) ?_
          exact jx_zret d_Md_isBlank_29 rfl (by first | rfl | decide) (⟨by simp only [jb, q_blank]; grind, rfl⟩)
        ·
          refine jx_iconst (v0 := 1) d_Md_isBlank_24 (by decide) ?_
          refine jx_goto (tgt := 29) d_Md_isBlank_25 (by decide) ?_
          exact jx_zret d_Md_isBlank_29 rfl (by first | rfl | decide) (⟨by simp only [jb, q_blank]; grind, rfl⟩)
def m_fun (w : Int64) : Int32 := if w = 7883953568967819264 then 7 else if w = 7881712764270411776 then 8 else if w = 7594757821606920192 then 9 else 0
set_option maxHeartbeats 4000000 in
set_option maxRecDepth 100000 in
theorem c_Md_function (l : Launch) (G : jm_G) (d : Nat) {h : jm_H} {a : Nat} {s : MS} (hK : MdK h a) : jm_C l G mm_Md_function d [.ref a] (mdH h a s) (some (.int (m_fun (s.2.1 25)))) (mdH h a s) := by
  refine jm_ofE (by decide) rfl (Nat.le_of_ble_eq_true rfl) ?_
  refine jx_aload_n d_Md_function_0 0 rfl ?_
  refine jx_get d_Md_function_1 fF_Md_123 (md_tg hK) (show (mdH h a s).2.2.2 a 25 = Value.long (s.2.1 25) from md_rl rfl) ?_
  refine jx_ldc2 d_Md_function_4 lk_Md_138 ?_
  refine jx_lcmp d_Md_function_7 ?_
  refine jx_if_neL (tgt := 16) d_Md_function_8 (by decide) (fun c1 => ?_) (fun c1 => ?_)
  ·
    refine jx_aload_n d_Md_function_16 0 rfl ?_
    refine jx_get d_Md_function_17 fF_Md_123 (md_tg hK) (show (mdH h a s).2.2.2 a 25 = Value.long (s.2.1 25) from md_rl rfl) ?_
    refine jx_ldc2 d_Md_function_20 lk_Md_140 ?_
    refine jx_lcmp d_Md_function_23 ?_
    refine jx_if_neL (tgt := 32) d_Md_function_24 (by decide) (fun c2 => ?_) (fun c2 => ?_)
    ·
      refine jx_aload_n d_Md_function_32 0 rfl ?_
      refine jx_get d_Md_function_33 fF_Md_123 (md_tg hK) (show (mdH h a s).2.2.2 a 25 = Value.long (s.2.1 25) from md_rl rfl) ?_
      refine jx_ldc2 d_Md_function_36 lk_Md_142 ?_
      refine jx_lcmp d_Md_function_39 ?_
      refine jx_if_neL (tgt := 48) d_Md_function_40 (by decide) (fun c3 => ?_) (fun c3 => ?_)
      ·
        refine jx_iconst (v0 := 0) d_Md_function_48 (by decide) ?_
        exact jx_iret d_Md_function_49 rfl (⟨by unfold m_fun; rw [if_neg c1, if_neg c2, if_neg c3], rfl⟩)
      ·
        refine jx_bipush (v0 := 9) d_Md_function_43 (by decide) ?_
        refine jx_goto (tgt := 49) d_Md_function_45 (by decide) ?_
        exact jx_iret d_Md_function_49 rfl (⟨by unfold m_fun; rw [if_neg c1, if_neg c2, if_pos c3], rfl⟩)
    ·
      refine jx_bipush (v0 := 8) d_Md_function_27 (by decide) ?_
      refine jx_goto (tgt := 49) d_Md_function_29 (by decide) ?_
      exact jx_iret d_Md_function_49 rfl (⟨by unfold m_fun; rw [if_neg c1, if_pos c2], rfl⟩)
  ·
    refine jx_bipush (v0 := 7) d_Md_function_11 (by decide) ?_
    refine jx_goto (tgt := 49) d_Md_function_13 (by decide) ?_
    exact jx_iret d_Md_function_49 rfl (⟨by unfold m_fun; rw [if_pos c1], rfl⟩)
def m_fail (s : MS) (c w : Int32) : MS := if s.1 3 = 0 then mi (mi s 3 c) 4 w else s
set_option maxHeartbeats 4000000 in
set_option maxRecDepth 100000 in
theorem c_Md_fail (l : Launch) (G : jm_G) (d : Nat) {h : jm_H} {a : Nat} {s : MS} {c w : Int32} (hK : MdK h a) : jm_C l G mm_Md_fail d [.ref a, .int c, .int w] (mdH h a s) none (mdH h a (m_fail s c w)) := by
  refine jm_ofE (by decide) rfl (Nat.le_of_ble_eq_true rfl) ?_
  refine jx_aload_n d_Md_fail_0 0 rfl ?_
  refine jx_get d_Md_fail_1 fF_Md_144 (md_tg hK) (show (mdH h a s).2.2.2 a 3 = Value.int (s.1 3) from md_ri rfl) ?_
  refine jx_if_ne (tgt := 17) d_Md_fail_4 (by decide) (fun c1 => ?_) (fun c1 => ?_)
  ·
    exact jx_vret d_Md_fail_17 rfl (⟨rfl, by unfold m_fail; first | rw [if_pos (by assumption)] | rw [if_neg (by assumption)]⟩)
  ·
    refine jx_aload_n d_Md_fail_7 0 rfl ?_
    refine jx_iload_n d_Md_fail_8 1 rfl ?_
    refine jx_put (v0 := .int (c)) d_Md_fail_9 fF_Md_144 jv_Md ft_Md_faultCode (md_tg hK) rfl rfl ?_
    refine jx_ath (md_wi (k := 3) rfl) ?_
    refine jx_aload_n d_Md_fail_12 0 rfl ?_
    refine jx_iload_n d_Md_fail_13 2 rfl ?_
    refine jx_put (v0 := .int (w)) d_Md_fail_14 fF_Md_147 jv_Md ft_Md_faultPlace (md_tg hK) rfl rfl ?_
    refine jx_ath (md_wi (k := 4) rfl) ?_
    exact jx_vret d_Md_fail_17 rfl (⟨rfl, by unfold m_fail; first | rw [if_pos (by assumption)] | rw [if_neg (by assumption)]⟩)
def m_wrong (s : MS) : MS := m_fail s (if s.1 24 = -1 then 1 else 2) (s.1 23)
set_option maxHeartbeats 4000000 in
set_option maxRecDepth 100000 in
theorem c_Md_wrong (l : Launch) (G : jm_G) (d : Nat) (hd : 1 ≤ d) {h : jm_H} {a : Nat} {s : MS} (hK : MdK h a) : jm_C l G mm_Md_wrong d [.ref a] (mdH h a s) none (mdH h a (m_wrong s)) := by
  refine jm_ofE (by decide) rfl (Nat.le_of_ble_eq_true rfl) ?_
  refine jx_aload_n d_Md_wrong_0 0 rfl ?_
  refine jx_aload_n d_Md_wrong_1 0 rfl ?_
  refine jx_get d_Md_wrong_2 fF_Md_117 (md_tg hK) (show (mdH h a s).2.2.2 a 24 = Value.int (s.1 24) from md_ri rfl) ?_
  refine jx_iconst (v0 := -1) d_Md_wrong_5 (by decide) ?_
  refine jx_icmp_ne (tgt := 13) d_Md_wrong_6 (by decide) (fun c1 => ?_) (fun c1 => ?_)
  ·
    refine jx_iconst (v0 := 2) d_Md_wrong_13 (by decide) ?_
    refine jx_aload_n d_Md_wrong_14 0 rfl ?_
    refine jx_get d_Md_wrong_15 fF_Md_114 (md_tg hK) (show (mdH h a s).2.2.2 a 23 = Value.int (s.1 23) from md_ri rfl) ?_
    refine jx_callV (M2 := mm_Md_fail) rfl (md_tg hK) lk_Md_150 wi_Md_fail ws_Md_fail d_Md_wrong_18 (c_Md_fail l G (d - 1) (s := s) (c := 2) (w := s.1 23) hK) cd_Md_fail rfl rfl (Nat.le_of_ble_eq_true rfl) (jm_fok (by omega)) (jm_look (by decide) (by omega)) ?_
    exact jx_vret d_Md_wrong_21 rfl (⟨rfl, by unfold m_wrong; first | rw [if_pos (by assumption)] | rw [if_neg (by assumption)]⟩)
  ·
    refine jx_iconst (v0 := 1) d_Md_wrong_9 (by decide) ?_
    refine jx_goto (tgt := 14) d_Md_wrong_10 (by decide) ?_
    refine jx_aload_n d_Md_wrong_14 0 rfl ?_
    refine jx_get d_Md_wrong_15 fF_Md_114 (md_tg hK) (show (mdH h a s).2.2.2 a 23 = Value.int (s.1 23) from md_ri rfl) ?_
    refine jx_callV (M2 := mm_Md_fail) rfl (md_tg hK) lk_Md_150 wi_Md_fail ws_Md_fail d_Md_wrong_18 (c_Md_fail l G (d - 1) (s := s) (c := 1) (w := s.1 23) hK) cd_Md_fail rfl rfl (Nat.le_of_ble_eq_true rfl) (jm_fok (by omega)) (jm_look (by decide) (by omega)) ?_
    exact jx_vret d_Md_wrong_21 rfl (⟨rfl, by unfold m_wrong; first | rw [if_pos (by assumption)] | rw [if_neg (by assumption)]⟩)
theorem MT.up {s : MS} {B : Nat → Int32} {n k : Nat} {v : Int32} (hT : MT s B n) (hk : k ≠ 2) : MT (mi s k v) B n := ⟨by show jm_up s.1 k v 2 = _; unfold jm_up; rw [if_neg (fun e => hk e.symm)]; exact hT.1, hT.2.1, hT.2.2⟩
theorem MT.upl {s : MS} {B : Nat → Int32} {n k : Nat} {v : Int64} (hT : MT s B n) : MT (ml s k v) B n := hT
theorem jb0 {b : Bool} (h : jb b = 0) : b = false := by cases b; rfl; exact absurd h (by decide)
theorem jb1 {b : Bool} (h : ¬ jb b = 0) : b = true := by cases b; exact absurd rfl h; rfl
set_option maxHeartbeats 4000000 in
set_option maxRecDepth 100000 in
theorem lp_Md_next0 (l : Launch) (G : jm_G) {h : jm_H} {a : Nat} {B : Nat → Int32} {n : Nat} {n0 s0 d : Nat} {Post : jm_r → jm_H → Prop} (hd : 1 ≤ d) (hK : MdK h a) (m : Nat) : ∀ {s : MS} (p : Nat), n - p < m → p ≤ n → s.1 22 = nI p → MT s B n → jm_X l G mm_Md_next n0 s0 (jm_zn G d n0 s0) Post 38 [(0, .ref a)] [] (mdH h a (mi s 22 (nI (q_skip B n p)))) → jm_X l G mm_Md_next n0 s0 (jm_zn G d n0 s0) Post 0 [(0, .ref a)] [] (mdH h a s) := by
  induction m with
  | zero => intro s p hm; omega
  | succ m ih =>
    intro s p hm hpn hp hT k
    have hn := hT.2.1
    refine jx_aload_n d_Md_next_0 0 rfl ?_
    refine jx_get d_Md_next_1 fF_Md_103 (md_tg hK) ((show (mdH h a s).2.2.2 a 22 = Value.int (s.1 22) from md_ri rfl).trans (congrArg Value.int hp)) ?_
    refine jx_aload_n d_Md_next_4 0 rfl ?_
    refine jx_get d_Md_next_5 fF_Md_100 (md_tg hK) ((show (mdH h a s).2.2.2 a 2 = Value.int (s.1 2) from md_ri rfl).trans (congrArg Value.int hT.1)) ?_
    refine jx_icmp_geN (tgt := 38) (p) (n) d_Md_next_8 rfl rfl (by omega) (by omega) (by decide) (fun c1 => ?_) (fun c1 => ?_)
    ·
      rw [q_skip, if_neg (fun e => by omega)] at k
      exact jx_ath (congrArg (mdH h a) (by rw [← hp, mi_self])) k
    ·
      refine jx_aload_n d_Md_next_11 0 rfl ?_
      refine jx_aload_n d_Md_next_12 0 rfl ?_
      refine jx_get d_Md_next_13 fF_Md_103 (md_tg hK) ((show (mdH h a s).2.2.2 a 22 = Value.int (s.1 22) from md_ri rfl).trans (congrArg Value.int hp)) ?_
      refine jx_callV (M2 := mm_Md_at) rfl (md_tg hK) lk_Md_106 wi_Md_at ws_Md_at d_Md_next_16 (c_Md_at l G (d - 1) (s := s) (B := B) (n := n) (k := p) hK hT (by omega)) cd_Md_at rfl rfl (Nat.le_of_ble_eq_true rfl) (jm_fok (by omega)) (jm_look (by decide) (by omega)) ?_
      refine jx_callS (M2 := mm_Md_isBlank) lk_Md_110 wt_Md_isBlank d_Md_next_19 (c_Md_isBlank l G (d - 1) (c := q_at0 B n p)) cd_Md_isBlank rfl rfl (Nat.le_of_ble_eq_true rfl) (jm_fok (by omega)) (jm_look (by decide) (by omega)) ?_
      refine jx_if_eq (tgt := 38) d_Md_next_22 (by decide) (fun c2 => ?_) (fun c2 => ?_)
      ·
        rw [q_skip, if_neg (fun e => by rw [← q_at0_lt (by omega), jb0 c2] at e; exact absurd e.2 (by decide))] at k
        exact jx_ath (congrArg (mdH h a) (by rw [← hp, mi_self])) k
      ·
        refine jx_aload_n d_Md_next_25 0 rfl ?_
        refine jx_dup d_Md_next_26 rfl ?_
        refine jx_get d_Md_next_27 fF_Md_103 (md_tg hK) ((show (mdH h a s).2.2.2 a 22 = Value.int (s.1 22) from md_ri rfl).trans (congrArg Value.int hp)) ?_
        refine jx_iconst (v0 := 1) d_Md_next_30 (by decide) ?_
        refine jx_iadd d_Md_next_31 ?_
        refine jx_ati (nI_add (p) (1)) ?_
        refine jx_put (v0 := .int (nI ((p) + (1)))) d_Md_next_32 fF_Md_103 jv_Md ft_Md_place (md_tg hK) rfl rfl ?_
        refine jx_ath (md_wi (k := 22) rfl) ?_
        refine jx_goto (tgt := 0) d_Md_next_35 (by decide) ?_
        refine ih (s := (mi s 22 (nI ((p) + (1))))) (p + 1) (by omega) (by omega) rfl (hT.up (by decide)) ?_
        rw [q_skip, if_pos ⟨by omega, by rw [← q_at0_lt (by omega)]; exact jb1 (by assumption)⟩] at k
        exact jx_ath (congrArg (mdH h a) (mi_mi _ _ _ _)) k
def m_nloop (B : Nat → Int32) (n q p : Nat) (amt : Int64) : Nat × Int64 := if p < n ∧ q_digit (q_at B n p) = true then m_nloop B n q (p + 1) (if p - q < 9 then 10 * amt + (q_at B n p).toInt64 - 48 else 0) else (p, amt)
termination_by n - p
theorem q_digit_0 : q_digit 0 = false := by decide
theorem q_letter_0 : q_letter 0 = false := by decide
set_option maxHeartbeats 4000000 in
set_option maxRecDepth 100000 in
theorem lp_Md_next1 (l : Launch) (G : jm_G) {h : jm_H} {a q : Nat} {c0 : Int32} {B : Nat → Int32} {n : Nat} {n0 s0 d : Nat} {Post : jm_r → jm_H → Prop} (hd : 1 ≤ d) (hK : MdK h a) (m : Nat) : ∀ {s : MS} (p : Nat), n - p < m → p ≤ n → q ≤ p → s.1 22 = nI p → s.1 23 = nI q → MT s B n → jm_X l G mm_Md_next n0 s0 (jm_zn G d n0 s0) Post 158 [(1, .int c0), (0, .ref a)] [] (mdH h a (mi (ml s 25 (m_nloop B n q p (s.2.1 25)).2) 22 (nI (m_nloop B n q p (s.2.1 25)).1))) → jm_X l G mm_Md_next n0 s0 (jm_zn G d n0 s0) Post 87 [(1, .int c0), (0, .ref a)] [] (mdH h a s) := by
  induction m with
  | zero => intro s p hm; omega
  | succ m ih =>
    intro s p hm hpn hqp hp hq hT k
    have hn := hT.2.1
    refine jx_aload_n d_Md_next_87 1 rfl ?_
    refine jx_aload_n d_Md_next_88 1 rfl ?_
    refine jx_get d_Md_next_89 fF_Md_103 (md_tg hK) ((show (mdH h a s).2.2.2 a 22 = Value.int (s.1 22) from md_ri rfl).trans (congrArg Value.int hp)) ?_
    refine jx_callV (M2 := mm_Md_at) rfl (md_tg hK) lk_Md_106 wi_Md_at ws_Md_at d_Md_next_92 (c_Md_at l G (d - 1) (s := s) (B := B) (n := n) (k := p) hK hT (by omega)) cd_Md_at rfl rfl (Nat.le_of_ble_eq_true rfl) (jm_fok (by omega)) (jm_look (by decide) (by omega)) ?_
    refine jx_callS (M2 := mm_Md_isDigit) lk_Md_120 wt_Md_isDigit d_Md_next_95 (c_Md_isDigit l G (d - 1) (c := q_at0 B n p)) cd_Md_isDigit rfl rfl (Nat.le_of_ble_eq_true rfl) (jm_fok (by omega)) (jm_look (by decide) (by omega)) ?_
    refine jx_if_eq (tgt := 158) d_Md_next_98 (by decide) (fun c1 => ?_) (fun c1 => ?_)
    ·
      rw [m_nloop, if_neg (fun e => by rw [← q_at0_lt e.1, jb0 c1] at e; exact absurd e.2 (by decide))] at k
      exact jx_ath (congrArg (mdH h a) (show s = mi (ml s 25 (s.2.1 25)) 22 (nI p) by rw [← hp, ml_self, mi_self])) k
    ·
      refine jx_aload_n d_Md_next_101 1 rfl ?_
      refine jx_aload_n d_Md_next_102 1 rfl ?_
      refine jx_get d_Md_next_103 fF_Md_103 (md_tg hK) ((show (mdH h a s).2.2.2 a 22 = Value.int (s.1 22) from md_ri rfl).trans (congrArg Value.int hp)) ?_
      refine jx_aload_n d_Md_next_106 1 rfl ?_
      refine jx_get d_Md_next_107 fF_Md_114 (md_tg hK) ((show (mdH h a s).2.2.2 a 23 = Value.int (s.1 23) from md_ri rfl).trans (congrArg Value.int hq)) ?_
      refine jx_isub d_Md_next_110 ?_
      refine jx_ati (pk_sub (a := p) (b := q) (by omega)) ?_
      refine jx_bipush (v0 := 9) d_Md_next_111 (by decide) ?_
      refine jx_icmp_geN (tgt := 141) ((p) - (q)) (9) d_Md_next_113 rfl rfl (by omega) (by omega) (by decide) (fun c2 => ?_) (fun c2 => ?_)
      ·
        refine jx_lconst (v0 := 0) d_Md_next_141 (by decide) ?_
        refine jx_put (v0 := .long (0)) d_Md_next_142 fF_Md_123 jv_Md ft_Md_tokenAmount (md_tg hK) rfl rfl ?_
        refine jx_ath (md_wl (k := 25) rfl) ?_
        refine jx_aload_n d_Md_next_145 1 rfl ?_
        refine jx_dup d_Md_next_146 rfl ?_
        refine jx_get d_Md_next_147 fF_Md_103 (md_tg hK) ((show (mdH h a (ml s 25 0)).2.2.2 a 22 = Value.int (s.1 22) from md_ri rfl).trans (congrArg Value.int hp)) ?_
        refine jx_iconst (v0 := 1) d_Md_next_150 (by decide) ?_
        refine jx_iadd d_Md_next_151 ?_
        refine jx_ati (nI_add (p) (1)) ?_
        refine jx_put (v0 := .int (nI ((p) + (1)))) d_Md_next_152 fF_Md_103 jv_Md ft_Md_place (md_tg hK) rfl rfl ?_
        refine jx_ath (md_wi (k := 22) rfl) ?_
        refine jx_goto (tgt := 87) d_Md_next_155 (by decide) ?_
        have hlt : p < n := Nat.lt_of_not_le fun e => c1 (by rw [q_at0_ge (by omega), q_digit_0]; rfl)
        refine ih (s := (mi (ml s 25 0) 22 (nI ((p) + (1))))) (p + 1) (by omega) (by omega) (by omega) rfl hq (MT.up (MT.upl hT) (by decide)) ?_
        rw [m_nloop, if_pos ⟨hlt, by rw [← q_at0_lt hlt]; exact jb1 c1⟩, if_neg (by omega)] at k
        exact jx_ath (congrArg (mdH h a) (show mi (mi (ml (ml s 25 _) 25 _) 22 _) 22 _ = _ by rw [mi_mi, ml_ml]; rfl)) k
      ·
        refine jx_ldc2 d_Md_next_116 lk_Md_127 ?_
        refine jx_aload_n d_Md_next_119 1 rfl ?_
        refine jx_get d_Md_next_120 fF_Md_123 (md_tg hK) (show (mdH h a s).2.2.2 a 25 = Value.long (s.2.1 25) from md_rl rfl) ?_
        refine jx_lmul d_Md_next_123 ?_
        refine jx_aload_n d_Md_next_124 1 rfl ?_
        refine jx_aload_n d_Md_next_125 1 rfl ?_
        refine jx_get d_Md_next_126 fF_Md_103 (md_tg hK) ((show (mdH h a s).2.2.2 a 22 = Value.int (s.1 22) from md_ri rfl).trans (congrArg Value.int hp)) ?_
        refine jx_callV (M2 := mm_Md_at) rfl (md_tg hK) lk_Md_106 wi_Md_at ws_Md_at d_Md_next_129 (c_Md_at l G (d - 1) (s := s) (B := B) (n := n) (k := p) hK hT (by omega)) cd_Md_at rfl rfl (Nat.le_of_ble_eq_true rfl) (jm_fok (by omega)) (jm_look (by decide) (by omega)) ?_
        refine jx_i2l d_Md_next_132 ?_
        refine jx_ladd d_Md_next_133 ?_
        refine jx_ldc2 d_Md_next_134 lk_Md_129 ?_
        refine jx_lsub d_Md_next_137 ?_
        refine jx_goto (tgt := 142) d_Md_next_138 (by decide) ?_
        refine jx_put (v0 := .long ((((10 * s.2.1 25) + (Int32.toInt64 (q_at0 B n p))) - 48))) d_Md_next_142 fF_Md_123 jv_Md ft_Md_tokenAmount (md_tg hK) rfl rfl ?_
        refine jx_ath (md_wl (k := 25) rfl) ?_
        refine jx_aload_n d_Md_next_145 1 rfl ?_
        refine jx_dup d_Md_next_146 rfl ?_
        refine jx_get d_Md_next_147 fF_Md_103 (md_tg hK) ((show (mdH h a (ml s 25 (((10 * s.2.1 25) + (Int32.toInt64 (q_at0 B n p))) - 48))).2.2.2 a 22 = Value.int (s.1 22) from md_ri rfl).trans (congrArg Value.int hp)) ?_
        refine jx_iconst (v0 := 1) d_Md_next_150 (by decide) ?_
        refine jx_iadd d_Md_next_151 ?_
        refine jx_ati (nI_add (p) (1)) ?_
        refine jx_put (v0 := .int (nI ((p) + (1)))) d_Md_next_152 fF_Md_103 jv_Md ft_Md_place (md_tg hK) rfl rfl ?_
        refine jx_ath (md_wi (k := 22) rfl) ?_
        refine jx_goto (tgt := 87) d_Md_next_155 (by decide) ?_
        have hlt : p < n := Nat.lt_of_not_le fun e => c1 (by rw [q_at0_ge (by omega), q_digit_0]; rfl)
        refine ih (s := (mi (ml s 25 (((10 * s.2.1 25) + (Int32.toInt64 (q_at0 B n p))) - 48)) 22 (nI ((p) + (1))))) (p + 1) (by omega) (by omega) (by omega) rfl hq (MT.up (MT.upl hT) (by decide)) ?_
        rw [m_nloop, if_pos ⟨hlt, by rw [← q_at0_lt hlt]; exact jb1 c1⟩, if_pos (by omega), ← q_at0_lt hlt] at k
        exact jx_ath (congrArg (mdH h a) (show mi (mi (ml (ml s 25 _) 25 _) 22 _) 22 _ = _ by rw [mi_mi, ml_ml]; rfl)) k
set_option maxHeartbeats 4000000 in
set_option maxRecDepth 100000 in
theorem lp_Md_next2 (l : Launch) (G : jm_G) {h : jm_H} {a q : Nat} {c0 : Int32} {B : Nat → Int32} {n : Nat} {n0 s0 d : Nat} {Post : jm_r → jm_H → Prop} (hd : 1 ≤ d) (hK : MdK h a) (m : Nat) : ∀ {s : MS} (p : Nat), n - p < m → p ≤ n → q ≤ p → s.1 22 = nI p → s.1 23 = nI q → MT s B n → jm_X l G mm_Md_next n0 s0 (jm_zn G d n0 s0) Post 292 [(1, .int c0), (0, .ref a)] [] (mdH h a (mi (ml s 25 (q_wloop B n q p (s.2.1 25)).2) 22 (nI (q_wloop B n q p (s.2.1 25)).1))) → jm_X l G mm_Md_next n0 s0 (jm_zn G d n0 s0) Post 196 [(1, .int c0), (0, .ref a)] [] (mdH h a s) := by
  induction m with
  | zero => intro s p hm; omega
  | succ m ih =>
    intro s p hm hpn hqp hp hq hT k
    have hn := hT.2.1
    refine jx_aload_n d_Md_next_196 1 rfl ?_
    refine jx_aload_n d_Md_next_197 1 rfl ?_
    refine jx_get d_Md_next_198 fF_Md_103 (md_tg hK) ((show (mdH h a s).2.2.2 a 22 = Value.int (s.1 22) from md_ri rfl).trans (congrArg Value.int hp)) ?_
    refine jx_callV (M2 := mm_Md_at) rfl (md_tg hK) lk_Md_106 wi_Md_at ws_Md_at d_Md_next_201 (c_Md_at l G (d - 1) (s := s) (B := B) (n := n) (k := p) hK hT (by omega)) cd_Md_at rfl rfl (Nat.le_of_ble_eq_true rfl) (jm_fok (by omega)) (jm_look (by decide) (by omega)) ?_
    refine jx_callS (M2 := mm_Md_isLetter) lk_Md_131 wt_Md_isLetter d_Md_next_204 (c_Md_isLetter l G (d - 1) (c := q_at0 B n p)) cd_Md_isLetter rfl rfl (Nat.le_of_ble_eq_true rfl) (jm_fok (by omega)) (jm_look (by decide) (by omega)) ?_
    refine jx_if_ne (tgt := 224) d_Md_next_207 (by decide) (fun c1 => ?_) (fun c1 => ?_)
    ·
      refine jx_aload_n d_Md_next_224 1 rfl ?_
      refine jx_aload_n d_Md_next_225 1 rfl ?_
      refine jx_get d_Md_next_226 fF_Md_103 (md_tg hK) ((show (mdH h a s).2.2.2 a 22 = Value.int (s.1 22) from md_ri rfl).trans (congrArg Value.int hp)) ?_
      refine jx_aload_n d_Md_next_229 1 rfl ?_
      refine jx_get d_Md_next_230 fF_Md_114 (md_tg hK) ((show (mdH h a s).2.2.2 a 23 = Value.int (s.1 23) from md_ri rfl).trans (congrArg Value.int hq)) ?_
      refine jx_isub d_Md_next_233 ?_
      refine jx_ati (pk_sub (a := p) (b := q) (by omega)) ?_
      refine jx_bipush (v0 := 8) d_Md_next_234 (by decide) ?_
      refine jx_icmp_geN (tgt := 272) ((p) - (q)) (8) d_Md_next_236 rfl rfl (by omega) (by omega) (by decide) (fun c2 => ?_) (fun c2 => ?_)
      ·
        refine jx_aload_n d_Md_next_272 1 rfl ?_
        refine jx_get d_Md_next_273 fF_Md_123 (md_tg hK) (show (mdH h a s).2.2.2 a 25 = Value.long (s.2.1 25) from md_rl rfl) ?_
        refine jx_put (v0 := .long (s.2.1 25)) d_Md_next_276 fF_Md_123 jv_Md ft_Md_tokenAmount (md_tg hK) rfl rfl ?_
        refine jx_ath (md_wl (k := 25) rfl) ?_
        refine jx_aload_n d_Md_next_279 1 rfl ?_
        refine jx_dup d_Md_next_280 rfl ?_
        refine jx_get d_Md_next_281 fF_Md_103 (md_tg hK) ((show (mdH h a (ml s 25 (s.2.1 25))).2.2.2 a 22 = Value.int (s.1 22) from md_ri rfl).trans (congrArg Value.int hp)) ?_
        refine jx_iconst (v0 := 1) d_Md_next_284 (by decide) ?_
        refine jx_iadd d_Md_next_285 ?_
        refine jx_ati (nI_add (p) (1)) ?_
        refine jx_put (v0 := .int (nI ((p) + (1)))) d_Md_next_286 fF_Md_103 jv_Md ft_Md_place (md_tg hK) rfl rfl ?_
        refine jx_ath (md_wi (k := 22) rfl) ?_
        refine jx_goto (tgt := 196) d_Md_next_289 (by decide) ?_
        have hlt : p < n := Nat.lt_of_not_le fun e => by grind [jb, q_at0_ge, q_digit_0, q_letter_0]
        refine ih (s := (mi (ml s 25 (s.2.1 25)) 22 (nI ((p) + (1))))) (p + 1) (by omega) (by omega) (by omega) rfl hq (MT.up (MT.upl hT) (by decide)) ?_
        rw [q_wloop, if_pos ⟨hlt, by rw [← q_at0_lt hlt]; grind [jb, q_alnum]⟩, if_neg (by omega)] at k
        exact jx_ath (congrArg (mdH h a) (show mi (mi (ml (ml s 25 _) 25 _) 22 _) 22 _ = _ by rw [mi_mi, ml_ml]; rfl)) k
      ·
        refine jx_aload_n d_Md_next_239 1 rfl ?_
        refine jx_get d_Md_next_240 fF_Md_123 (md_tg hK) (show (mdH h a s).2.2.2 a 25 = Value.long (s.2.1 25) from md_rl rfl) ?_
        refine jx_aload_n d_Md_next_243 1 rfl ?_
        refine jx_aload_n d_Md_next_244 1 rfl ?_
        refine jx_get d_Md_next_245 fF_Md_103 (md_tg hK) ((show (mdH h a s).2.2.2 a 22 = Value.int (s.1 22) from md_ri rfl).trans (congrArg Value.int hp)) ?_
        refine jx_callV (M2 := mm_Md_at) rfl (md_tg hK) lk_Md_106 wi_Md_at ws_Md_at d_Md_next_248 (c_Md_at l G (d - 1) (s := s) (B := B) (n := n) (k := p) hK hT (by omega)) cd_Md_at rfl rfl (Nat.le_of_ble_eq_true rfl) (jm_fok (by omega)) (jm_look (by decide) (by omega)) ?_
        refine jx_i2l d_Md_next_251 ?_
        refine jx_bipush (v0 := 56) d_Md_next_252 (by decide) ?_
        refine jx_bipush (v0 := 8) d_Md_next_254 (by decide) ?_
        refine jx_aload_n d_Md_next_256 1 rfl ?_
        refine jx_get d_Md_next_257 fF_Md_103 (md_tg hK) ((show (mdH h a s).2.2.2 a 22 = Value.int (s.1 22) from md_ri rfl).trans (congrArg Value.int hp)) ?_
        refine jx_aload_n d_Md_next_260 1 rfl ?_
        refine jx_get d_Md_next_261 fF_Md_114 (md_tg hK) ((show (mdH h a s).2.2.2 a 23 = Value.int (s.1 23) from md_ri rfl).trans (congrArg Value.int hq)) ?_
        refine jx_isub d_Md_next_264 ?_
        refine jx_ati (pk_sub (a := p) (b := q) (by omega)) ?_
        refine jx_imul d_Md_next_265 ?_
        refine jx_isub d_Md_next_266 ?_
        refine jx_lshl d_Md_next_267 ?_
        refine jx_lor d_Md_next_268 ?_
        refine jx_goto (tgt := 276) d_Md_next_269 (by decide) ?_
        refine jx_put (v0 := .long ((s.2.1 25 ||| ((Int32.toInt64 (q_at0 B n p)) <<< (Int32.toInt64 ((56 - (8 * nI ((p) - (q))))) &&& 63))))) d_Md_next_276 fF_Md_123 jv_Md ft_Md_tokenAmount (md_tg hK) rfl rfl ?_
        refine jx_ath (md_wl (k := 25) rfl) ?_
        refine jx_aload_n d_Md_next_279 1 rfl ?_
        refine jx_dup d_Md_next_280 rfl ?_
        refine jx_get d_Md_next_281 fF_Md_103 (md_tg hK) ((show (mdH h a (ml s 25 (s.2.1 25 ||| ((Int32.toInt64 (q_at0 B n p)) <<< (Int32.toInt64 ((56 - (8 * nI ((p) - (q))))) &&& 63))))).2.2.2 a 22 = Value.int (s.1 22) from md_ri rfl).trans (congrArg Value.int hp)) ?_
        refine jx_iconst (v0 := 1) d_Md_next_284 (by decide) ?_
        refine jx_iadd d_Md_next_285 ?_
        refine jx_ati (nI_add (p) (1)) ?_
        refine jx_put (v0 := .int (nI ((p) + (1)))) d_Md_next_286 fF_Md_103 jv_Md ft_Md_place (md_tg hK) rfl rfl ?_
        refine jx_ath (md_wi (k := 22) rfl) ?_
        refine jx_goto (tgt := 196) d_Md_next_289 (by decide) ?_
        have hlt : p < n := Nat.lt_of_not_le fun e => by grind [jb, q_at0_ge, q_digit_0, q_letter_0]
        refine ih (s := (mi (ml s 25 (s.2.1 25 ||| ((Int32.toInt64 (q_at0 B n p)) <<< (Int32.toInt64 ((56 - (8 * nI ((p) - (q))))) &&& 63)))) 22 (nI ((p) + (1))))) (p + 1) (by omega) (by omega) (by omega) rfl hq (MT.up (MT.upl hT) (by decide)) ?_
        rw [q_wloop, if_pos ⟨hlt, by rw [← q_at0_lt hlt]; grind [jb, q_alnum]⟩, if_pos (by omega), ← q_at0_lt hlt] at k
        exact jx_ath (congrArg (mdH h a) (show mi (mi (ml (ml s 25 _) 25 _) 22 _) 22 _ = _ by rw [mi_mi, ml_ml]; rfl)) k
    ·
      refine jx_aload_n d_Md_next_210 1 rfl ?_
      refine jx_aload_n d_Md_next_211 1 rfl ?_
      refine jx_get d_Md_next_212 fF_Md_103 (md_tg hK) ((show (mdH h a s).2.2.2 a 22 = Value.int (s.1 22) from md_ri rfl).trans (congrArg Value.int hp)) ?_
      refine jx_callV (M2 := mm_Md_at) rfl (md_tg hK) lk_Md_106 wi_Md_at ws_Md_at d_Md_next_215 (c_Md_at l G (d - 1) (s := s) (B := B) (n := n) (k := p) hK hT (by omega)) cd_Md_at rfl rfl (Nat.le_of_ble_eq_true rfl) (jm_fok (by omega)) (jm_look (by decide) (by omega)) ?_
      refine jx_callS (M2 := mm_Md_isDigit) lk_Md_120 wt_Md_isDigit d_Md_next_218 (c_Md_isDigit l G (d - 1) (c := q_at0 B n p)) cd_Md_isDigit rfl rfl (Nat.le_of_ble_eq_true rfl) (jm_fok (by omega)) (jm_look (by decide) (by omega)) ?_
      refine jx_if_eq (tgt := 292) d_Md_next_221 (by decide) (fun c3 => ?_) (fun c3 => ?_)
      ·
        rw [q_wloop, if_neg (fun e => by have e1 := e.1; rw [← q_at0_lt e.1] at e; grind [jb, q_alnum])] at k
        exact jx_ath (congrArg (mdH h a) (show s = mi (ml s 25 (s.2.1 25)) 22 (nI p) by rw [← hp, ml_self, mi_self])) k
      ·
        refine jx_aload_n d_Md_next_224 1 rfl ?_
        refine jx_aload_n d_Md_next_225 1 rfl ?_
        refine jx_get d_Md_next_226 fF_Md_103 (md_tg hK) ((show (mdH h a s).2.2.2 a 22 = Value.int (s.1 22) from md_ri rfl).trans (congrArg Value.int hp)) ?_
        refine jx_aload_n d_Md_next_229 1 rfl ?_
        refine jx_get d_Md_next_230 fF_Md_114 (md_tg hK) ((show (mdH h a s).2.2.2 a 23 = Value.int (s.1 23) from md_ri rfl).trans (congrArg Value.int hq)) ?_
        refine jx_isub d_Md_next_233 ?_
        refine jx_ati (pk_sub (a := p) (b := q) (by omega)) ?_
        refine jx_bipush (v0 := 8) d_Md_next_234 (by decide) ?_
        refine jx_icmp_geN (tgt := 272) ((p) - (q)) (8) d_Md_next_236 rfl rfl (by omega) (by omega) (by decide) (fun c4 => ?_) (fun c4 => ?_)
        ·
          refine jx_aload_n d_Md_next_272 1 rfl ?_
          refine jx_get d_Md_next_273 fF_Md_123 (md_tg hK) (show (mdH h a s).2.2.2 a 25 = Value.long (s.2.1 25) from md_rl rfl) ?_
          refine jx_put (v0 := .long (s.2.1 25)) d_Md_next_276 fF_Md_123 jv_Md ft_Md_tokenAmount (md_tg hK) rfl rfl ?_
          refine jx_ath (md_wl (k := 25) rfl) ?_
          refine jx_aload_n d_Md_next_279 1 rfl ?_
          refine jx_dup d_Md_next_280 rfl ?_
          refine jx_get d_Md_next_281 fF_Md_103 (md_tg hK) ((show (mdH h a (ml s 25 (s.2.1 25))).2.2.2 a 22 = Value.int (s.1 22) from md_ri rfl).trans (congrArg Value.int hp)) ?_
          refine jx_iconst (v0 := 1) d_Md_next_284 (by decide) ?_
          refine jx_iadd d_Md_next_285 ?_
          refine jx_ati (nI_add (p) (1)) ?_
          refine jx_put (v0 := .int (nI ((p) + (1)))) d_Md_next_286 fF_Md_103 jv_Md ft_Md_place (md_tg hK) rfl rfl ?_
          refine jx_ath (md_wi (k := 22) rfl) ?_
          refine jx_goto (tgt := 196) d_Md_next_289 (by decide) ?_
          have hlt : p < n := Nat.lt_of_not_le fun e => by grind [jb, q_at0_ge, q_digit_0, q_letter_0]
          refine ih (s := (mi (ml s 25 (s.2.1 25)) 22 (nI ((p) + (1))))) (p + 1) (by omega) (by omega) (by omega) rfl hq (MT.up (MT.upl hT) (by decide)) ?_
          rw [q_wloop, if_pos ⟨hlt, by rw [← q_at0_lt hlt]; grind [jb, q_alnum]⟩, if_neg (by omega)] at k
          exact jx_ath (congrArg (mdH h a) (show mi (mi (ml (ml s 25 _) 25 _) 22 _) 22 _ = _ by rw [mi_mi, ml_ml]; rfl)) k
        ·
          refine jx_aload_n d_Md_next_239 1 rfl ?_
          refine jx_get d_Md_next_240 fF_Md_123 (md_tg hK) (show (mdH h a s).2.2.2 a 25 = Value.long (s.2.1 25) from md_rl rfl) ?_
          refine jx_aload_n d_Md_next_243 1 rfl ?_
          refine jx_aload_n d_Md_next_244 1 rfl ?_
          refine jx_get d_Md_next_245 fF_Md_103 (md_tg hK) ((show (mdH h a s).2.2.2 a 22 = Value.int (s.1 22) from md_ri rfl).trans (congrArg Value.int hp)) ?_
          refine jx_callV (M2 := mm_Md_at) rfl (md_tg hK) lk_Md_106 wi_Md_at ws_Md_at d_Md_next_248 (c_Md_at l G (d - 1) (s := s) (B := B) (n := n) (k := p) hK hT (by omega)) cd_Md_at rfl rfl (Nat.le_of_ble_eq_true rfl) (jm_fok (by omega)) (jm_look (by decide) (by omega)) ?_
          refine jx_i2l d_Md_next_251 ?_
          refine jx_bipush (v0 := 56) d_Md_next_252 (by decide) ?_
          refine jx_bipush (v0 := 8) d_Md_next_254 (by decide) ?_
          refine jx_aload_n d_Md_next_256 1 rfl ?_
          refine jx_get d_Md_next_257 fF_Md_103 (md_tg hK) ((show (mdH h a s).2.2.2 a 22 = Value.int (s.1 22) from md_ri rfl).trans (congrArg Value.int hp)) ?_
          refine jx_aload_n d_Md_next_260 1 rfl ?_
          refine jx_get d_Md_next_261 fF_Md_114 (md_tg hK) ((show (mdH h a s).2.2.2 a 23 = Value.int (s.1 23) from md_ri rfl).trans (congrArg Value.int hq)) ?_
          refine jx_isub d_Md_next_264 ?_
          refine jx_ati (pk_sub (a := p) (b := q) (by omega)) ?_
          refine jx_imul d_Md_next_265 ?_
          refine jx_isub d_Md_next_266 ?_
          refine jx_lshl d_Md_next_267 ?_
          refine jx_lor d_Md_next_268 ?_
          refine jx_goto (tgt := 276) d_Md_next_269 (by decide) ?_
          refine jx_put (v0 := .long ((s.2.1 25 ||| ((Int32.toInt64 (q_at0 B n p)) <<< (Int32.toInt64 ((56 - (8 * nI ((p) - (q))))) &&& 63))))) d_Md_next_276 fF_Md_123 jv_Md ft_Md_tokenAmount (md_tg hK) rfl rfl ?_
          refine jx_ath (md_wl (k := 25) rfl) ?_
          refine jx_aload_n d_Md_next_279 1 rfl ?_
          refine jx_dup d_Md_next_280 rfl ?_
          refine jx_get d_Md_next_281 fF_Md_103 (md_tg hK) ((show (mdH h a (ml s 25 (s.2.1 25 ||| ((Int32.toInt64 (q_at0 B n p)) <<< (Int32.toInt64 ((56 - (8 * nI ((p) - (q))))) &&& 63))))).2.2.2 a 22 = Value.int (s.1 22) from md_ri rfl).trans (congrArg Value.int hp)) ?_
          refine jx_iconst (v0 := 1) d_Md_next_284 (by decide) ?_
          refine jx_iadd d_Md_next_285 ?_
          refine jx_ati (nI_add (p) (1)) ?_
          refine jx_put (v0 := .int (nI ((p) + (1)))) d_Md_next_286 fF_Md_103 jv_Md ft_Md_place (md_tg hK) rfl rfl ?_
          refine jx_ath (md_wi (k := 22) rfl) ?_
          refine jx_goto (tgt := 196) d_Md_next_289 (by decide) ?_
          have hlt : p < n := Nat.lt_of_not_le fun e => by grind [jb, q_at0_ge, q_digit_0, q_letter_0]
          refine ih (s := (mi (ml s 25 (s.2.1 25 ||| ((Int32.toInt64 (q_at0 B n p)) <<< (Int32.toInt64 ((56 - (8 * nI ((p) - (q))))) &&& 63)))) 22 (nI ((p) + (1))))) (p + 1) (by omega) (by omega) (by omega) rfl hq (MT.up (MT.upl hT) (by decide)) ?_
          rw [q_wloop, if_pos ⟨hlt, by rw [← q_at0_lt hlt]; grind [jb, q_alnum]⟩, if_pos (by omega), ← q_at0_lt hlt] at k
          exact jx_ath (congrArg (mdH h a) (show mi (mi (ml (ml s 25 _) 25 _) 22 _) 22 _ = _ by rw [mi_mi, ml_ml]; rfl)) k
/-- a token: its code, where it ends, its amount -/
def m_tok (B : Nat → Int32) (n p : Nat) (amt : Int64) : Int32 × Nat × Int64 :=
  if n ≤ p then (-2, p, amt)
  else if q_digit (q_at B n p) = true then (if (m_nloop B n p p 0).1 - p > 9 then -1 else 0, (m_nloop B n p p 0).1, (m_nloop B n p p 0).2)
  else if q_letter (q_at B n p) = true then (if (q_wloop B n p p 0).1 - p > 8 then -1 else if 0 < m_fun (q_wloop B n p p 0).2 then -3 else 1, (q_wloop B n p p 0).1, (q_wloop B n p p 0).2)
  else (if q_mark (q_at B n p) = true then q_at B n p else -1, p + 1, amt)
def m_nx (s : MS) (B : Nat → Int32) (n p : Nat) : MS := mi (mi (mi (ml s 25 (m_tok B n (q_skip B n p) (s.2.1 25)).2.2) 22 (nI (m_tok B n (q_skip B n p) (s.2.1 25)).2.1)) 23 (nI (q_skip B n p))) 24 (m_tok B n (q_skip B n p) (s.2.1 25)).1
theorem m_nloop_le (B : Nat → Int32) (n q p : Nat) (acc : Int64) (h : p ≤ n) : p ≤ (m_nloop B n q p acc).1 ∧ (m_nloop B n q p acc).1 ≤ n := by
  induction hm : n - p generalizing p acc with
  | zero => unfold m_nloop; rw [if_neg (by omega)]; exact ⟨Nat.le_refl _, h⟩
  | succ m ih =>
    unfold m_nloop
    split
    · have := ih (p + 1) (if p - q < 9 then 10 * acc + (q_at B n p).toInt64 - 48 else 0) (by omega) (by omega)
      omega
    · exact ⟨Nat.le_refl _, h⟩
set_option maxHeartbeats 4000000 in
set_option maxRecDepth 100000 in
theorem c_Md_next (l : Launch) (G : jm_G) (d : Nat) (hd : 1 ≤ d) {h : jm_H} {a : Nat} {s : MS} {B : Nat → Int32} {n : Nat} {p : Nat} (hK : MdK h a) (hT : MT s B n) (hp : s.1 22 = nI p) (hpn : p ≤ n) : jm_C l G mm_Md_next d [.ref a] (mdH h a s) none (mdH h a (m_nx s B n p)) := by
  have hn := hT.2.1
  refine jm_ofE (by decide) rfl (Nat.le_of_ble_eq_true rfl) ?_
  refine lp_Md_next0 l G hd hK (n + 1) p (by omega) hpn hp hT ?_
  have hqn := q_skip_le B n p hpn
  generalize hqe : q_skip B n p = q at hqn ⊢
  refine jx_aload_n d_Md_next_38 0 rfl ?_
  refine jx_aload_n d_Md_next_39 0 rfl ?_
  refine jx_get d_Md_next_40 fF_Md_103 (md_tg hK) (show (mdH h a (mi s 22 (nI q))).2.2.2 a 22 = Value.int (nI q) from md_ri rfl) ?_
  refine jx_put (v0 := .int (nI q)) d_Md_next_43 fF_Md_114 jv_Md ft_Md_tokenFrom (md_tg hK) rfl rfl ?_
  refine jx_ath (md_wi (k := 23) rfl) ?_
  refine jx_aload_n d_Md_next_46 0 rfl ?_
  refine jx_aload_n d_Md_next_47 0 rfl ?_
  refine jx_get d_Md_next_48 fF_Md_103 (md_tg hK) (show (mdH h a (mi (mi s 22 (nI q)) 23 (nI q))).2.2.2 a 22 = Value.int (nI q) from md_ri rfl) ?_
  refine jx_callV (M2 := mm_Md_at) rfl (md_tg hK) lk_Md_106 wi_Md_at ws_Md_at d_Md_next_51 (c_Md_at l G (d - 1) (s := (mi (mi s 22 (nI q)) 23 (nI q))) (B := B) (n := n) (k := q) hK hT (by omega)) cd_Md_at rfl rfl (Nat.le_of_ble_eq_true rfl) (jm_fok (by omega)) (jm_look (by decide) (by omega)) ?_
  refine jx_istore_n (lv' := [(1, .int (q_at0 B n q)), (0, .ref (a))]) d_Md_next_54 (by decide) rfl ?_
  refine jx_aload_n d_Md_next_55 1 rfl ?_
  refine jx_get d_Md_next_56 fF_Md_103 (md_tg hK) (show (mdH h a (mi (mi s 22 (nI q)) 23 (nI q))).2.2.2 a 22 = Value.int (nI q) from md_ri rfl) ?_
  refine jx_aload_n d_Md_next_59 1 rfl ?_
  refine jx_get d_Md_next_60 fF_Md_100 (md_tg hK) ((show (mdH h a (mi (mi s 22 (nI q)) 23 (nI q))).2.2.2 a 2 = Value.int (s.1 2) from md_ri rfl).trans (congrArg Value.int hT.1)) ?_
  refine jx_icmp_ltN (tgt := 75) (q) (n) d_Md_next_63 rfl rfl (by omega) (by omega) (by decide) (fun c1 => ?_) (fun c1 => ?_)
  ·
    refine jx_iload_n d_Md_next_75 0 rfl ?_
    refine jx_callS (M2 := mm_Md_isDigit) lk_Md_120 wt_Md_isDigit d_Md_next_76 (c_Md_isDigit l G (d - 1) (c := q_at0 B n q)) cd_Md_isDigit rfl rfl (Nat.le_of_ble_eq_true rfl) (jm_fok (by omega)) (jm_look (by decide) (by omega)) ?_
    refine jx_if_eq (tgt := 184) d_Md_next_79 (by decide) (fun c2 => ?_) (fun c2 => ?_)
    ·
      refine jx_iload_n d_Md_next_184 0 rfl ?_
      refine jx_callS (M2 := mm_Md_isLetter) lk_Md_131 wt_Md_isLetter d_Md_next_185 (c_Md_isLetter l G (d - 1) (c := q_at0 B n q)) cd_Md_isLetter rfl rfl (Nat.le_of_ble_eq_true rfl) (jm_fok (by omega)) (jm_look (by decide) (by omega)) ?_
      refine jx_if_eq (tgt := 330) d_Md_next_188 (by decide) (fun c3 => ?_) (fun c3 => ?_)
      ·
        refine jx_aload_n d_Md_next_330 1 rfl ?_
        refine jx_dup d_Md_next_331 rfl ?_
        refine jx_get d_Md_next_332 fF_Md_103 (md_tg hK) (show (mdH h a (mi (mi s 22 (nI q)) 23 (nI q))).2.2.2 a 22 = Value.int (nI q) from md_ri rfl) ?_
        refine jx_iconst (v0 := 1) d_Md_next_335 (by decide) ?_
        refine jx_iadd d_Md_next_336 ?_
        refine jx_ati (nI_add (q) (1)) ?_
        refine jx_put (v0 := .int (nI ((q) + (1)))) d_Md_next_337 fF_Md_103 jv_Md ft_Md_place (md_tg hK) rfl rfl ?_
        refine jx_ath (md_wi (k := 22) rfl) ?_
        refine jx_aload_n d_Md_next_340 1 rfl ?_
        refine jx_iload_n d_Md_next_341 0 rfl ?_
        refine jx_bipush (v0 := 61) d_Md_next_342 (by decide) ?_
        refine jx_icmp_eq (tgt := 389) d_Md_next_344 (by decide) (fun c4 => ?_) (fun c4 => ?_)
        ·
          refine jx_iload_n d_Md_next_389 0 rfl ?_
          refine jx_goto (tgt := 394) d_Md_next_390 (by decide) ?_
          refine jx_put (v0 := .int (q_at0 B n q)) d_Md_next_394 fF_Md_117 jv_Md ft_Md_token (md_tg hK) rfl rfl ?_
          refine jx_ath (md_wi (k := 24) rfl) ?_
          exact jx_vret d_Md_next_397 rfl (⟨rfl, congrArg (mdH h a) (by unfold m_nx m_tok; rw [hqe]; rw [if_neg (by omega), if_neg (by rw [← q_at0_lt (B := B) (show q < n by omega), jb0 c2]; decide), if_neg (by rw [← q_at0_lt (B := B) (show q < n by omega), jb0 c3]; decide), ← q_at0_lt (B := B) (show q < n by omega), if_pos (by unfold q_mark; grind)]; exact (ms_ext (fun k9 => by first | rfl | (simp only [mi, ml, mai, mal, maz, jm_up]; grind)) (fun k9 => by first | rfl | (simp only [mi, ml, mai, mal, maz, jm_up]; grind)) (fun j9 i9 => by first | rfl | (simp only [mi, ml, mai, mal, maz, jm_up]; grind)) (fun j9 i9 => by first | rfl | (simp only [mi, ml, mai, mal, maz, jm_up]; grind)) (fun j9 i9 => by first | rfl | (simp only [mi, ml, mai, mal, maz, jm_up]; grind))))⟩)
        ·
          refine jx_iload_n d_Md_next_347 0 rfl ?_
          refine jx_bipush (v0 := 43) d_Md_next_348 (by decide) ?_
          refine jx_icmp_eq (tgt := 389) d_Md_next_350 (by decide) (fun c5 => ?_) (fun c5 => ?_)
          ·
            refine jx_iload_n d_Md_next_389 0 rfl ?_
            refine jx_goto (tgt := 394) d_Md_next_390 (by decide) ?_
            refine jx_put (v0 := .int (q_at0 B n q)) d_Md_next_394 fF_Md_117 jv_Md ft_Md_token (md_tg hK) rfl rfl ?_
            refine jx_ath (md_wi (k := 24) rfl) ?_
            exact jx_vret d_Md_next_397 rfl (⟨rfl, congrArg (mdH h a) (by unfold m_nx m_tok; rw [hqe]; rw [if_neg (by omega), if_neg (by rw [← q_at0_lt (B := B) (show q < n by omega), jb0 c2]; decide), if_neg (by rw [← q_at0_lt (B := B) (show q < n by omega), jb0 c3]; decide), ← q_at0_lt (B := B) (show q < n by omega), if_pos (by unfold q_mark; grind)]; exact (ms_ext (fun k9 => by first | rfl | (simp only [mi, ml, mai, mal, maz, jm_up]; grind)) (fun k9 => by first | rfl | (simp only [mi, ml, mai, mal, maz, jm_up]; grind)) (fun j9 i9 => by first | rfl | (simp only [mi, ml, mai, mal, maz, jm_up]; grind)) (fun j9 i9 => by first | rfl | (simp only [mi, ml, mai, mal, maz, jm_up]; grind)) (fun j9 i9 => by first | rfl | (simp only [mi, ml, mai, mal, maz, jm_up]; grind))))⟩)
          ·
            refine jx_iload_n d_Md_next_353 0 rfl ?_
            refine jx_bipush (v0 := 45) d_Md_next_354 (by decide) ?_
            refine jx_icmp_eq (tgt := 389) d_Md_next_356 (by decide) (fun c6 => ?_) (fun c6 => ?_)
            ·
              refine jx_iload_n d_Md_next_389 0 rfl ?_
              refine jx_goto (tgt := 394) d_Md_next_390 (by decide) ?_
              refine jx_put (v0 := .int (q_at0 B n q)) d_Md_next_394 fF_Md_117 jv_Md ft_Md_token (md_tg hK) rfl rfl ?_
              refine jx_ath (md_wi (k := 24) rfl) ?_
              exact jx_vret d_Md_next_397 rfl (⟨rfl, congrArg (mdH h a) (by unfold m_nx m_tok; rw [hqe]; rw [if_neg (by omega), if_neg (by rw [← q_at0_lt (B := B) (show q < n by omega), jb0 c2]; decide), if_neg (by rw [← q_at0_lt (B := B) (show q < n by omega), jb0 c3]; decide), ← q_at0_lt (B := B) (show q < n by omega), if_pos (by unfold q_mark; grind)]; exact (ms_ext (fun k9 => by first | rfl | (simp only [mi, ml, mai, mal, maz, jm_up]; grind)) (fun k9 => by first | rfl | (simp only [mi, ml, mai, mal, maz, jm_up]; grind)) (fun j9 i9 => by first | rfl | (simp only [mi, ml, mai, mal, maz, jm_up]; grind)) (fun j9 i9 => by first | rfl | (simp only [mi, ml, mai, mal, maz, jm_up]; grind)) (fun j9 i9 => by first | rfl | (simp only [mi, ml, mai, mal, maz, jm_up]; grind))))⟩)
            ·
              refine jx_iload_n d_Md_next_359 0 rfl ?_
              refine jx_bipush (v0 := 42) d_Md_next_360 (by decide) ?_
              refine jx_icmp_eq (tgt := 389) d_Md_next_362 (by decide) (fun c7 => ?_) (fun c7 => ?_)
              ·
                refine jx_iload_n d_Md_next_389 0 rfl ?_
                refine jx_goto (tgt := 394) d_Md_next_390 (by decide) ?_
                refine jx_put (v0 := .int (q_at0 B n q)) d_Md_next_394 fF_Md_117 jv_Md ft_Md_token (md_tg hK) rfl rfl ?_
                refine jx_ath (md_wi (k := 24) rfl) ?_
                exact jx_vret d_Md_next_397 rfl (⟨rfl, congrArg (mdH h a) (by unfold m_nx m_tok; rw [hqe]; rw [if_neg (by omega), if_neg (by rw [← q_at0_lt (B := B) (show q < n by omega), jb0 c2]; decide), if_neg (by rw [← q_at0_lt (B := B) (show q < n by omega), jb0 c3]; decide), ← q_at0_lt (B := B) (show q < n by omega), if_pos (by unfold q_mark; grind)]; exact (ms_ext (fun k9 => by first | rfl | (simp only [mi, ml, mai, mal, maz, jm_up]; grind)) (fun k9 => by first | rfl | (simp only [mi, ml, mai, mal, maz, jm_up]; grind)) (fun j9 i9 => by first | rfl | (simp only [mi, ml, mai, mal, maz, jm_up]; grind)) (fun j9 i9 => by first | rfl | (simp only [mi, ml, mai, mal, maz, jm_up]; grind)) (fun j9 i9 => by first | rfl | (simp only [mi, ml, mai, mal, maz, jm_up]; grind))))⟩)
              ·
                refine jx_iload_n d_Md_next_365 0 rfl ?_
                refine jx_bipush (v0 := 47) d_Md_next_366 (by decide) ?_
                refine jx_icmp_eq (tgt := 389) d_Md_next_368 (by decide) (fun c8 => ?_) (fun c8 => ?_)
                ·
                  refine jx_iload_n d_Md_next_389 0 rfl ?_
                  refine jx_goto (tgt := 394) d_Md_next_390 (by decide) ?_
                  refine jx_put (v0 := .int (q_at0 B n q)) d_Md_next_394 fF_Md_117 jv_Md ft_Md_token (md_tg hK) rfl rfl ?_
                  refine jx_ath (md_wi (k := 24) rfl) ?_
                  exact jx_vret d_Md_next_397 rfl (⟨rfl, congrArg (mdH h a) (by unfold m_nx m_tok; rw [hqe]; rw [if_neg (by omega), if_neg (by rw [← q_at0_lt (B := B) (show q < n by omega), jb0 c2]; decide), if_neg (by rw [← q_at0_lt (B := B) (show q < n by omega), jb0 c3]; decide), ← q_at0_lt (B := B) (show q < n by omega), if_pos (by unfold q_mark; grind)]; exact (ms_ext (fun k9 => by first | rfl | (simp only [mi, ml, mai, mal, maz, jm_up]; grind)) (fun k9 => by first | rfl | (simp only [mi, ml, mai, mal, maz, jm_up]; grind)) (fun j9 i9 => by first | rfl | (simp only [mi, ml, mai, mal, maz, jm_up]; grind)) (fun j9 i9 => by first | rfl | (simp only [mi, ml, mai, mal, maz, jm_up]; grind)) (fun j9 i9 => by first | rfl | (simp only [mi, ml, mai, mal, maz, jm_up]; grind))))⟩)
                ·
                  refine jx_iload_n d_Md_next_371 0 rfl ?_
                  refine jx_bipush (v0 := 40) d_Md_next_372 (by decide) ?_
                  refine jx_icmp_eq (tgt := 389) d_Md_next_374 (by decide) (fun c9 => ?_) (fun c9 => ?_)
                  ·
                    refine jx_iload_n d_Md_next_389 0 rfl ?_
                    refine jx_goto (tgt := 394) d_Md_next_390 (by decide) ?_
                    refine jx_put (v0 := .int (q_at0 B n q)) d_Md_next_394 fF_Md_117 jv_Md ft_Md_token (md_tg hK) rfl rfl ?_
                    refine jx_ath (md_wi (k := 24) rfl) ?_
                    exact jx_vret d_Md_next_397 rfl (⟨rfl, congrArg (mdH h a) (by unfold m_nx m_tok; rw [hqe]; rw [if_neg (by omega), if_neg (by rw [← q_at0_lt (B := B) (show q < n by omega), jb0 c2]; decide), if_neg (by rw [← q_at0_lt (B := B) (show q < n by omega), jb0 c3]; decide), ← q_at0_lt (B := B) (show q < n by omega), if_pos (by unfold q_mark; grind)]; exact (ms_ext (fun k9 => by first | rfl | (simp only [mi, ml, mai, mal, maz, jm_up]; grind)) (fun k9 => by first | rfl | (simp only [mi, ml, mai, mal, maz, jm_up]; grind)) (fun j9 i9 => by first | rfl | (simp only [mi, ml, mai, mal, maz, jm_up]; grind)) (fun j9 i9 => by first | rfl | (simp only [mi, ml, mai, mal, maz, jm_up]; grind)) (fun j9 i9 => by first | rfl | (simp only [mi, ml, mai, mal, maz, jm_up]; grind))))⟩)
                  ·
                    refine jx_iload_n d_Md_next_377 0 rfl ?_
                    refine jx_bipush (v0 := 41) d_Md_next_378 (by decide) ?_
                    refine jx_icmp_eq (tgt := 389) d_Md_next_380 (by decide) (fun c10 => ?_) (fun c10 => ?_)
                    ·
                      refine jx_iload_n d_Md_next_389 0 rfl ?_
                      refine jx_goto (tgt := 394) d_Md_next_390 (by decide) ?_
                      refine jx_put (v0 := .int (q_at0 B n q)) d_Md_next_394 fF_Md_117 jv_Md ft_Md_token (md_tg hK) rfl rfl ?_
                      refine jx_ath (md_wi (k := 24) rfl) ?_
                      exact jx_vret d_Md_next_397 rfl (⟨rfl, congrArg (mdH h a) (by unfold m_nx m_tok; rw [hqe]; rw [if_neg (by omega), if_neg (by rw [← q_at0_lt (B := B) (show q < n by omega), jb0 c2]; decide), if_neg (by rw [← q_at0_lt (B := B) (show q < n by omega), jb0 c3]; decide), ← q_at0_lt (B := B) (show q < n by omega), if_pos (by unfold q_mark; grind)]; exact (ms_ext (fun k9 => by first | rfl | (simp only [mi, ml, mai, mal, maz, jm_up]; grind)) (fun k9 => by first | rfl | (simp only [mi, ml, mai, mal, maz, jm_up]; grind)) (fun j9 i9 => by first | rfl | (simp only [mi, ml, mai, mal, maz, jm_up]; grind)) (fun j9 i9 => by first | rfl | (simp only [mi, ml, mai, mal, maz, jm_up]; grind)) (fun j9 i9 => by first | rfl | (simp only [mi, ml, mai, mal, maz, jm_up]; grind))))⟩)
                    ·
                      refine jx_iload_n d_Md_next_383 0 rfl ?_
                      refine jx_bipush (v0 := 44) d_Md_next_384 (by decide) ?_
                      refine jx_icmp_ne (tgt := 393) d_Md_next_386 (by decide) (fun c11 => ?_) (fun c11 => ?_)
                      ·
                        refine jx_iconst (v0 := -1) d_Md_next_393 (by decide) ?_
                        refine jx_put (v0 := .int (-1)) d_Md_next_394 fF_Md_117 jv_Md ft_Md_token (md_tg hK) rfl rfl ?_
                        refine jx_ath (md_wi (k := 24) rfl) ?_
                        exact jx_vret d_Md_next_397 rfl (⟨rfl, congrArg (mdH h a) (by unfold m_nx m_tok; rw [hqe]; rw [if_neg (by omega), if_neg (by rw [← q_at0_lt (B := B) (show q < n by omega), jb0 c2]; decide), if_neg (by rw [← q_at0_lt (B := B) (show q < n by omega), jb0 c3]; decide), ← q_at0_lt (B := B) (show q < n by omega), if_neg (by unfold q_mark; grind)]; exact (ms_ext (fun k9 => by first | rfl | (simp only [mi, ml, mai, mal, maz, jm_up]; grind)) (fun k9 => by first | rfl | (simp only [mi, ml, mai, mal, maz, jm_up]; grind)) (fun j9 i9 => by first | rfl | (simp only [mi, ml, mai, mal, maz, jm_up]; grind)) (fun j9 i9 => by first | rfl | (simp only [mi, ml, mai, mal, maz, jm_up]; grind)) (fun j9 i9 => by first | rfl | (simp only [mi, ml, mai, mal, maz, jm_up]; grind))))⟩)
                      ·
                        refine jx_iload_n d_Md_next_389 0 rfl ?_
                        refine jx_goto (tgt := 394) d_Md_next_390 (by decide) ?_
                        refine jx_put (v0 := .int (q_at0 B n q)) d_Md_next_394 fF_Md_117 jv_Md ft_Md_token (md_tg hK) rfl rfl ?_
                        refine jx_ath (md_wi (k := 24) rfl) ?_
                        exact jx_vret d_Md_next_397 rfl (⟨rfl, congrArg (mdH h a) (by unfold m_nx m_tok; rw [hqe]; rw [if_neg (by omega), if_neg (by rw [← q_at0_lt (B := B) (show q < n by omega), jb0 c2]; decide), if_neg (by rw [← q_at0_lt (B := B) (show q < n by omega), jb0 c3]; decide), ← q_at0_lt (B := B) (show q < n by omega), if_pos (by unfold q_mark; grind)]; exact (ms_ext (fun k9 => by first | rfl | (simp only [mi, ml, mai, mal, maz, jm_up]; grind)) (fun k9 => by first | rfl | (simp only [mi, ml, mai, mal, maz, jm_up]; grind)) (fun j9 i9 => by first | rfl | (simp only [mi, ml, mai, mal, maz, jm_up]; grind)) (fun j9 i9 => by first | rfl | (simp only [mi, ml, mai, mal, maz, jm_up]; grind)) (fun j9 i9 => by first | rfl | (simp only [mi, ml, mai, mal, maz, jm_up]; grind))))⟩)
      ·
        refine jx_aload_n d_Md_next_191 1 rfl ?_
        refine jx_lconst (v0 := 0) d_Md_next_192 (by decide) ?_
        refine jx_put (v0 := .long (0)) d_Md_next_193 fF_Md_123 jv_Md ft_Md_tokenAmount (md_tg hK) rfl rfl ?_
        refine jx_ath (md_wl (k := 25) rfl) ?_
        refine lp_Md_next2 l G (s := (ml (mi (mi s 22 (nI q)) 23 (nI q)) 25 0)) (q := q) hd hK (n + 1) q (by omega) (by omega) (Nat.le_refl _) rfl rfl hT ?_
        have hle := q_wloop_le B n q q 0 (by omega)
        refine jx_aload_n d_Md_next_292 1 rfl ?_
        refine jx_aload_n d_Md_next_293 1 rfl ?_
        refine jx_get d_Md_next_294 fF_Md_103 (md_tg hK) (show (mdH h a (mi (ml (ml (mi (mi s 22 (nI q)) 23 (nI q)) 25 0) 25 ((q_wloop B n q q 0).2)) 22 (nI ((q_wloop B n q q 0).1)))).2.2.2 a 22 = Value.int (nI ((q_wloop B n q q 0).1)) from md_ri rfl) ?_
        refine jx_aload_n d_Md_next_297 1 rfl ?_
        refine jx_get d_Md_next_298 fF_Md_114 (md_tg hK) (show (mdH h a (mi (ml (ml (mi (mi s 22 (nI q)) 23 (nI q)) 25 0) 25 ((q_wloop B n q q 0).2)) 22 (nI ((q_wloop B n q q 0).1)))).2.2.2 a 23 = Value.int (nI q) from md_ri rfl) ?_
        refine jx_isub d_Md_next_301 ?_
        refine jx_ati (pk_sub (a := (q_wloop B n q q 0).1) (b := q) (by omega)) ?_
        refine jx_bipush (v0 := 8) d_Md_next_302 (by decide) ?_
        refine jx_icmp_leN (tgt := 311) (((q_wloop B n q q 0).1) - (q)) (8) d_Md_next_304 rfl rfl (by omega) (by omega) (by decide) (fun c12 => ?_) (fun c12 => ?_)
        ·
          refine jx_aload_n d_Md_next_311 1 rfl ?_
          have hcf : jm_C l G mm_Md_function (d - 1) [.ref a] (mdH h a (mi (ml (ml (mi (mi s 22 (nI q)) 23 (nI q)) 25 0) 25 ((q_wloop B n q q 0).2)) 22 (nI ((q_wloop B n q q 0).1)))) (some (.int (m_fun ((q_wloop B n q q 0).2)))) (mdH h a (mi (ml (ml (mi (mi s 22 (nI q)) 23 (nI q)) 25 0) 25 ((q_wloop B n q q 0).2)) 22 (nI ((q_wloop B n q q 0).1)))) := c_Md_function l G (d - 1) (s := (mi (ml (ml (mi (mi s 22 (nI q)) 23 (nI q)) 25 0) 25 ((q_wloop B n q q 0).2)) 22 (nI ((q_wloop B n q q 0).1)))) hK
          refine jx_callV (M2 := mm_Md_function) rfl (md_tg hK) lk_Md_134 wi_Md_function ws_Md_function d_Md_next_312 hcf cd_Md_function rfl rfl (Nat.le_of_ble_eq_true rfl) (jm_fok (by omega)) (jm_look (by decide) (by omega)) ?_
          refine jx_if_le (tgt := 323) d_Md_next_315 (by decide) (fun c13 => ?_) (fun c13 => ?_)
          ·
            refine jx_iconst (v0 := 1) d_Md_next_323 (by decide) ?_
            refine jx_put (v0 := .int (1)) d_Md_next_324 fF_Md_117 jv_Md ft_Md_token (md_tg hK) rfl rfl ?_
            refine jx_ath (md_wi (k := 24) rfl) ?_
            refine jx_goto (tgt := 397) d_Md_next_327 (by decide) ?_
            exact jx_vret d_Md_next_397 rfl (⟨rfl, congrArg (mdH h a) (by unfold m_nx m_tok; rw [hqe]; rw [if_neg (by omega), if_neg (by rw [← q_at0_lt (B := B) (show q < n by omega), jb0 c2]; decide), if_pos (by rw [← q_at0_lt (B := B) (show q < n by omega)]; exact jb1 c3), if_neg (by omega), if_neg (Int32.not_lt.mpr c13)]; exact (ms_ext (fun k9 => by first | rfl | (simp only [mi, ml, mai, mal, maz, jm_up]; grind)) (fun k9 => by first | rfl | (simp only [mi, ml, mai, mal, maz, jm_up]; grind)) (fun j9 i9 => by first | rfl | (simp only [mi, ml, mai, mal, maz, jm_up]; grind)) (fun j9 i9 => by first | rfl | (simp only [mi, ml, mai, mal, maz, jm_up]; grind)) (fun j9 i9 => by first | rfl | (simp only [mi, ml, mai, mal, maz, jm_up]; grind))))⟩)
          ·
            refine jx_bipush (v0 := -3) d_Md_next_318 (by decide) ?_
            refine jx_goto (tgt := 324) d_Md_next_320 (by decide) ?_
            refine jx_put (v0 := .int (-3)) d_Md_next_324 fF_Md_117 jv_Md ft_Md_token (md_tg hK) rfl rfl ?_
            refine jx_ath (md_wi (k := 24) rfl) ?_
            refine jx_goto (tgt := 397) d_Md_next_327 (by decide) ?_
            exact jx_vret d_Md_next_397 rfl (⟨rfl, congrArg (mdH h a) (by unfold m_nx m_tok; rw [hqe]; rw [if_neg (by omega), if_neg (by rw [← q_at0_lt (B := B) (show q < n by omega), jb0 c2]; decide), if_pos (by rw [← q_at0_lt (B := B) (show q < n by omega)]; exact jb1 c3), if_neg (by omega), if_pos (Int32.not_le.mp c13)]; exact (ms_ext (fun k9 => by first | rfl | (simp only [mi, ml, mai, mal, maz, jm_up]; grind)) (fun k9 => by first | rfl | (simp only [mi, ml, mai, mal, maz, jm_up]; grind)) (fun j9 i9 => by first | rfl | (simp only [mi, ml, mai, mal, maz, jm_up]; grind)) (fun j9 i9 => by first | rfl | (simp only [mi, ml, mai, mal, maz, jm_up]; grind)) (fun j9 i9 => by first | rfl | (simp only [mi, ml, mai, mal, maz, jm_up]; grind))))⟩)
        ·
          refine jx_iconst (v0 := -1) d_Md_next_307 (by decide) ?_
          refine jx_goto (tgt := 324) d_Md_next_308 (by decide) ?_
          refine jx_put (v0 := .int (-1)) d_Md_next_324 fF_Md_117 jv_Md ft_Md_token (md_tg hK) rfl rfl ?_
          refine jx_ath (md_wi (k := 24) rfl) ?_
          refine jx_goto (tgt := 397) d_Md_next_327 (by decide) ?_
          exact jx_vret d_Md_next_397 rfl (⟨rfl, congrArg (mdH h a) (by unfold m_nx m_tok; rw [hqe]; rw [if_neg (by omega), if_neg (by rw [← q_at0_lt (B := B) (show q < n by omega), jb0 c2]; decide), if_pos (by rw [← q_at0_lt (B := B) (show q < n by omega)]; exact jb1 c3), if_pos (by omega)]; exact (ms_ext (fun k9 => by first | rfl | (simp only [mi, ml, mai, mal, maz, jm_up]; grind)) (fun k9 => by first | rfl | (simp only [mi, ml, mai, mal, maz, jm_up]; grind)) (fun j9 i9 => by first | rfl | (simp only [mi, ml, mai, mal, maz, jm_up]; grind)) (fun j9 i9 => by first | rfl | (simp only [mi, ml, mai, mal, maz, jm_up]; grind)) (fun j9 i9 => by first | rfl | (simp only [mi, ml, mai, mal, maz, jm_up]; grind))))⟩)
    ·
      refine jx_aload_n d_Md_next_82 1 rfl ?_
      refine jx_lconst (v0 := 0) d_Md_next_83 (by decide) ?_
      refine jx_put (v0 := .long (0)) d_Md_next_84 fF_Md_123 jv_Md ft_Md_tokenAmount (md_tg hK) rfl rfl ?_
      refine jx_ath (md_wl (k := 25) rfl) ?_
      refine lp_Md_next1 l G (s := (ml (mi (mi s 22 (nI q)) 23 (nI q)) 25 0)) (q := q) hd hK (n + 1) q (by omega) (by omega) (Nat.le_refl _) rfl rfl hT ?_
      have hle := m_nloop_le B n q q 0 (by omega)
      refine jx_aload_n d_Md_next_158 1 rfl ?_
      refine jx_aload_n d_Md_next_159 1 rfl ?_
      refine jx_get d_Md_next_160 fF_Md_103 (md_tg hK) (show (mdH h a (mi (ml (ml (mi (mi s 22 (nI q)) 23 (nI q)) 25 0) 25 ((m_nloop B n q q 0).2)) 22 (nI ((m_nloop B n q q 0).1)))).2.2.2 a 22 = Value.int (nI ((m_nloop B n q q 0).1)) from md_ri rfl) ?_
      refine jx_aload_n d_Md_next_163 1 rfl ?_
      refine jx_get d_Md_next_164 fF_Md_114 (md_tg hK) (show (mdH h a (mi (ml (ml (mi (mi s 22 (nI q)) 23 (nI q)) 25 0) 25 ((m_nloop B n q q 0).2)) 22 (nI ((m_nloop B n q q 0).1)))).2.2.2 a 23 = Value.int (nI q) from md_ri rfl) ?_
      refine jx_isub d_Md_next_167 ?_
      refine jx_ati (pk_sub (a := (m_nloop B n q q 0).1) (b := q) (by omega)) ?_
      refine jx_bipush (v0 := 9) d_Md_next_168 (by decide) ?_
      refine jx_icmp_leN (tgt := 177) (((m_nloop B n q q 0).1) - (q)) (9) d_Md_next_170 rfl rfl (by omega) (by omega) (by decide) (fun c14 => ?_) (fun c14 => ?_)
      ·
        refine jx_iconst (v0 := 0) d_Md_next_177 (by decide) ?_
        refine jx_put (v0 := .int (0)) d_Md_next_178 fF_Md_117 jv_Md ft_Md_token (md_tg hK) rfl rfl ?_
        refine jx_ath (md_wi (k := 24) rfl) ?_
        refine jx_goto (tgt := 397) d_Md_next_181 (by decide) ?_
        exact jx_vret d_Md_next_397 rfl (⟨rfl, congrArg (mdH h a) (by unfold m_nx m_tok; rw [hqe]; rw [if_neg (by omega), if_pos (by rw [← q_at0_lt (B := B) (show q < n by omega)]; exact jb1 c2), if_neg (by omega)]; exact (ms_ext (fun k9 => by first | rfl | (simp only [mi, ml, mai, mal, maz, jm_up]; grind)) (fun k9 => by first | rfl | (simp only [mi, ml, mai, mal, maz, jm_up]; grind)) (fun j9 i9 => by first | rfl | (simp only [mi, ml, mai, mal, maz, jm_up]; grind)) (fun j9 i9 => by first | rfl | (simp only [mi, ml, mai, mal, maz, jm_up]; grind)) (fun j9 i9 => by first | rfl | (simp only [mi, ml, mai, mal, maz, jm_up]; grind))))⟩)
      ·
        refine jx_iconst (v0 := -1) d_Md_next_173 (by decide) ?_
        refine jx_goto (tgt := 178) d_Md_next_174 (by decide) ?_
        refine jx_put (v0 := .int (-1)) d_Md_next_178 fF_Md_117 jv_Md ft_Md_token (md_tg hK) rfl rfl ?_
        refine jx_ath (md_wi (k := 24) rfl) ?_
        refine jx_goto (tgt := 397) d_Md_next_181 (by decide) ?_
        exact jx_vret d_Md_next_397 rfl (⟨rfl, congrArg (mdH h a) (by unfold m_nx m_tok; rw [hqe]; rw [if_neg (by omega), if_pos (by rw [← q_at0_lt (B := B) (show q < n by omega)]; exact jb1 c2), if_pos (by omega)]; exact (ms_ext (fun k9 => by first | rfl | (simp only [mi, ml, mai, mal, maz, jm_up]; grind)) (fun k9 => by first | rfl | (simp only [mi, ml, mai, mal, maz, jm_up]; grind)) (fun j9 i9 => by first | rfl | (simp only [mi, ml, mai, mal, maz, jm_up]; grind)) (fun j9 i9 => by first | rfl | (simp only [mi, ml, mai, mal, maz, jm_up]; grind)) (fun j9 i9 => by first | rfl | (simp only [mi, ml, mai, mal, maz, jm_up]; grind))))⟩)
  ·
    refine jx_aload_n d_Md_next_66 1 rfl ?_
    refine jx_bipush (v0 := -2) d_Md_next_67 (by decide) ?_
    refine jx_put (v0 := .int (-2)) d_Md_next_69 fF_Md_117 jv_Md ft_Md_token (md_tg hK) rfl rfl ?_
    refine jx_ath (md_wi (k := 24) rfl) ?_
    refine jx_goto (tgt := 397) d_Md_next_72 (by decide) ?_
    exact jx_vret d_Md_next_397 rfl (⟨rfl, congrArg (mdH h a) (by unfold m_nx m_tok; rw [hqe]; rw [if_pos (by omega)]; exact (ms_ext (fun k9 => by first | rfl | (simp only [mi, ml, mai, mal, maz, jm_up]; grind)) (fun k9 => by first | rfl | (simp only [mi, ml, mai, mal, maz, jm_up]; grind)) (fun j9 i9 => by first | rfl | (simp only [mi, ml, mai, mal, maz, jm_up]; grind)) (fun j9 i9 => by first | rfl | (simp only [mi, ml, mai, mal, maz, jm_up]; grind)) (fun j9 i9 => by first | rfl | (simp only [mi, ml, mai, mal, maz, jm_up]; grind))))⟩)
