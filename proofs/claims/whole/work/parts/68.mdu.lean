def m_psh (s : MS) (H : Nat) (nd : Int32) : MS := mi (mai (mai s 26 H nd) 27 H 0) 43 (nI (H + 1))
set_option maxHeartbeats 4000000 in
set_option maxRecDepth 100000 in
theorem c_Md_push (l : Launch) (G : jm_G) (d : Nat) {h : jm_H} {a : Nat} {s : MS} {H : Nat} {nd : Int32} (hK : MdK h a) (hH : s.1 43 = nI H) (hH6 : H < 64) : jm_C l G mm_Md_push d [.ref a, .int nd] (mdH h a s) none (mdH h a (m_psh s H nd)) := by
  refine jm_ofE (by decide) rfl (Nat.le_of_ble_eq_true rfl) ?_
  refine jx_aload_n d_Md_push_0 0 rfl ?_
  refine jx_get d_Md_push_1 fF_Md_87 (md_tg hK) (md_rr hK (k := 40) (j := 26) rfl rfl rfl) ?_
  refine jx_aload_n d_Md_push_4 0 rfl ?_
  refine jx_get d_Md_push_5 fF_Md_225 (md_tg hK) ((show (mdH h a s).2.2.2 a 43 = Value.int (s.1 43) from md_ri rfl).trans (congrArg Value.int hH)) ?_
  refine jx_iload_n d_Md_push_8 1 rfl ?_
  refine jx_iast d_Md_push_9 (md_ta hK (j := 26) rfl) rfl (jm_vinN (show H < 64 by omega) (by decide)) ?_
  refine jx_ath ((jm_putN (show H < 2 ^ 31 by omega)).trans (md_wai (j := 26) (show H < 64 by omega))) ?_
  refine jx_aload_n d_Md_push_10 0 rfl ?_
  refine jx_get d_Md_push_11 fF_Md_90 (md_tg hK) (md_rr hK (k := 41) (j := 27) rfl rfl rfl) ?_
  refine jx_aload_n d_Md_push_14 0 rfl ?_
  refine jx_get d_Md_push_15 fF_Md_225 (md_tg hK) ((show (mdH h a (mai s 26 H nd)).2.2.2 a 43 = Value.int (s.1 43) from md_ri rfl).trans (congrArg Value.int hH)) ?_
  refine jx_iconst (v0 := 0) d_Md_push_18 (by decide) ?_
  refine jx_iast d_Md_push_19 (md_ta hK (j := 27) rfl) rfl (jm_vinN (show H < 64 by omega) (by decide)) ?_
  refine jx_ath ((jm_putN (show H < 2 ^ 31 by omega)).trans (md_wai (j := 27) (show H < 64 by omega))) ?_
  refine jx_aload_n d_Md_push_20 0 rfl ?_
  refine jx_dup d_Md_push_21 rfl ?_
  refine jx_get d_Md_push_22 fF_Md_225 (md_tg hK) ((show (mdH h a (mai (mai s 26 H nd) 27 H 0)).2.2.2 a 43 = Value.int (s.1 43) from md_ri rfl).trans (congrArg Value.int hH)) ?_
  refine jx_iconst (v0 := 1) d_Md_push_25 (by decide) ?_
  refine jx_iadd d_Md_push_26 ?_
  refine jx_ati (nI_add (H) (1)) ?_
  refine jx_put (v0 := .int (nI ((H) + (1)))) d_Md_push_27 fF_Md_225 jv_Md ft_Md_high (md_tg hK) rfl rfl ?_
  refine jx_ath (md_wi (k := 43) rfl) ?_
  exact jx_vret d_Md_push_30 rfl (⟨rfl, rfl⟩)
set_option maxHeartbeats 4000000 in
set_option maxRecDepth 100000 in
theorem c_Md_leafN (l : Launch) (G : jm_G) (d : Nat) {h : jm_H} {a : Nat} {s : MS} {q : Nat} (hK : MdK h a) (hq : q < 2560) (hk : s.2.2.1 9 q = 0) : jm_C l G mm_Md_leaf d [.ref a, .int (nI q)] (mdH h a s) none (mdH h a (ml s 44 (s.2.2.2.1 13 q))) := by
  refine jm_ofE (by decide) rfl (Nat.le_of_ble_eq_true rfl) ?_
  refine jx_aload_n d_Md_leaf_0 0 rfl ?_
  refine jx_get d_Md_leaf_1 fF_Md_36 (md_tg hK) (md_rr hK (k := 12) (j := 9) rfl rfl rfl) ?_
  refine jx_iload_n d_Md_leaf_4 1 rfl ?_
  refine jx_iald d_Md_leaf_5 (md_ta hK (j := 9) rfl) rfl (jm_vinN (show q < 2560 by omega) (by decide)) (jm_atN (show q < 2 ^ 31 by omega) (show (mdH h a s).2.2.2 (a + 9) q = Value.int (s.2.2.1 9 q) from md_rai (j := 9) (show q < 2560 by omega))) ?_
  refine jx_if_ne (tgt := 20) d_Md_leaf_6 (by decide) (fun c1 => ?_) (fun c1 => ?_)
  · exact absurd hk c1
  ·
    refine jx_aload_n d_Md_leaf_9 0 rfl ?_
    refine jx_aload_n d_Md_leaf_10 0 rfl ?_
    refine jx_get d_Md_leaf_11 fF_Md_48 (md_tg hK) (md_rr hK (k := 16) (j := 13) rfl rfl rfl) ?_
    refine jx_iload_n d_Md_leaf_14 1 rfl ?_
    refine jx_lald d_Md_leaf_15 (md_ta hK (j := 13) rfl) rfl (jm_vinN (show q < 2560 by omega) (by decide)) (jm_atN (show q < 2 ^ 31 by omega) (show (mdH h a s).2.2.2 (a + 13) q = Value.long (s.2.2.2.1 13 q) from md_ral (j := 13) (show q < 2560 by omega))) ?_
    refine jx_put (v0 := .long (s.2.2.2.1 13 q)) d_Md_leaf_16 fF_Md_237 jv_Md ft_Md_answer (md_tg hK) rfl rfl ?_
    refine jx_ath (md_wl (k := 44) rfl) ?_
    exact jx_vret d_Md_leaf_19 rfl (⟨rfl, rfl⟩)
set_option maxHeartbeats 4000000 in
set_option maxRecDepth 100000 in
theorem c_Md_leafM (l : Launch) (G : jm_G) (d : Nat) (hd : 2 ≤ d) {h : jm_H} {a : Nat} {s : MS} {q : Nat} (hK : MdK h a) (hq : q < 2560) (hk : s.2.2.1 9 q = 1) : jm_C l G mm_Md_leaf d [.ref a, .int (nI q)] (mdH h a s) none (mdH h a (ml (mi s 39 (if (m_res s (s.2.2.2.1 13 q)).1 = 1 then 0 else 3)) 44 (m_res s (s.2.2.2.1 13 q)).2)) := by
  refine jm_ofE (by decide) rfl (Nat.le_of_ble_eq_true rfl) ?_
  refine jx_aload_n d_Md_leaf_0 0 rfl ?_
  refine jx_get d_Md_leaf_1 fF_Md_36 (md_tg hK) (md_rr hK (k := 12) (j := 9) rfl rfl rfl) ?_
  refine jx_iload_n d_Md_leaf_4 1 rfl ?_
  refine jx_iald d_Md_leaf_5 (md_ta hK (j := 9) rfl) rfl (jm_vinN (show q < 2560 by omega) (by decide)) (jm_atN (show q < 2 ^ 31 by omega) (show (mdH h a s).2.2.2 (a + 9) q = Value.int (s.2.2.1 9 q) from md_rai (j := 9) (show q < 2560 by omega))) ?_
  refine jx_if_ne (tgt := 20) d_Md_leaf_6 (by decide) (fun c1 => ?_) (fun c1 => ?_)
  ·
    refine jx_aload_n d_Md_leaf_20 0 rfl ?_
    refine jx_aload_n d_Md_leaf_21 0 rfl ?_
    refine jx_aload_n d_Md_leaf_22 0 rfl ?_
    refine jx_get d_Md_leaf_23 fF_Md_48 (md_tg hK) (md_rr hK (k := 16) (j := 13) rfl rfl rfl) ?_
    refine jx_iload_n d_Md_leaf_26 1 rfl ?_
    refine jx_lald d_Md_leaf_27 (md_ta hK (j := 13) rfl) rfl (jm_vinN (show q < 2560 by omega) (by decide)) (jm_atN (show q < 2 ^ 31 by omega) (show (mdH h a s).2.2.2 (a + 13) q = Value.long (s.2.2.2.1 13 q) from md_ral (j := 13) (show q < 2560 by omega))) ?_
    have hcr : jm_C l G mm_Md_resultOf (d - 1) [.ref a, .long (s.2.2.2.1 13 q)] (mdH h a s) (some (.int (m_res s (s.2.2.2.1 13 q)).1)) (mdH h a s) := c_Md_resultOf l G (d - 1) (by omega) hK
    refine jx_callV (M2 := mm_Md_resultOf) rfl (md_tg hK) lk_Md_244 wi_Md_resultOf ws_Md_resultOf d_Md_leaf_28 hcr cd_Md_resultOf rfl rfl (Nat.le_of_ble_eq_true rfl) (jm_fok (by omega)) (jm_look (by decide) (by omega)) ?_
    refine jx_iconst (v0 := 1) d_Md_leaf_31 (by decide) ?_
    refine jx_icmp_ne (tgt := 39) d_Md_leaf_32 (by decide) (fun c2 => ?_) (fun c2 => ?_)
    ·
      refine jx_iconst (v0 := 3) d_Md_leaf_39 (by decide) ?_
      refine jx_put (v0 := .int (3)) d_Md_leaf_40 fF_Md_231 jv_Md ft_Md_error (md_tg hK) rfl rfl ?_
      refine jx_ath (md_wi (k := 39) rfl) ?_
      refine jx_aload_n d_Md_leaf_43 0 rfl ?_
      refine jx_aload_n d_Md_leaf_44 0 rfl ?_
      refine jx_aload_n d_Md_leaf_45 0 rfl ?_
      refine jx_get d_Md_leaf_46 fF_Md_48 (md_tg hK) (md_rr hK (k := 16) (j := 13) rfl rfl rfl) ?_
      refine jx_iload_n d_Md_leaf_49 1 rfl ?_
      refine jx_lald d_Md_leaf_50 (md_ta hK (j := 13) rfl) rfl (jm_vinN (show q < 2560 by omega) (by decide)) (jm_atN (show q < 2 ^ 31 by omega) (show (mdH h a (mi s 39 3)).2.2.2 (a + 13) q = Value.long (s.2.2.2.1 13 q) from md_ral (j := 13) (show q < 2560 by omega))) ?_
      have hcv := c_Md_valueOf l G (d - 1) (by omega) (h := h) (a := a) (s := (mi s 39 3)) (u := s.2.2.2.1 13 q) hK
      rw [m_res_c (s := s) (s' := (mi s 39 3)) rfl] at hcv
      refine jx_callV (M2 := mm_Md_valueOf) rfl (md_tg hK) lk_Md_247 wi_Md_valueOf ws_Md_valueOf d_Md_leaf_51 hcv cd_Md_valueOf rfl rfl (Nat.le_of_ble_eq_true rfl) (jm_fok (by omega)) (jm_look (by decide) (by omega)) ?_
      refine jx_put (v0 := .long ((m_res s (s.2.2.2.1 13 q)).2)) d_Md_leaf_54 fF_Md_237 jv_Md ft_Md_answer (md_tg hK) rfl rfl ?_
      refine jx_ath (md_wl (k := 44) rfl) ?_
      exact jx_vret d_Md_leaf_57 rfl (⟨rfl, congrArg (mdH h a) (by rw [if_neg c2])⟩)
    ·
      refine jx_iconst (v0 := 0) d_Md_leaf_35 (by decide) ?_
      refine jx_goto (tgt := 40) d_Md_leaf_36 (by decide) ?_
      refine jx_put (v0 := .int (0)) d_Md_leaf_40 fF_Md_231 jv_Md ft_Md_error (md_tg hK) rfl rfl ?_
      refine jx_ath (md_wi (k := 39) rfl) ?_
      refine jx_aload_n d_Md_leaf_43 0 rfl ?_
      refine jx_aload_n d_Md_leaf_44 0 rfl ?_
      refine jx_aload_n d_Md_leaf_45 0 rfl ?_
      refine jx_get d_Md_leaf_46 fF_Md_48 (md_tg hK) (md_rr hK (k := 16) (j := 13) rfl rfl rfl) ?_
      refine jx_iload_n d_Md_leaf_49 1 rfl ?_
      refine jx_lald d_Md_leaf_50 (md_ta hK (j := 13) rfl) rfl (jm_vinN (show q < 2560 by omega) (by decide)) (jm_atN (show q < 2 ^ 31 by omega) (show (mdH h a (mi s 39 0)).2.2.2 (a + 13) q = Value.long (s.2.2.2.1 13 q) from md_ral (j := 13) (show q < 2560 by omega))) ?_
      have hcv := c_Md_valueOf l G (d - 1) (by omega) (h := h) (a := a) (s := (mi s 39 0)) (u := s.2.2.2.1 13 q) hK
      rw [m_res_c (s := s) (s' := (mi s 39 0)) rfl] at hcv
      refine jx_callV (M2 := mm_Md_valueOf) rfl (md_tg hK) lk_Md_247 wi_Md_valueOf ws_Md_valueOf d_Md_leaf_51 hcv cd_Md_valueOf rfl rfl (Nat.le_of_ble_eq_true rfl) (jm_fok (by omega)) (jm_look (by decide) (by omega)) ?_
      refine jx_put (v0 := .long ((m_res s (s.2.2.2.1 13 q)).2)) d_Md_leaf_54 fF_Md_237 jv_Md ft_Md_answer (md_tg hK) rfl rfl ?_
      refine jx_ath (md_wl (k := 44) rfl) ?_
      exact jx_vret d_Md_leaf_57 rfl (⟨rfl, congrArg (mdH h a) (by rw [if_pos c2])⟩)
  · exact absurd c1 (by rw [hk]; decide)
def m_both (kd : Nat) (x y : Int64) : Int32 × Int64 := if kd = 2 then (1, x + y) else if kd = 3 then (1, x - y) else if kd = 4 then (1, x * y) else if kd = 5 then (if y = 0 then (2, 0) else (1, x / y)) else if kd = 7 then (1, if y < x then y else x) else (1, if x < y then y else x)
theorem mn_le {x y : Int64} (h : y ≤ x) : (if y < x then y else x) = y := by
  split
  · rfl
  · rename_i q
    exact Int64.le_antisymm (Int64.not_lt.mp q) h
theorem mx_le {x y : Int64} (h : x ≤ y) : (if x < y then y else x) = y := by
  split
  · rfl
  · rename_i q
    exact Int64.le_antisymm h (Int64.not_lt.mp q)
set_option maxHeartbeats 4000000 in
set_option maxRecDepth 100000 in
theorem c_Md_both2 (l : Launch) (G : jm_G) (d : Nat) {h : jm_H} {a : Nat} {s : MS} {x y : Int64} (hK : MdK h a) : jm_C l G mm_Md_both d [.ref a, .int 2, .long x, .long y] (mdH h a s) (some (.long (m_both 2 x y).2)) (mdH h a s) := by
  refine jm_ofE (by decide) rfl (Nat.le_of_ble_eq_true rfl) ?_
  refine jx_iload_n d_Md_both_0 1 rfl ?_
  refine jx_iconst (v0 := 5) d_Md_both_1 (by decide) ?_
  refine jx_icmp_ne (tgt := 19) d_Md_both_2 (by decide) (fun c1 => ?_) (fun c1 => absurd c1 (by decide))
  refine jx_iload_n d_Md_both_19 1 rfl ?_
  refine jx_tableIn (tgt := 60) d_Md_both_20 (by decide) (by decide) (show _ = some 40 from rfl) (by decide) ?_
  refine jx_lload_n d_Md_both_60 2 rfl ?_
  refine jx_lload d_Md_both_61 3 rfl ?_
  refine jx_ladd d_Md_both_63 ?_
  exact jx_lret d_Md_both_64 rfl (⟨rfl, rfl⟩)
set_option maxHeartbeats 4000000 in
set_option maxRecDepth 100000 in
theorem c_Md_both3 (l : Launch) (G : jm_G) (d : Nat) {h : jm_H} {a : Nat} {s : MS} {x y : Int64} (hK : MdK h a) : jm_C l G mm_Md_both d [.ref a, .int 3, .long x, .long y] (mdH h a s) (some (.long (m_both 3 x y).2)) (mdH h a s) := by
  refine jm_ofE (by decide) rfl (Nat.le_of_ble_eq_true rfl) ?_
  refine jx_iload_n d_Md_both_0 1 rfl ?_
  refine jx_iconst (v0 := 5) d_Md_both_1 (by decide) ?_
  refine jx_icmp_ne (tgt := 19) d_Md_both_2 (by decide) (fun c1 => ?_) (fun c1 => absurd c1 (by decide))
  refine jx_iload_n d_Md_both_19 1 rfl ?_
  refine jx_tableIn (tgt := 65) d_Md_both_20 (by decide) (by decide) (show _ = some 45 from rfl) (by decide) ?_
  refine jx_lload_n d_Md_both_65 2 rfl ?_
  refine jx_lload d_Md_both_66 3 rfl ?_
  refine jx_lsub d_Md_both_68 ?_
  exact jx_lret d_Md_both_69 rfl (⟨rfl, rfl⟩)
set_option maxHeartbeats 4000000 in
set_option maxRecDepth 100000 in
theorem c_Md_both4 (l : Launch) (G : jm_G) (d : Nat) {h : jm_H} {a : Nat} {s : MS} {x y : Int64} (hK : MdK h a) : jm_C l G mm_Md_both d [.ref a, .int 4, .long x, .long y] (mdH h a s) (some (.long (m_both 4 x y).2)) (mdH h a s) := by
  refine jm_ofE (by decide) rfl (Nat.le_of_ble_eq_true rfl) ?_
  refine jx_iload_n d_Md_both_0 1 rfl ?_
  refine jx_iconst (v0 := 5) d_Md_both_1 (by decide) ?_
  refine jx_icmp_ne (tgt := 19) d_Md_both_2 (by decide) (fun c1 => ?_) (fun c1 => absurd c1 (by decide))
  refine jx_iload_n d_Md_both_19 1 rfl ?_
  refine jx_tableIn (tgt := 70) d_Md_both_20 (by decide) (by decide) (show _ = some 50 from rfl) (by decide) ?_
  refine jx_lload_n d_Md_both_70 2 rfl ?_
  refine jx_lload d_Md_both_71 3 rfl ?_
  refine jx_lmul d_Md_both_73 ?_
  exact jx_lret d_Md_both_74 rfl (⟨rfl, rfl⟩)
set_option maxHeartbeats 4000000 in
set_option maxRecDepth 100000 in
theorem c_Md_both5 (l : Launch) (G : jm_G) (d : Nat) {h : jm_H} {a : Nat} {s : MS} {x y : Int64} (hK : MdK h a) (hy : ¬ y = 0) : jm_C l G mm_Md_both d [.ref a, .int 5, .long x, .long y] (mdH h a s) (some (.long (m_both 5 x y).2)) (mdH h a s) := by
  refine jm_ofE (by decide) rfl (Nat.le_of_ble_eq_true rfl) ?_
  refine jx_iload_n d_Md_both_0 1 rfl ?_
  refine jx_iconst (v0 := 5) d_Md_both_1 (by decide) ?_
  refine jx_icmp_ne (tgt := 19) d_Md_both_2 (by decide) (fun c1 => absurd c1 (by decide)) (fun c1 => ?_)
  refine jx_lload d_Md_both_5 3 rfl ?_
  refine jx_lconst (v0 := 0) d_Md_both_7 (by decide) ?_
  refine jx_lcmp d_Md_both_8 ?_
  refine jx_if_neL (tgt := 19) d_Md_both_9 (by decide) (fun c2 => ?_) (fun c2 => ?_)
  ·
    refine jx_iload_n d_Md_both_19 1 rfl ?_
    refine jx_tableIn (tgt := 75) d_Md_both_20 (by decide) (by decide) (show _ = some 55 from rfl) (by decide) ?_
    refine jx_lload_n d_Md_both_75 2 rfl ?_
    refine jx_lload d_Md_both_76 3 rfl ?_
    refine jx_ldiv d_Md_both_78 hy ?_
    exact jx_lret d_Md_both_79 rfl (⟨by rw [show m_both 5 x y = (1, x / y) from if_neg hy], rfl⟩)
  · exact absurd c2 hy
set_option maxHeartbeats 4000000 in
set_option maxRecDepth 100000 in
theorem c_Md_both7 (l : Launch) (G : jm_G) (d : Nat) {h : jm_H} {a : Nat} {s : MS} {x y : Int64} (hK : MdK h a) : jm_C l G mm_Md_both d [.ref a, .int 7, .long x, .long y] (mdH h a s) (some (.long (m_both 7 x y).2)) (mdH h a s) := by
  refine jm_ofE (by decide) rfl (Nat.le_of_ble_eq_true rfl) ?_
  refine jx_iload_n d_Md_both_0 1 rfl ?_
  refine jx_iconst (v0 := 5) d_Md_both_1 (by decide) ?_
  refine jx_icmp_ne (tgt := 19) d_Md_both_2 (by decide) (fun c1 => ?_) (fun c1 => absurd c1 (by decide))
  refine jx_iload_n d_Md_both_19 1 rfl ?_
  refine jx_tableIn (tgt := 80) d_Md_both_20 (by decide) (by decide) (show _ = some 60 from rfl) (by decide) ?_
  refine jx_lload_n d_Md_both_80 2 rfl ?_
  refine jx_lload d_Md_both_81 3 rfl ?_
  refine jx_lcmp d_Md_both_83 ?_
  refine jx_if_geL (tgt := 91) d_Md_both_84 (by decide) (fun c2 => ?_) (fun c2 => ?_)
  ·
    refine jx_lload d_Md_both_91 3 rfl ?_
    exact jx_lret d_Md_both_93 rfl (⟨by rw [show m_both 7 x y = (1, y) from congrArg (Prod.mk 1) (mn_le c2)], rfl⟩)
  ·
    refine jx_lload_n d_Md_both_87 2 rfl ?_
    refine jx_goto (tgt := 93) d_Md_both_88 (by decide) ?_
    exact jx_lret d_Md_both_93 rfl (⟨by rw [show m_both 7 x y = (1, x) from congrArg (Prod.mk 1) (if_neg (fun q => Int64.lt_irrefl (Int64.lt_trans q c2)))], rfl⟩)
set_option maxHeartbeats 4000000 in
set_option maxRecDepth 100000 in
theorem c_Md_both8 (l : Launch) (G : jm_G) (d : Nat) {h : jm_H} {a : Nat} {s : MS} {x y : Int64} (hK : MdK h a) : jm_C l G mm_Md_both d [.ref a, .int 8, .long x, .long y] (mdH h a s) (some (.long (m_both 8 x y).2)) (mdH h a s) := by
  refine jm_ofE (by decide) rfl (Nat.le_of_ble_eq_true rfl) ?_
  refine jx_iload_n d_Md_both_0 1 rfl ?_
  refine jx_iconst (v0 := 5) d_Md_both_1 (by decide) ?_
  refine jx_icmp_ne (tgt := 19) d_Md_both_2 (by decide) (fun c1 => ?_) (fun c1 => absurd c1 (by decide))
  refine jx_iload_n d_Md_both_19 1 rfl ?_
  refine jx_tableOut (tgt := 94) d_Md_both_20 (Or.inr (by decide)) (by decide) ?_
  refine jx_lload_n d_Md_both_94 2 rfl ?_
  refine jx_lload d_Md_both_95 3 rfl ?_
  refine jx_lcmp d_Md_both_97 ?_
  refine jx_if_leL (tgt := 105) d_Md_both_98 (by decide) (fun c2 => ?_) (fun c2 => ?_)
  ·
    refine jx_lload d_Md_both_105 3 rfl ?_
    exact jx_lret d_Md_both_107 rfl (⟨by rw [show m_both 8 x y = (1, y) from congrArg (Prod.mk 1) (mx_le c2)], rfl⟩)
  ·
    refine jx_lload_n d_Md_both_101 2 rfl ?_
    refine jx_goto (tgt := 107) d_Md_both_102 (by decide) ?_
    exact jx_lret d_Md_both_107 rfl (⟨by rw [show m_both 8 x y = (1, x) from congrArg (Prod.mk 1) (if_neg (fun q => Int64.lt_irrefl (Int64.lt_trans q c2)))], rfl⟩)
set_option maxHeartbeats 4000000 in
set_option maxRecDepth 100000 in
theorem c_Md_both0 (l : Launch) (G : jm_G) (d : Nat) {h : jm_H} {a : Nat} {s : MS} {x y : Int64} (hK : MdK h a) (hy : y = 0) : jm_C l G mm_Md_both d [.ref a, .int 5, .long x, .long y] (mdH h a s) (some (.long 0)) (mdH h a (mi s 39 2)) := by
  refine jm_ofE (by decide) rfl (Nat.le_of_ble_eq_true rfl) ?_
  refine jx_iload_n d_Md_both_0 1 rfl ?_
  refine jx_iconst (v0 := 5) d_Md_both_1 (by decide) ?_
  refine jx_icmp_ne (tgt := 19) d_Md_both_2 (by decide) (fun c1 => absurd c1 (by decide)) (fun c1 => ?_)
  refine jx_lload d_Md_both_5 3 rfl ?_
  refine jx_lconst (v0 := 0) d_Md_both_7 (by decide) ?_
  refine jx_lcmp d_Md_both_8 ?_
  refine jx_if_neL (tgt := 19) d_Md_both_9 (by decide) (fun c2 => ?_) (fun c2 => ?_)
  · exact absurd hy c2
  ·
    refine jx_aload_n d_Md_both_12 0 rfl ?_
    refine jx_iconst (v0 := 2) d_Md_both_13 (by decide) ?_
    refine jx_put (v0 := .int (2)) d_Md_both_14 fF_Md_231 jv_Md ft_Md_error (md_tg hK) rfl rfl ?_
    refine jx_ath (md_wi (k := 39) rfl) ?_
    refine jx_lconst (v0 := 0) d_Md_both_17 (by decide) ?_
    exact jx_lret d_Md_both_18 rfl (⟨rfl, rfl⟩)
