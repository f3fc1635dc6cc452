set_option maxHeartbeats 4000000 in
set_option maxRecDepth 100000 in
theorem it_leafN (l : Launch) (G : jm_G) {h : jm_H} {a : Nat} {s : MS} {c H i : Nat} {n0 s0 d : Nat} {Post : jm_r → jm_H → Prop} (hd : 1 ≤ d) (hK : MdK h a) (hc : c < 64) (hi : i < 40) (hH6 : H < 63) (hH : s.1 43 = nI (H + 1)) (he : s.1 39 = 0) (hpi : s.2.2.1 26 H = nI i) (hph : s.2.2.1 27 H = nI 0) (hkd : s.2.2.1 9 (40 * c + i) = 0) (kk : jm_X l G mm_Md_work n0 s0 (jm_zn G d n0 s0) Post 15 [(0, .ref a), (1, .int (nI c))] [] (mdH h a (mi (ml (mai s 27 H (nI 1)) 44 (s.2.2.2.1 13 (40 * c + i))) 43 (nI H)))) : jm_X l G mm_Md_work n0 s0 (jm_zn G d n0 s0) Post 15 [(0, .ref a), (1, .int (nI c))] [] (mdH h a s) := by
  refine jx_aload_n d_Md_work_15 0 rfl ?_
  refine jx_get d_Md_work_16 fF_Md_225 (md_tg hK) ((show (mdH h a s).2.2.2 a 43 = Value.int (s.1 43) from md_ri rfl).trans (congrArg Value.int hH)) ?_
  refine jx_if_leN (tgt := 278) (H + 1) d_Md_work_19 rfl (by omega) (by decide) (fun c1 => ?_) (fun c1 => ?_)
  · omega
  ·
    refine jx_aload_n d_Md_work_22 0 rfl ?_
    refine jx_get d_Md_work_23 fF_Md_231 (md_tg hK) ((show (mdH h a s).2.2.2 a 39 = Value.int (s.1 39) from md_ri rfl).trans (congrArg Value.int he)) ?_
    refine jx_if_ne (tgt := 278) d_Md_work_26 (by decide) (fun c2 => absurd c2 (by decide)) (fun c2 => ?_)
    refine jx_bipush (v0 := 40) d_Md_work_29 (by decide) ?_
    refine jx_iload_n d_Md_work_31 1 rfl ?_
    refine jx_imul d_Md_work_32 ?_
    refine jx_ati (pk_mul (40) (c)) ?_
    refine jx_aload_n d_Md_work_33 0 rfl ?_
    refine jx_get d_Md_work_34 fF_Md_87 (md_tg hK) (md_rr hK (k := 40) (j := 26) rfl rfl rfl) ?_
    refine jx_aload_n d_Md_work_37 0 rfl ?_
    refine jx_get d_Md_work_38 fF_Md_225 (md_tg hK) ((show (mdH h a s).2.2.2 a 43 = Value.int (s.1 43) from md_ri rfl).trans (congrArg Value.int hH)) ?_
    refine jx_iconst (v0 := 1) d_Md_work_41 (by decide) ?_
    refine jx_isub d_Md_work_42 ?_
    refine jx_ati (pk_sub (a := H + 1) (b := 1) (by omega)) ?_
    refine jx_iald d_Md_work_43 (md_ta hK (j := 26) rfl) rfl (jm_vinN (show (H + 1) - (1) < 64 by omega) (by decide)) (jm_atN (show (H + 1) - (1) < 2 ^ 31 by omega) ((show (mdH h a s).2.2.2 (a + 26) ((H + 1) - (1)) = Value.int (s.2.2.1 26 ((H + 1) - (1))) from md_rai (j := 26) (show (H + 1) - (1) < 64 by omega)).trans (congrArg Value.int hpi))) ?_
    refine jx_iadd d_Md_work_44 ?_
    refine jx_ati (nI_add ((40) * (c)) (i)) ?_
    refine jx_istore_n (lv' := [(2, .int (nI (((40) * (c)) + (i)))), (0, .ref (a)), (1, .int (nI (c)))]) d_Md_work_45 (by decide) rfl ?_
    refine jx_aload_n d_Md_work_46 1 rfl ?_
    refine jx_get d_Md_work_47 fF_Md_90 (md_tg hK) (md_rr hK (k := 41) (j := 27) rfl rfl rfl) ?_
    refine jx_aload_n d_Md_work_50 1 rfl ?_
    refine jx_get d_Md_work_51 fF_Md_225 (md_tg hK) ((show (mdH h a s).2.2.2 a 43 = Value.int (s.1 43) from md_ri rfl).trans (congrArg Value.int hH)) ?_
    refine jx_iconst (v0 := 1) d_Md_work_54 (by decide) ?_
    refine jx_isub d_Md_work_55 ?_
    refine jx_ati (pk_sub (a := H + 1) (b := 1) (by omega)) ?_
    refine jx_iald d_Md_work_56 (md_ta hK (j := 27) rfl) rfl (jm_vinN (show (H + 1) - (1) < 64 by omega) (by decide)) (jm_atN (show (H + 1) - (1) < 2 ^ 31 by omega) ((show (mdH h a s).2.2.2 (a + 27) ((H + 1) - (1)) = Value.int (s.2.2.1 27 ((H + 1) - (1))) from md_rai (j := 27) (show (H + 1) - (1) < 64 by omega)).trans (congrArg Value.int hph))) ?_
    refine jx_istore_n (lv' := [(3, .int (nI 0)), (2, .int (nI (((40) * (c)) + (i)))), (0, .ref (a)), (1, .int (nI (c)))]) d_Md_work_57 (by decide) rfl ?_
    refine jx_aload_n d_Md_work_58 2 rfl ?_
    refine jx_get d_Md_work_59 fF_Md_90 (md_tg hK) (md_rr hK (k := 41) (j := 27) rfl rfl rfl) ?_
    refine jx_aload_n d_Md_work_62 2 rfl ?_
    refine jx_get d_Md_work_63 fF_Md_225 (md_tg hK) ((show (mdH h a s).2.2.2 a 43 = Value.int (s.1 43) from md_ri rfl).trans (congrArg Value.int hH)) ?_
    refine jx_iconst (v0 := 1) d_Md_work_66 (by decide) ?_
    refine jx_isub d_Md_work_67 ?_
    refine jx_ati (pk_sub (a := H + 1) (b := 1) (by omega)) ?_
    refine jx_dup2_11 d_Md_work_68 rfl rfl ?_
    refine jx_iald d_Md_work_69 (md_ta hK (j := 27) rfl) rfl (jm_vinN (show (H + 1) - (1) < 64 by omega) (by decide)) (jm_atN (show (H + 1) - (1) < 2 ^ 31 by omega) ((show (mdH h a s).2.2.2 (a + 27) ((H + 1) - (1)) = Value.int (s.2.2.1 27 ((H + 1) - (1))) from md_rai (j := 27) (show (H + 1) - (1) < 64 by omega)).trans (congrArg Value.int hph))) ?_
    refine jx_iconst (v0 := 1) d_Md_work_70 (by decide) ?_
    refine jx_iadd d_Md_work_71 ?_
    refine jx_ati (nI_add (0) (1)) ?_
    refine jx_iast d_Md_work_72 (md_ta hK (j := 27) rfl) rfl (jm_vinN (show (H + 1) - (1) < 64 by omega) (by decide)) ?_
    refine jx_ath ((jm_putN (show (H + 1) - (1) < 2 ^ 31 by omega)).trans (md_wai (j := 27) (show (H + 1) - (1) < 64 by omega))) ?_
    refine jx_aload_n d_Md_work_73 2 rfl ?_
    refine jx_get d_Md_work_74 fF_Md_36 (md_tg hK) (md_rr hK (k := 12) (j := 9) rfl rfl rfl) ?_
    refine jx_iload_n d_Md_work_77 1 rfl ?_
    refine jx_iald d_Md_work_78 (md_ta hK (j := 9) rfl) rfl (jm_vinN (show ((40) * (c)) + (i) < 2560 by omega) (by decide)) (jm_atN (show ((40) * (c)) + (i) < 2 ^ 31 by omega) ((show (mdH h a (mai s 27 ((H + 1) - (1)) (nI ((0) + (1))))).2.2.2 (a + 9) (((40) * (c)) + (i)) = Value.int (s.2.2.1 9 (((40) * (c)) + (i))) from md_rai (j := 9) (show ((40) * (c)) + (i) < 2560 by omega)).trans (congrArg Value.int hkd))) ?_
    refine jx_iconst (v0 := 1) d_Md_work_79 (by decide) ?_
    refine jx_icmp_gt (tgt := 101) d_Md_work_80 (by decide) (fun c3 => absurd c3 (by decide)) (fun c3 => ?_)
    refine jx_aload_n d_Md_work_83 2 rfl ?_
    refine jx_iload_n d_Md_work_84 1 rfl ?_
    refine jx_callV (M2 := mm_Md_leaf) rfl (md_tg hK) lk_Md_234 wi_Md_leaf ws_Md_leaf d_Md_work_85 (c_Md_leafN l G (d - 1) (s := (mai s 27 ((H + 1) - (1)) (nI ((0) + (1))))) (q := ((40) * (c)) + (i)) hK (by omega) hkd) cd_Md_leaf rfl rfl (Nat.le_of_ble_eq_true rfl) (jm_fok (by omega)) (jm_look (by decide) (by omega)) ?_
    refine jx_aload_n d_Md_work_88 2 rfl ?_
    refine jx_dup d_Md_work_89 rfl ?_
    refine jx_get d_Md_work_90 fF_Md_225 (md_tg hK) ((show (mdH h a (ml (mai s 27 ((H + 1) - (1)) (nI ((0) + (1)))) 44 (s.2.2.2.1 13 (40 * c + i)))).2.2.2 a 43 = Value.int ((ml (mai s 27 ((H + 1) - (1)) (nI ((0) + (1)))) 44 (s.2.2.2.1 13 (40 * c + i))).1 43) from md_ri rfl).trans (congrArg Value.int hH)) ?_
    refine jx_iconst (v0 := 1) d_Md_work_93 (by decide) ?_
    refine jx_isub d_Md_work_94 ?_
    refine jx_ati (pk_sub (a := H + 1) (b := 1) (by omega)) ?_
    refine jx_put (v0 := .int (nI ((H + 1) - (1)))) d_Md_work_95 fF_Md_225 jv_Md ft_Md_high (md_tg hK) rfl rfl ?_
    refine jx_ath (md_wi (k := 43) rfl) ?_
    refine jx_goto (tgt := 275) d_Md_work_98 (by decide) ?_
    refine jx_goto (tgt := 15) d_Md_work_275 (by decide) ?_
    refine jx_lv [2, 3] rfl ?_
    exact kk
theorem m_cell_k {s s' : MS} (h2 : s'.2.2.2.2 2 = s.2.2.2.2 2) (h3 : s'.2.2.2.1 3 = s.2.2.2.1 3) (u : Int64) : m_cell s' u = m_cell s u := by
  unfold m_cell
  congr 1
  funext c
  unfold mcf tM nM
  rw [h2, h3]
theorem m_res_k {s s' : MS} (h2 : s'.2.2.2.2 2 = s.2.2.2.2 2) (h3 : s'.2.2.2.1 3 = s.2.2.2.1 3) (h4 : s'.2.2.1 4 = s.2.2.1 4) (h5 : s'.2.2.2.1 5 = s.2.2.2.1 5) (u : Int64) : m_res s' u = m_res s u := by
  unfold m_res
  rw [m_cell_k h2 h3, h4, h5]
theorem m_res_mai {s : MS} {H : Nat} {v : Int32} {u : Int64} : m_res (mai s 27 H v) u = m_res s u := m_res_k rfl rfl rfl rfl u
set_option maxHeartbeats 4000000 in
set_option maxRecDepth 100000 in
theorem it_leafM (l : Launch) (G : jm_G) {h : jm_H} {a : Nat} {s : MS} {c H i : Nat} {n0 s0 d : Nat} {Post : jm_r → jm_H → Prop} (hd : 3 ≤ d) (hK : MdK h a) (hc : c < 64) (hi : i < 40) (hH6 : H < 63) (hH : s.1 43 = nI (H + 1)) (he : s.1 39 = 0) (hpi : s.2.2.1 26 H = nI i) (hph : s.2.2.1 27 H = nI 0) (hkd : s.2.2.1 9 (40 * c + i) = 1) (kk : jm_X l G mm_Md_work n0 s0 (jm_zn G d n0 s0) Post 15 [(0, .ref a), (1, .int (nI c))] [] (mdH h a (mi (ml (mi (mai s 27 H (nI 1)) 39 (if (m_res s (s.2.2.2.1 13 (40 * c + i))).1 = 1 then 0 else 3)) 44 (m_res s (s.2.2.2.1 13 (40 * c + i))).2) 43 (nI H)))) : jm_X l G mm_Md_work n0 s0 (jm_zn G d n0 s0) Post 15 [(0, .ref a), (1, .int (nI c))] [] (mdH h a s) := by
  refine jx_aload_n d_Md_work_15 0 rfl ?_
  refine jx_get d_Md_work_16 fF_Md_225 (md_tg hK) ((show (mdH h a s).2.2.2 a 43 = Value.int (s.1 43) from md_ri rfl).trans (congrArg Value.int hH)) ?_
  refine jx_if_leN (tgt := 278) (H + 1) d_Md_work_19 rfl (by omega) (by decide) (fun c1 => ?_) (fun c1 => ?_)
  · omega
  ·
    refine jx_aload_n d_Md_work_22 0 rfl ?_
    refine jx_get d_Md_work_23 fF_Md_231 (md_tg hK) ((show (mdH h a s).2.2.2 a 39 = Value.int (s.1 39) from md_ri rfl).trans (congrArg Value.int he)) ?_
    refine jx_if_ne (tgt := 278) d_Md_work_26 (by decide) (fun c2 => absurd c2 (by decide)) (fun c2 => ?_)
    refine jx_bipush (v0 := 40) d_Md_work_29 (by decide) ?_
    refine jx_iload_n d_Md_work_31 1 rfl ?_
    refine jx_imul d_Md_work_32 ?_
    refine jx_ati (pk_mul (40) (c)) ?_
    refine jx_aload_n d_Md_work_33 0 rfl ?_
    refine jx_get d_Md_work_34 fF_Md_87 (md_tg hK) (md_rr hK (k := 40) (j := 26) rfl rfl rfl) ?_
    refine jx_aload_n d_Md_work_37 0 rfl ?_
    refine jx_get d_Md_work_38 fF_Md_225 (md_tg hK) ((show (mdH h a s).2.2.2 a 43 = Value.int (s.1 43) from md_ri rfl).trans (congrArg Value.int hH)) ?_
    refine jx_iconst (v0 := 1) d_Md_work_41 (by decide) ?_
    refine jx_isub d_Md_work_42 ?_
    refine jx_ati (pk_sub (a := H + 1) (b := 1) (by omega)) ?_
    refine jx_iald d_Md_work_43 (md_ta hK (j := 26) rfl) rfl (jm_vinN (show (H + 1) - (1) < 64 by omega) (by decide)) (jm_atN (show (H + 1) - (1) < 2 ^ 31 by omega) ((show (mdH h a s).2.2.2 (a + 26) ((H + 1) - (1)) = Value.int (s.2.2.1 26 ((H + 1) - (1))) from md_rai (j := 26) (show (H + 1) - (1) < 64 by omega)).trans (congrArg Value.int hpi))) ?_
    refine jx_iadd d_Md_work_44 ?_
    refine jx_ati (nI_add ((40) * (c)) (i)) ?_
    refine jx_istore_n (lv' := [(2, .int (nI (((40) * (c)) + (i)))), (0, .ref (a)), (1, .int (nI (c)))]) d_Md_work_45 (by decide) rfl ?_
    refine jx_aload_n d_Md_work_46 1 rfl ?_
    refine jx_get d_Md_work_47 fF_Md_90 (md_tg hK) (md_rr hK (k := 41) (j := 27) rfl rfl rfl) ?_
    refine jx_aload_n d_Md_work_50 1 rfl ?_
    refine jx_get d_Md_work_51 fF_Md_225 (md_tg hK) ((show (mdH h a s).2.2.2 a 43 = Value.int (s.1 43) from md_ri rfl).trans (congrArg Value.int hH)) ?_
    refine jx_iconst (v0 := 1) d_Md_work_54 (by decide) ?_
    refine jx_isub d_Md_work_55 ?_
    refine jx_ati (pk_sub (a := H + 1) (b := 1) (by omega)) ?_
    refine jx_iald d_Md_work_56 (md_ta hK (j := 27) rfl) rfl (jm_vinN (show (H + 1) - (1) < 64 by omega) (by decide)) (jm_atN (show (H + 1) - (1) < 2 ^ 31 by omega) ((show (mdH h a s).2.2.2 (a + 27) ((H + 1) - (1)) = Value.int (s.2.2.1 27 ((H + 1) - (1))) from md_rai (j := 27) (show (H + 1) - (1) < 64 by omega)).trans (congrArg Value.int hph))) ?_
    refine jx_istore_n (lv' := [(3, .int (nI 0)), (2, .int (nI (((40) * (c)) + (i)))), (0, .ref (a)), (1, .int (nI (c)))]) d_Md_work_57 (by decide) rfl ?_
    refine jx_aload_n d_Md_work_58 2 rfl ?_
    refine jx_get d_Md_work_59 fF_Md_90 (md_tg hK) (md_rr hK (k := 41) (j := 27) rfl rfl rfl) ?_
    refine jx_aload_n d_Md_work_62 2 rfl ?_
    refine jx_get d_Md_work_63 fF_Md_225 (md_tg hK) ((show (mdH h a s).2.2.2 a 43 = Value.int (s.1 43) from md_ri rfl).trans (congrArg Value.int hH)) ?_
    refine jx_iconst (v0 := 1) d_Md_work_66 (by decide) ?_
    refine jx_isub d_Md_work_67 ?_
    refine jx_ati (pk_sub (a := H + 1) (b := 1) (by omega)) ?_
    refine jx_dup2_11 d_Md_work_68 rfl rfl ?_
    refine jx_iald d_Md_work_69 (md_ta hK (j := 27) rfl) rfl (jm_vinN (show (H + 1) - (1) < 64 by omega) (by decide)) (jm_atN (show (H + 1) - (1) < 2 ^ 31 by omega) ((show (mdH h a s).2.2.2 (a + 27) ((H + 1) - (1)) = Value.int (s.2.2.1 27 ((H + 1) - (1))) from md_rai (j := 27) (show (H + 1) - (1) < 64 by omega)).trans (congrArg Value.int hph))) ?_
    refine jx_iconst (v0 := 1) d_Md_work_70 (by decide) ?_
    refine jx_iadd d_Md_work_71 ?_
    refine jx_ati (nI_add (0) (1)) ?_
    refine jx_iast d_Md_work_72 (md_ta hK (j := 27) rfl) rfl (jm_vinN (show (H + 1) - (1) < 64 by omega) (by decide)) ?_
    refine jx_ath ((jm_putN (show (H + 1) - (1) < 2 ^ 31 by omega)).trans (md_wai (j := 27) (show (H + 1) - (1) < 64 by omega))) ?_
    refine jx_aload_n d_Md_work_73 2 rfl ?_
    refine jx_get d_Md_work_74 fF_Md_36 (md_tg hK) (md_rr hK (k := 12) (j := 9) rfl rfl rfl) ?_
    refine jx_iload_n d_Md_work_77 1 rfl ?_
    refine jx_iald d_Md_work_78 (md_ta hK (j := 9) rfl) rfl (jm_vinN (show ((40) * (c)) + (i) < 2560 by omega) (by decide)) (jm_atN (show ((40) * (c)) + (i) < 2 ^ 31 by omega) ((show (mdH h a (mai s 27 ((H + 1) - (1)) (nI ((0) + (1))))).2.2.2 (a + 9) (((40) * (c)) + (i)) = Value.int (s.2.2.1 9 (((40) * (c)) + (i))) from md_rai (j := 9) (show ((40) * (c)) + (i) < 2560 by omega)).trans (congrArg Value.int hkd))) ?_
    refine jx_iconst (v0 := 1) d_Md_work_79 (by decide) ?_
    refine jx_icmp_gt (tgt := 101) d_Md_work_80 (by decide) (fun c3 => absurd c3 (by decide)) (fun c3 => ?_)
    refine jx_aload_n d_Md_work_83 2 rfl ?_
    refine jx_iload_n d_Md_work_84 1 rfl ?_
    have hlf := c_Md_leafM l G (d - 1) (by omega) (h := h) (a := a) (s := (mai s 27 ((H + 1) - (1)) (nI ((0) + (1))))) (q := ((40) * (c)) + (i)) hK (by omega) hkd
    rw [show m_res (mai s 27 ((H + 1) - (1)) (nI ((0) + (1)))) (((mai s 27 ((H + 1) - (1)) (nI ((0) + (1))))).2.2.2.1 13 (((40) * (c)) + (i))) = m_res s (s.2.2.2.1 13 (40 * c + i)) from m_res_mai] at hlf
    refine jx_callV (M2 := mm_Md_leaf) rfl (md_tg hK) lk_Md_234 wi_Md_leaf ws_Md_leaf d_Md_work_85 hlf cd_Md_leaf rfl rfl (Nat.le_of_ble_eq_true rfl) (jm_fok (by omega)) (jm_look (by decide) (by omega)) ?_
    refine jx_aload_n d_Md_work_88 2 rfl ?_
    refine jx_dup d_Md_work_89 rfl ?_
    refine jx_get d_Md_work_90 fF_Md_225 (md_tg hK) ((show (mdH h a (ml (mi (mai s 27 ((H + 1) - (1)) (nI ((0) + (1)))) 39 (if (m_res s (s.2.2.2.1 13 (40 * c + i))).1 = 1 then 0 else 3)) 44 (m_res s (s.2.2.2.1 13 (40 * c + i))).2)).2.2.2 a 43 = Value.int ((ml (mi (mai s 27 ((H + 1) - (1)) (nI ((0) + (1)))) 39 (if (m_res s (s.2.2.2.1 13 (40 * c + i))).1 = 1 then 0 else 3)) 44 (m_res s (s.2.2.2.1 13 (40 * c + i))).2).1 43) from md_ri rfl).trans (congrArg Value.int hH)) ?_
    refine jx_iconst (v0 := 1) d_Md_work_93 (by decide) ?_
    refine jx_isub d_Md_work_94 ?_
    refine jx_ati (pk_sub (a := H + 1) (b := 1) (by omega)) ?_
    refine jx_put (v0 := .int (nI ((H + 1) - (1)))) d_Md_work_95 fF_Md_225 jv_Md ft_Md_high (md_tg hK) rfl rfl ?_
    refine jx_ath (md_wi (k := 43) rfl) ?_
    refine jx_goto (tgt := 275) d_Md_work_98 (by decide) ?_
    refine jx_goto (tgt := 15) d_Md_work_275 (by decide) ?_
    refine jx_lv [2, 3] rfl ?_
    exact kk
set_option maxHeartbeats 4000000 in
set_option maxRecDepth 100000 in
theorem it_one (l : Launch) (G : jm_G) {h : jm_H} {a : Nat} {s : MS} {c H i : Nat} {n0 s0 d : Nat} {Post : jm_r → jm_H → Prop} (hd : 1 ≤ d) (hK : MdK h a) (hc : c < 64) (hi : i < 40) (hH6 : H < 63) (hH : s.1 43 = nI (H + 1)) (he : s.1 39 = 0) (hpi : s.2.2.1 26 H = nI i) {kd : Nat} (hph : s.2.2.1 27 H = nI 0) (hkd : s.2.2.1 9 (40 * c + i) = nI kd) (h2 : 2 ≤ kd) (h9 : kd ≤ 9) (kk : jm_X l G mm_Md_work n0 s0 (jm_zn G d n0 s0) Post 15 [(0, .ref a), (1, .int (nI c))] [] (mdH h a (m_psh (mai s 27 H (nI 1)) (H + 1) (s.2.2.1 10 (40 * c + i))))) : jm_X l G mm_Md_work n0 s0 (jm_zn G d n0 s0) Post 15 [(0, .ref a), (1, .int (nI c))] [] (mdH h a s) := by
  refine jx_aload_n d_Md_work_15 0 rfl ?_
  refine jx_get d_Md_work_16 fF_Md_225 (md_tg hK) ((show (mdH h a s).2.2.2 a 43 = Value.int (s.1 43) from md_ri rfl).trans (congrArg Value.int hH)) ?_
  refine jx_if_leN (tgt := 278) (H + 1) d_Md_work_19 rfl (by omega) (by decide) (fun c1 => ?_) (fun c1 => ?_)
  · omega
  ·
    refine jx_aload_n d_Md_work_22 0 rfl ?_
    refine jx_get d_Md_work_23 fF_Md_231 (md_tg hK) ((show (mdH h a s).2.2.2 a 39 = Value.int (s.1 39) from md_ri rfl).trans (congrArg Value.int he)) ?_
    refine jx_if_ne (tgt := 278) d_Md_work_26 (by decide) (fun c2 => absurd c2 (by decide)) (fun c2 => ?_)
    refine jx_bipush (v0 := 40) d_Md_work_29 (by decide) ?_
    refine jx_iload_n d_Md_work_31 1 rfl ?_
    refine jx_imul d_Md_work_32 ?_
    refine jx_ati (pk_mul (40) (c)) ?_
    refine jx_aload_n d_Md_work_33 0 rfl ?_
    refine jx_get d_Md_work_34 fF_Md_87 (md_tg hK) (md_rr hK (k := 40) (j := 26) rfl rfl rfl) ?_
    refine jx_aload_n d_Md_work_37 0 rfl ?_
    refine jx_get d_Md_work_38 fF_Md_225 (md_tg hK) ((show (mdH h a s).2.2.2 a 43 = Value.int (s.1 43) from md_ri rfl).trans (congrArg Value.int hH)) ?_
    refine jx_iconst (v0 := 1) d_Md_work_41 (by decide) ?_
    refine jx_isub d_Md_work_42 ?_
    refine jx_ati (pk_sub (a := H + 1) (b := 1) (by omega)) ?_
    refine jx_iald d_Md_work_43 (md_ta hK (j := 26) rfl) rfl (jm_vinN (show (H + 1) - (1) < 64 by omega) (by decide)) (jm_atN (show (H + 1) - (1) < 2 ^ 31 by omega) ((show (mdH h a s).2.2.2 (a + 26) ((H + 1) - (1)) = Value.int (s.2.2.1 26 ((H + 1) - (1))) from md_rai (j := 26) (show (H + 1) - (1) < 64 by omega)).trans (congrArg Value.int hpi))) ?_
    refine jx_iadd d_Md_work_44 ?_
    refine jx_ati (nI_add ((40) * (c)) (i)) ?_
    refine jx_istore_n (lv' := [(2, .int (nI (((40) * (c)) + (i)))), (0, .ref (a)), (1, .int (nI (c)))]) d_Md_work_45 (by decide) rfl ?_
    refine jx_aload_n d_Md_work_46 1 rfl ?_
    refine jx_get d_Md_work_47 fF_Md_90 (md_tg hK) (md_rr hK (k := 41) (j := 27) rfl rfl rfl) ?_
    refine jx_aload_n d_Md_work_50 1 rfl ?_
    refine jx_get d_Md_work_51 fF_Md_225 (md_tg hK) ((show (mdH h a s).2.2.2 a 43 = Value.int (s.1 43) from md_ri rfl).trans (congrArg Value.int hH)) ?_
    refine jx_iconst (v0 := 1) d_Md_work_54 (by decide) ?_
    refine jx_isub d_Md_work_55 ?_
    refine jx_ati (pk_sub (a := H + 1) (b := 1) (by omega)) ?_
    refine jx_iald d_Md_work_56 (md_ta hK (j := 27) rfl) rfl (jm_vinN (show (H + 1) - (1) < 64 by omega) (by decide)) (jm_atN (show (H + 1) - (1) < 2 ^ 31 by omega) ((show (mdH h a s).2.2.2 (a + 27) ((H + 1) - (1)) = Value.int (s.2.2.1 27 ((H + 1) - (1))) from md_rai (j := 27) (show (H + 1) - (1) < 64 by omega)).trans (congrArg Value.int hph))) ?_
    refine jx_istore_n (lv' := [(3, .int (nI 0)), (2, .int (nI (((40) * (c)) + (i)))), (0, .ref (a)), (1, .int (nI (c)))]) d_Md_work_57 (by decide) rfl ?_
    refine jx_aload_n d_Md_work_58 2 rfl ?_
    refine jx_get d_Md_work_59 fF_Md_90 (md_tg hK) (md_rr hK (k := 41) (j := 27) rfl rfl rfl) ?_
    refine jx_aload_n d_Md_work_62 2 rfl ?_
    refine jx_get d_Md_work_63 fF_Md_225 (md_tg hK) ((show (mdH h a s).2.2.2 a 43 = Value.int (s.1 43) from md_ri rfl).trans (congrArg Value.int hH)) ?_
    refine jx_iconst (v0 := 1) d_Md_work_66 (by decide) ?_
    refine jx_isub d_Md_work_67 ?_
    refine jx_ati (pk_sub (a := H + 1) (b := 1) (by omega)) ?_
    refine jx_dup2_11 d_Md_work_68 rfl rfl ?_
    refine jx_iald d_Md_work_69 (md_ta hK (j := 27) rfl) rfl (jm_vinN (show (H + 1) - (1) < 64 by omega) (by decide)) (jm_atN (show (H + 1) - (1) < 2 ^ 31 by omega) ((show (mdH h a s).2.2.2 (a + 27) ((H + 1) - (1)) = Value.int (s.2.2.1 27 ((H + 1) - (1))) from md_rai (j := 27) (show (H + 1) - (1) < 64 by omega)).trans (congrArg Value.int hph))) ?_
    refine jx_iconst (v0 := 1) d_Md_work_70 (by decide) ?_
    refine jx_iadd d_Md_work_71 ?_
    refine jx_ati (nI_add (0) (1)) ?_
    refine jx_iast d_Md_work_72 (md_ta hK (j := 27) rfl) rfl (jm_vinN (show (H + 1) - (1) < 64 by omega) (by decide)) ?_
    refine jx_ath ((jm_putN (show (H + 1) - (1) < 2 ^ 31 by omega)).trans (md_wai (j := 27) (show (H + 1) - (1) < 64 by omega))) ?_
    refine jx_aload_n d_Md_work_73 2 rfl ?_
    refine jx_get d_Md_work_74 fF_Md_36 (md_tg hK) (md_rr hK (k := 12) (j := 9) rfl rfl rfl) ?_
    refine jx_iload_n d_Md_work_77 1 rfl ?_
    refine jx_iald d_Md_work_78 (md_ta hK (j := 9) rfl) rfl (jm_vinN (show ((40) * (c)) + (i) < 2560 by omega) (by decide)) (jm_atN (show ((40) * (c)) + (i) < 2 ^ 31 by omega) ((show (mdH h a (mai s 27 ((H + 1) - (1)) (nI ((0) + (1))))).2.2.2 (a + 9) (((40) * (c)) + (i)) = Value.int (s.2.2.1 9 (((40) * (c)) + (i))) from md_rai (j := 9) (show ((40) * (c)) + (i) < 2560 by omega)).trans (congrArg Value.int hkd))) ?_
    refine jx_iconst (v0 := 1) d_Md_work_79 (by decide) ?_
    refine jx_icmp_gtN (tgt := 101) (kd) (1) d_Md_work_80 rfl rfl (by omega) (by omega) (by decide) (fun c3 => ?_) (fun c3 => ?_)
    ·
      refine jx_iload_n d_Md_work_101 0 rfl ?_
      refine jx_if_ne (tgt := 118) d_Md_work_102 (by decide) (fun c4 => absurd c4 (by decide)) (fun c4 => ?_)
      refine jx_aload_n d_Md_work_105 2 rfl ?_
      refine jx_aload_n d_Md_work_106 2 rfl ?_
      refine jx_get d_Md_work_107 fF_Md_39 (md_tg hK) (md_rr hK (k := 13) (j := 10) rfl rfl rfl) ?_
      refine jx_iload_n d_Md_work_110 1 rfl ?_
      refine jx_iald d_Md_work_111 (md_ta hK (j := 10) rfl) rfl (jm_vinN (show ((40) * (c)) + (i) < 2560 by omega) (by decide)) (jm_atN (show ((40) * (c)) + (i) < 2 ^ 31 by omega) (show (mdH h a (mai s 27 ((H + 1) - (1)) (nI ((0) + (1))))).2.2.2 (a + 10) (((40) * (c)) + (i)) = Value.int (s.2.2.1 10 (((40) * (c)) + (i))) from md_rai (j := 10) (show ((40) * (c)) + (i) < 2560 by omega))) ?_
      refine jx_callV (M2 := mm_Md_push) rfl (md_tg hK) lk_Md_228 wi_Md_push ws_Md_push d_Md_work_112 (c_Md_push l G (d - 1) (s := (mai s 27 ((H + 1) - (1)) (nI ((0) + (1))))) (H := H + 1) (nd := s.2.2.1 10 (((40) * (c)) + (i))) hK hH (by omega)) cd_Md_push rfl rfl (Nat.le_of_ble_eq_true rfl) (jm_fok (by omega)) (jm_look (by decide) (by omega)) ?_
      refine jx_goto (tgt := 275) d_Md_work_115 (by decide) ?_
      refine jx_goto (tgt := 15) d_Md_work_275 (by decide) ?_
      refine jx_lv [2, 3] rfl ?_
      exact kk
    · omega
set_option maxHeartbeats 4000000 in
set_option maxRecDepth 100000 in
theorem it_less (l : Launch) (G : jm_G) {h : jm_H} {a : Nat} {s : MS} {c H i : Nat} {n0 s0 d : Nat} {Post : jm_r → jm_H → Prop} (hd : 1 ≤ d) (hK : MdK h a) (hc : c < 64) (hi : i < 40) (hH6 : H < 63) (hH : s.1 43 = nI (H + 1)) (he : s.1 39 = 0) (hpi : s.2.2.1 26 H = nI i) (hph : s.2.2.1 27 H = nI 1) (hkd : s.2.2.1 9 (40 * c + i) = 6) (kk : jm_X l G mm_Md_work n0 s0 (jm_zn G d n0 s0) Post 15 [(0, .ref a), (1, .int (nI c))] [] (mdH h a (mi (ml (mai s 27 H (nI 2)) 44 (-s.2.1 44)) 43 (nI H)))) : jm_X l G mm_Md_work n0 s0 (jm_zn G d n0 s0) Post 15 [(0, .ref a), (1, .int (nI c))] [] (mdH h a s) := by
  refine jx_aload_n d_Md_work_15 0 rfl ?_
  refine jx_get d_Md_work_16 fF_Md_225 (md_tg hK) ((show (mdH h a s).2.2.2 a 43 = Value.int (s.1 43) from md_ri rfl).trans (congrArg Value.int hH)) ?_
  refine jx_if_leN (tgt := 278) (H + 1) d_Md_work_19 rfl (by omega) (by decide) (fun c1 => ?_) (fun c1 => ?_)
  · omega
  ·
    refine jx_aload_n d_Md_work_22 0 rfl ?_
    refine jx_get d_Md_work_23 fF_Md_231 (md_tg hK) ((show (mdH h a s).2.2.2 a 39 = Value.int (s.1 39) from md_ri rfl).trans (congrArg Value.int he)) ?_
    refine jx_if_ne (tgt := 278) d_Md_work_26 (by decide) (fun c2 => absurd c2 (by decide)) (fun c2 => ?_)
    refine jx_bipush (v0 := 40) d_Md_work_29 (by decide) ?_
    refine jx_iload_n d_Md_work_31 1 rfl ?_
    refine jx_imul d_Md_work_32 ?_
    refine jx_ati (pk_mul (40) (c)) ?_
    refine jx_aload_n d_Md_work_33 0 rfl ?_
    refine jx_get d_Md_work_34 fF_Md_87 (md_tg hK) (md_rr hK (k := 40) (j := 26) rfl rfl rfl) ?_
    refine jx_aload_n d_Md_work_37 0 rfl ?_
    refine jx_get d_Md_work_38 fF_Md_225 (md_tg hK) ((show (mdH h a s).2.2.2 a 43 = Value.int (s.1 43) from md_ri rfl).trans (congrArg Value.int hH)) ?_
    refine jx_iconst (v0 := 1) d_Md_work_41 (by decide) ?_
    refine jx_isub d_Md_work_42 ?_
    refine jx_ati (pk_sub (a := H + 1) (b := 1) (by omega)) ?_
    refine jx_iald d_Md_work_43 (md_ta hK (j := 26) rfl) rfl (jm_vinN (show (H + 1) - (1) < 64 by omega) (by decide)) (jm_atN (show (H + 1) - (1) < 2 ^ 31 by omega) ((show (mdH h a s).2.2.2 (a + 26) ((H + 1) - (1)) = Value.int (s.2.2.1 26 ((H + 1) - (1))) from md_rai (j := 26) (show (H + 1) - (1) < 64 by omega)).trans (congrArg Value.int hpi))) ?_
    refine jx_iadd d_Md_work_44 ?_
    refine jx_ati (nI_add ((40) * (c)) (i)) ?_
    refine jx_istore_n (lv' := [(2, .int (nI (((40) * (c)) + (i)))), (0, .ref (a)), (1, .int (nI (c)))]) d_Md_work_45 (by decide) rfl ?_
    refine jx_aload_n d_Md_work_46 1 rfl ?_
    refine jx_get d_Md_work_47 fF_Md_90 (md_tg hK) (md_rr hK (k := 41) (j := 27) rfl rfl rfl) ?_
    refine jx_aload_n d_Md_work_50 1 rfl ?_
    refine jx_get d_Md_work_51 fF_Md_225 (md_tg hK) ((show (mdH h a s).2.2.2 a 43 = Value.int (s.1 43) from md_ri rfl).trans (congrArg Value.int hH)) ?_
    refine jx_iconst (v0 := 1) d_Md_work_54 (by decide) ?_
    refine jx_isub d_Md_work_55 ?_
    refine jx_ati (pk_sub (a := H + 1) (b := 1) (by omega)) ?_
    refine jx_iald d_Md_work_56 (md_ta hK (j := 27) rfl) rfl (jm_vinN (show (H + 1) - (1) < 64 by omega) (by decide)) (jm_atN (show (H + 1) - (1) < 2 ^ 31 by omega) ((show (mdH h a s).2.2.2 (a + 27) ((H + 1) - (1)) = Value.int (s.2.2.1 27 ((H + 1) - (1))) from md_rai (j := 27) (show (H + 1) - (1) < 64 by omega)).trans (congrArg Value.int hph))) ?_
    refine jx_istore_n (lv' := [(3, .int (nI 1)), (2, .int (nI (((40) * (c)) + (i)))), (0, .ref (a)), (1, .int (nI (c)))]) d_Md_work_57 (by decide) rfl ?_
    refine jx_aload_n d_Md_work_58 2 rfl ?_
    refine jx_get d_Md_work_59 fF_Md_90 (md_tg hK) (md_rr hK (k := 41) (j := 27) rfl rfl rfl) ?_
    refine jx_aload_n d_Md_work_62 2 rfl ?_
    refine jx_get d_Md_work_63 fF_Md_225 (md_tg hK) ((show (mdH h a s).2.2.2 a 43 = Value.int (s.1 43) from md_ri rfl).trans (congrArg Value.int hH)) ?_
    refine jx_iconst (v0 := 1) d_Md_work_66 (by decide) ?_
    refine jx_isub d_Md_work_67 ?_
    refine jx_ati (pk_sub (a := H + 1) (b := 1) (by omega)) ?_
    refine jx_dup2_11 d_Md_work_68 rfl rfl ?_
    refine jx_iald d_Md_work_69 (md_ta hK (j := 27) rfl) rfl (jm_vinN (show (H + 1) - (1) < 64 by omega) (by decide)) (jm_atN (show (H + 1) - (1) < 2 ^ 31 by omega) ((show (mdH h a s).2.2.2 (a + 27) ((H + 1) - (1)) = Value.int (s.2.2.1 27 ((H + 1) - (1))) from md_rai (j := 27) (show (H + 1) - (1) < 64 by omega)).trans (congrArg Value.int hph))) ?_
    refine jx_iconst (v0 := 1) d_Md_work_70 (by decide) ?_
    refine jx_iadd d_Md_work_71 ?_
    refine jx_ati (nI_add (1) (1)) ?_
    refine jx_iast d_Md_work_72 (md_ta hK (j := 27) rfl) rfl (jm_vinN (show (H + 1) - (1) < 64 by omega) (by decide)) ?_
    refine jx_ath ((jm_putN (show (H + 1) - (1) < 2 ^ 31 by omega)).trans (md_wai (j := 27) (show (H + 1) - (1) < 64 by omega))) ?_
    refine jx_aload_n d_Md_work_73 2 rfl ?_
    refine jx_get d_Md_work_74 fF_Md_36 (md_tg hK) (md_rr hK (k := 12) (j := 9) rfl rfl rfl) ?_
    refine jx_iload_n d_Md_work_77 1 rfl ?_
    refine jx_iald d_Md_work_78 (md_ta hK (j := 9) rfl) rfl (jm_vinN (show ((40) * (c)) + (i) < 2560 by omega) (by decide)) (jm_atN (show ((40) * (c)) + (i) < 2 ^ 31 by omega) ((show (mdH h a (mai s 27 ((H + 1) - (1)) (nI ((1) + (1))))).2.2.2 (a + 9) (((40) * (c)) + (i)) = Value.int (s.2.2.1 9 (((40) * (c)) + (i))) from md_rai (j := 9) (show ((40) * (c)) + (i) < 2560 by omega)).trans (congrArg Value.int hkd))) ?_
    refine jx_iconst (v0 := 1) d_Md_work_79 (by decide) ?_
    refine jx_icmp_gt (tgt := 101) d_Md_work_80 (by decide) (fun c3 => ?_) (fun c3 => absurd c3 (by decide))
    refine jx_iload_n d_Md_work_101 0 rfl ?_
    refine jx_if_ne (tgt := 118) d_Md_work_102 (by decide) (fun c4 => ?_) (fun c4 => absurd c4 (by decide))
    refine jx_iload_n d_Md_work_118 0 rfl ?_
    refine jx_iconst (v0 := 1) d_Md_work_119 (by decide) ?_
    refine jx_icmp_ne (tgt := 156) d_Md_work_120 (by decide) (fun c5 => absurd c5 (by decide)) (fun c5 => ?_)
    refine jx_aload_n d_Md_work_123 2 rfl ?_
    refine jx_get d_Md_work_124 fF_Md_36 (md_tg hK) (md_rr hK (k := 12) (j := 9) rfl rfl rfl) ?_
    refine jx_iload_n d_Md_work_127 1 rfl ?_
    refine jx_iald d_Md_work_128 (md_ta hK (j := 9) rfl) rfl (jm_vinN (show ((40) * (c)) + (i) < 2560 by omega) (by decide)) (jm_atN (show ((40) * (c)) + (i) < 2 ^ 31 by omega) ((show (mdH h a (mai s 27 ((H + 1) - (1)) (nI ((1) + (1))))).2.2.2 (a + 9) (((40) * (c)) + (i)) = Value.int (s.2.2.1 9 (((40) * (c)) + (i))) from md_rai (j := 9) (show ((40) * (c)) + (i) < 2560 by omega)).trans (congrArg Value.int hkd))) ?_
    refine jx_bipush (v0 := 6) d_Md_work_129 (by decide) ?_
    refine jx_icmp_ne (tgt := 156) d_Md_work_131 (by decide) (fun c6 => absurd c6 (by decide)) (fun c6 => ?_)
    refine jx_aload_n d_Md_work_134 2 rfl ?_
    refine jx_aload_n d_Md_work_135 2 rfl ?_
    refine jx_get d_Md_work_136 fF_Md_237 (md_tg hK) (show (mdH h a (mai s 27 ((H + 1) - (1)) (nI ((1) + (1))))).2.2.2 a 44 = Value.long (s.2.1 44) from md_rl rfl) ?_
    refine jx_lneg d_Md_work_139 ?_
    refine jx_put (v0 := .long ((-s.2.1 44))) d_Md_work_140 fF_Md_237 jv_Md ft_Md_answer (md_tg hK) rfl rfl ?_
    refine jx_ath (md_wl (k := 44) rfl) ?_
    refine jx_aload_n d_Md_work_143 2 rfl ?_
    refine jx_dup d_Md_work_144 rfl ?_
    refine jx_get d_Md_work_145 fF_Md_225 (md_tg hK) ((show (mdH h a (ml (mai s 27 ((H + 1) - (1)) (nI ((1) + (1)))) 44 (-s.2.1 44))).2.2.2 a 43 = Value.int (s.1 43) from md_ri rfl).trans (congrArg Value.int hH)) ?_
    refine jx_iconst (v0 := 1) d_Md_work_148 (by decide) ?_
    refine jx_isub d_Md_work_149 ?_
    refine jx_ati (pk_sub (a := H + 1) (b := 1) (by omega)) ?_
    refine jx_put (v0 := .int (nI ((H + 1) - (1)))) d_Md_work_150 fF_Md_225 jv_Md ft_Md_high (md_tg hK) rfl rfl ?_
    refine jx_ath (md_wi (k := 43) rfl) ?_
    refine jx_goto (tgt := 275) d_Md_work_153 (by decide) ?_
    refine jx_goto (tgt := 15) d_Md_work_275 (by decide) ?_
    refine jx_lv [2, 3] rfl ?_
    exact kk
set_option maxHeartbeats 4000000 in
set_option maxRecDepth 100000 in
theorem it_two (l : Launch) (G : jm_G) {h : jm_H} {a : Nat} {s : MS} {c H i : Nat} {n0 s0 d : Nat} {Post : jm_r → jm_H → Prop} (hd : 1 ≤ d) (hK : MdK h a) (hc : c < 64) (hi : i < 40) (hH6 : H < 63) (hH : s.1 43 = nI (H + 1)) (he : s.1 39 = 0) (hpi : s.2.2.1 26 H = nI i) {kd : Nat} (hph : s.2.2.1 27 H = nI 1) (hkd : s.2.2.1 9 (40 * c + i) = nI kd) (h2 : 2 ≤ kd) (h9 : kd ≤ 9) (h6 : kd ≠ 6) (kk : jm_X l G mm_Md_work n0 s0 (jm_zn G d n0 s0) Post 15 [(0, .ref a), (1, .int (nI c))] [] (mdH h a (m_psh (mal (mai s 27 H (nI 2)) 28 H (s.2.1 44)) (H + 1) (if kd = 9 ∧ s.2.1 44 ≤ 0 then s.2.2.1 12 (40 * c + i) else s.2.2.1 11 (40 * c + i))))) : jm_X l G mm_Md_work n0 s0 (jm_zn G d n0 s0) Post 15 [(0, .ref a), (1, .int (nI c))] [] (mdH h a s) := by
  refine jx_aload_n d_Md_work_15 0 rfl ?_
  refine jx_get d_Md_work_16 fF_Md_225 (md_tg hK) ((show (mdH h a s).2.2.2 a 43 = Value.int (s.1 43) from md_ri rfl).trans (congrArg Value.int hH)) ?_
  refine jx_if_leN (tgt := 278) (H + 1) d_Md_work_19 rfl (by omega) (by decide) (fun c1 => ?_) (fun c1 => ?_)
  · omega
  ·
    refine jx_aload_n d_Md_work_22 0 rfl ?_
    refine jx_get d_Md_work_23 fF_Md_231 (md_tg hK) ((show (mdH h a s).2.2.2 a 39 = Value.int (s.1 39) from md_ri rfl).trans (congrArg Value.int he)) ?_
    refine jx_if_ne (tgt := 278) d_Md_work_26 (by decide) (fun c2 => absurd c2 (by decide)) (fun c2 => ?_)
    refine jx_bipush (v0 := 40) d_Md_work_29 (by decide) ?_
    refine jx_iload_n d_Md_work_31 1 rfl ?_
    refine jx_imul d_Md_work_32 ?_
    refine jx_ati (pk_mul (40) (c)) ?_
    refine jx_aload_n d_Md_work_33 0 rfl ?_
    refine jx_get d_Md_work_34 fF_Md_87 (md_tg hK) (md_rr hK (k := 40) (j := 26) rfl rfl rfl) ?_
    refine jx_aload_n d_Md_work_37 0 rfl ?_
    refine jx_get d_Md_work_38 fF_Md_225 (md_tg hK) ((show (mdH h a s).2.2.2 a 43 = Value.int (s.1 43) from md_ri rfl).trans (congrArg Value.int hH)) ?_
    refine jx_iconst (v0 := 1) d_Md_work_41 (by decide) ?_
    refine jx_isub d_Md_work_42 ?_
    refine jx_ati (pk_sub (a := H + 1) (b := 1) (by omega)) ?_
    refine jx_iald d_Md_work_43 (md_ta hK (j := 26) rfl) rfl (jm_vinN (show (H + 1) - (1) < 64 by omega) (by decide)) (jm_atN (show (H + 1) - (1) < 2 ^ 31 by omega) ((show (mdH h a s).2.2.2 (a + 26) ((H + 1) - (1)) = Value.int (s.2.2.1 26 ((H + 1) - (1))) from md_rai (j := 26) (show (H + 1) - (1) < 64 by omega)).trans (congrArg Value.int hpi))) ?_
    refine jx_iadd d_Md_work_44 ?_
    refine jx_ati (nI_add ((40) * (c)) (i)) ?_
    refine jx_istore_n (lv' := [(2, .int (nI (((40) * (c)) + (i)))), (0, .ref (a)), (1, .int (nI (c)))]) d_Md_work_45 (by decide) rfl ?_
    refine jx_aload_n d_Md_work_46 1 rfl ?_
    refine jx_get d_Md_work_47 fF_Md_90 (md_tg hK) (md_rr hK (k := 41) (j := 27) rfl rfl rfl) ?_
    refine jx_aload_n d_Md_work_50 1 rfl ?_
    refine jx_get d_Md_work_51 fF_Md_225 (md_tg hK) ((show (mdH h a s).2.2.2 a 43 = Value.int (s.1 43) from md_ri rfl).trans (congrArg Value.int hH)) ?_
    refine jx_iconst (v0 := 1) d_Md_work_54 (by decide) ?_
    refine jx_isub d_Md_work_55 ?_
    refine jx_ati (pk_sub (a := H + 1) (b := 1) (by omega)) ?_
    refine jx_iald d_Md_work_56 (md_ta hK (j := 27) rfl) rfl (jm_vinN (show (H + 1) - (1) < 64 by omega) (by decide)) (jm_atN (show (H + 1) - (1) < 2 ^ 31 by omega) ((show (mdH h a s).2.2.2 (a + 27) ((H + 1) - (1)) = Value.int (s.2.2.1 27 ((H + 1) - (1))) from md_rai (j := 27) (show (H + 1) - (1) < 64 by omega)).trans (congrArg Value.int hph))) ?_
    refine jx_istore_n (lv' := [(3, .int (nI 1)), (2, .int (nI (((40) * (c)) + (i)))), (0, .ref (a)), (1, .int (nI (c)))]) d_Md_work_57 (by decide) rfl ?_
    refine jx_aload_n d_Md_work_58 2 rfl ?_
    refine jx_get d_Md_work_59 fF_Md_90 (md_tg hK) (md_rr hK (k := 41) (j := 27) rfl rfl rfl) ?_
    refine jx_aload_n d_Md_work_62 2 rfl ?_
    refine jx_get d_Md_work_63 fF_Md_225 (md_tg hK) ((show (mdH h a s).2.2.2 a 43 = Value.int (s.1 43) from md_ri rfl).trans (congrArg Value.int hH)) ?_
    refine jx_iconst (v0 := 1) d_Md_work_66 (by decide) ?_
    refine jx_isub d_Md_work_67 ?_
    refine jx_ati (pk_sub (a := H + 1) (b := 1) (by omega)) ?_
    refine jx_dup2_11 d_Md_work_68 rfl rfl ?_
    refine jx_iald d_Md_work_69 (md_ta hK (j := 27) rfl) rfl (jm_vinN (show (H + 1) - (1) < 64 by omega) (by decide)) (jm_atN (show (H + 1) - (1) < 2 ^ 31 by omega) ((show (mdH h a s).2.2.2 (a + 27) ((H + 1) - (1)) = Value.int (s.2.2.1 27 ((H + 1) - (1))) from md_rai (j := 27) (show (H + 1) - (1) < 64 by omega)).trans (congrArg Value.int hph))) ?_
    refine jx_iconst (v0 := 1) d_Md_work_70 (by decide) ?_
    refine jx_iadd d_Md_work_71 ?_
    refine jx_ati (nI_add (1) (1)) ?_
    refine jx_iast d_Md_work_72 (md_ta hK (j := 27) rfl) rfl (jm_vinN (show (H + 1) - (1) < 64 by omega) (by decide)) ?_
    refine jx_ath ((jm_putN (show (H + 1) - (1) < 2 ^ 31 by omega)).trans (md_wai (j := 27) (show (H + 1) - (1) < 64 by omega))) ?_
    refine jx_aload_n d_Md_work_73 2 rfl ?_
    refine jx_get d_Md_work_74 fF_Md_36 (md_tg hK) (md_rr hK (k := 12) (j := 9) rfl rfl rfl) ?_
    refine jx_iload_n d_Md_work_77 1 rfl ?_
    refine jx_iald d_Md_work_78 (md_ta hK (j := 9) rfl) rfl (jm_vinN (show ((40) * (c)) + (i) < 2560 by omega) (by decide)) (jm_atN (show ((40) * (c)) + (i) < 2 ^ 31 by omega) ((show (mdH h a (mai s 27 ((H + 1) - (1)) (nI ((1) + (1))))).2.2.2 (a + 9) (((40) * (c)) + (i)) = Value.int (s.2.2.1 9 (((40) * (c)) + (i))) from md_rai (j := 9) (show ((40) * (c)) + (i) < 2560 by omega)).trans (congrArg Value.int hkd))) ?_
    refine jx_iconst (v0 := 1) d_Md_work_79 (by decide) ?_
    refine jx_icmp_gtN (tgt := 101) (kd) (1) d_Md_work_80 rfl rfl (by omega) (by omega) (by decide) (fun c3 => ?_) (fun c3 => ?_)
    ·
      refine jx_iload_n d_Md_work_101 0 rfl ?_
      refine jx_if_ne (tgt := 118) d_Md_work_102 (by decide) (fun c4 => ?_) (fun c4 => absurd c4 (by decide))
      refine jx_iload_n d_Md_work_118 0 rfl ?_
      refine jx_iconst (v0 := 1) d_Md_work_119 (by decide) ?_
      refine jx_icmp_ne (tgt := 156) d_Md_work_120 (by decide) (fun c5 => absurd c5 (by decide)) (fun c5 => ?_)
      refine jx_aload_n d_Md_work_123 2 rfl ?_
      refine jx_get d_Md_work_124 fF_Md_36 (md_tg hK) (md_rr hK (k := 12) (j := 9) rfl rfl rfl) ?_
      refine jx_iload_n d_Md_work_127 1 rfl ?_
      refine jx_iald d_Md_work_128 (md_ta hK (j := 9) rfl) rfl (jm_vinN (show ((40) * (c)) + (i) < 2560 by omega) (by decide)) (jm_atN (show ((40) * (c)) + (i) < 2 ^ 31 by omega) ((show (mdH h a (mai s 27 ((H + 1) - (1)) (nI ((1) + (1))))).2.2.2 (a + 9) (((40) * (c)) + (i)) = Value.int (s.2.2.1 9 (((40) * (c)) + (i))) from md_rai (j := 9) (show ((40) * (c)) + (i) < 2560 by omega)).trans (congrArg Value.int hkd))) ?_
      refine jx_bipush (v0 := 6) d_Md_work_129 (by decide) ?_
      refine jx_icmp_neN (tgt := 156) (kd) (6) d_Md_work_131 rfl rfl (by omega) (by omega) (by decide) (fun c6 => ?_) (fun c6 => ?_)
      ·
        refine jx_iload_n d_Md_work_156 0 rfl ?_
        refine jx_iconst (v0 := 1) d_Md_work_157 (by decide) ?_
        refine jx_icmp_ne (tgt := 218) d_Md_work_158 (by decide) (fun c7 => absurd c7 (by decide)) (fun c7 => ?_)
        refine jx_aload_n d_Md_work_161 2 rfl ?_
        refine jx_get d_Md_work_162 fF_Md_93 (md_tg hK) (md_rr hK (k := 42) (j := 28) rfl rfl rfl) ?_
        refine jx_aload_n d_Md_work_165 2 rfl ?_
        refine jx_get d_Md_work_166 fF_Md_225 (md_tg hK) ((show (mdH h a (mai s 27 ((H + 1) - (1)) (nI ((1) + (1))))).2.2.2 a 43 = Value.int (s.1 43) from md_ri rfl).trans (congrArg Value.int hH)) ?_
        refine jx_iconst (v0 := 1) d_Md_work_169 (by decide) ?_
        refine jx_isub d_Md_work_170 ?_
        refine jx_ati (pk_sub (a := H + 1) (b := 1) (by omega)) ?_
        refine jx_aload_n d_Md_work_171 2 rfl ?_
        refine jx_get d_Md_work_172 fF_Md_237 (md_tg hK) (show (mdH h a (mai s 27 ((H + 1) - (1)) (nI ((1) + (1))))).2.2.2 a 44 = Value.long (s.2.1 44) from md_rl rfl) ?_
        refine jx_last d_Md_work_175 (md_ta hK (j := 28) rfl) rfl (jm_vinN (show (H + 1) - (1) < 64 by omega) (by decide)) ?_
        refine jx_ath ((jm_putN (show (H + 1) - (1) < 2 ^ 31 by omega)).trans (md_wal (j := 28) (show (H + 1) - (1) < 64 by omega))) ?_
        refine jx_aload_n d_Md_work_176 2 rfl ?_
        refine jx_aload_n d_Md_work_177 2 rfl ?_
        refine jx_get d_Md_work_178 fF_Md_36 (md_tg hK) (md_rr hK (k := 12) (j := 9) rfl rfl rfl) ?_
        refine jx_iload_n d_Md_work_181 1 rfl ?_
        refine jx_iald d_Md_work_182 (md_ta hK (j := 9) rfl) rfl (jm_vinN (show ((40) * (c)) + (i) < 2560 by omega) (by decide)) (jm_atN (show ((40) * (c)) + (i) < 2 ^ 31 by omega) ((show (mdH h a (mal (mai s 27 ((H + 1) - (1)) (nI ((1) + (1)))) 28 ((H + 1) - (1)) (s.2.1 44))).2.2.2 (a + 9) (((40) * (c)) + (i)) = Value.int (s.2.2.1 9 (((40) * (c)) + (i))) from md_rai (j := 9) (show ((40) * (c)) + (i) < 2560 by omega)).trans (congrArg Value.int hkd))) ?_
        refine jx_bipush (v0 := 9) d_Md_work_183 (by decide) ?_
        refine jx_icmp_neN (tgt := 206) (kd) (9) d_Md_work_185 rfl rfl (by omega) (by omega) (by decide) (fun c8 => ?_) (fun c8 => ?_)
        ·
          refine jx_aload_n d_Md_work_206 2 rfl ?_
          refine jx_get d_Md_work_207 fF_Md_42 (md_tg hK) (md_rr hK (k := 14) (j := 11) rfl rfl rfl) ?_
          refine jx_iload_n d_Md_work_210 1 rfl ?_
          refine jx_iald d_Md_work_211 (md_ta hK (j := 11) rfl) rfl (jm_vinN (show ((40) * (c)) + (i) < 2560 by omega) (by decide)) (jm_atN (show ((40) * (c)) + (i) < 2 ^ 31 by omega) (show (mdH h a (mal (mai s 27 ((H + 1) - (1)) (nI ((1) + (1)))) 28 ((H + 1) - (1)) (s.2.1 44))).2.2.2 (a + 11) (((40) * (c)) + (i)) = Value.int (s.2.2.1 11 (((40) * (c)) + (i))) from md_rai (j := 11) (show ((40) * (c)) + (i) < 2560 by omega))) ?_
          refine jx_callV (M2 := mm_Md_push) rfl (md_tg hK) lk_Md_228 wi_Md_push ws_Md_push d_Md_work_212 (c_Md_push l G (d - 1) (s := (mal (mai s 27 ((H + 1) - (1)) (nI ((1) + (1)))) 28 ((H + 1) - (1)) (s.2.1 44))) (H := H + 1) (nd := s.2.2.1 11 (((40) * (c)) + (i))) hK hH (by omega)) cd_Md_push rfl rfl (Nat.le_of_ble_eq_true rfl) (jm_fok (by omega)) (jm_look (by decide) (by omega)) ?_
          refine jx_goto (tgt := 275) d_Md_work_215 (by decide) ?_
          refine jx_goto (tgt := 15) d_Md_work_275 (by decide) ?_
          refine jx_lv [2, 3] rfl ?_
          rw [if_neg (fun q => by omega)] at kk
          exact kk
        ·
          refine jx_aload_n d_Md_work_188 2 rfl ?_
          refine jx_get d_Md_work_189 fF_Md_237 (md_tg hK) (show (mdH h a (mal (mai s 27 ((H + 1) - (1)) (nI ((1) + (1)))) 28 ((H + 1) - (1)) (s.2.1 44))).2.2.2 a 44 = Value.long (s.2.1 44) from md_rl rfl) ?_
          refine jx_lconst (v0 := 0) d_Md_work_192 (by decide) ?_
          refine jx_lcmp d_Md_work_193 ?_
          refine jx_if_gtL (tgt := 206) d_Md_work_194 (by decide) (fun c9 => ?_) (fun c9 => ?_)
          ·
            refine jx_aload_n d_Md_work_206 2 rfl ?_
            refine jx_get d_Md_work_207 fF_Md_42 (md_tg hK) (md_rr hK (k := 14) (j := 11) rfl rfl rfl) ?_
            refine jx_iload_n d_Md_work_210 1 rfl ?_
            refine jx_iald d_Md_work_211 (md_ta hK (j := 11) rfl) rfl (jm_vinN (show ((40) * (c)) + (i) < 2560 by omega) (by decide)) (jm_atN (show ((40) * (c)) + (i) < 2 ^ 31 by omega) (show (mdH h a (mal (mai s 27 ((H + 1) - (1)) (nI ((1) + (1)))) 28 ((H + 1) - (1)) (s.2.1 44))).2.2.2 (a + 11) (((40) * (c)) + (i)) = Value.int (s.2.2.1 11 (((40) * (c)) + (i))) from md_rai (j := 11) (show ((40) * (c)) + (i) < 2560 by omega))) ?_
            refine jx_callV (M2 := mm_Md_push) rfl (md_tg hK) lk_Md_228 wi_Md_push ws_Md_push d_Md_work_212 (c_Md_push l G (d - 1) (s := (mal (mai s 27 ((H + 1) - (1)) (nI ((1) + (1)))) 28 ((H + 1) - (1)) (s.2.1 44))) (H := H + 1) (nd := s.2.2.1 11 (((40) * (c)) + (i))) hK hH (by omega)) cd_Md_push rfl rfl (Nat.le_of_ble_eq_true rfl) (jm_fok (by omega)) (jm_look (by decide) (by omega)) ?_
            refine jx_goto (tgt := 275) d_Md_work_215 (by decide) ?_
            refine jx_goto (tgt := 15) d_Md_work_275 (by decide) ?_
            refine jx_lv [2, 3] rfl ?_
            rw [if_neg (fun q => absurd q.2 (Int64.not_le.mpr c9))] at kk
            exact kk
          ·
            refine jx_aload_n d_Md_work_197 2 rfl ?_
            refine jx_get d_Md_work_198 fF_Md_45 (md_tg hK) (md_rr hK (k := 15) (j := 12) rfl rfl rfl) ?_
            refine jx_iload_n d_Md_work_201 1 rfl ?_
            refine jx_iald d_Md_work_202 (md_ta hK (j := 12) rfl) rfl (jm_vinN (show ((40) * (c)) + (i) < 2560 by omega) (by decide)) (jm_atN (show ((40) * (c)) + (i) < 2 ^ 31 by omega) (show (mdH h a (mal (mai s 27 ((H + 1) - (1)) (nI ((1) + (1)))) 28 ((H + 1) - (1)) (s.2.1 44))).2.2.2 (a + 12) (((40) * (c)) + (i)) = Value.int (s.2.2.1 12 (((40) * (c)) + (i))) from md_rai (j := 12) (show ((40) * (c)) + (i) < 2560 by omega))) ?_
            refine jx_goto (tgt := 212) d_Md_work_203 (by decide) ?_
            refine jx_callV (M2 := mm_Md_push) rfl (md_tg hK) lk_Md_228 wi_Md_push ws_Md_push d_Md_work_212 (c_Md_push l G (d - 1) (s := (mal (mai s 27 ((H + 1) - (1)) (nI ((1) + (1)))) 28 ((H + 1) - (1)) (s.2.1 44))) (H := H + 1) (nd := s.2.2.1 12 (((40) * (c)) + (i))) hK hH (by omega)) cd_Md_push rfl rfl (Nat.le_of_ble_eq_true rfl) (jm_fok (by omega)) (jm_look (by decide) (by omega)) ?_
            refine jx_goto (tgt := 275) d_Md_work_215 (by decide) ?_
            refine jx_goto (tgt := 15) d_Md_work_275 (by decide) ?_
            refine jx_lv [2, 3] rfl ?_
            rw [if_pos ⟨by omega, c9⟩] at kk
            exact kk
      · omega
    · omega
set_option maxHeartbeats 4000000 in
set_option maxRecDepth 100000 in
theorem it_if (l : Launch) (G : jm_G) {h : jm_H} {a : Nat} {s : MS} {c H i : Nat} {n0 s0 d : Nat} {Post : jm_r → jm_H → Prop} (hd : 1 ≤ d) (hK : MdK h a) (hc : c < 64) (hi : i < 40) (hH6 : H < 63) (hH : s.1 43 = nI (H + 1)) (he : s.1 39 = 0) (hpi : s.2.2.1 26 H = nI i) (hph : s.2.2.1 27 H = nI 2) (hkd : s.2.2.1 9 (40 * c + i) = 9) (kk : jm_X l G mm_Md_work n0 s0 (jm_zn G d n0 s0) Post 15 [(0, .ref a), (1, .int (nI c))] [] (mdH h a (mi (ml (mai s 27 H (nI 3)) 44 (s.2.1 44)) 43 (nI H)))) : jm_X l G mm_Md_work n0 s0 (jm_zn G d n0 s0) Post 15 [(0, .ref a), (1, .int (nI c))] [] (mdH h a s) := by
  refine jx_aload_n d_Md_work_15 0 rfl ?_
  refine jx_get d_Md_work_16 fF_Md_225 (md_tg hK) ((show (mdH h a s).2.2.2 a 43 = Value.int (s.1 43) from md_ri rfl).trans (congrArg Value.int hH)) ?_
  refine jx_if_leN (tgt := 278) (H + 1) d_Md_work_19 rfl (by omega) (by decide) (fun c1 => ?_) (fun c1 => ?_)
  · omega
  ·
    refine jx_aload_n d_Md_work_22 0 rfl ?_
    refine jx_get d_Md_work_23 fF_Md_231 (md_tg hK) ((show (mdH h a s).2.2.2 a 39 = Value.int (s.1 39) from md_ri rfl).trans (congrArg Value.int he)) ?_
    refine jx_if_ne (tgt := 278) d_Md_work_26 (by decide) (fun c2 => absurd c2 (by decide)) (fun c2 => ?_)
    refine jx_bipush (v0 := 40) d_Md_work_29 (by decide) ?_
    refine jx_iload_n d_Md_work_31 1 rfl ?_
    refine jx_imul d_Md_work_32 ?_
    refine jx_ati (pk_mul (40) (c)) ?_
    refine jx_aload_n d_Md_work_33 0 rfl ?_
    refine jx_get d_Md_work_34 fF_Md_87 (md_tg hK) (md_rr hK (k := 40) (j := 26) rfl rfl rfl) ?_
    refine jx_aload_n d_Md_work_37 0 rfl ?_
    refine jx_get d_Md_work_38 fF_Md_225 (md_tg hK) ((show (mdH h a s).2.2.2 a 43 = Value.int (s.1 43) from md_ri rfl).trans (congrArg Value.int hH)) ?_
    refine jx_iconst (v0 := 1) d_Md_work_41 (by decide) ?_
    refine jx_isub d_Md_work_42 ?_
    refine jx_ati (pk_sub (a := H + 1) (b := 1) (by omega)) ?_
    refine jx_iald d_Md_work_43 (md_ta hK (j := 26) rfl) rfl (jm_vinN (show (H + 1) - (1) < 64 by omega) (by decide)) (jm_atN (show (H + 1) - (1) < 2 ^ 31 by omega) ((show (mdH h a s).2.2.2 (a + 26) ((H + 1) - (1)) = Value.int (s.2.2.1 26 ((H + 1) - (1))) from md_rai (j := 26) (show (H + 1) - (1) < 64 by omega)).trans (congrArg Value.int hpi))) ?_
    refine jx_iadd d_Md_work_44 ?_
    refine jx_ati (nI_add ((40) * (c)) (i)) ?_
    refine jx_istore_n (lv' := [(2, .int (nI (((40) * (c)) + (i)))), (0, .ref (a)), (1, .int (nI (c)))]) d_Md_work_45 (by decide) rfl ?_
    refine jx_aload_n d_Md_work_46 1 rfl ?_
    refine jx_get d_Md_work_47 fF_Md_90 (md_tg hK) (md_rr hK (k := 41) (j := 27) rfl rfl rfl) ?_
    refine jx_aload_n d_Md_work_50 1 rfl ?_
    refine jx_get d_Md_work_51 fF_Md_225 (md_tg hK) ((show (mdH h a s).2.2.2 a 43 = Value.int (s.1 43) from md_ri rfl).trans (congrArg Value.int hH)) ?_
    refine jx_iconst (v0 := 1) d_Md_work_54 (by decide) ?_
    refine jx_isub d_Md_work_55 ?_
    refine jx_ati (pk_sub (a := H + 1) (b := 1) (by omega)) ?_
    refine jx_iald d_Md_work_56 (md_ta hK (j := 27) rfl) rfl (jm_vinN (show (H + 1) - (1) < 64 by omega) (by decide)) (jm_atN (show (H + 1) - (1) < 2 ^ 31 by omega) ((show (mdH h a s).2.2.2 (a + 27) ((H + 1) - (1)) = Value.int (s.2.2.1 27 ((H + 1) - (1))) from md_rai (j := 27) (show (H + 1) - (1) < 64 by omega)).trans (congrArg Value.int hph))) ?_
    refine jx_istore_n (lv' := [(3, .int (nI 2)), (2, .int (nI (((40) * (c)) + (i)))), (0, .ref (a)), (1, .int (nI (c)))]) d_Md_work_57 (by decide) rfl ?_
    refine jx_aload_n d_Md_work_58 2 rfl ?_
    refine jx_get d_Md_work_59 fF_Md_90 (md_tg hK) (md_rr hK (k := 41) (j := 27) rfl rfl rfl) ?_
    refine jx_aload_n d_Md_work_62 2 rfl ?_
    refine jx_get d_Md_work_63 fF_Md_225 (md_tg hK) ((show (mdH h a s).2.2.2 a 43 = Value.int (s.1 43) from md_ri rfl).trans (congrArg Value.int hH)) ?_
    refine jx_iconst (v0 := 1) d_Md_work_66 (by decide) ?_
    refine jx_isub d_Md_work_67 ?_
    refine jx_ati (pk_sub (a := H + 1) (b := 1) (by omega)) ?_
    refine jx_dup2_11 d_Md_work_68 rfl rfl ?_
    refine jx_iald d_Md_work_69 (md_ta hK (j := 27) rfl) rfl (jm_vinN (show (H + 1) - (1) < 64 by omega) (by decide)) (jm_atN (show (H + 1) - (1) < 2 ^ 31 by omega) ((show (mdH h a s).2.2.2 (a + 27) ((H + 1) - (1)) = Value.int (s.2.2.1 27 ((H + 1) - (1))) from md_rai (j := 27) (show (H + 1) - (1) < 64 by omega)).trans (congrArg Value.int hph))) ?_
    refine jx_iconst (v0 := 1) d_Md_work_70 (by decide) ?_
    refine jx_iadd d_Md_work_71 ?_
    refine jx_ati (nI_add (2) (1)) ?_
    refine jx_iast d_Md_work_72 (md_ta hK (j := 27) rfl) rfl (jm_vinN (show (H + 1) - (1) < 64 by omega) (by decide)) ?_
    refine jx_ath ((jm_putN (show (H + 1) - (1) < 2 ^ 31 by omega)).trans (md_wai (j := 27) (show (H + 1) - (1) < 64 by omega))) ?_
    refine jx_aload_n d_Md_work_73 2 rfl ?_
    refine jx_get d_Md_work_74 fF_Md_36 (md_tg hK) (md_rr hK (k := 12) (j := 9) rfl rfl rfl) ?_
    refine jx_iload_n d_Md_work_77 1 rfl ?_
    refine jx_iald d_Md_work_78 (md_ta hK (j := 9) rfl) rfl (jm_vinN (show ((40) * (c)) + (i) < 2560 by omega) (by decide)) (jm_atN (show ((40) * (c)) + (i) < 2 ^ 31 by omega) ((show (mdH h a (mai s 27 ((H + 1) - (1)) (nI ((2) + (1))))).2.2.2 (a + 9) (((40) * (c)) + (i)) = Value.int (s.2.2.1 9 (((40) * (c)) + (i))) from md_rai (j := 9) (show ((40) * (c)) + (i) < 2560 by omega)).trans (congrArg Value.int hkd))) ?_
    refine jx_iconst (v0 := 1) d_Md_work_79 (by decide) ?_
    refine jx_icmp_gt (tgt := 101) d_Md_work_80 (by decide) (fun c3 => ?_) (fun c3 => absurd c3 (by decide))
    refine jx_iload_n d_Md_work_101 0 rfl ?_
    refine jx_if_ne (tgt := 118) d_Md_work_102 (by decide) (fun c4 => ?_) (fun c4 => absurd c4 (by decide))
    refine jx_iload_n d_Md_work_118 0 rfl ?_
    refine jx_iconst (v0 := 1) d_Md_work_119 (by decide) ?_
    refine jx_icmp_ne (tgt := 156) d_Md_work_120 (by decide) (fun c5 => ?_) (fun c5 => absurd c5 (by decide))
    refine jx_iload_n d_Md_work_156 0 rfl ?_
    refine jx_iconst (v0 := 1) d_Md_work_157 (by decide) ?_
    refine jx_icmp_ne (tgt := 218) d_Md_work_158 (by decide) (fun c6 => ?_) (fun c6 => absurd c6 (by decide))
    refine jx_aload_n d_Md_work_218 2 rfl ?_
    refine jx_aload_n d_Md_work_219 2 rfl ?_
    refine jx_get d_Md_work_220 fF_Md_36 (md_tg hK) (md_rr hK (k := 12) (j := 9) rfl rfl rfl) ?_
    refine jx_iload_n d_Md_work_223 1 rfl ?_
    refine jx_iald d_Md_work_224 (md_ta hK (j := 9) rfl) rfl (jm_vinN (show ((40) * (c)) + (i) < 2560 by omega) (by decide)) (jm_atN (show ((40) * (c)) + (i) < 2 ^ 31 by omega) ((show (mdH h a (mai s 27 ((H + 1) - (1)) (nI ((2) + (1))))).2.2.2 (a + 9) (((40) * (c)) + (i)) = Value.int (s.2.2.1 9 (((40) * (c)) + (i))) from md_rai (j := 9) (show ((40) * (c)) + (i) < 2560 by omega)).trans (congrArg Value.int hkd))) ?_
    refine jx_bipush (v0 := 9) d_Md_work_225 (by decide) ?_
    refine jx_icmp_ne (tgt := 237) d_Md_work_227 (by decide) (fun c7 => absurd c7 (by decide)) (fun c7 => ?_)
    refine jx_aload_n d_Md_work_230 2 rfl ?_
    refine jx_get d_Md_work_231 fF_Md_237 (md_tg hK) (show (mdH h a (mai s 27 ((H + 1) - (1)) (nI ((2) + (1))))).2.2.2 a 44 = Value.long (s.2.1 44) from md_rl rfl) ?_
    refine jx_goto (tgt := 262) d_Md_work_234 (by decide) ?_
    refine jx_put (v0 := .long (s.2.1 44)) d_Md_work_262 fF_Md_237 jv_Md ft_Md_answer (md_tg hK) rfl rfl ?_
    refine jx_ath (md_wl (k := 44) rfl) ?_
    refine jx_aload_n d_Md_work_265 2 rfl ?_
    refine jx_dup d_Md_work_266 rfl ?_
    refine jx_get d_Md_work_267 fF_Md_225 (md_tg hK) ((show (mdH h a (ml (mai s 27 ((H + 1) - (1)) (nI ((2) + (1)))) 44 (s.2.1 44))).2.2.2 a 43 = Value.int (s.1 43) from md_ri rfl).trans (congrArg Value.int hH)) ?_
    refine jx_iconst (v0 := 1) d_Md_work_270 (by decide) ?_
    refine jx_isub d_Md_work_271 ?_
    refine jx_ati (pk_sub (a := H + 1) (b := 1) (by omega)) ?_
    refine jx_put (v0 := .int (nI ((H + 1) - (1)))) d_Md_work_272 fF_Md_225 jv_Md ft_Md_high (md_tg hK) rfl rfl ?_
    refine jx_ath (md_wi (k := 43) rfl) ?_
    refine jx_goto (tgt := 15) d_Md_work_275 (by decide) ?_
    refine jx_lv [2, 3] rfl ?_
    exact kk
set_option maxHeartbeats 4000000 in
set_option maxRecDepth 100000 in
theorem it_both2 (l : Launch) (G : jm_G) {h : jm_H} {a : Nat} {s : MS} {c H i : Nat} {n0 s0 d : Nat} {Post : jm_r → jm_H → Prop} (hd : 1 ≤ d) (hK : MdK h a) (hc : c < 64) (hi : i < 40) (hH6 : H < 63) (hH : s.1 43 = nI (H + 1)) (he : s.1 39 = 0) (hpi : s.2.2.1 26 H = nI i) (hph : s.2.2.1 27 H = nI 2) (hkd : s.2.2.1 9 (40 * c + i) = nI 2) (kk : jm_X l G mm_Md_work n0 s0 (jm_zn G d n0 s0) Post 15 [(0, .ref a), (1, .int (nI c))] [] (mdH h a (mi (ml (mai s 27 H (nI 3)) 44 (m_both 2 (s.2.2.2.1 28 H) (s.2.1 44)).2) 43 (nI H)))) : jm_X l G mm_Md_work n0 s0 (jm_zn G d n0 s0) Post 15 [(0, .ref a), (1, .int (nI c))] [] (mdH h a s) := by
  refine jx_aload_n d_Md_work_15 0 rfl ?_
  refine jx_get d_Md_work_16 fF_Md_225 (md_tg hK) ((show (mdH h a s).2.2.2 a 43 = Value.int (s.1 43) from md_ri rfl).trans (congrArg Value.int hH)) ?_
  refine jx_if_leN (tgt := 278) (H + 1) d_Md_work_19 rfl (by omega) (by decide) (fun c1 => ?_) (fun c1 => ?_)
  · omega
  ·
    refine jx_aload_n d_Md_work_22 0 rfl ?_
    refine jx_get d_Md_work_23 fF_Md_231 (md_tg hK) ((show (mdH h a s).2.2.2 a 39 = Value.int (s.1 39) from md_ri rfl).trans (congrArg Value.int he)) ?_
    refine jx_if_ne (tgt := 278) d_Md_work_26 (by decide) (fun c2 => absurd c2 (by decide)) (fun c2 => ?_)
    refine jx_bipush (v0 := 40) d_Md_work_29 (by decide) ?_
    refine jx_iload_n d_Md_work_31 1 rfl ?_
    refine jx_imul d_Md_work_32 ?_
    refine jx_ati (pk_mul (40) (c)) ?_
    refine jx_aload_n d_Md_work_33 0 rfl ?_
    refine jx_get d_Md_work_34 fF_Md_87 (md_tg hK) (md_rr hK (k := 40) (j := 26) rfl rfl rfl) ?_
    refine jx_aload_n d_Md_work_37 0 rfl ?_
    refine jx_get d_Md_work_38 fF_Md_225 (md_tg hK) ((show (mdH h a s).2.2.2 a 43 = Value.int (s.1 43) from md_ri rfl).trans (congrArg Value.int hH)) ?_
    refine jx_iconst (v0 := 1) d_Md_work_41 (by decide) ?_
    refine jx_isub d_Md_work_42 ?_
    refine jx_ati (pk_sub (a := H + 1) (b := 1) (by omega)) ?_
    refine jx_iald d_Md_work_43 (md_ta hK (j := 26) rfl) rfl (jm_vinN (show (H + 1) - (1) < 64 by omega) (by decide)) (jm_atN (show (H + 1) - (1) < 2 ^ 31 by omega) ((show (mdH h a s).2.2.2 (a + 26) ((H + 1) - (1)) = Value.int (s.2.2.1 26 ((H + 1) - (1))) from md_rai (j := 26) (show (H + 1) - (1) < 64 by omega)).trans (congrArg Value.int hpi))) ?_
    refine jx_iadd d_Md_work_44 ?_
    refine jx_ati (nI_add ((40) * (c)) (i)) ?_
    refine jx_istore_n (lv' := [(2, .int (nI (((40) * (c)) + (i)))), (0, .ref (a)), (1, .int (nI (c)))]) d_Md_work_45 (by decide) rfl ?_
    refine jx_aload_n d_Md_work_46 1 rfl ?_
    refine jx_get d_Md_work_47 fF_Md_90 (md_tg hK) (md_rr hK (k := 41) (j := 27) rfl rfl rfl) ?_
    refine jx_aload_n d_Md_work_50 1 rfl ?_
    refine jx_get d_Md_work_51 fF_Md_225 (md_tg hK) ((show (mdH h a s).2.2.2 a 43 = Value.int (s.1 43) from md_ri rfl).trans (congrArg Value.int hH)) ?_
    refine jx_iconst (v0 := 1) d_Md_work_54 (by decide) ?_
    refine jx_isub d_Md_work_55 ?_
    refine jx_ati (pk_sub (a := H + 1) (b := 1) (by omega)) ?_
    refine jx_iald d_Md_work_56 (md_ta hK (j := 27) rfl) rfl (jm_vinN (show (H + 1) - (1) < 64 by omega) (by decide)) (jm_atN (show (H + 1) - (1) < 2 ^ 31 by omega) ((show (mdH h a s).2.2.2 (a + 27) ((H + 1) - (1)) = Value.int (s.2.2.1 27 ((H + 1) - (1))) from md_rai (j := 27) (show (H + 1) - (1) < 64 by omega)).trans (congrArg Value.int hph))) ?_
    refine jx_istore_n (lv' := [(3, .int (nI 2)), (2, .int (nI (((40) * (c)) + (i)))), (0, .ref (a)), (1, .int (nI (c)))]) d_Md_work_57 (by decide) rfl ?_
    refine jx_aload_n d_Md_work_58 2 rfl ?_
    refine jx_get d_Md_work_59 fF_Md_90 (md_tg hK) (md_rr hK (k := 41) (j := 27) rfl rfl rfl) ?_
    refine jx_aload_n d_Md_work_62 2 rfl ?_
    refine jx_get d_Md_work_63 fF_Md_225 (md_tg hK) ((show (mdH h a s).2.2.2 a 43 = Value.int (s.1 43) from md_ri rfl).trans (congrArg Value.int hH)) ?_
    refine jx_iconst (v0 := 1) d_Md_work_66 (by decide) ?_
    refine jx_isub d_Md_work_67 ?_
    refine jx_ati (pk_sub (a := H + 1) (b := 1) (by omega)) ?_
    refine jx_dup2_11 d_Md_work_68 rfl rfl ?_
    refine jx_iald d_Md_work_69 (md_ta hK (j := 27) rfl) rfl (jm_vinN (show (H + 1) - (1) < 64 by omega) (by decide)) (jm_atN (show (H + 1) - (1) < 2 ^ 31 by omega) ((show (mdH h a s).2.2.2 (a + 27) ((H + 1) - (1)) = Value.int (s.2.2.1 27 ((H + 1) - (1))) from md_rai (j := 27) (show (H + 1) - (1) < 64 by omega)).trans (congrArg Value.int hph))) ?_
    refine jx_iconst (v0 := 1) d_Md_work_70 (by decide) ?_
    refine jx_iadd d_Md_work_71 ?_
    refine jx_ati (nI_add (2) (1)) ?_
    refine jx_iast d_Md_work_72 (md_ta hK (j := 27) rfl) rfl (jm_vinN (show (H + 1) - (1) < 64 by omega) (by decide)) ?_
    refine jx_ath ((jm_putN (show (H + 1) - (1) < 2 ^ 31 by omega)).trans (md_wai (j := 27) (show (H + 1) - (1) < 64 by omega))) ?_
    refine jx_aload_n d_Md_work_73 2 rfl ?_
    refine jx_get d_Md_work_74 fF_Md_36 (md_tg hK) (md_rr hK (k := 12) (j := 9) rfl rfl rfl) ?_
    refine jx_iload_n d_Md_work_77 1 rfl ?_
    refine jx_iald d_Md_work_78 (md_ta hK (j := 9) rfl) rfl (jm_vinN (show ((40) * (c)) + (i) < 2560 by omega) (by decide)) (jm_atN (show ((40) * (c)) + (i) < 2 ^ 31 by omega) ((show (mdH h a (mai s 27 ((H + 1) - (1)) (nI ((2) + (1))))).2.2.2 (a + 9) (((40) * (c)) + (i)) = Value.int (s.2.2.1 9 (((40) * (c)) + (i))) from md_rai (j := 9) (show ((40) * (c)) + (i) < 2560 by omega)).trans (congrArg Value.int hkd))) ?_
    refine jx_iconst (v0 := 1) d_Md_work_79 (by decide) ?_
    refine jx_icmp_gt (tgt := 101) d_Md_work_80 (by decide) (fun c3 => ?_) (fun c3 => absurd c3 (by decide))
    refine jx_iload_n d_Md_work_101 0 rfl ?_
    refine jx_if_ne (tgt := 118) d_Md_work_102 (by decide) (fun c4 => ?_) (fun c4 => absurd c4 (by decide))
    refine jx_iload_n d_Md_work_118 0 rfl ?_
    refine jx_iconst (v0 := 1) d_Md_work_119 (by decide) ?_
    refine jx_icmp_ne (tgt := 156) d_Md_work_120 (by decide) (fun c5 => ?_) (fun c5 => absurd c5 (by decide))
    refine jx_iload_n d_Md_work_156 0 rfl ?_
    refine jx_iconst (v0 := 1) d_Md_work_157 (by decide) ?_
    refine jx_icmp_ne (tgt := 218) d_Md_work_158 (by decide) (fun c6 => ?_) (fun c6 => absurd c6 (by decide))
    refine jx_aload_n d_Md_work_218 2 rfl ?_
    refine jx_aload_n d_Md_work_219 2 rfl ?_
    refine jx_get d_Md_work_220 fF_Md_36 (md_tg hK) (md_rr hK (k := 12) (j := 9) rfl rfl rfl) ?_
    refine jx_iload_n d_Md_work_223 1 rfl ?_
    refine jx_iald d_Md_work_224 (md_ta hK (j := 9) rfl) rfl (jm_vinN (show ((40) * (c)) + (i) < 2560 by omega) (by decide)) (jm_atN (show ((40) * (c)) + (i) < 2 ^ 31 by omega) ((show (mdH h a (mai s 27 ((H + 1) - (1)) (nI ((2) + (1))))).2.2.2 (a + 9) (((40) * (c)) + (i)) = Value.int (s.2.2.1 9 (((40) * (c)) + (i))) from md_rai (j := 9) (show ((40) * (c)) + (i) < 2560 by omega)).trans (congrArg Value.int hkd))) ?_
    refine jx_bipush (v0 := 9) d_Md_work_225 (by decide) ?_
    refine jx_icmp_ne (tgt := 237) d_Md_work_227 (by decide) (fun c7 => ?_) (fun c7 => absurd c7 (by decide))
    refine jx_aload_n d_Md_work_237 2 rfl ?_
    refine jx_aload_n d_Md_work_238 2 rfl ?_
    refine jx_get d_Md_work_239 fF_Md_36 (md_tg hK) (md_rr hK (k := 12) (j := 9) rfl rfl rfl) ?_
    refine jx_iload_n d_Md_work_242 1 rfl ?_
    refine jx_iald d_Md_work_243 (md_ta hK (j := 9) rfl) rfl (jm_vinN (show ((40) * (c)) + (i) < 2560 by omega) (by decide)) (jm_atN (show ((40) * (c)) + (i) < 2 ^ 31 by omega) ((show (mdH h a (mai s 27 ((H + 1) - (1)) (nI ((2) + (1))))).2.2.2 (a + 9) (((40) * (c)) + (i)) = Value.int (s.2.2.1 9 (((40) * (c)) + (i))) from md_rai (j := 9) (show ((40) * (c)) + (i) < 2560 by omega)).trans (congrArg Value.int hkd))) ?_
    refine jx_aload_n d_Md_work_244 2 rfl ?_
    refine jx_get d_Md_work_245 fF_Md_93 (md_tg hK) (md_rr hK (k := 42) (j := 28) rfl rfl rfl) ?_
    refine jx_aload_n d_Md_work_248 2 rfl ?_
    refine jx_get d_Md_work_249 fF_Md_225 (md_tg hK) ((show (mdH h a (mai s 27 ((H + 1) - (1)) (nI ((2) + (1))))).2.2.2 a 43 = Value.int (s.1 43) from md_ri rfl).trans (congrArg Value.int hH)) ?_
    refine jx_iconst (v0 := 1) d_Md_work_252 (by decide) ?_
    refine jx_isub d_Md_work_253 ?_
    refine jx_ati (pk_sub (a := H + 1) (b := 1) (by omega)) ?_
    refine jx_lald d_Md_work_254 (md_ta hK (j := 28) rfl) rfl (jm_vinN (show (H + 1) - (1) < 64 by omega) (by decide)) (jm_atN (show (H + 1) - (1) < 2 ^ 31 by omega) (show (mdH h a (mai s 27 ((H + 1) - (1)) (nI ((2) + (1))))).2.2.2 (a + 28) ((H + 1) - (1)) = Value.long (s.2.2.2.1 28 ((H + 1) - (1))) from md_ral (j := 28) (show (H + 1) - (1) < 64 by omega))) ?_
    refine jx_aload_n d_Md_work_255 2 rfl ?_
    refine jx_get d_Md_work_256 fF_Md_237 (md_tg hK) (show (mdH h a (mai s 27 ((H + 1) - (1)) (nI ((2) + (1))))).2.2.2 a 44 = Value.long (s.2.1 44) from md_rl rfl) ?_
    refine jx_callV (M2 := mm_Md_both) rfl (md_tg hK) lk_Md_240 wi_Md_both ws_Md_both d_Md_work_259 (c_Md_both2 l G (d - 1) (s := (mai s 27 ((H + 1) - (1)) (nI ((2) + (1))))) (x := s.2.2.2.1 28 H) (y := s.2.1 44) hK) cd_Md_both rfl rfl (Nat.le_of_ble_eq_true rfl) (jm_fok (by omega)) (jm_look (by decide) (by omega)) ?_
    refine jx_put (v0 := .long ((m_both 2 (s.2.2.2.1 28 H) (s.2.1 44)).2)) d_Md_work_262 fF_Md_237 jv_Md ft_Md_answer (md_tg hK) rfl rfl ?_
    refine jx_ath (md_wl (k := 44) rfl) ?_
    refine jx_aload_n d_Md_work_265 2 rfl ?_
    refine jx_dup d_Md_work_266 rfl ?_
    refine jx_get d_Md_work_267 fF_Md_225 (md_tg hK) ((show (mdH h a (ml (mai s 27 ((H + 1) - (1)) (nI ((2) + (1)))) 44 ((m_both 2 (s.2.2.2.1 28 H) (s.2.1 44)).2))).2.2.2 a 43 = Value.int (s.1 43) from md_ri rfl).trans (congrArg Value.int hH)) ?_
    refine jx_iconst (v0 := 1) d_Md_work_270 (by decide) ?_
    refine jx_isub d_Md_work_271 ?_
    refine jx_ati (pk_sub (a := H + 1) (b := 1) (by omega)) ?_
    refine jx_put (v0 := .int (nI ((H + 1) - (1)))) d_Md_work_272 fF_Md_225 jv_Md ft_Md_high (md_tg hK) rfl rfl ?_
    refine jx_ath (md_wi (k := 43) rfl) ?_
    refine jx_goto (tgt := 15) d_Md_work_275 (by decide) ?_
    refine jx_lv [2, 3] rfl ?_
    exact kk
set_option maxHeartbeats 4000000 in
set_option maxRecDepth 100000 in
theorem it_both3 (l : Launch) (G : jm_G) {h : jm_H} {a : Nat} {s : MS} {c H i : Nat} {n0 s0 d : Nat} {Post : jm_r → jm_H → Prop} (hd : 1 ≤ d) (hK : MdK h a) (hc : c < 64) (hi : i < 40) (hH6 : H < 63) (hH : s.1 43 = nI (H + 1)) (he : s.1 39 = 0) (hpi : s.2.2.1 26 H = nI i) (hph : s.2.2.1 27 H = nI 2) (hkd : s.2.2.1 9 (40 * c + i) = nI 3) (kk : jm_X l G mm_Md_work n0 s0 (jm_zn G d n0 s0) Post 15 [(0, .ref a), (1, .int (nI c))] [] (mdH h a (mi (ml (mai s 27 H (nI 3)) 44 (m_both 3 (s.2.2.2.1 28 H) (s.2.1 44)).2) 43 (nI H)))) : jm_X l G mm_Md_work n0 s0 (jm_zn G d n0 s0) Post 15 [(0, .ref a), (1, .int (nI c))] [] (mdH h a s) := by
  refine jx_aload_n d_Md_work_15 0 rfl ?_
  refine jx_get d_Md_work_16 fF_Md_225 (md_tg hK) ((show (mdH h a s).2.2.2 a 43 = Value.int (s.1 43) from md_ri rfl).trans (congrArg Value.int hH)) ?_
  refine jx_if_leN (tgt := 278) (H + 1) d_Md_work_19 rfl (by omega) (by decide) (fun c1 => ?_) (fun c1 => ?_)
  · omega
  ·
    refine jx_aload_n d_Md_work_22 0 rfl ?_
    refine jx_get d_Md_work_23 fF_Md_231 (md_tg hK) ((show (mdH h a s).2.2.2 a 39 = Value.int (s.1 39) from md_ri rfl).trans (congrArg Value.int he)) ?_
    refine jx_if_ne (tgt := 278) d_Md_work_26 (by decide) (fun c2 => absurd c2 (by decide)) (fun c2 => ?_)
    refine jx_bipush (v0 := 40) d_Md_work_29 (by decide) ?_
    refine jx_iload_n d_Md_work_31 1 rfl ?_
    refine jx_imul d_Md_work_32 ?_
    refine jx_ati (pk_mul (40) (c)) ?_
    refine jx_aload_n d_Md_work_33 0 rfl ?_
    refine jx_get d_Md_work_34 fF_Md_87 (md_tg hK) (md_rr hK (k := 40) (j := 26) rfl rfl rfl) ?_
    refine jx_aload_n d_Md_work_37 0 rfl ?_
    refine jx_get d_Md_work_38 fF_Md_225 (md_tg hK) ((show (mdH h a s).2.2.2 a 43 = Value.int (s.1 43) from md_ri rfl).trans (congrArg Value.int hH)) ?_
    refine jx_iconst (v0 := 1) d_Md_work_41 (by decide) ?_
    refine jx_isub d_Md_work_42 ?_
    refine jx_ati (pk_sub (a := H + 1) (b := 1) (by omega)) ?_
    refine jx_iald d_Md_work_43 (md_ta hK (j := 26) rfl) rfl (jm_vinN (show (H + 1) - (1) < 64 by omega) (by decide)) (jm_atN (show (H + 1) - (1) < 2 ^ 31 by omega) ((show (mdH h a s).2.2.2 (a + 26) ((H + 1) - (1)) = Value.int (s.2.2.1 26 ((H + 1) - (1))) from md_rai (j := 26) (show (H + 1) - (1) < 64 by omega)).trans (congrArg Value.int hpi))) ?_
    refine jx_iadd d_Md_work_44 ?_
    refine jx_ati (nI_add ((40) * (c)) (i)) ?_
    refine jx_istore_n (lv' := [(2, .int (nI (((40) * (c)) + (i)))), (0, .ref (a)), (1, .int (nI (c)))]) d_Md_work_45 (by decide) rfl ?_
    refine jx_aload_n d_Md_work_46 1 rfl ?_
    refine jx_get d_Md_work_47 fF_Md_90 (md_tg hK) (md_rr hK (k := 41) (j := 27) rfl rfl rfl) ?_
    refine jx_aload_n d_Md_work_50 1 rfl ?_
    refine jx_get d_Md_work_51 fF_Md_225 (md_tg hK) ((show (mdH h a s).2.2.2 a 43 = Value.int (s.1 43) from md_ri rfl).trans (congrArg Value.int hH)) ?_
    refine jx_iconst (v0 := 1) d_Md_work_54 (by decide) ?_
    refine jx_isub d_Md_work_55 ?_
    refine jx_ati (pk_sub (a := H + 1) (b := 1) (by omega)) ?_
    refine jx_iald d_Md_work_56 (md_ta hK (j := 27) rfl) rfl (jm_vinN (show (H + 1) - (1) < 64 by omega) (by decide)) (jm_atN (show (H + 1) - (1) < 2 ^ 31 by omega) ((show (mdH h a s).2.2.2 (a + 27) ((H + 1) - (1)) = Value.int (s.2.2.1 27 ((H + 1) - (1))) from md_rai (j := 27) (show (H + 1) - (1) < 64 by omega)).trans (congrArg Value.int hph))) ?_
    refine jx_istore_n (lv' := [(3, .int (nI 2)), (2, .int (nI (((40) * (c)) + (i)))), (0, .ref (a)), (1, .int (nI (c)))]) d_Md_work_57 (by decide) rfl ?_
    refine jx_aload_n d_Md_work_58 2 rfl ?_
    refine jx_get d_Md_work_59 fF_Md_90 (md_tg hK) (md_rr hK (k := 41) (j := 27) rfl rfl rfl) ?_
    refine jx_aload_n d_Md_work_62 2 rfl ?_
    refine jx_get d_Md_work_63 fF_Md_225 (md_tg hK) ((show (mdH h a s).2.2.2 a 43 = Value.int (s.1 43) from md_ri rfl).trans (congrArg Value.int hH)) ?_
    refine jx_iconst (v0 := 1) d_Md_work_66 (by decide) ?_
    refine jx_isub d_Md_work_67 ?_
    refine jx_ati (pk_sub (a := H + 1) (b := 1) (by omega)) ?_
    refine jx_dup2_11 d_Md_work_68 rfl rfl ?_
    refine jx_iald d_Md_work_69 (md_ta hK (j := 27) rfl) rfl (jm_vinN (show (H + 1) - (1) < 64 by omega) (by decide)) (jm_atN (show (H + 1) - (1) < 2 ^ 31 by omega) ((show (mdH h a s).2.2.2 (a + 27) ((H + 1) - (1)) = Value.int (s.2.2.1 27 ((H + 1) - (1))) from md_rai (j := 27) (show (H + 1) - (1) < 64 by omega)).trans (congrArg Value.int hph))) ?_
    refine jx_iconst (v0 := 1) d_Md_work_70 (by decide) ?_
    refine jx_iadd d_Md_work_71 ?_
    refine jx_ati (nI_add (2) (1)) ?_
    refine jx_iast d_Md_work_72 (md_ta hK (j := 27) rfl) rfl (jm_vinN (show (H + 1) - (1) < 64 by omega) (by decide)) ?_
    refine jx_ath ((jm_putN (show (H + 1) - (1) < 2 ^ 31 by omega)).trans (md_wai (j := 27) (show (H + 1) - (1) < 64 by omega))) ?_
    refine jx_aload_n d_Md_work_73 2 rfl ?_
    refine jx_get d_Md_work_74 fF_Md_36 (md_tg hK) (md_rr hK (k := 12) (j := 9) rfl rfl rfl) ?_
    refine jx_iload_n d_Md_work_77 1 rfl ?_
    refine jx_iald d_Md_work_78 (md_ta hK (j := 9) rfl) rfl (jm_vinN (show ((40) * (c)) + (i) < 2560 by omega) (by decide)) (jm_atN (show ((40) * (c)) + (i) < 2 ^ 31 by omega) ((show (mdH h a (mai s 27 ((H + 1) - (1)) (nI ((2) + (1))))).2.2.2 (a + 9) (((40) * (c)) + (i)) = Value.int (s.2.2.1 9 (((40) * (c)) + (i))) from md_rai (j := 9) (show ((40) * (c)) + (i) < 2560 by omega)).trans (congrArg Value.int hkd))) ?_
    refine jx_iconst (v0 := 1) d_Md_work_79 (by decide) ?_
    refine jx_icmp_gt (tgt := 101) d_Md_work_80 (by decide) (fun c3 => ?_) (fun c3 => absurd c3 (by decide))
    refine jx_iload_n d_Md_work_101 0 rfl ?_
    refine jx_if_ne (tgt := 118) d_Md_work_102 (by decide) (fun c4 => ?_) (fun c4 => absurd c4 (by decide))
    refine jx_iload_n d_Md_work_118 0 rfl ?_
    refine jx_iconst (v0 := 1) d_Md_work_119 (by decide) ?_
    refine jx_icmp_ne (tgt := 156) d_Md_work_120 (by decide) (fun c5 => ?_) (fun c5 => absurd c5 (by decide))
    refine jx_iload_n d_Md_work_156 0 rfl ?_
    refine jx_iconst (v0 := 1) d_Md_work_157 (by decide) ?_
    refine jx_icmp_ne (tgt := 218) d_Md_work_158 (by decide) (fun c6 => ?_) (fun c6 => absurd c6 (by decide))
    refine jx_aload_n d_Md_work_218 2 rfl ?_
    refine jx_aload_n d_Md_work_219 2 rfl ?_
    refine jx_get d_Md_work_220 fF_Md_36 (md_tg hK) (md_rr hK (k := 12) (j := 9) rfl rfl rfl) ?_
    refine jx_iload_n d_Md_work_223 1 rfl ?_
    refine jx_iald d_Md_work_224 (md_ta hK (j := 9) rfl) rfl (jm_vinN (show ((40) * (c)) + (i) < 2560 by omega) (by decide)) (jm_atN (show ((40) * (c)) + (i) < 2 ^ 31 by omega) ((show (mdH h a (mai s 27 ((H + 1) - (1)) (nI ((2) + (1))))).2.2.2 (a + 9) (((40) * (c)) + (i)) = Value.int (s.2.2.1 9 (((40) * (c)) + (i))) from md_rai (j := 9) (show ((40) * (c)) + (i) < 2560 by omega)).trans (congrArg Value.int hkd))) ?_
    refine jx_bipush (v0 := 9) d_Md_work_225 (by decide) ?_
    refine jx_icmp_ne (tgt := 237) d_Md_work_227 (by decide) (fun c7 => ?_) (fun c7 => absurd c7 (by decide))
    refine jx_aload_n d_Md_work_237 2 rfl ?_
    refine jx_aload_n d_Md_work_238 2 rfl ?_
    refine jx_get d_Md_work_239 fF_Md_36 (md_tg hK) (md_rr hK (k := 12) (j := 9) rfl rfl rfl) ?_
    refine jx_iload_n d_Md_work_242 1 rfl ?_
    refine jx_iald d_Md_work_243 (md_ta hK (j := 9) rfl) rfl (jm_vinN (show ((40) * (c)) + (i) < 2560 by omega) (by decide)) (jm_atN (show ((40) * (c)) + (i) < 2 ^ 31 by omega) ((show (mdH h a (mai s 27 ((H + 1) - (1)) (nI ((2) + (1))))).2.2.2 (a + 9) (((40) * (c)) + (i)) = Value.int (s.2.2.1 9 (((40) * (c)) + (i))) from md_rai (j := 9) (show ((40) * (c)) + (i) < 2560 by omega)).trans (congrArg Value.int hkd))) ?_
    refine jx_aload_n d_Md_work_244 2 rfl ?_
    refine jx_get d_Md_work_245 fF_Md_93 (md_tg hK) (md_rr hK (k := 42) (j := 28) rfl rfl rfl) ?_
    refine jx_aload_n d_Md_work_248 2 rfl ?_
    refine jx_get d_Md_work_249 fF_Md_225 (md_tg hK) ((show (mdH h a (mai s 27 ((H + 1) - (1)) (nI ((2) + (1))))).2.2.2 a 43 = Value.int (s.1 43) from md_ri rfl).trans (congrArg Value.int hH)) ?_
    refine jx_iconst (v0 := 1) d_Md_work_252 (by decide) ?_
    refine jx_isub d_Md_work_253 ?_
    refine jx_ati (pk_sub (a := H + 1) (b := 1) (by omega)) ?_
    refine jx_lald d_Md_work_254 (md_ta hK (j := 28) rfl) rfl (jm_vinN (show (H + 1) - (1) < 64 by omega) (by decide)) (jm_atN (show (H + 1) - (1) < 2 ^ 31 by omega) (show (mdH h a (mai s 27 ((H + 1) - (1)) (nI ((2) + (1))))).2.2.2 (a + 28) ((H + 1) - (1)) = Value.long (s.2.2.2.1 28 ((H + 1) - (1))) from md_ral (j := 28) (show (H + 1) - (1) < 64 by omega))) ?_
    refine jx_aload_n d_Md_work_255 2 rfl ?_
    refine jx_get d_Md_work_256 fF_Md_237 (md_tg hK) (show (mdH h a (mai s 27 ((H + 1) - (1)) (nI ((2) + (1))))).2.2.2 a 44 = Value.long (s.2.1 44) from md_rl rfl) ?_
    refine jx_callV (M2 := mm_Md_both) rfl (md_tg hK) lk_Md_240 wi_Md_both ws_Md_both d_Md_work_259 (c_Md_both3 l G (d - 1) (s := (mai s 27 ((H + 1) - (1)) (nI ((2) + (1))))) (x := s.2.2.2.1 28 H) (y := s.2.1 44) hK) cd_Md_both rfl rfl (Nat.le_of_ble_eq_true rfl) (jm_fok (by omega)) (jm_look (by decide) (by omega)) ?_
    refine jx_put (v0 := .long ((m_both 3 (s.2.2.2.1 28 H) (s.2.1 44)).2)) d_Md_work_262 fF_Md_237 jv_Md ft_Md_answer (md_tg hK) rfl rfl ?_
    refine jx_ath (md_wl (k := 44) rfl) ?_
    refine jx_aload_n d_Md_work_265 2 rfl ?_
    refine jx_dup d_Md_work_266 rfl ?_
    refine jx_get d_Md_work_267 fF_Md_225 (md_tg hK) ((show (mdH h a (ml (mai s 27 ((H + 1) - (1)) (nI ((2) + (1)))) 44 ((m_both 3 (s.2.2.2.1 28 H) (s.2.1 44)).2))).2.2.2 a 43 = Value.int (s.1 43) from md_ri rfl).trans (congrArg Value.int hH)) ?_
    refine jx_iconst (v0 := 1) d_Md_work_270 (by decide) ?_
    refine jx_isub d_Md_work_271 ?_
    refine jx_ati (pk_sub (a := H + 1) (b := 1) (by omega)) ?_
    refine jx_put (v0 := .int (nI ((H + 1) - (1)))) d_Md_work_272 fF_Md_225 jv_Md ft_Md_high (md_tg hK) rfl rfl ?_
    refine jx_ath (md_wi (k := 43) rfl) ?_
    refine jx_goto (tgt := 15) d_Md_work_275 (by decide) ?_
    refine jx_lv [2, 3] rfl ?_
    exact kk
set_option maxHeartbeats 4000000 in
set_option maxRecDepth 100000 in
theorem it_both4 (l : Launch) (G : jm_G) {h : jm_H} {a : Nat} {s : MS} {c H i : Nat} {n0 s0 d : Nat} {Post : jm_r → jm_H → Prop} (hd : 1 ≤ d) (hK : MdK h a) (hc : c < 64) (hi : i < 40) (hH6 : H < 63) (hH : s.1 43 = nI (H + 1)) (he : s.1 39 = 0) (hpi : s.2.2.1 26 H = nI i) (hph : s.2.2.1 27 H = nI 2) (hkd : s.2.2.1 9 (40 * c + i) = nI 4) (kk : jm_X l G mm_Md_work n0 s0 (jm_zn G d n0 s0) Post 15 [(0, .ref a), (1, .int (nI c))] [] (mdH h a (mi (ml (mai s 27 H (nI 3)) 44 (m_both 4 (s.2.2.2.1 28 H) (s.2.1 44)).2) 43 (nI H)))) : jm_X l G mm_Md_work n0 s0 (jm_zn G d n0 s0) Post 15 [(0, .ref a), (1, .int (nI c))] [] (mdH h a s) := by
  refine jx_aload_n d_Md_work_15 0 rfl ?_
  refine jx_get d_Md_work_16 fF_Md_225 (md_tg hK) ((show (mdH h a s).2.2.2 a 43 = Value.int (s.1 43) from md_ri rfl).trans (congrArg Value.int hH)) ?_
  refine jx_if_leN (tgt := 278) (H + 1) d_Md_work_19 rfl (by omega) (by decide) (fun c1 => ?_) (fun c1 => ?_)
  · omega
  ·
    refine jx_aload_n d_Md_work_22 0 rfl ?_
    refine jx_get d_Md_work_23 fF_Md_231 (md_tg hK) ((show (mdH h a s).2.2.2 a 39 = Value.int (s.1 39) from md_ri rfl).trans (congrArg Value.int he)) ?_
    refine jx_if_ne (tgt := 278) d_Md_work_26 (by decide) (fun c2 => absurd c2 (by decide)) (fun c2 => ?_)
    refine jx_bipush (v0 := 40) d_Md_work_29 (by decide) ?_
    refine jx_iload_n d_Md_work_31 1 rfl ?_
    refine jx_imul d_Md_work_32 ?_
    refine jx_ati (pk_mul (40) (c)) ?_
    refine jx_aload_n d_Md_work_33 0 rfl ?_
    refine jx_get d_Md_work_34 fF_Md_87 (md_tg hK) (md_rr hK (k := 40) (j := 26) rfl rfl rfl) ?_
    refine jx_aload_n d_Md_work_37 0 rfl ?_
    refine jx_get d_Md_work_38 fF_Md_225 (md_tg hK) ((show (mdH h a s).2.2.2 a 43 = Value.int (s.1 43) from md_ri rfl).trans (congrArg Value.int hH)) ?_
    refine jx_iconst (v0 := 1) d_Md_work_41 (by decide) ?_
    refine jx_isub d_Md_work_42 ?_
    refine jx_ati (pk_sub (a := H + 1) (b := 1) (by omega)) ?_
    refine jx_iald d_Md_work_43 (md_ta hK (j := 26) rfl) rfl (jm_vinN (show (H + 1) - (1) < 64 by omega) (by decide)) (jm_atN (show (H + 1) - (1) < 2 ^ 31 by omega) ((show (mdH h a s).2.2.2 (a + 26) ((H + 1) - (1)) = Value.int (s.2.2.1 26 ((H + 1) - (1))) from md_rai (j := 26) (show (H + 1) - (1) < 64 by omega)).trans (congrArg Value.int hpi))) ?_
    refine jx_iadd d_Md_work_44 ?_
    refine jx_ati (nI_add ((40) * (c)) (i)) ?_
    refine jx_istore_n (lv' := [(2, .int (nI (((40) * (c)) + (i)))), (0, .ref (a)), (1, .int (nI (c)))]) d_Md_work_45 (by decide) rfl ?_
    refine jx_aload_n d_Md_work_46 1 rfl ?_
    refine jx_get d_Md_work_47 fF_Md_90 (md_tg hK) (md_rr hK (k := 41) (j := 27) rfl rfl rfl) ?_
    refine jx_aload_n d_Md_work_50 1 rfl ?_
    refine jx_get d_Md_work_51 fF_Md_225 (md_tg hK) ((show (mdH h a s).2.2.2 a 43 = Value.int (s.1 43) from md_ri rfl).trans (congrArg Value.int hH)) ?_
    refine jx_iconst (v0 := 1) d_Md_work_54 (by decide) ?_
    refine jx_isub d_Md_work_55 ?_
    refine jx_ati (pk_sub (a := H + 1) (b := 1) (by omega)) ?_
    refine jx_iald d_Md_work_56 (md_ta hK (j := 27) rfl) rfl (jm_vinN (show (H + 1) - (1) < 64 by omega) (by decide)) (jm_atN (show (H + 1) - (1) < 2 ^ 31 by omega) ((show (mdH h a s).2.2.2 (a + 27) ((H + 1) - (1)) = Value.int (s.2.2.1 27 ((H + 1) - (1))) from md_rai (j := 27) (show (H + 1) - (1) < 64 by omega)).trans (congrArg Value.int hph))) ?_
    refine jx_istore_n (lv' := [(3, .int (nI 2)), (2, .int (nI (((40) * (c)) + (i)))), (0, .ref (a)), (1, .int (nI (c)))]) d_Md_work_57 (by decide) rfl ?_
    refine jx_aload_n d_Md_work_58 2 rfl ?_
    refine jx_get d_Md_work_59 fF_Md_90 (md_tg hK) (md_rr hK (k := 41) (j := 27) rfl rfl rfl) ?_
    refine jx_aload_n d_Md_work_62 2 rfl ?_
    refine jx_get d_Md_work_63 fF_Md_225 (md_tg hK) ((show (mdH h a s).2.2.2 a 43 = Value.int (s.1 43) from md_ri rfl).trans (congrArg Value.int hH)) ?_
    refine jx_iconst (v0 := 1) d_Md_work_66 (by decide) ?_
    refine jx_isub d_Md_work_67 ?_
    refine jx_ati (pk_sub (a := H + 1) (b := 1) (by omega)) ?_
    refine jx_dup2_11 d_Md_work_68 rfl rfl ?_
    refine jx_iald d_Md_work_69 (md_ta hK (j := 27) rfl) rfl (jm_vinN (show (H + 1) - (1) < 64 by omega) (by decide)) (jm_atN (show (H + 1) - (1) < 2 ^ 31 by omega) ((show (mdH h a s).2.2.2 (a + 27) ((H + 1) - (1)) = Value.int (s.2.2.1 27 ((H + 1) - (1))) from md_rai (j := 27) (show (H + 1) - (1) < 64 by omega)).trans (congrArg Value.int hph))) ?_
    refine jx_iconst (v0 := 1) d_Md_work_70 (by decide) ?_
    refine jx_iadd d_Md_work_71 ?_
    refine jx_ati (nI_add (2) (1)) ?_
    refine jx_iast d_Md_work_72 (md_ta hK (j := 27) rfl) rfl (jm_vinN (show (H + 1) - (1) < 64 by omega) (by decide)) ?_
    refine jx_ath ((jm_putN (show (H + 1) - (1) < 2 ^ 31 by omega)).trans (md_wai (j := 27) (show (H + 1) - (1) < 64 by omega))) ?_
    refine jx_aload_n d_Md_work_73 2 rfl ?_
    refine jx_get d_Md_work_74 fF_Md_36 (md_tg hK) (md_rr hK (k := 12) (j := 9) rfl rfl rfl) ?_
    refine jx_iload_n d_Md_work_77 1 rfl ?_
    refine jx_iald d_Md_work_78 (md_ta hK (j := 9) rfl) rfl (jm_vinN (show ((40) * (c)) + (i) < 2560 by omega) (by decide)) (jm_atN (show ((40) * (c)) + (i) < 2 ^ 31 by omega) ((show (mdH h a (mai s 27 ((H + 1) - (1)) (nI ((2) + (1))))).2.2.2 (a + 9) (((40) * (c)) + (i)) = Value.int (s.2.2.1 9 (((40) * (c)) + (i))) from md_rai (j := 9) (show ((40) * (c)) + (i) < 2560 by omega)).trans (congrArg Value.int hkd))) ?_
    refine jx_iconst (v0 := 1) d_Md_work_79 (by decide) ?_
    refine jx_icmp_gt (tgt := 101) d_Md_work_80 (by decide) (fun c3 => ?_) (fun c3 => absurd c3 (by decide))
    refine jx_iload_n d_Md_work_101 0 rfl ?_
    refine jx_if_ne (tgt := 118) d_Md_work_102 (by decide) (fun c4 => ?_) (fun c4 => absurd c4 (by decide))
    refine jx_iload_n d_Md_work_118 0 rfl ?_
    refine jx_iconst (v0 := 1) d_Md_work_119 (by decide) ?_
    refine jx_icmp_ne (tgt := 156) d_Md_work_120 (by decide) (fun c5 => ?_) (fun c5 => absurd c5 (by decide))
    refine jx_iload_n d_Md_work_156 0 rfl ?_
    refine jx_iconst (v0 := 1) d_Md_work_157 (by decide) ?_
    refine jx_icmp_ne (tgt := 218) d_Md_work_158 (by decide) (fun c6 => ?_) (fun c6 => absurd c6 (by decide))
    refine jx_aload_n d_Md_work_218 2 rfl ?_
    refine jx_aload_n d_Md_work_219 2 rfl ?_
    refine jx_get d_Md_work_220 fF_Md_36 (md_tg hK) (md_rr hK (k := 12) (j := 9) rfl rfl rfl) ?_
    refine jx_iload_n d_Md_work_223 1 rfl ?_
    refine jx_iald d_Md_work_224 (md_ta hK (j := 9) rfl) rfl (jm_vinN (show ((40) * (c)) + (i) < 2560 by omega) (by decide)) (jm_atN (show ((40) * (c)) + (i) < 2 ^ 31 by omega) ((show (mdH h a (mai s 27 ((H + 1) - (1)) (nI ((2) + (1))))).2.2.2 (a + 9) (((40) * (c)) + (i)) = Value.int (s.2.2.1 9 (((40) * (c)) + (i))) from md_rai (j := 9) (show ((40) * (c)) + (i) < 2560 by omega)).trans (congrArg Value.int hkd))) ?_
    refine jx_bipush (v0 := 9) d_Md_work_225 (by decide) ?_
    refine jx_icmp_ne (tgt := 237) d_Md_work_227 (by decide) (fun c7 => ?_) (fun c7 => absurd c7 (by decide))
    refine jx_aload_n d_Md_work_237 2 rfl ?_
    refine jx_aload_n d_Md_work_238 2 rfl ?_
    refine jx_get d_Md_work_239 fF_Md_36 (md_tg hK) (md_rr hK (k := 12) (j := 9) rfl rfl rfl) ?_
    refine jx_iload_n d_Md_work_242 1 rfl ?_
    refine jx_iald d_Md_work_243 (md_ta hK (j := 9) rfl) rfl (jm_vinN (show ((40) * (c)) + (i) < 2560 by omega) (by decide)) (jm_atN (show ((40) * (c)) + (i) < 2 ^ 31 by omega) ((show (mdH h a (mai s 27 ((H + 1) - (1)) (nI ((2) + (1))))).2.2.2 (a + 9) (((40) * (c)) + (i)) = Value.int (s.2.2.1 9 (((40) * (c)) + (i))) from md_rai (j := 9) (show ((40) * (c)) + (i) < 2560 by omega)).trans (congrArg Value.int hkd))) ?_
    refine jx_aload_n d_Md_work_244 2 rfl ?_
    refine jx_get d_Md_work_245 fF_Md_93 (md_tg hK) (md_rr hK (k := 42) (j := 28) rfl rfl rfl) ?_
    refine jx_aload_n d_Md_work_248 2 rfl ?_
    refine jx_get d_Md_work_249 fF_Md_225 (md_tg hK) ((show (mdH h a (mai s 27 ((H + 1) - (1)) (nI ((2) + (1))))).2.2.2 a 43 = Value.int (s.1 43) from md_ri rfl).trans (congrArg Value.int hH)) ?_
    refine jx_iconst (v0 := 1) d_Md_work_252 (by decide) ?_
    refine jx_isub d_Md_work_253 ?_
    refine jx_ati (pk_sub (a := H + 1) (b := 1) (by omega)) ?_
    refine jx_lald d_Md_work_254 (md_ta hK (j := 28) rfl) rfl (jm_vinN (show (H + 1) - (1) < 64 by omega) (by decide)) (jm_atN (show (H + 1) - (1) < 2 ^ 31 by omega) (show (mdH h a (mai s 27 ((H + 1) - (1)) (nI ((2) + (1))))).2.2.2 (a + 28) ((H + 1) - (1)) = Value.long (s.2.2.2.1 28 ((H + 1) - (1))) from md_ral (j := 28) (show (H + 1) - (1) < 64 by omega))) ?_
    refine jx_aload_n d_Md_work_255 2 rfl ?_
    refine jx_get d_Md_work_256 fF_Md_237 (md_tg hK) (show (mdH h a (mai s 27 ((H + 1) - (1)) (nI ((2) + (1))))).2.2.2 a 44 = Value.long (s.2.1 44) from md_rl rfl) ?_
    refine jx_callV (M2 := mm_Md_both) rfl (md_tg hK) lk_Md_240 wi_Md_both ws_Md_both d_Md_work_259 (c_Md_both4 l G (d - 1) (s := (mai s 27 ((H + 1) - (1)) (nI ((2) + (1))))) (x := s.2.2.2.1 28 H) (y := s.2.1 44) hK) cd_Md_both rfl rfl (Nat.le_of_ble_eq_true rfl) (jm_fok (by omega)) (jm_look (by decide) (by omega)) ?_
    refine jx_put (v0 := .long ((m_both 4 (s.2.2.2.1 28 H) (s.2.1 44)).2)) d_Md_work_262 fF_Md_237 jv_Md ft_Md_answer (md_tg hK) rfl rfl ?_
    refine jx_ath (md_wl (k := 44) rfl) ?_
    refine jx_aload_n d_Md_work_265 2 rfl ?_
    refine jx_dup d_Md_work_266 rfl ?_
    refine jx_get d_Md_work_267 fF_Md_225 (md_tg hK) ((show (mdH h a (ml (mai s 27 ((H + 1) - (1)) (nI ((2) + (1)))) 44 ((m_both 4 (s.2.2.2.1 28 H) (s.2.1 44)).2))).2.2.2 a 43 = Value.int (s.1 43) from md_ri rfl).trans (congrArg Value.int hH)) ?_
    refine jx_iconst (v0 := 1) d_Md_work_270 (by decide) ?_
    refine jx_isub d_Md_work_271 ?_
    refine jx_ati (pk_sub (a := H + 1) (b := 1) (by omega)) ?_
    refine jx_put (v0 := .int (nI ((H + 1) - (1)))) d_Md_work_272 fF_Md_225 jv_Md ft_Md_high (md_tg hK) rfl rfl ?_
    refine jx_ath (md_wi (k := 43) rfl) ?_
    refine jx_goto (tgt := 15) d_Md_work_275 (by decide) ?_
    refine jx_lv [2, 3] rfl ?_
    exact kk
set_option maxHeartbeats 4000000 in
set_option maxRecDepth 100000 in
theorem it_both5 (l : Launch) (G : jm_G) {h : jm_H} {a : Nat} {s : MS} {c H i : Nat} {n0 s0 d : Nat} {Post : jm_r → jm_H → Prop} (hd : 1 ≤ d) (hK : MdK h a) (hc : c < 64) (hi : i < 40) (hH6 : H < 63) (hH : s.1 43 = nI (H + 1)) (he : s.1 39 = 0) (hpi : s.2.2.1 26 H = nI i) (hph : s.2.2.1 27 H = nI 2) (hkd : s.2.2.1 9 (40 * c + i) = nI 5) (hy : ¬ s.2.1 44 = 0) (kk : jm_X l G mm_Md_work n0 s0 (jm_zn G d n0 s0) Post 15 [(0, .ref a), (1, .int (nI c))] [] (mdH h a (mi (ml (mai s 27 H (nI 3)) 44 (m_both 5 (s.2.2.2.1 28 H) (s.2.1 44)).2) 43 (nI H)))) : jm_X l G mm_Md_work n0 s0 (jm_zn G d n0 s0) Post 15 [(0, .ref a), (1, .int (nI c))] [] (mdH h a s) := by
  refine jx_aload_n d_Md_work_15 0 rfl ?_
  refine jx_get d_Md_work_16 fF_Md_225 (md_tg hK) ((show (mdH h a s).2.2.2 a 43 = Value.int (s.1 43) from md_ri rfl).trans (congrArg Value.int hH)) ?_
  refine jx_if_leN (tgt := 278) (H + 1) d_Md_work_19 rfl (by omega) (by decide) (fun c1 => ?_) (fun c1 => ?_)
  · omega
  ·
    refine jx_aload_n d_Md_work_22 0 rfl ?_
    refine jx_get d_Md_work_23 fF_Md_231 (md_tg hK) ((show (mdH h a s).2.2.2 a 39 = Value.int (s.1 39) from md_ri rfl).trans (congrArg Value.int he)) ?_
    refine jx_if_ne (tgt := 278) d_Md_work_26 (by decide) (fun c2 => absurd c2 (by decide)) (fun c2 => ?_)
    refine jx_bipush (v0 := 40) d_Md_work_29 (by decide) ?_
    refine jx_iload_n d_Md_work_31 1 rfl ?_
    refine jx_imul d_Md_work_32 ?_
    refine jx_ati (pk_mul (40) (c)) ?_
    refine jx_aload_n d_Md_work_33 0 rfl ?_
    refine jx_get d_Md_work_34 fF_Md_87 (md_tg hK) (md_rr hK (k := 40) (j := 26) rfl rfl rfl) ?_
    refine jx_aload_n d_Md_work_37 0 rfl ?_
    refine jx_get d_Md_work_38 fF_Md_225 (md_tg hK) ((show (mdH h a s).2.2.2 a 43 = Value.int (s.1 43) from md_ri rfl).trans (congrArg Value.int hH)) ?_
    refine jx_iconst (v0 := 1) d_Md_work_41 (by decide) ?_
    refine jx_isub d_Md_work_42 ?_
    refine jx_ati (pk_sub (a := H + 1) (b := 1) (by omega)) ?_
    refine jx_iald d_Md_work_43 (md_ta hK (j := 26) rfl) rfl (jm_vinN (show (H + 1) - (1) < 64 by omega) (by decide)) (jm_atN (show (H + 1) - (1) < 2 ^ 31 by omega) ((show (mdH h a s).2.2.2 (a + 26) ((H + 1) - (1)) = Value.int (s.2.2.1 26 ((H + 1) - (1))) from md_rai (j := 26) (show (H + 1) - (1) < 64 by omega)).trans (congrArg Value.int hpi))) ?_
    refine jx_iadd d_Md_work_44 ?_
    refine jx_ati (nI_add ((40) * (c)) (i)) ?_
    refine jx_istore_n (lv' := [(2, .int (nI (((40) * (c)) + (i)))), (0, .ref (a)), (1, .int (nI (c)))]) d_Md_work_45 (by decide) rfl ?_
    refine jx_aload_n d_Md_work_46 1 rfl ?_
    refine jx_get d_Md_work_47 fF_Md_90 (md_tg hK) (md_rr hK (k := 41) (j := 27) rfl rfl rfl) ?_
    refine jx_aload_n d_Md_work_50 1 rfl ?_
    refine jx_get d_Md_work_51 fF_Md_225 (md_tg hK) ((show (mdH h a s).2.2.2 a 43 = Value.int (s.1 43) from md_ri rfl).trans (congrArg Value.int hH)) ?_
    refine jx_iconst (v0 := 1) d_Md_work_54 (by decide) ?_
    refine jx_isub d_Md_work_55 ?_
    refine jx_ati (pk_sub (a := H + 1) (b := 1) (by omega)) ?_
    refine jx_iald d_Md_work_56 (md_ta hK (j := 27) rfl) rfl (jm_vinN (show (H + 1) - (1) < 64 by omega) (by decide)) (jm_atN (show (H + 1) - (1) < 2 ^ 31 by omega) ((show (mdH h a s).2.2.2 (a + 27) ((H + 1) - (1)) = Value.int (s.2.2.1 27 ((H + 1) - (1))) from md_rai (j := 27) (show (H + 1) - (1) < 64 by omega)).trans (congrArg Value.int hph))) ?_
    refine jx_istore_n (lv' := [(3, .int (nI 2)), (2, .int (nI (((40) * (c)) + (i)))), (0, .ref (a)), (1, .int (nI (c)))]) d_Md_work_57 (by decide) rfl ?_
    refine jx_aload_n d_Md_work_58 2 rfl ?_
    refine jx_get d_Md_work_59 fF_Md_90 (md_tg hK) (md_rr hK (k := 41) (j := 27) rfl rfl rfl) ?_
    refine jx_aload_n d_Md_work_62 2 rfl ?_
    refine jx_get d_Md_work_63 fF_Md_225 (md_tg hK) ((show (mdH h a s).2.2.2 a 43 = Value.int (s.1 43) from md_ri rfl).trans (congrArg Value.int hH)) ?_
    refine jx_iconst (v0 := 1) d_Md_work_66 (by decide) ?_
    refine jx_isub d_Md_work_67 ?_
    refine jx_ati (pk_sub (a := H + 1) (b := 1) (by omega)) ?_
    refine jx_dup2_11 d_Md_work_68 rfl rfl ?_
    refine jx_iald d_Md_work_69 (md_ta hK (j := 27) rfl) rfl (jm_vinN (show (H + 1) - (1) < 64 by omega) (by decide)) (jm_atN (show (H + 1) - (1) < 2 ^ 31 by omega) ((show (mdH h a s).2.2.2 (a + 27) ((H + 1) - (1)) = Value.int (s.2.2.1 27 ((H + 1) - (1))) from md_rai (j := 27) (show (H + 1) - (1) < 64 by omega)).trans (congrArg Value.int hph))) ?_
    refine jx_iconst (v0 := 1) d_Md_work_70 (by decide) ?_
    refine jx_iadd d_Md_work_71 ?_
    refine jx_ati (nI_add (2) (1)) ?_
    refine jx_iast d_Md_work_72 (md_ta hK (j := 27) rfl) rfl (jm_vinN (show (H + 1) - (1) < 64 by omega) (by decide)) ?_
    refine jx_ath ((jm_putN (show (H + 1) - (1) < 2 ^ 31 by omega)).trans (md_wai (j := 27) (show (H + 1) - (1) < 64 by omega))) ?_
    refine jx_aload_n d_Md_work_73 2 rfl ?_
    refine jx_get d_Md_work_74 fF_Md_36 (md_tg hK) (md_rr hK (k := 12) (j := 9) rfl rfl rfl) ?_
    refine jx_iload_n d_Md_work_77 1 rfl ?_
    refine jx_iald d_Md_work_78 (md_ta hK (j := 9) rfl) rfl (jm_vinN (show ((40) * (c)) + (i) < 2560 by omega) (by decide)) (jm_atN (show ((40) * (c)) + (i) < 2 ^ 31 by omega) ((show (mdH h a (mai s 27 ((H + 1) - (1)) (nI ((2) + (1))))).2.2.2 (a + 9) (((40) * (c)) + (i)) = Value.int (s.2.2.1 9 (((40) * (c)) + (i))) from md_rai (j := 9) (show ((40) * (c)) + (i) < 2560 by omega)).trans (congrArg Value.int hkd))) ?_
    refine jx_iconst (v0 := 1) d_Md_work_79 (by decide) ?_
    refine jx_icmp_gt (tgt := 101) d_Md_work_80 (by decide) (fun c3 => ?_) (fun c3 => absurd c3 (by decide))
    refine jx_iload_n d_Md_work_101 0 rfl ?_
    refine jx_if_ne (tgt := 118) d_Md_work_102 (by decide) (fun c4 => ?_) (fun c4 => absurd c4 (by decide))
    refine jx_iload_n d_Md_work_118 0 rfl ?_
    refine jx_iconst (v0 := 1) d_Md_work_119 (by decide) ?_
    refine jx_icmp_ne (tgt := 156) d_Md_work_120 (by decide) (fun c5 => ?_) (fun c5 => absurd c5 (by decide))
    refine jx_iload_n d_Md_work_156 0 rfl ?_
    refine jx_iconst (v0 := 1) d_Md_work_157 (by decide) ?_
    refine jx_icmp_ne (tgt := 218) d_Md_work_158 (by decide) (fun c6 => ?_) (fun c6 => absurd c6 (by decide))
    refine jx_aload_n d_Md_work_218 2 rfl ?_
    refine jx_aload_n d_Md_work_219 2 rfl ?_
    refine jx_get d_Md_work_220 fF_Md_36 (md_tg hK) (md_rr hK (k := 12) (j := 9) rfl rfl rfl) ?_
    refine jx_iload_n d_Md_work_223 1 rfl ?_
    refine jx_iald d_Md_work_224 (md_ta hK (j := 9) rfl) rfl (jm_vinN (show ((40) * (c)) + (i) < 2560 by omega) (by decide)) (jm_atN (show ((40) * (c)) + (i) < 2 ^ 31 by omega) ((show (mdH h a (mai s 27 ((H + 1) - (1)) (nI ((2) + (1))))).2.2.2 (a + 9) (((40) * (c)) + (i)) = Value.int (s.2.2.1 9 (((40) * (c)) + (i))) from md_rai (j := 9) (show ((40) * (c)) + (i) < 2560 by omega)).trans (congrArg Value.int hkd))) ?_
    refine jx_bipush (v0 := 9) d_Md_work_225 (by decide) ?_
    refine jx_icmp_ne (tgt := 237) d_Md_work_227 (by decide) (fun c7 => ?_) (fun c7 => absurd c7 (by decide))
    refine jx_aload_n d_Md_work_237 2 rfl ?_
    refine jx_aload_n d_Md_work_238 2 rfl ?_
    refine jx_get d_Md_work_239 fF_Md_36 (md_tg hK) (md_rr hK (k := 12) (j := 9) rfl rfl rfl) ?_
    refine jx_iload_n d_Md_work_242 1 rfl ?_
    refine jx_iald d_Md_work_243 (md_ta hK (j := 9) rfl) rfl (jm_vinN (show ((40) * (c)) + (i) < 2560 by omega) (by decide)) (jm_atN (show ((40) * (c)) + (i) < 2 ^ 31 by omega) ((show (mdH h a (mai s 27 ((H + 1) - (1)) (nI ((2) + (1))))).2.2.2 (a + 9) (((40) * (c)) + (i)) = Value.int (s.2.2.1 9 (((40) * (c)) + (i))) from md_rai (j := 9) (show ((40) * (c)) + (i) < 2560 by omega)).trans (congrArg Value.int hkd))) ?_
    refine jx_aload_n d_Md_work_244 2 rfl ?_
    refine jx_get d_Md_work_245 fF_Md_93 (md_tg hK) (md_rr hK (k := 42) (j := 28) rfl rfl rfl) ?_
    refine jx_aload_n d_Md_work_248 2 rfl ?_
    refine jx_get d_Md_work_249 fF_Md_225 (md_tg hK) ((show (mdH h a (mai s 27 ((H + 1) - (1)) (nI ((2) + (1))))).2.2.2 a 43 = Value.int (s.1 43) from md_ri rfl).trans (congrArg Value.int hH)) ?_
    refine jx_iconst (v0 := 1) d_Md_work_252 (by decide) ?_
    refine jx_isub d_Md_work_253 ?_
    refine jx_ati (pk_sub (a := H + 1) (b := 1) (by omega)) ?_
    refine jx_lald d_Md_work_254 (md_ta hK (j := 28) rfl) rfl (jm_vinN (show (H + 1) - (1) < 64 by omega) (by decide)) (jm_atN (show (H + 1) - (1) < 2 ^ 31 by omega) (show (mdH h a (mai s 27 ((H + 1) - (1)) (nI ((2) + (1))))).2.2.2 (a + 28) ((H + 1) - (1)) = Value.long (s.2.2.2.1 28 ((H + 1) - (1))) from md_ral (j := 28) (show (H + 1) - (1) < 64 by omega))) ?_
    refine jx_aload_n d_Md_work_255 2 rfl ?_
    refine jx_get d_Md_work_256 fF_Md_237 (md_tg hK) (show (mdH h a (mai s 27 ((H + 1) - (1)) (nI ((2) + (1))))).2.2.2 a 44 = Value.long (s.2.1 44) from md_rl rfl) ?_
    refine jx_callV (M2 := mm_Md_both) rfl (md_tg hK) lk_Md_240 wi_Md_both ws_Md_both d_Md_work_259 (c_Md_both5 l G (d - 1) (s := (mai s 27 ((H + 1) - (1)) (nI ((2) + (1))))) (x := s.2.2.2.1 28 H) (y := s.2.1 44) hK hy) cd_Md_both rfl rfl (Nat.le_of_ble_eq_true rfl) (jm_fok (by omega)) (jm_look (by decide) (by omega)) ?_
    refine jx_put (v0 := .long ((m_both 5 (s.2.2.2.1 28 H) (s.2.1 44)).2)) d_Md_work_262 fF_Md_237 jv_Md ft_Md_answer (md_tg hK) rfl rfl ?_
    refine jx_ath (md_wl (k := 44) rfl) ?_
    refine jx_aload_n d_Md_work_265 2 rfl ?_
    refine jx_dup d_Md_work_266 rfl ?_
    refine jx_get d_Md_work_267 fF_Md_225 (md_tg hK) ((show (mdH h a (ml (mai s 27 ((H + 1) - (1)) (nI ((2) + (1)))) 44 ((m_both 5 (s.2.2.2.1 28 H) (s.2.1 44)).2))).2.2.2 a 43 = Value.int (s.1 43) from md_ri rfl).trans (congrArg Value.int hH)) ?_
    refine jx_iconst (v0 := 1) d_Md_work_270 (by decide) ?_
    refine jx_isub d_Md_work_271 ?_
    refine jx_ati (pk_sub (a := H + 1) (b := 1) (by omega)) ?_
    refine jx_put (v0 := .int (nI ((H + 1) - (1)))) d_Md_work_272 fF_Md_225 jv_Md ft_Md_high (md_tg hK) rfl rfl ?_
    refine jx_ath (md_wi (k := 43) rfl) ?_
    refine jx_goto (tgt := 15) d_Md_work_275 (by decide) ?_
    refine jx_lv [2, 3] rfl ?_
    exact kk
set_option maxHeartbeats 4000000 in
set_option maxRecDepth 100000 in
theorem it_both7 (l : Launch) (G : jm_G) {h : jm_H} {a : Nat} {s : MS} {c H i : Nat} {n0 s0 d : Nat} {Post : jm_r → jm_H → Prop} (hd : 1 ≤ d) (hK : MdK h a) (hc : c < 64) (hi : i < 40) (hH6 : H < 63) (hH : s.1 43 = nI (H + 1)) (he : s.1 39 = 0) (hpi : s.2.2.1 26 H = nI i) (hph : s.2.2.1 27 H = nI 2) (hkd : s.2.2.1 9 (40 * c + i) = nI 7) (kk : jm_X l G mm_Md_work n0 s0 (jm_zn G d n0 s0) Post 15 [(0, .ref a), (1, .int (nI c))] [] (mdH h a (mi (ml (mai s 27 H (nI 3)) 44 (m_both 7 (s.2.2.2.1 28 H) (s.2.1 44)).2) 43 (nI H)))) : jm_X l G mm_Md_work n0 s0 (jm_zn G d n0 s0) Post 15 [(0, .ref a), (1, .int (nI c))] [] (mdH h a s) := by
  refine jx_aload_n d_Md_work_15 0 rfl ?_
  refine jx_get d_Md_work_16 fF_Md_225 (md_tg hK) ((show (mdH h a s).2.2.2 a 43 = Value.int (s.1 43) from md_ri rfl).trans (congrArg Value.int hH)) ?_
  refine jx_if_leN (tgt := 278) (H + 1) d_Md_work_19 rfl (by omega) (by decide) (fun c1 => ?_) (fun c1 => ?_)
  · omega
  ·
    refine jx_aload_n d_Md_work_22 0 rfl ?_
    refine jx_get d_Md_work_23 fF_Md_231 (md_tg hK) ((show (mdH h a s).2.2.2 a 39 = Value.int (s.1 39) from md_ri rfl).trans (congrArg Value.int he)) ?_
    refine jx_if_ne (tgt := 278) d_Md_work_26 (by decide) (fun c2 => absurd c2 (by decide)) (fun c2 => ?_)
    refine jx_bipush (v0 := 40) d_Md_work_29 (by decide) ?_
    refine jx_iload_n d_Md_work_31 1 rfl ?_
    refine jx_imul d_Md_work_32 ?_
    refine jx_ati (pk_mul (40) (c)) ?_
    refine jx_aload_n d_Md_work_33 0 rfl ?_
    refine jx_get d_Md_work_34 fF_Md_87 (md_tg hK) (md_rr hK (k := 40) (j := 26) rfl rfl rfl) ?_
    refine jx_aload_n d_Md_work_37 0 rfl ?_
    refine jx_get d_Md_work_38 fF_Md_225 (md_tg hK) ((show (mdH h a s).2.2.2 a 43 = Value.int (s.1 43) from md_ri rfl).trans (congrArg Value.int hH)) ?_
    refine jx_iconst (v0 := 1) d_Md_work_41 (by decide) ?_
    refine jx_isub d_Md_work_42 ?_
    refine jx_ati (pk_sub (a := H + 1) (b := 1) (by omega)) ?_
    refine jx_iald d_Md_work_43 (md_ta hK (j := 26) rfl) rfl (jm_vinN (show (H + 1) - (1) < 64 by omega) (by decide)) (jm_atN (show (H + 1) - (1) < 2 ^ 31 by omega) ((show (mdH h a s).2.2.2 (a + 26) ((H + 1) - (1)) = Value.int (s.2.2.1 26 ((H + 1) - (1))) from md_rai (j := 26) (show (H + 1) - (1) < 64 by omega)).trans (congrArg Value.int hpi))) ?_
    refine jx_iadd d_Md_work_44 ?_
    refine jx_ati (nI_add ((40) * (c)) (i)) ?_
    refine jx_istore_n (lv' := [(2, .int (nI (((40) * (c)) + (i)))), (0, .ref (a)), (1, .int (nI (c)))]) d_Md_work_45 (by decide) rfl ?_
    refine jx_aload_n d_Md_work_46 1 rfl ?_
    refine jx_get d_Md_work_47 fF_Md_90 (md_tg hK) (md_rr hK (k := 41) (j := 27) rfl rfl rfl) ?_
    refine jx_aload_n d_Md_work_50 1 rfl ?_
    refine jx_get d_Md_work_51 fF_Md_225 (md_tg hK) ((show (mdH h a s).2.2.2 a 43 = Value.int (s.1 43) from md_ri rfl).trans (congrArg Value.int hH)) ?_
    refine jx_iconst (v0 := 1) d_Md_work_54 (by decide) ?_
    refine jx_isub d_Md_work_55 ?_
    refine jx_ati (pk_sub (a := H + 1) (b := 1) (by omega)) ?_
    refine jx_iald d_Md_work_56 (md_ta hK (j := 27) rfl) rfl (jm_vinN (show (H + 1) - (1) < 64 by omega) (by decide)) (jm_atN (show (H + 1) - (1) < 2 ^ 31 by omega) ((show (mdH h a s).2.2.2 (a + 27) ((H + 1) - (1)) = Value.int (s.2.2.1 27 ((H + 1) - (1))) from md_rai (j := 27) (show (H + 1) - (1) < 64 by omega)).trans (congrArg Value.int hph))) ?_
    refine jx_istore_n (lv' := [(3, .int (nI 2)), (2, .int (nI (((40) * (c)) + (i)))), (0, .ref (a)), (1, .int (nI (c)))]) d_Md_work_57 (by decide) rfl ?_
    refine jx_aload_n d_Md_work_58 2 rfl ?_
    refine jx_get d_Md_work_59 fF_Md_90 (md_tg hK) (md_rr hK (k := 41) (j := 27) rfl rfl rfl) ?_
    refine jx_aload_n d_Md_work_62 2 rfl ?_
    refine jx_get d_Md_work_63 fF_Md_225 (md_tg hK) ((show (mdH h a s).2.2.2 a 43 = Value.int (s.1 43) from md_ri rfl).trans (congrArg Value.int hH)) ?_
    refine jx_iconst (v0 := 1) d_Md_work_66 (by decide) ?_
    refine jx_isub d_Md_work_67 ?_
    refine jx_ati (pk_sub (a := H + 1) (b := 1) (by omega)) ?_
    refine jx_dup2_11 d_Md_work_68 rfl rfl ?_
    refine jx_iald d_Md_work_69 (md_ta hK (j := 27) rfl) rfl (jm_vinN (show (H + 1) - (1) < 64 by omega) (by decide)) (jm_atN (show (H + 1) - (1) < 2 ^ 31 by omega) ((show (mdH h a s).2.2.2 (a + 27) ((H + 1) - (1)) = Value.int (s.2.2.1 27 ((H + 1) - (1))) from md_rai (j := 27) (show (H + 1) - (1) < 64 by omega)).trans (congrArg Value.int hph))) ?_
    refine jx_iconst (v0 := 1) d_Md_work_70 (by decide) ?_
    refine jx_iadd d_Md_work_71 ?_
    refine jx_ati (nI_add (2) (1)) ?_
    refine jx_iast d_Md_work_72 (md_ta hK (j := 27) rfl) rfl (jm_vinN (show (H + 1) - (1) < 64 by omega) (by decide)) ?_
    refine jx_ath ((jm_putN (show (H + 1) - (1) < 2 ^ 31 by omega)).trans (md_wai (j := 27) (show (H + 1) - (1) < 64 by omega))) ?_
    refine jx_aload_n d_Md_work_73 2 rfl ?_
    refine jx_get d_Md_work_74 fF_Md_36 (md_tg hK) (md_rr hK (k := 12) (j := 9) rfl rfl rfl) ?_
    refine jx_iload_n d_Md_work_77 1 rfl ?_
    refine jx_iald d_Md_work_78 (md_ta hK (j := 9) rfl) rfl (jm_vinN (show ((40) * (c)) + (i) < 2560 by omega) (by decide)) (jm_atN (show ((40) * (c)) + (i) < 2 ^ 31 by omega) ((show (mdH h a (mai s 27 ((H + 1) - (1)) (nI ((2) + (1))))).2.2.2 (a + 9) (((40) * (c)) + (i)) = Value.int (s.2.2.1 9 (((40) * (c)) + (i))) from md_rai (j := 9) (show ((40) * (c)) + (i) < 2560 by omega)).trans (congrArg Value.int hkd))) ?_
    refine jx_iconst (v0 := 1) d_Md_work_79 (by decide) ?_
    refine jx_icmp_gt (tgt := 101) d_Md_work_80 (by decide) (fun c3 => ?_) (fun c3 => absurd c3 (by decide))
    refine jx_iload_n d_Md_work_101 0 rfl ?_
    refine jx_if_ne (tgt := 118) d_Md_work_102 (by decide) (fun c4 => ?_) (fun c4 => absurd c4 (by decide))
    refine jx_iload_n d_Md_work_118 0 rfl ?_
    refine jx_iconst (v0 := 1) d_Md_work_119 (by decide) ?_
    refine jx_icmp_ne (tgt := 156) d_Md_work_120 (by decide) (fun c5 => ?_) (fun c5 => absurd c5 (by decide))
    refine jx_iload_n d_Md_work_156 0 rfl ?_
    refine jx_iconst (v0 := 1) d_Md_work_157 (by decide) ?_
    refine jx_icmp_ne (tgt := 218) d_Md_work_158 (by decide) (fun c6 => ?_) (fun c6 => absurd c6 (by decide))
    refine jx_aload_n d_Md_work_218 2 rfl ?_
    refine jx_aload_n d_Md_work_219 2 rfl ?_
    refine jx_get d_Md_work_220 fF_Md_36 (md_tg hK) (md_rr hK (k := 12) (j := 9) rfl rfl rfl) ?_
    refine jx_iload_n d_Md_work_223 1 rfl ?_
    refine jx_iald d_Md_work_224 (md_ta hK (j := 9) rfl) rfl (jm_vinN (show ((40) * (c)) + (i) < 2560 by omega) (by decide)) (jm_atN (show ((40) * (c)) + (i) < 2 ^ 31 by omega) ((show (mdH h a (mai s 27 ((H + 1) - (1)) (nI ((2) + (1))))).2.2.2 (a + 9) (((40) * (c)) + (i)) = Value.int (s.2.2.1 9 (((40) * (c)) + (i))) from md_rai (j := 9) (show ((40) * (c)) + (i) < 2560 by omega)).trans (congrArg Value.int hkd))) ?_
    refine jx_bipush (v0 := 9) d_Md_work_225 (by decide) ?_
    refine jx_icmp_ne (tgt := 237) d_Md_work_227 (by decide) (fun c7 => ?_) (fun c7 => absurd c7 (by decide))
    refine jx_aload_n d_Md_work_237 2 rfl ?_
    refine jx_aload_n d_Md_work_238 2 rfl ?_
    refine jx_get d_Md_work_239 fF_Md_36 (md_tg hK) (md_rr hK (k := 12) (j := 9) rfl rfl rfl) ?_
    refine jx_iload_n d_Md_work_242 1 rfl ?_
    refine jx_iald d_Md_work_243 (md_ta hK (j := 9) rfl) rfl (jm_vinN (show ((40) * (c)) + (i) < 2560 by omega) (by decide)) (jm_atN (show ((40) * (c)) + (i) < 2 ^ 31 by omega) ((show (mdH h a (mai s 27 ((H + 1) - (1)) (nI ((2) + (1))))).2.2.2 (a + 9) (((40) * (c)) + (i)) = Value.int (s.2.2.1 9 (((40) * (c)) + (i))) from md_rai (j := 9) (show ((40) * (c)) + (i) < 2560 by omega)).trans (congrArg Value.int hkd))) ?_
    refine jx_aload_n d_Md_work_244 2 rfl ?_
    refine jx_get d_Md_work_245 fF_Md_93 (md_tg hK) (md_rr hK (k := 42) (j := 28) rfl rfl rfl) ?_
    refine jx_aload_n d_Md_work_248 2 rfl ?_
    refine jx_get d_Md_work_249 fF_Md_225 (md_tg hK) ((show (mdH h a (mai s 27 ((H + 1) - (1)) (nI ((2) + (1))))).2.2.2 a 43 = Value.int (s.1 43) from md_ri rfl).trans (congrArg Value.int hH)) ?_
    refine jx_iconst (v0 := 1) d_Md_work_252 (by decide) ?_
    refine jx_isub d_Md_work_253 ?_
    refine jx_ati (pk_sub (a := H + 1) (b := 1) (by omega)) ?_
    refine jx_lald d_Md_work_254 (md_ta hK (j := 28) rfl) rfl (jm_vinN (show (H + 1) - (1) < 64 by omega) (by decide)) (jm_atN (show (H + 1) - (1) < 2 ^ 31 by omega) (show (mdH h a (mai s 27 ((H + 1) - (1)) (nI ((2) + (1))))).2.2.2 (a + 28) ((H + 1) - (1)) = Value.long (s.2.2.2.1 28 ((H + 1) - (1))) from md_ral (j := 28) (show (H + 1) - (1) < 64 by omega))) ?_
    refine jx_aload_n d_Md_work_255 2 rfl ?_
    refine jx_get d_Md_work_256 fF_Md_237 (md_tg hK) (show (mdH h a (mai s 27 ((H + 1) - (1)) (nI ((2) + (1))))).2.2.2 a 44 = Value.long (s.2.1 44) from md_rl rfl) ?_
    refine jx_callV (M2 := mm_Md_both) rfl (md_tg hK) lk_Md_240 wi_Md_both ws_Md_both d_Md_work_259 (c_Md_both7 l G (d - 1) (s := (mai s 27 ((H + 1) - (1)) (nI ((2) + (1))))) (x := s.2.2.2.1 28 H) (y := s.2.1 44) hK) cd_Md_both rfl rfl (Nat.le_of_ble_eq_true rfl) (jm_fok (by omega)) (jm_look (by decide) (by omega)) ?_
    refine jx_put (v0 := .long ((m_both 7 (s.2.2.2.1 28 H) (s.2.1 44)).2)) d_Md_work_262 fF_Md_237 jv_Md ft_Md_answer (md_tg hK) rfl rfl ?_
    refine jx_ath (md_wl (k := 44) rfl) ?_
    refine jx_aload_n d_Md_work_265 2 rfl ?_
    refine jx_dup d_Md_work_266 rfl ?_
    refine jx_get d_Md_work_267 fF_Md_225 (md_tg hK) ((show (mdH h a (ml (mai s 27 ((H + 1) - (1)) (nI ((2) + (1)))) 44 ((m_both 7 (s.2.2.2.1 28 H) (s.2.1 44)).2))).2.2.2 a 43 = Value.int (s.1 43) from md_ri rfl).trans (congrArg Value.int hH)) ?_
    refine jx_iconst (v0 := 1) d_Md_work_270 (by decide) ?_
    refine jx_isub d_Md_work_271 ?_
    refine jx_ati (pk_sub (a := H + 1) (b := 1) (by omega)) ?_
    refine jx_put (v0 := .int (nI ((H + 1) - (1)))) d_Md_work_272 fF_Md_225 jv_Md ft_Md_high (md_tg hK) rfl rfl ?_
    refine jx_ath (md_wi (k := 43) rfl) ?_
    refine jx_goto (tgt := 15) d_Md_work_275 (by decide) ?_
    refine jx_lv [2, 3] rfl ?_
    exact kk
set_option maxHeartbeats 4000000 in
set_option maxRecDepth 100000 in
theorem it_both8 (l : Launch) (G : jm_G) {h : jm_H} {a : Nat} {s : MS} {c H i : Nat} {n0 s0 d : Nat} {Post : jm_r → jm_H → Prop} (hd : 1 ≤ d) (hK : MdK h a) (hc : c < 64) (hi : i < 40) (hH6 : H < 63) (hH : s.1 43 = nI (H + 1)) (he : s.1 39 = 0) (hpi : s.2.2.1 26 H = nI i) (hph : s.2.2.1 27 H = nI 2) (hkd : s.2.2.1 9 (40 * c + i) = nI 8) (kk : jm_X l G mm_Md_work n0 s0 (jm_zn G d n0 s0) Post 15 [(0, .ref a), (1, .int (nI c))] [] (mdH h a (mi (ml (mai s 27 H (nI 3)) 44 (m_both 8 (s.2.2.2.1 28 H) (s.2.1 44)).2) 43 (nI H)))) : jm_X l G mm_Md_work n0 s0 (jm_zn G d n0 s0) Post 15 [(0, .ref a), (1, .int (nI c))] [] (mdH h a s) := by
  refine jx_aload_n d_Md_work_15 0 rfl ?_
  refine jx_get d_Md_work_16 fF_Md_225 (md_tg hK) ((show (mdH h a s).2.2.2 a 43 = Value.int (s.1 43) from md_ri rfl).trans (congrArg Value.int hH)) ?_
  refine jx_if_leN (tgt := 278) (H + 1) d_Md_work_19 rfl (by omega) (by decide) (fun c1 => ?_) (fun c1 => ?_)
  · omega
  ·
    refine jx_aload_n d_Md_work_22 0 rfl ?_
    refine jx_get d_Md_work_23 fF_Md_231 (md_tg hK) ((show (mdH h a s).2.2.2 a 39 = Value.int (s.1 39) from md_ri rfl).trans (congrArg Value.int he)) ?_
    refine jx_if_ne (tgt := 278) d_Md_work_26 (by decide) (fun c2 => absurd c2 (by decide)) (fun c2 => ?_)
    refine jx_bipush (v0 := 40) d_Md_work_29 (by decide) ?_
    refine jx_iload_n d_Md_work_31 1 rfl ?_
    refine jx_imul d_Md_work_32 ?_
    refine jx_ati (pk_mul (40) (c)) ?_
    refine jx_aload_n d_Md_work_33 0 rfl ?_
    refine jx_get d_Md_work_34 fF_Md_87 (md_tg hK) (md_rr hK (k := 40) (j := 26) rfl rfl rfl) ?_
    refine jx_aload_n d_Md_work_37 0 rfl ?_
    refine jx_get d_Md_work_38 fF_Md_225 (md_tg hK) ((show (mdH h a s).2.2.2 a 43 = Value.int (s.1 43) from md_ri rfl).trans (congrArg Value.int hH)) ?_
    refine jx_iconst (v0 := 1) d_Md_work_41 (by decide) ?_
    refine jx_isub d_Md_work_42 ?_
    refine jx_ati (pk_sub (a := H + 1) (b := 1) (by omega)) ?_
    refine jx_iald d_Md_work_43 (md_ta hK (j := 26) rfl) rfl (jm_vinN (show (H + 1) - (1) < 64 by omega) (by decide)) (jm_atN (show (H + 1) - (1) < 2 ^ 31 by omega) ((show (mdH h a s).2.2.2 (a + 26) ((H + 1) - (1)) = Value.int (s.2.2.1 26 ((H + 1) - (1))) from md_rai (j := 26) (show (H + 1) - (1) < 64 by omega)).trans (congrArg Value.int hpi))) ?_
    refine jx_iadd d_Md_work_44 ?_
    refine jx_ati (nI_add ((40) * (c)) (i)) ?_
    refine jx_istore_n (lv' := [(2, .int (nI (((40) * (c)) + (i)))), (0, .ref (a)), (1, .int (nI (c)))]) d_Md_work_45 (by decide) rfl ?_
    refine jx_aload_n d_Md_work_46 1 rfl ?_
    refine jx_get d_Md_work_47 fF_Md_90 (md_tg hK) (md_rr hK (k := 41) (j := 27) rfl rfl rfl) ?_
    refine jx_aload_n d_Md_work_50 1 rfl ?_
    refine jx_get d_Md_work_51 fF_Md_225 (md_tg hK) ((show (mdH h a s).2.2.2 a 43 = Value.int (s.1 43) from md_ri rfl).trans (congrArg Value.int hH)) ?_
    refine jx_iconst (v0 := 1) d_Md_work_54 (by decide) ?_
    refine jx_isub d_Md_work_55 ?_
    refine jx_ati (pk_sub (a := H + 1) (b := 1) (by omega)) ?_
    refine jx_iald d_Md_work_56 (md_ta hK (j := 27) rfl) rfl (jm_vinN (show (H + 1) - (1) < 64 by omega) (by decide)) (jm_atN (show (H + 1) - (1) < 2 ^ 31 by omega) ((show (mdH h a s).2.2.2 (a + 27) ((H + 1) - (1)) = Value.int (s.2.2.1 27 ((H + 1) - (1))) from md_rai (j := 27) (show (H + 1) - (1) < 64 by omega)).trans (congrArg Value.int hph))) ?_
    refine jx_istore_n (lv' := [(3, .int (nI 2)), (2, .int (nI (((40) * (c)) + (i)))), (0, .ref (a)), (1, .int (nI (c)))]) d_Md_work_57 (by decide) rfl ?_
    refine jx_aload_n d_Md_work_58 2 rfl ?_
    refine jx_get d_Md_work_59 fF_Md_90 (md_tg hK) (md_rr hK (k := 41) (j := 27) rfl rfl rfl) ?_
    refine jx_aload_n d_Md_work_62 2 rfl ?_
    refine jx_get d_Md_work_63 fF_Md_225 (md_tg hK) ((show (mdH h a s).2.2.2 a 43 = Value.int (s.1 43) from md_ri rfl).trans (congrArg Value.int hH)) ?_
    refine jx_iconst (v0 := 1) d_Md_work_66 (by decide) ?_
    refine jx_isub d_Md_work_67 ?_
    refine jx_ati (pk_sub (a := H + 1) (b := 1) (by omega)) ?_
    refine jx_dup2_11 d_Md_work_68 rfl rfl ?_
    refine jx_iald d_Md_work_69 (md_ta hK (j := 27) rfl) rfl (jm_vinN (show (H + 1) - (1) < 64 by omega) (by decide)) (jm_atN (show (H + 1) - (1) < 2 ^ 31 by omega) ((show (mdH h a s).2.2.2 (a + 27) ((H + 1) - (1)) = Value.int (s.2.2.1 27 ((H + 1) - (1))) from md_rai (j := 27) (show (H + 1) - (1) < 64 by omega)).trans (congrArg Value.int hph))) ?_
    refine jx_iconst (v0 := 1) d_Md_work_70 (by decide) ?_
    refine jx_iadd d_Md_work_71 ?_
    refine jx_ati (nI_add (2) (1)) ?_
    refine jx_iast d_Md_work_72 (md_ta hK (j := 27) rfl) rfl (jm_vinN (show (H + 1) - (1) < 64 by omega) (by decide)) ?_
    refine jx_ath ((jm_putN (show (H + 1) - (1) < 2 ^ 31 by omega)).trans (md_wai (j := 27) (show (H + 1) - (1) < 64 by omega))) ?_
    refine jx_aload_n d_Md_work_73 2 rfl ?_
    refine jx_get d_Md_work_74 fF_Md_36 (md_tg hK) (md_rr hK (k := 12) (j := 9) rfl rfl rfl) ?_
    refine jx_iload_n d_Md_work_77 1 rfl ?_
    refine jx_iald d_Md_work_78 (md_ta hK (j := 9) rfl) rfl (jm_vinN (show ((40) * (c)) + (i) < 2560 by omega) (by decide)) (jm_atN (show ((40) * (c)) + (i) < 2 ^ 31 by omega) ((show (mdH h a (mai s 27 ((H + 1) - (1)) (nI ((2) + (1))))).2.2.2 (a + 9) (((40) * (c)) + (i)) = Value.int (s.2.2.1 9 (((40) * (c)) + (i))) from md_rai (j := 9) (show ((40) * (c)) + (i) < 2560 by omega)).trans (congrArg Value.int hkd))) ?_
    refine jx_iconst (v0 := 1) d_Md_work_79 (by decide) ?_
    refine jx_icmp_gt (tgt := 101) d_Md_work_80 (by decide) (fun c3 => ?_) (fun c3 => absurd c3 (by decide))
    refine jx_iload_n d_Md_work_101 0 rfl ?_
    refine jx_if_ne (tgt := 118) d_Md_work_102 (by decide) (fun c4 => ?_) (fun c4 => absurd c4 (by decide))
    refine jx_iload_n d_Md_work_118 0 rfl ?_
    refine jx_iconst (v0 := 1) d_Md_work_119 (by decide) ?_
    refine jx_icmp_ne (tgt := 156) d_Md_work_120 (by decide) (fun c5 => ?_) (fun c5 => absurd c5 (by decide))
    refine jx_iload_n d_Md_work_156 0 rfl ?_
    refine jx_iconst (v0 := 1) d_Md_work_157 (by decide) ?_
    refine jx_icmp_ne (tgt := 218) d_Md_work_158 (by decide) (fun c6 => ?_) (fun c6 => absurd c6 (by decide))
    refine jx_aload_n d_Md_work_218 2 rfl ?_
    refine jx_aload_n d_Md_work_219 2 rfl ?_
    refine jx_get d_Md_work_220 fF_Md_36 (md_tg hK) (md_rr hK (k := 12) (j := 9) rfl rfl rfl) ?_
    refine jx_iload_n d_Md_work_223 1 rfl ?_
    refine jx_iald d_Md_work_224 (md_ta hK (j := 9) rfl) rfl (jm_vinN (show ((40) * (c)) + (i) < 2560 by omega) (by decide)) (jm_atN (show ((40) * (c)) + (i) < 2 ^ 31 by omega) ((show (mdH h a (mai s 27 ((H + 1) - (1)) (nI ((2) + (1))))).2.2.2 (a + 9) (((40) * (c)) + (i)) = Value.int (s.2.2.1 9 (((40) * (c)) + (i))) from md_rai (j := 9) (show ((40) * (c)) + (i) < 2560 by omega)).trans (congrArg Value.int hkd))) ?_
    refine jx_bipush (v0 := 9) d_Md_work_225 (by decide) ?_
    refine jx_icmp_ne (tgt := 237) d_Md_work_227 (by decide) (fun c7 => ?_) (fun c7 => absurd c7 (by decide))
    refine jx_aload_n d_Md_work_237 2 rfl ?_
    refine jx_aload_n d_Md_work_238 2 rfl ?_
    refine jx_get d_Md_work_239 fF_Md_36 (md_tg hK) (md_rr hK (k := 12) (j := 9) rfl rfl rfl) ?_
    refine jx_iload_n d_Md_work_242 1 rfl ?_
    refine jx_iald d_Md_work_243 (md_ta hK (j := 9) rfl) rfl (jm_vinN (show ((40) * (c)) + (i) < 2560 by omega) (by decide)) (jm_atN (show ((40) * (c)) + (i) < 2 ^ 31 by omega) ((show (mdH h a (mai s 27 ((H + 1) - (1)) (nI ((2) + (1))))).2.2.2 (a + 9) (((40) * (c)) + (i)) = Value.int (s.2.2.1 9 (((40) * (c)) + (i))) from md_rai (j := 9) (show ((40) * (c)) + (i) < 2560 by omega)).trans (congrArg Value.int hkd))) ?_
    refine jx_aload_n d_Md_work_244 2 rfl ?_
    refine jx_get d_Md_work_245 fF_Md_93 (md_tg hK) (md_rr hK (k := 42) (j := 28) rfl rfl rfl) ?_
    refine jx_aload_n d_Md_work_248 2 rfl ?_
    refine jx_get d_Md_work_249 fF_Md_225 (md_tg hK) ((show (mdH h a (mai s 27 ((H + 1) - (1)) (nI ((2) + (1))))).2.2.2 a 43 = Value.int (s.1 43) from md_ri rfl).trans (congrArg Value.int hH)) ?_
    refine jx_iconst (v0 := 1) d_Md_work_252 (by decide) ?_
    refine jx_isub d_Md_work_253 ?_
    refine jx_ati (pk_sub (a := H + 1) (b := 1) (by omega)) ?_
    refine jx_lald d_Md_work_254 (md_ta hK (j := 28) rfl) rfl (jm_vinN (show (H + 1) - (1) < 64 by omega) (by decide)) (jm_atN (show (H + 1) - (1) < 2 ^ 31 by omega) (show (mdH h a (mai s 27 ((H + 1) - (1)) (nI ((2) + (1))))).2.2.2 (a + 28) ((H + 1) - (1)) = Value.long (s.2.2.2.1 28 ((H + 1) - (1))) from md_ral (j := 28) (show (H + 1) - (1) < 64 by omega))) ?_
    refine jx_aload_n d_Md_work_255 2 rfl ?_
    refine jx_get d_Md_work_256 fF_Md_237 (md_tg hK) (show (mdH h a (mai s 27 ((H + 1) - (1)) (nI ((2) + (1))))).2.2.2 a 44 = Value.long (s.2.1 44) from md_rl rfl) ?_
    refine jx_callV (M2 := mm_Md_both) rfl (md_tg hK) lk_Md_240 wi_Md_both ws_Md_both d_Md_work_259 (c_Md_both8 l G (d - 1) (s := (mai s 27 ((H + 1) - (1)) (nI ((2) + (1))))) (x := s.2.2.2.1 28 H) (y := s.2.1 44) hK) cd_Md_both rfl rfl (Nat.le_of_ble_eq_true rfl) (jm_fok (by omega)) (jm_look (by decide) (by omega)) ?_
    refine jx_put (v0 := .long ((m_both 8 (s.2.2.2.1 28 H) (s.2.1 44)).2)) d_Md_work_262 fF_Md_237 jv_Md ft_Md_answer (md_tg hK) rfl rfl ?_
    refine jx_ath (md_wl (k := 44) rfl) ?_
    refine jx_aload_n d_Md_work_265 2 rfl ?_
    refine jx_dup d_Md_work_266 rfl ?_
    refine jx_get d_Md_work_267 fF_Md_225 (md_tg hK) ((show (mdH h a (ml (mai s 27 ((H + 1) - (1)) (nI ((2) + (1)))) 44 ((m_both 8 (s.2.2.2.1 28 H) (s.2.1 44)).2))).2.2.2 a 43 = Value.int (s.1 43) from md_ri rfl).trans (congrArg Value.int hH)) ?_
    refine jx_iconst (v0 := 1) d_Md_work_270 (by decide) ?_
    refine jx_isub d_Md_work_271 ?_
    refine jx_ati (pk_sub (a := H + 1) (b := 1) (by omega)) ?_
    refine jx_put (v0 := .int (nI ((H + 1) - (1)))) d_Md_work_272 fF_Md_225 jv_Md ft_Md_high (md_tg hK) rfl rfl ?_
    refine jx_ath (md_wi (k := 43) rfl) ?_
    refine jx_goto (tgt := 15) d_Md_work_275 (by decide) ?_
    refine jx_lv [2, 3] rfl ?_
    exact kk
set_option maxHeartbeats 4000000 in
set_option maxRecDepth 100000 in
theorem it_both0 (l : Launch) (G : jm_G) {h : jm_H} {a : Nat} {s : MS} {c H i : Nat} {n0 s0 d : Nat} {Post : jm_r → jm_H → Prop} (hd : 1 ≤ d) (hK : MdK h a) (hc : c < 64) (hi : i < 40) (hH6 : H < 63) (hH : s.1 43 = nI (H + 1)) (he : s.1 39 = 0) (hpi : s.2.2.1 26 H = nI i) (hph : s.2.2.1 27 H = nI 2) (hkd : s.2.2.1 9 (40 * c + i) = nI 5) (hy : s.2.1 44 = 0) (kk : jm_X l G mm_Md_work n0 s0 (jm_zn G d n0 s0) Post 15 [(0, .ref a), (1, .int (nI c))] [] (mdH h a (mi (ml (mi (mai s 27 H (nI 3)) 39 2) 44 0) 43 (nI H)))) : jm_X l G mm_Md_work n0 s0 (jm_zn G d n0 s0) Post 15 [(0, .ref a), (1, .int (nI c))] [] (mdH h a s) := by
  refine jx_aload_n d_Md_work_15 0 rfl ?_
  refine jx_get d_Md_work_16 fF_Md_225 (md_tg hK) ((show (mdH h a s).2.2.2 a 43 = Value.int (s.1 43) from md_ri rfl).trans (congrArg Value.int hH)) ?_
  refine jx_if_leN (tgt := 278) (H + 1) d_Md_work_19 rfl (by omega) (by decide) (fun c1 => ?_) (fun c1 => ?_)
  · omega
  ·
    refine jx_aload_n d_Md_work_22 0 rfl ?_
    refine jx_get d_Md_work_23 fF_Md_231 (md_tg hK) ((show (mdH h a s).2.2.2 a 39 = Value.int (s.1 39) from md_ri rfl).trans (congrArg Value.int he)) ?_
    refine jx_if_ne (tgt := 278) d_Md_work_26 (by decide) (fun c2 => absurd c2 (by decide)) (fun c2 => ?_)
    refine jx_bipush (v0 := 40) d_Md_work_29 (by decide) ?_
    refine jx_iload_n d_Md_work_31 1 rfl ?_
    refine jx_imul d_Md_work_32 ?_
    refine jx_ati (pk_mul (40) (c)) ?_
    refine jx_aload_n d_Md_work_33 0 rfl ?_
    refine jx_get d_Md_work_34 fF_Md_87 (md_tg hK) (md_rr hK (k := 40) (j := 26) rfl rfl rfl) ?_
    refine jx_aload_n d_Md_work_37 0 rfl ?_
    refine jx_get d_Md_work_38 fF_Md_225 (md_tg hK) ((show (mdH h a s).2.2.2 a 43 = Value.int (s.1 43) from md_ri rfl).trans (congrArg Value.int hH)) ?_
    refine jx_iconst (v0 := 1) d_Md_work_41 (by decide) ?_
    refine jx_isub d_Md_work_42 ?_
    refine jx_ati (pk_sub (a := H + 1) (b := 1) (by omega)) ?_
    refine jx_iald d_Md_work_43 (md_ta hK (j := 26) rfl) rfl (jm_vinN (show (H + 1) - (1) < 64 by omega) (by decide)) (jm_atN (show (H + 1) - (1) < 2 ^ 31 by omega) ((show (mdH h a s).2.2.2 (a + 26) ((H + 1) - (1)) = Value.int (s.2.2.1 26 ((H + 1) - (1))) from md_rai (j := 26) (show (H + 1) - (1) < 64 by omega)).trans (congrArg Value.int hpi))) ?_
    refine jx_iadd d_Md_work_44 ?_
    refine jx_ati (nI_add ((40) * (c)) (i)) ?_
    refine jx_istore_n (lv' := [(2, .int (nI (((40) * (c)) + (i)))), (0, .ref (a)), (1, .int (nI (c)))]) d_Md_work_45 (by decide) rfl ?_
    refine jx_aload_n d_Md_work_46 1 rfl ?_
    refine jx_get d_Md_work_47 fF_Md_90 (md_tg hK) (md_rr hK (k := 41) (j := 27) rfl rfl rfl) ?_
    refine jx_aload_n d_Md_work_50 1 rfl ?_
    refine jx_get d_Md_work_51 fF_Md_225 (md_tg hK) ((show (mdH h a s).2.2.2 a 43 = Value.int (s.1 43) from md_ri rfl).trans (congrArg Value.int hH)) ?_
    refine jx_iconst (v0 := 1) d_Md_work_54 (by decide) ?_
    refine jx_isub d_Md_work_55 ?_
    refine jx_ati (pk_sub (a := H + 1) (b := 1) (by omega)) ?_
    refine jx_iald d_Md_work_56 (md_ta hK (j := 27) rfl) rfl (jm_vinN (show (H + 1) - (1) < 64 by omega) (by decide)) (jm_atN (show (H + 1) - (1) < 2 ^ 31 by omega) ((show (mdH h a s).2.2.2 (a + 27) ((H + 1) - (1)) = Value.int (s.2.2.1 27 ((H + 1) - (1))) from md_rai (j := 27) (show (H + 1) - (1) < 64 by omega)).trans (congrArg Value.int hph))) ?_
    refine jx_istore_n (lv' := [(3, .int (nI 2)), (2, .int (nI (((40) * (c)) + (i)))), (0, .ref (a)), (1, .int (nI (c)))]) d_Md_work_57 (by decide) rfl ?_
    refine jx_aload_n d_Md_work_58 2 rfl ?_
    refine jx_get d_Md_work_59 fF_Md_90 (md_tg hK) (md_rr hK (k := 41) (j := 27) rfl rfl rfl) ?_
    refine jx_aload_n d_Md_work_62 2 rfl ?_
    refine jx_get d_Md_work_63 fF_Md_225 (md_tg hK) ((show (mdH h a s).2.2.2 a 43 = Value.int (s.1 43) from md_ri rfl).trans (congrArg Value.int hH)) ?_
    refine jx_iconst (v0 := 1) d_Md_work_66 (by decide) ?_
    refine jx_isub d_Md_work_67 ?_
    refine jx_ati (pk_sub (a := H + 1) (b := 1) (by omega)) ?_
    refine jx_dup2_11 d_Md_work_68 rfl rfl ?_
    refine jx_iald d_Md_work_69 (md_ta hK (j := 27) rfl) rfl (jm_vinN (show (H + 1) - (1) < 64 by omega) (by decide)) (jm_atN (show (H + 1) - (1) < 2 ^ 31 by omega) ((show (mdH h a s).2.2.2 (a + 27) ((H + 1) - (1)) = Value.int (s.2.2.1 27 ((H + 1) - (1))) from md_rai (j := 27) (show (H + 1) - (1) < 64 by omega)).trans (congrArg Value.int hph))) ?_
    refine jx_iconst (v0 := 1) d_Md_work_70 (by decide) ?_
    refine jx_iadd d_Md_work_71 ?_
    refine jx_ati (nI_add (2) (1)) ?_
    refine jx_iast d_Md_work_72 (md_ta hK (j := 27) rfl) rfl (jm_vinN (show (H + 1) - (1) < 64 by omega) (by decide)) ?_
    refine jx_ath ((jm_putN (show (H + 1) - (1) < 2 ^ 31 by omega)).trans (md_wai (j := 27) (show (H + 1) - (1) < 64 by omega))) ?_
    refine jx_aload_n d_Md_work_73 2 rfl ?_
    refine jx_get d_Md_work_74 fF_Md_36 (md_tg hK) (md_rr hK (k := 12) (j := 9) rfl rfl rfl) ?_
    refine jx_iload_n d_Md_work_77 1 rfl ?_
    refine jx_iald d_Md_work_78 (md_ta hK (j := 9) rfl) rfl (jm_vinN (show ((40) * (c)) + (i) < 2560 by omega) (by decide)) (jm_atN (show ((40) * (c)) + (i) < 2 ^ 31 by omega) ((show (mdH h a (mai s 27 ((H + 1) - (1)) (nI ((2) + (1))))).2.2.2 (a + 9) (((40) * (c)) + (i)) = Value.int (s.2.2.1 9 (((40) * (c)) + (i))) from md_rai (j := 9) (show ((40) * (c)) + (i) < 2560 by omega)).trans (congrArg Value.int hkd))) ?_
    refine jx_iconst (v0 := 1) d_Md_work_79 (by decide) ?_
    refine jx_icmp_gt (tgt := 101) d_Md_work_80 (by decide) (fun c3 => ?_) (fun c3 => absurd c3 (by decide))
    refine jx_iload_n d_Md_work_101 0 rfl ?_
    refine jx_if_ne (tgt := 118) d_Md_work_102 (by decide) (fun c4 => ?_) (fun c4 => absurd c4 (by decide))
    refine jx_iload_n d_Md_work_118 0 rfl ?_
    refine jx_iconst (v0 := 1) d_Md_work_119 (by decide) ?_
    refine jx_icmp_ne (tgt := 156) d_Md_work_120 (by decide) (fun c5 => ?_) (fun c5 => absurd c5 (by decide))
    refine jx_iload_n d_Md_work_156 0 rfl ?_
    refine jx_iconst (v0 := 1) d_Md_work_157 (by decide) ?_
    refine jx_icmp_ne (tgt := 218) d_Md_work_158 (by decide) (fun c6 => ?_) (fun c6 => absurd c6 (by decide))
    refine jx_aload_n d_Md_work_218 2 rfl ?_
    refine jx_aload_n d_Md_work_219 2 rfl ?_
    refine jx_get d_Md_work_220 fF_Md_36 (md_tg hK) (md_rr hK (k := 12) (j := 9) rfl rfl rfl) ?_
    refine jx_iload_n d_Md_work_223 1 rfl ?_
    refine jx_iald d_Md_work_224 (md_ta hK (j := 9) rfl) rfl (jm_vinN (show ((40) * (c)) + (i) < 2560 by omega) (by decide)) (jm_atN (show ((40) * (c)) + (i) < 2 ^ 31 by omega) ((show (mdH h a (mai s 27 ((H + 1) - (1)) (nI ((2) + (1))))).2.2.2 (a + 9) (((40) * (c)) + (i)) = Value.int (s.2.2.1 9 (((40) * (c)) + (i))) from md_rai (j := 9) (show ((40) * (c)) + (i) < 2560 by omega)).trans (congrArg Value.int hkd))) ?_
    refine jx_bipush (v0 := 9) d_Md_work_225 (by decide) ?_
    refine jx_icmp_ne (tgt := 237) d_Md_work_227 (by decide) (fun c7 => ?_) (fun c7 => absurd c7 (by decide))
    refine jx_aload_n d_Md_work_237 2 rfl ?_
    refine jx_aload_n d_Md_work_238 2 rfl ?_
    refine jx_get d_Md_work_239 fF_Md_36 (md_tg hK) (md_rr hK (k := 12) (j := 9) rfl rfl rfl) ?_
    refine jx_iload_n d_Md_work_242 1 rfl ?_
    refine jx_iald d_Md_work_243 (md_ta hK (j := 9) rfl) rfl (jm_vinN (show ((40) * (c)) + (i) < 2560 by omega) (by decide)) (jm_atN (show ((40) * (c)) + (i) < 2 ^ 31 by omega) ((show (mdH h a (mai s 27 ((H + 1) - (1)) (nI ((2) + (1))))).2.2.2 (a + 9) (((40) * (c)) + (i)) = Value.int (s.2.2.1 9 (((40) * (c)) + (i))) from md_rai (j := 9) (show ((40) * (c)) + (i) < 2560 by omega)).trans (congrArg Value.int hkd))) ?_
    refine jx_aload_n d_Md_work_244 2 rfl ?_
    refine jx_get d_Md_work_245 fF_Md_93 (md_tg hK) (md_rr hK (k := 42) (j := 28) rfl rfl rfl) ?_
    refine jx_aload_n d_Md_work_248 2 rfl ?_
    refine jx_get d_Md_work_249 fF_Md_225 (md_tg hK) ((show (mdH h a (mai s 27 ((H + 1) - (1)) (nI ((2) + (1))))).2.2.2 a 43 = Value.int (s.1 43) from md_ri rfl).trans (congrArg Value.int hH)) ?_
    refine jx_iconst (v0 := 1) d_Md_work_252 (by decide) ?_
    refine jx_isub d_Md_work_253 ?_
    refine jx_ati (pk_sub (a := H + 1) (b := 1) (by omega)) ?_
    refine jx_lald d_Md_work_254 (md_ta hK (j := 28) rfl) rfl (jm_vinN (show (H + 1) - (1) < 64 by omega) (by decide)) (jm_atN (show (H + 1) - (1) < 2 ^ 31 by omega) (show (mdH h a (mai s 27 ((H + 1) - (1)) (nI ((2) + (1))))).2.2.2 (a + 28) ((H + 1) - (1)) = Value.long (s.2.2.2.1 28 ((H + 1) - (1))) from md_ral (j := 28) (show (H + 1) - (1) < 64 by omega))) ?_
    refine jx_aload_n d_Md_work_255 2 rfl ?_
    refine jx_get d_Md_work_256 fF_Md_237 (md_tg hK) (show (mdH h a (mai s 27 ((H + 1) - (1)) (nI ((2) + (1))))).2.2.2 a 44 = Value.long (s.2.1 44) from md_rl rfl) ?_
    refine jx_callV (M2 := mm_Md_both) rfl (md_tg hK) lk_Md_240 wi_Md_both ws_Md_both d_Md_work_259 (c_Md_both0 l G (d - 1) (s := (mai s 27 ((H + 1) - (1)) (nI ((2) + (1))))) (x := s.2.2.2.1 28 H) (y := s.2.1 44) hK hy) cd_Md_both rfl rfl (Nat.le_of_ble_eq_true rfl) (jm_fok (by omega)) (jm_look (by decide) (by omega)) ?_
    refine jx_put (v0 := .long (0)) d_Md_work_262 fF_Md_237 jv_Md ft_Md_answer (md_tg hK) rfl rfl ?_
    refine jx_ath (md_wl (k := 44) rfl) ?_
    refine jx_aload_n d_Md_work_265 2 rfl ?_
    refine jx_dup d_Md_work_266 rfl ?_
    refine jx_get d_Md_work_267 fF_Md_225 (md_tg hK) ((show (mdH h a (ml (mi (mai s 27 ((H + 1) - (1)) (nI ((2) + (1)))) 39 2) 44 0)).2.2.2 a 43 = Value.int (s.1 43) from md_ri rfl).trans (congrArg Value.int hH)) ?_
    refine jx_iconst (v0 := 1) d_Md_work_270 (by decide) ?_
    refine jx_isub d_Md_work_271 ?_
    refine jx_ati (pk_sub (a := H + 1) (b := 1) (by omega)) ?_
    refine jx_put (v0 := .int (nI ((H + 1) - (1)))) d_Md_work_272 fF_Md_225 jv_Md ft_Md_high (md_tg hK) rfl rfl ?_
    refine jx_ath (md_wi (k := 43) rfl) ?_
    refine jx_goto (tgt := 15) d_Md_work_275 (by decide) ?_
    refine jx_lv [2, 3] rfl ?_
    exact kk
set_option maxHeartbeats 4000000 in
set_option maxRecDepth 100000 in
theorem it_err (l : Launch) (G : jm_G) {h : jm_H} {a : Nat} {s : MS} {c H : Nat} {n0 s0 d : Nat} {Post : jm_r → jm_H → Prop} (hK : MdK h a) (hH : s.1 43 = nI H) (hH6 : H ≤ 64) (he : ¬ s.1 39 = 0) (kk : jm_X l G mm_Md_work n0 s0 (jm_zn G d n0 s0) Post 278 [(0, .ref a), (1, .int (nI c))] [] (mdH h a s)) : jm_X l G mm_Md_work n0 s0 (jm_zn G d n0 s0) Post 15 [(0, .ref a), (1, .int (nI c))] [] (mdH h a s) := by
  refine jx_aload_n d_Md_work_15 0 rfl ?_
  refine jx_get d_Md_work_16 fF_Md_225 (md_tg hK) ((show (mdH h a s).2.2.2 a 43 = Value.int (s.1 43) from md_ri rfl).trans (congrArg Value.int hH)) ?_
  refine jx_if_leN (tgt := 278) (H) d_Md_work_19 rfl (by omega) (by decide) (fun c1 => ?_) (fun c1 => ?_)
  ·
    exact kk
  ·
    refine jx_aload_n d_Md_work_22 0 rfl ?_
    refine jx_get d_Md_work_23 fF_Md_231 (md_tg hK) (show (mdH h a s).2.2.2 a 39 = Value.int (s.1 39) from md_ri rfl) ?_
    refine jx_if_ne (tgt := 278) d_Md_work_26 (by decide) (fun c2 => ?_) (fun c2 => ?_)
    ·
      exact kk
    · exact absurd c2 he
set_option maxHeartbeats 4000000 in
set_option maxRecDepth 100000 in
theorem it_fin (l : Launch) (G : jm_G) {h : jm_H} {a : Nat} {s : MS} {c : Nat} {n0 s0 d : Nat} {Post : jm_r → jm_H → Prop} (hK : MdK h a) (hH : s.1 43 = nI 0) (kk : jm_X l G mm_Md_work n0 s0 (jm_zn G d n0 s0) Post 278 [(0, .ref a), (1, .int (nI c))] [] (mdH h a s)) : jm_X l G mm_Md_work n0 s0 (jm_zn G d n0 s0) Post 15 [(0, .ref a), (1, .int (nI c))] [] (mdH h a s) := by
  refine jx_aload_n d_Md_work_15 0 rfl ?_
  refine jx_get d_Md_work_16 fF_Md_225 (md_tg hK) ((show (mdH h a s).2.2.2 a 43 = Value.int (s.1 43) from md_ri rfl).trans (congrArg Value.int hH)) ?_
  refine jx_if_le (tgt := 278) d_Md_work_19 (by decide) (fun c1 => ?_) (fun c1 => absurd c1 (by decide))
  exact kk
