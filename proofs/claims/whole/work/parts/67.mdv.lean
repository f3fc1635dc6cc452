set_option maxHeartbeats 4000000 in
set_option maxRecDepth 100000 in
theorem c_Md_feed_t (l : Launch) (G : jm_G) (d : Nat) {h : jm_H} {a : Nat} {s : MS} {n : Nat} {wa wb wc wd we : Int32} (hK : MdK h a) (hn : s.1 2 = nI n) (hn2 : n ≤ 2000) (hr : 2000 < n + 20) : jm_C l G mm_Md_feed d [.ref a, .int wa, .int wb, .int wc, .int wd, .int we] (mdH h a s) (some (.int 0)) (mdH h a (mi s 0 1)) := by
  refine jm_ofE (by decide) rfl (Nat.le_of_ble_eq_true rfl) ?_
  refine jx_aload_n d_Md_feed_0 0 rfl ?_
  refine jx_aload_n d_Md_feed_1 0 rfl ?_
  refine jx_get d_Md_feed_2 fF_Md_100 (md_tg hK) ((show (mdH h a s).2.2.2 a 2 = Value.int (s.1 2) from md_ri rfl).trans (congrArg Value.int hn)) ?_
  refine jx_bipush (v0 := 20) d_Md_feed_5 (by decide) ?_
  refine jx_iadd d_Md_feed_7 ?_
  refine jx_ati (nI_add (n) (20)) ?_
  refine jx_sipush (v0 := 2000) d_Md_feed_8 (by decide) ?_
  refine jx_icmp_leN (tgt := 18) ((n) + (20)) (2000) d_Md_feed_11 rfl rfl (by omega) (by omega) (by decide) (fun c1 => ?_) (fun c1 => ?_)
  · omega
  ·
    refine jx_iconst (v0 := 1) d_Md_feed_14 (by decide) ?_
    refine jx_goto (tgt := 19) d_Md_feed_15 (by decide) ?_
    refine jx_put (v0 := .int (1)) d_Md_feed_19 fF_Md_96 jv_Md ft_Md_thrown (md_tg hK) rfl rfl ?_
    refine jx_ath (md_wi (k := 0) rfl) ?_
    refine jx_aload_n d_Md_feed_22 0 rfl ?_
    refine jx_get d_Md_feed_23 fF_Md_96 (md_tg hK) (show (mdH h a (mi s 0 1)).2.2.2 a 0 = Value.int (1) from md_ri rfl) ?_
    refine jx_if_le (tgt := 31) d_Md_feed_26 (by decide) (fun c2 => absurd c2 (by decide)) (fun c2 => ?_)
    refine jx_iconst (v0 := 0) d_Md_feed_29 (by decide) ?_
    exact jx_iret d_Md_feed_30 rfl (⟨rfl, rfl⟩)
def m_by (w : Int32) (k : Int32) : Int32 := (w >>> (k &&& 31)) &&& 255
set_option maxHeartbeats 4000000 in
set_option maxRecDepth 100000 in
theorem st_Md_feed0 (l : Launch) (G : jm_G) {h : jm_H} {a : Nat} {s : MS} {n : Nat} {wa wb wc wd we : Int32} {n0 s0 d : Nat} {Post : jm_r → jm_H → Prop} (hK : MdK h a) (hn : s.1 2 = nI n) (hr : n + 20 ≤ 2000) (kk : jm_X l G mm_Md_feed n0 s0 (jm_zn G d n0 s0) Post 34 [(6, .int (nI 1)), (0, .ref (a)), (1, .int (wa)), (2, .int (wb)), (3, .int (wc)), (4, .int (wd)), (5, .int (we))] [] (mdH h a (mai s 1 (n + 0) (m_by wa 24)))) : jm_X l G mm_Md_feed n0 s0 (jm_zn G d n0 s0) Post 34 [(6, .int (nI 0)), (0, .ref (a)), (1, .int (wa)), (2, .int (wb)), (3, .int (wc)), (4, .int (wd)), (5, .int (we))] [] (mdH h a s) := by
  refine jx_iload d_Md_feed_34 0 rfl ?_
  refine jx_bipush (v0 := 20) d_Md_feed_36 (by decide) ?_
  refine jx_icmp_ge (tgt := 124) d_Md_feed_38 (by decide) (fun c1 => absurd c1 (by decide)) (fun c1 => ?_)
  refine jx_iload d_Md_feed_41 0 rfl ?_
  refine jx_iconst (v0 := 4) d_Md_feed_43 (by decide) ?_
  refine jx_icmp_ge (tgt := 51) d_Md_feed_44 (by decide) (fun c2 => absurd c2 (by decide)) (fun c2 => ?_)
  refine jx_iload_n d_Md_feed_47 2 rfl ?_
  refine jx_goto (tgt := 87) d_Md_feed_48 (by decide) ?_
  refine jx_istore (lv' := [(7, .int (wa)), (6, .int (nI 0)), (0, .ref (a)), (1, .int (wa)), (2, .int (wb)), (3, .int (wc)), (4, .int (wd)), (5, .int (we))]) d_Md_feed_87 (by decide) rfl ?_
  refine jx_aload_n d_Md_feed_89 2 rfl ?_
  refine jx_get d_Md_feed_90 fF_Md_7 (md_tg hK) (md_rr hK (k := 1) (j := 1) rfl rfl rfl) ?_
  refine jx_aload_n d_Md_feed_93 2 rfl ?_
  refine jx_get d_Md_feed_94 fF_Md_100 (md_tg hK) ((show (mdH h a s).2.2.2 a 2 = Value.int (s.1 2) from md_ri rfl).trans (congrArg Value.int hn)) ?_
  refine jx_iload d_Md_feed_97 1 rfl ?_
  refine jx_iadd d_Md_feed_99 ?_
  refine jx_ati (nI_add (n) (0)) ?_
  refine jx_iload d_Md_feed_100 0 rfl ?_
  refine jx_bipush (v0 := 24) d_Md_feed_102 (by decide) ?_
  refine jx_bipush (v0 := 8) d_Md_feed_104 (by decide) ?_
  refine jx_iload d_Md_feed_106 1 rfl ?_
  refine jx_iconst (v0 := 4) d_Md_feed_108 (by decide) ?_
  refine jx_irem d_Md_feed_109 (by decide) ?_
  refine jx_ati (show _ = (0 : Int32) by decide) ?_
  refine jx_imul d_Md_feed_110 ?_
  refine jx_ati (pk_mul (8) (0)) ?_
  refine jx_isub d_Md_feed_111 ?_
  refine jx_ati (pk_sub (a := 24) (b := (8) * (0)) (by omega)) ?_
  refine jx_ishr d_Md_feed_112 ?_
  refine jx_sipush (v0 := 255) d_Md_feed_113 (by decide) ?_
  refine jx_iand d_Md_feed_116 ?_
  refine jx_iast d_Md_feed_117 (md_ta hK (j := 1) rfl) rfl (jm_vinN (show (n) + (0) < 2000 by omega) (by decide)) ?_
  refine jx_ath ((jm_putN (show (n) + (0) < 2 ^ 31 by omega)).trans (md_wai (j := 1) (show (n) + (0) < 2000 by omega))) ?_
  refine jx_iinc (v0 := nI (0 + 1)) (lv' := [(6, .int (nI (0 + 1))), (7, .int (wa)), (0, .ref (a)), (1, .int (wa)), (2, .int (wb)), (3, .int (wc)), (4, .int (wd)), (5, .int (we))]) d_Md_feed_118 1 rfl (nI_add _ 1) (by decide) rfl ?_
  refine jx_goto (tgt := 34) d_Md_feed_121 (by decide) ?_
  refine jx_ath (show _ = mdH h a (mai s 1 (n + 0) (m_by wa 24)) from rfl) ?_
  refine jx_lv [0, 2, 3, 4, 5, 6, 7] rfl ?_
  exact kk
set_option maxHeartbeats 4000000 in
set_option maxRecDepth 100000 in
theorem st_Md_feed1 (l : Launch) (G : jm_G) {h : jm_H} {a : Nat} {s : MS} {n : Nat} {wa wb wc wd we : Int32} {n0 s0 d : Nat} {Post : jm_r → jm_H → Prop} (hK : MdK h a) (hn : s.1 2 = nI n) (hr : n + 20 ≤ 2000) (kk : jm_X l G mm_Md_feed n0 s0 (jm_zn G d n0 s0) Post 34 [(6, .int (nI 2)), (0, .ref (a)), (1, .int (wa)), (2, .int (wb)), (3, .int (wc)), (4, .int (wd)), (5, .int (we))] [] (mdH h a (mai s 1 (n + 1) (m_by wa 16)))) : jm_X l G mm_Md_feed n0 s0 (jm_zn G d n0 s0) Post 34 [(6, .int (nI 1)), (0, .ref (a)), (1, .int (wa)), (2, .int (wb)), (3, .int (wc)), (4, .int (wd)), (5, .int (we))] [] (mdH h a s) := by
  refine jx_iload d_Md_feed_34 0 rfl ?_
  refine jx_bipush (v0 := 20) d_Md_feed_36 (by decide) ?_
  refine jx_icmp_ge (tgt := 124) d_Md_feed_38 (by decide) (fun c1 => absurd c1 (by decide)) (fun c1 => ?_)
  refine jx_iload d_Md_feed_41 0 rfl ?_
  refine jx_iconst (v0 := 4) d_Md_feed_43 (by decide) ?_
  refine jx_icmp_ge (tgt := 51) d_Md_feed_44 (by decide) (fun c2 => absurd c2 (by decide)) (fun c2 => ?_)
  refine jx_iload_n d_Md_feed_47 2 rfl ?_
  refine jx_goto (tgt := 87) d_Md_feed_48 (by decide) ?_
  refine jx_istore (lv' := [(7, .int (wa)), (6, .int (nI 1)), (0, .ref (a)), (1, .int (wa)), (2, .int (wb)), (3, .int (wc)), (4, .int (wd)), (5, .int (we))]) d_Md_feed_87 (by decide) rfl ?_
  refine jx_aload_n d_Md_feed_89 2 rfl ?_
  refine jx_get d_Md_feed_90 fF_Md_7 (md_tg hK) (md_rr hK (k := 1) (j := 1) rfl rfl rfl) ?_
  refine jx_aload_n d_Md_feed_93 2 rfl ?_
  refine jx_get d_Md_feed_94 fF_Md_100 (md_tg hK) ((show (mdH h a s).2.2.2 a 2 = Value.int (s.1 2) from md_ri rfl).trans (congrArg Value.int hn)) ?_
  refine jx_iload d_Md_feed_97 1 rfl ?_
  refine jx_iadd d_Md_feed_99 ?_
  refine jx_ati (nI_add (n) (1)) ?_
  refine jx_iload d_Md_feed_100 0 rfl ?_
  refine jx_bipush (v0 := 24) d_Md_feed_102 (by decide) ?_
  refine jx_bipush (v0 := 8) d_Md_feed_104 (by decide) ?_
  refine jx_iload d_Md_feed_106 1 rfl ?_
  refine jx_iconst (v0 := 4) d_Md_feed_108 (by decide) ?_
  refine jx_irem d_Md_feed_109 (by decide) ?_
  refine jx_ati (show _ = (1 : Int32) by decide) ?_
  refine jx_imul d_Md_feed_110 ?_
  refine jx_ati (pk_mul (8) (1)) ?_
  refine jx_isub d_Md_feed_111 ?_
  refine jx_ati (pk_sub (a := 24) (b := (8) * (1)) (by omega)) ?_
  refine jx_ishr d_Md_feed_112 ?_
  refine jx_sipush (v0 := 255) d_Md_feed_113 (by decide) ?_
  refine jx_iand d_Md_feed_116 ?_
  refine jx_iast d_Md_feed_117 (md_ta hK (j := 1) rfl) rfl (jm_vinN (show (n) + (1) < 2000 by omega) (by decide)) ?_
  refine jx_ath ((jm_putN (show (n) + (1) < 2 ^ 31 by omega)).trans (md_wai (j := 1) (show (n) + (1) < 2000 by omega))) ?_
  refine jx_iinc (v0 := nI (1 + 1)) (lv' := [(6, .int (nI (1 + 1))), (7, .int (wa)), (0, .ref (a)), (1, .int (wa)), (2, .int (wb)), (3, .int (wc)), (4, .int (wd)), (5, .int (we))]) d_Md_feed_118 1 rfl (nI_add _ 1) (by decide) rfl ?_
  refine jx_goto (tgt := 34) d_Md_feed_121 (by decide) ?_
  refine jx_ath (show _ = mdH h a (mai s 1 (n + 1) (m_by wa 16)) from rfl) ?_
  refine jx_lv [0, 2, 3, 4, 5, 6, 7] rfl ?_
  exact kk
set_option maxHeartbeats 4000000 in
set_option maxRecDepth 100000 in
theorem st_Md_feed2 (l : Launch) (G : jm_G) {h : jm_H} {a : Nat} {s : MS} {n : Nat} {wa wb wc wd we : Int32} {n0 s0 d : Nat} {Post : jm_r → jm_H → Prop} (hK : MdK h a) (hn : s.1 2 = nI n) (hr : n + 20 ≤ 2000) (kk : jm_X l G mm_Md_feed n0 s0 (jm_zn G d n0 s0) Post 34 [(6, .int (nI 3)), (0, .ref (a)), (1, .int (wa)), (2, .int (wb)), (3, .int (wc)), (4, .int (wd)), (5, .int (we))] [] (mdH h a (mai s 1 (n + 2) (m_by wa 8)))) : jm_X l G mm_Md_feed n0 s0 (jm_zn G d n0 s0) Post 34 [(6, .int (nI 2)), (0, .ref (a)), (1, .int (wa)), (2, .int (wb)), (3, .int (wc)), (4, .int (wd)), (5, .int (we))] [] (mdH h a s) := by
  refine jx_iload d_Md_feed_34 0 rfl ?_
  refine jx_bipush (v0 := 20) d_Md_feed_36 (by decide) ?_
  refine jx_icmp_ge (tgt := 124) d_Md_feed_38 (by decide) (fun c1 => absurd c1 (by decide)) (fun c1 => ?_)
  refine jx_iload d_Md_feed_41 0 rfl ?_
  refine jx_iconst (v0 := 4) d_Md_feed_43 (by decide) ?_
  refine jx_icmp_ge (tgt := 51) d_Md_feed_44 (by decide) (fun c2 => absurd c2 (by decide)) (fun c2 => ?_)
  refine jx_iload_n d_Md_feed_47 2 rfl ?_
  refine jx_goto (tgt := 87) d_Md_feed_48 (by decide) ?_
  refine jx_istore (lv' := [(7, .int (wa)), (6, .int (nI 2)), (0, .ref (a)), (1, .int (wa)), (2, .int (wb)), (3, .int (wc)), (4, .int (wd)), (5, .int (we))]) d_Md_feed_87 (by decide) rfl ?_
  refine jx_aload_n d_Md_feed_89 2 rfl ?_
  refine jx_get d_Md_feed_90 fF_Md_7 (md_tg hK) (md_rr hK (k := 1) (j := 1) rfl rfl rfl) ?_
  refine jx_aload_n d_Md_feed_93 2 rfl ?_
  refine jx_get d_Md_feed_94 fF_Md_100 (md_tg hK) ((show (mdH h a s).2.2.2 a 2 = Value.int (s.1 2) from md_ri rfl).trans (congrArg Value.int hn)) ?_
  refine jx_iload d_Md_feed_97 1 rfl ?_
  refine jx_iadd d_Md_feed_99 ?_
  refine jx_ati (nI_add (n) (2)) ?_
  refine jx_iload d_Md_feed_100 0 rfl ?_
  refine jx_bipush (v0 := 24) d_Md_feed_102 (by decide) ?_
  refine jx_bipush (v0 := 8) d_Md_feed_104 (by decide) ?_
  refine jx_iload d_Md_feed_106 1 rfl ?_
  refine jx_iconst (v0 := 4) d_Md_feed_108 (by decide) ?_
  refine jx_irem d_Md_feed_109 (by decide) ?_
  refine jx_ati (show _ = (2 : Int32) by decide) ?_
  refine jx_imul d_Md_feed_110 ?_
  refine jx_ati (pk_mul (8) (2)) ?_
  refine jx_isub d_Md_feed_111 ?_
  refine jx_ati (pk_sub (a := 24) (b := (8) * (2)) (by omega)) ?_
  refine jx_ishr d_Md_feed_112 ?_
  refine jx_sipush (v0 := 255) d_Md_feed_113 (by decide) ?_
  refine jx_iand d_Md_feed_116 ?_
  refine jx_iast d_Md_feed_117 (md_ta hK (j := 1) rfl) rfl (jm_vinN (show (n) + (2) < 2000 by omega) (by decide)) ?_
  refine jx_ath ((jm_putN (show (n) + (2) < 2 ^ 31 by omega)).trans (md_wai (j := 1) (show (n) + (2) < 2000 by omega))) ?_
  refine jx_iinc (v0 := nI (2 + 1)) (lv' := [(6, .int (nI (2 + 1))), (7, .int (wa)), (0, .ref (a)), (1, .int (wa)), (2, .int (wb)), (3, .int (wc)), (4, .int (wd)), (5, .int (we))]) d_Md_feed_118 1 rfl (nI_add _ 1) (by decide) rfl ?_
  refine jx_goto (tgt := 34) d_Md_feed_121 (by decide) ?_
  refine jx_ath (show _ = mdH h a (mai s 1 (n + 2) (m_by wa 8)) from rfl) ?_
  refine jx_lv [0, 2, 3, 4, 5, 6, 7] rfl ?_
  exact kk
set_option maxHeartbeats 4000000 in
set_option maxRecDepth 100000 in
theorem st_Md_feed3 (l : Launch) (G : jm_G) {h : jm_H} {a : Nat} {s : MS} {n : Nat} {wa wb wc wd we : Int32} {n0 s0 d : Nat} {Post : jm_r → jm_H → Prop} (hK : MdK h a) (hn : s.1 2 = nI n) (hr : n + 20 ≤ 2000) (kk : jm_X l G mm_Md_feed n0 s0 (jm_zn G d n0 s0) Post 34 [(6, .int (nI 4)), (0, .ref (a)), (1, .int (wa)), (2, .int (wb)), (3, .int (wc)), (4, .int (wd)), (5, .int (we))] [] (mdH h a (mai s 1 (n + 3) (m_by wa 0)))) : jm_X l G mm_Md_feed n0 s0 (jm_zn G d n0 s0) Post 34 [(6, .int (nI 3)), (0, .ref (a)), (1, .int (wa)), (2, .int (wb)), (3, .int (wc)), (4, .int (wd)), (5, .int (we))] [] (mdH h a s) := by
  refine jx_iload d_Md_feed_34 0 rfl ?_
  refine jx_bipush (v0 := 20) d_Md_feed_36 (by decide) ?_
  refine jx_icmp_ge (tgt := 124) d_Md_feed_38 (by decide) (fun c1 => absurd c1 (by decide)) (fun c1 => ?_)
  refine jx_iload d_Md_feed_41 0 rfl ?_
  refine jx_iconst (v0 := 4) d_Md_feed_43 (by decide) ?_
  refine jx_icmp_ge (tgt := 51) d_Md_feed_44 (by decide) (fun c2 => absurd c2 (by decide)) (fun c2 => ?_)
  refine jx_iload_n d_Md_feed_47 2 rfl ?_
  refine jx_goto (tgt := 87) d_Md_feed_48 (by decide) ?_
  refine jx_istore (lv' := [(7, .int (wa)), (6, .int (nI 3)), (0, .ref (a)), (1, .int (wa)), (2, .int (wb)), (3, .int (wc)), (4, .int (wd)), (5, .int (we))]) d_Md_feed_87 (by decide) rfl ?_
  refine jx_aload_n d_Md_feed_89 2 rfl ?_
  refine jx_get d_Md_feed_90 fF_Md_7 (md_tg hK) (md_rr hK (k := 1) (j := 1) rfl rfl rfl) ?_
  refine jx_aload_n d_Md_feed_93 2 rfl ?_
  refine jx_get d_Md_feed_94 fF_Md_100 (md_tg hK) ((show (mdH h a s).2.2.2 a 2 = Value.int (s.1 2) from md_ri rfl).trans (congrArg Value.int hn)) ?_
  refine jx_iload d_Md_feed_97 1 rfl ?_
  refine jx_iadd d_Md_feed_99 ?_
  refine jx_ati (nI_add (n) (3)) ?_
  refine jx_iload d_Md_feed_100 0 rfl ?_
  refine jx_bipush (v0 := 24) d_Md_feed_102 (by decide) ?_
  refine jx_bipush (v0 := 8) d_Md_feed_104 (by decide) ?_
  refine jx_iload d_Md_feed_106 1 rfl ?_
  refine jx_iconst (v0 := 4) d_Md_feed_108 (by decide) ?_
  refine jx_irem d_Md_feed_109 (by decide) ?_
  refine jx_ati (show _ = (3 : Int32) by decide) ?_
  refine jx_imul d_Md_feed_110 ?_
  refine jx_ati (pk_mul (8) (3)) ?_
  refine jx_isub d_Md_feed_111 ?_
  refine jx_ati (pk_sub (a := 24) (b := (8) * (3)) (by omega)) ?_
  refine jx_ishr d_Md_feed_112 ?_
  refine jx_sipush (v0 := 255) d_Md_feed_113 (by decide) ?_
  refine jx_iand d_Md_feed_116 ?_
  refine jx_iast d_Md_feed_117 (md_ta hK (j := 1) rfl) rfl (jm_vinN (show (n) + (3) < 2000 by omega) (by decide)) ?_
  refine jx_ath ((jm_putN (show (n) + (3) < 2 ^ 31 by omega)).trans (md_wai (j := 1) (show (n) + (3) < 2000 by omega))) ?_
  refine jx_iinc (v0 := nI (3 + 1)) (lv' := [(6, .int (nI (3 + 1))), (7, .int (wa)), (0, .ref (a)), (1, .int (wa)), (2, .int (wb)), (3, .int (wc)), (4, .int (wd)), (5, .int (we))]) d_Md_feed_118 1 rfl (nI_add _ 1) (by decide) rfl ?_
  refine jx_goto (tgt := 34) d_Md_feed_121 (by decide) ?_
  refine jx_ath (show _ = mdH h a (mai s 1 (n + 3) (m_by wa 0)) from rfl) ?_
  refine jx_lv [0, 2, 3, 4, 5, 6, 7] rfl ?_
  exact kk
set_option maxHeartbeats 4000000 in
set_option maxRecDepth 100000 in
theorem st_Md_feed4 (l : Launch) (G : jm_G) {h : jm_H} {a : Nat} {s : MS} {n : Nat} {wa wb wc wd we : Int32} {n0 s0 d : Nat} {Post : jm_r → jm_H → Prop} (hK : MdK h a) (hn : s.1 2 = nI n) (hr : n + 20 ≤ 2000) (kk : jm_X l G mm_Md_feed n0 s0 (jm_zn G d n0 s0) Post 34 [(6, .int (nI 5)), (0, .ref (a)), (1, .int (wa)), (2, .int (wb)), (3, .int (wc)), (4, .int (wd)), (5, .int (we))] [] (mdH h a (mai s 1 (n + 4) (m_by wb 24)))) : jm_X l G mm_Md_feed n0 s0 (jm_zn G d n0 s0) Post 34 [(6, .int (nI 4)), (0, .ref (a)), (1, .int (wa)), (2, .int (wb)), (3, .int (wc)), (4, .int (wd)), (5, .int (we))] [] (mdH h a s) := by
  refine jx_iload d_Md_feed_34 0 rfl ?_
  refine jx_bipush (v0 := 20) d_Md_feed_36 (by decide) ?_
  refine jx_icmp_ge (tgt := 124) d_Md_feed_38 (by decide) (fun c1 => absurd c1 (by decide)) (fun c1 => ?_)
  refine jx_iload d_Md_feed_41 0 rfl ?_
  refine jx_iconst (v0 := 4) d_Md_feed_43 (by decide) ?_
  refine jx_icmp_ge (tgt := 51) d_Md_feed_44 (by decide) (fun c2 => ?_) (fun c2 => absurd c2 (by decide))
  refine jx_iload d_Md_feed_51 0 rfl ?_
  refine jx_bipush (v0 := 8) d_Md_feed_53 (by decide) ?_
  refine jx_icmp_ge (tgt := 62) d_Md_feed_55 (by decide) (fun c3 => absurd c3 (by decide)) (fun c3 => ?_)
  refine jx_iload_n d_Md_feed_58 3 rfl ?_
  refine jx_goto (tgt := 87) d_Md_feed_59 (by decide) ?_
  refine jx_istore (lv' := [(7, .int (wb)), (6, .int (nI 4)), (0, .ref (a)), (1, .int (wa)), (2, .int (wb)), (3, .int (wc)), (4, .int (wd)), (5, .int (we))]) d_Md_feed_87 (by decide) rfl ?_
  refine jx_aload_n d_Md_feed_89 2 rfl ?_
  refine jx_get d_Md_feed_90 fF_Md_7 (md_tg hK) (md_rr hK (k := 1) (j := 1) rfl rfl rfl) ?_
  refine jx_aload_n d_Md_feed_93 2 rfl ?_
  refine jx_get d_Md_feed_94 fF_Md_100 (md_tg hK) ((show (mdH h a s).2.2.2 a 2 = Value.int (s.1 2) from md_ri rfl).trans (congrArg Value.int hn)) ?_
  refine jx_iload d_Md_feed_97 1 rfl ?_
  refine jx_iadd d_Md_feed_99 ?_
  refine jx_ati (nI_add (n) (4)) ?_
  refine jx_iload d_Md_feed_100 0 rfl ?_
  refine jx_bipush (v0 := 24) d_Md_feed_102 (by decide) ?_
  refine jx_bipush (v0 := 8) d_Md_feed_104 (by decide) ?_
  refine jx_iload d_Md_feed_106 1 rfl ?_
  refine jx_iconst (v0 := 4) d_Md_feed_108 (by decide) ?_
  refine jx_irem d_Md_feed_109 (by decide) ?_
  refine jx_ati (show _ = (0 : Int32) by decide) ?_
  refine jx_imul d_Md_feed_110 ?_
  refine jx_ati (pk_mul (8) (0)) ?_
  refine jx_isub d_Md_feed_111 ?_
  refine jx_ati (pk_sub (a := 24) (b := (8) * (0)) (by omega)) ?_
  refine jx_ishr d_Md_feed_112 ?_
  refine jx_sipush (v0 := 255) d_Md_feed_113 (by decide) ?_
  refine jx_iand d_Md_feed_116 ?_
  refine jx_iast d_Md_feed_117 (md_ta hK (j := 1) rfl) rfl (jm_vinN (show (n) + (4) < 2000 by omega) (by decide)) ?_
  refine jx_ath ((jm_putN (show (n) + (4) < 2 ^ 31 by omega)).trans (md_wai (j := 1) (show (n) + (4) < 2000 by omega))) ?_
  refine jx_iinc (v0 := nI (4 + 1)) (lv' := [(6, .int (nI (4 + 1))), (7, .int (wb)), (0, .ref (a)), (1, .int (wa)), (2, .int (wb)), (3, .int (wc)), (4, .int (wd)), (5, .int (we))]) d_Md_feed_118 1 rfl (nI_add _ 1) (by decide) rfl ?_
  refine jx_goto (tgt := 34) d_Md_feed_121 (by decide) ?_
  refine jx_ath (show _ = mdH h a (mai s 1 (n + 4) (m_by wb 24)) from rfl) ?_
  refine jx_lv [0, 2, 3, 4, 5, 6, 7] rfl ?_
  exact kk
set_option maxHeartbeats 4000000 in
set_option maxRecDepth 100000 in
theorem st_Md_feed5 (l : Launch) (G : jm_G) {h : jm_H} {a : Nat} {s : MS} {n : Nat} {wa wb wc wd we : Int32} {n0 s0 d : Nat} {Post : jm_r → jm_H → Prop} (hK : MdK h a) (hn : s.1 2 = nI n) (hr : n + 20 ≤ 2000) (kk : jm_X l G mm_Md_feed n0 s0 (jm_zn G d n0 s0) Post 34 [(6, .int (nI 6)), (0, .ref (a)), (1, .int (wa)), (2, .int (wb)), (3, .int (wc)), (4, .int (wd)), (5, .int (we))] [] (mdH h a (mai s 1 (n + 5) (m_by wb 16)))) : jm_X l G mm_Md_feed n0 s0 (jm_zn G d n0 s0) Post 34 [(6, .int (nI 5)), (0, .ref (a)), (1, .int (wa)), (2, .int (wb)), (3, .int (wc)), (4, .int (wd)), (5, .int (we))] [] (mdH h a s) := by
  refine jx_iload d_Md_feed_34 0 rfl ?_
  refine jx_bipush (v0 := 20) d_Md_feed_36 (by decide) ?_
  refine jx_icmp_ge (tgt := 124) d_Md_feed_38 (by decide) (fun c1 => absurd c1 (by decide)) (fun c1 => ?_)
  refine jx_iload d_Md_feed_41 0 rfl ?_
  refine jx_iconst (v0 := 4) d_Md_feed_43 (by decide) ?_
  refine jx_icmp_ge (tgt := 51) d_Md_feed_44 (by decide) (fun c2 => ?_) (fun c2 => absurd c2 (by decide))
  refine jx_iload d_Md_feed_51 0 rfl ?_
  refine jx_bipush (v0 := 8) d_Md_feed_53 (by decide) ?_
  refine jx_icmp_ge (tgt := 62) d_Md_feed_55 (by decide) (fun c3 => absurd c3 (by decide)) (fun c3 => ?_)
  refine jx_iload_n d_Md_feed_58 3 rfl ?_
  refine jx_goto (tgt := 87) d_Md_feed_59 (by decide) ?_
  refine jx_istore (lv' := [(7, .int (wb)), (6, .int (nI 5)), (0, .ref (a)), (1, .int (wa)), (2, .int (wb)), (3, .int (wc)), (4, .int (wd)), (5, .int (we))]) d_Md_feed_87 (by decide) rfl ?_
  refine jx_aload_n d_Md_feed_89 2 rfl ?_
  refine jx_get d_Md_feed_90 fF_Md_7 (md_tg hK) (md_rr hK (k := 1) (j := 1) rfl rfl rfl) ?_
  refine jx_aload_n d_Md_feed_93 2 rfl ?_
  refine jx_get d_Md_feed_94 fF_Md_100 (md_tg hK) ((show (mdH h a s).2.2.2 a 2 = Value.int (s.1 2) from md_ri rfl).trans (congrArg Value.int hn)) ?_
  refine jx_iload d_Md_feed_97 1 rfl ?_
  refine jx_iadd d_Md_feed_99 ?_
  refine jx_ati (nI_add (n) (5)) ?_
  refine jx_iload d_Md_feed_100 0 rfl ?_
  refine jx_bipush (v0 := 24) d_Md_feed_102 (by decide) ?_
  refine jx_bipush (v0 := 8) d_Md_feed_104 (by decide) ?_
  refine jx_iload d_Md_feed_106 1 rfl ?_
  refine jx_iconst (v0 := 4) d_Md_feed_108 (by decide) ?_
  refine jx_irem d_Md_feed_109 (by decide) ?_
  refine jx_ati (show _ = (1 : Int32) by decide) ?_
  refine jx_imul d_Md_feed_110 ?_
  refine jx_ati (pk_mul (8) (1)) ?_
  refine jx_isub d_Md_feed_111 ?_
  refine jx_ati (pk_sub (a := 24) (b := (8) * (1)) (by omega)) ?_
  refine jx_ishr d_Md_feed_112 ?_
  refine jx_sipush (v0 := 255) d_Md_feed_113 (by decide) ?_
  refine jx_iand d_Md_feed_116 ?_
  refine jx_iast d_Md_feed_117 (md_ta hK (j := 1) rfl) rfl (jm_vinN (show (n) + (5) < 2000 by omega) (by decide)) ?_
  refine jx_ath ((jm_putN (show (n) + (5) < 2 ^ 31 by omega)).trans (md_wai (j := 1) (show (n) + (5) < 2000 by omega))) ?_
  refine jx_iinc (v0 := nI (5 + 1)) (lv' := [(6, .int (nI (5 + 1))), (7, .int (wb)), (0, .ref (a)), (1, .int (wa)), (2, .int (wb)), (3, .int (wc)), (4, .int (wd)), (5, .int (we))]) d_Md_feed_118 1 rfl (nI_add _ 1) (by decide) rfl ?_
  refine jx_goto (tgt := 34) d_Md_feed_121 (by decide) ?_
  refine jx_ath (show _ = mdH h a (mai s 1 (n + 5) (m_by wb 16)) from rfl) ?_
  refine jx_lv [0, 2, 3, 4, 5, 6, 7] rfl ?_
  exact kk
set_option maxHeartbeats 4000000 in
set_option maxRecDepth 100000 in
theorem st_Md_feed6 (l : Launch) (G : jm_G) {h : jm_H} {a : Nat} {s : MS} {n : Nat} {wa wb wc wd we : Int32} {n0 s0 d : Nat} {Post : jm_r → jm_H → Prop} (hK : MdK h a) (hn : s.1 2 = nI n) (hr : n + 20 ≤ 2000) (kk : jm_X l G mm_Md_feed n0 s0 (jm_zn G d n0 s0) Post 34 [(6, .int (nI 7)), (0, .ref (a)), (1, .int (wa)), (2, .int (wb)), (3, .int (wc)), (4, .int (wd)), (5, .int (we))] [] (mdH h a (mai s 1 (n + 6) (m_by wb 8)))) : jm_X l G mm_Md_feed n0 s0 (jm_zn G d n0 s0) Post 34 [(6, .int (nI 6)), (0, .ref (a)), (1, .int (wa)), (2, .int (wb)), (3, .int (wc)), (4, .int (wd)), (5, .int (we))] [] (mdH h a s) := by
  refine jx_iload d_Md_feed_34 0 rfl ?_
  refine jx_bipush (v0 := 20) d_Md_feed_36 (by decide) ?_
  refine jx_icmp_ge (tgt := 124) d_Md_feed_38 (by decide) (fun c1 => absurd c1 (by decide)) (fun c1 => ?_)
  refine jx_iload d_Md_feed_41 0 rfl ?_
  refine jx_iconst (v0 := 4) d_Md_feed_43 (by decide) ?_
  refine jx_icmp_ge (tgt := 51) d_Md_feed_44 (by decide) (fun c2 => ?_) (fun c2 => absurd c2 (by decide))
  refine jx_iload d_Md_feed_51 0 rfl ?_
  refine jx_bipush (v0 := 8) d_Md_feed_53 (by decide) ?_
  refine jx_icmp_ge (tgt := 62) d_Md_feed_55 (by decide) (fun c3 => absurd c3 (by decide)) (fun c3 => ?_)
  refine jx_iload_n d_Md_feed_58 3 rfl ?_
  refine jx_goto (tgt := 87) d_Md_feed_59 (by decide) ?_
  refine jx_istore (lv' := [(7, .int (wb)), (6, .int (nI 6)), (0, .ref (a)), (1, .int (wa)), (2, .int (wb)), (3, .int (wc)), (4, .int (wd)), (5, .int (we))]) d_Md_feed_87 (by decide) rfl ?_
  refine jx_aload_n d_Md_feed_89 2 rfl ?_
  refine jx_get d_Md_feed_90 fF_Md_7 (md_tg hK) (md_rr hK (k := 1) (j := 1) rfl rfl rfl) ?_
  refine jx_aload_n d_Md_feed_93 2 rfl ?_
  refine jx_get d_Md_feed_94 fF_Md_100 (md_tg hK) ((show (mdH h a s).2.2.2 a 2 = Value.int (s.1 2) from md_ri rfl).trans (congrArg Value.int hn)) ?_
  refine jx_iload d_Md_feed_97 1 rfl ?_
  refine jx_iadd d_Md_feed_99 ?_
  refine jx_ati (nI_add (n) (6)) ?_
  refine jx_iload d_Md_feed_100 0 rfl ?_
  refine jx_bipush (v0 := 24) d_Md_feed_102 (by decide) ?_
  refine jx_bipush (v0 := 8) d_Md_feed_104 (by decide) ?_
  refine jx_iload d_Md_feed_106 1 rfl ?_
  refine jx_iconst (v0 := 4) d_Md_feed_108 (by decide) ?_
  refine jx_irem d_Md_feed_109 (by decide) ?_
  refine jx_ati (show _ = (2 : Int32) by decide) ?_
  refine jx_imul d_Md_feed_110 ?_
  refine jx_ati (pk_mul (8) (2)) ?_
  refine jx_isub d_Md_feed_111 ?_
  refine jx_ati (pk_sub (a := 24) (b := (8) * (2)) (by omega)) ?_
  refine jx_ishr d_Md_feed_112 ?_
  refine jx_sipush (v0 := 255) d_Md_feed_113 (by decide) ?_
  refine jx_iand d_Md_feed_116 ?_
  refine jx_iast d_Md_feed_117 (md_ta hK (j := 1) rfl) rfl (jm_vinN (show (n) + (6) < 2000 by omega) (by decide)) ?_
  refine jx_ath ((jm_putN (show (n) + (6) < 2 ^ 31 by omega)).trans (md_wai (j := 1) (show (n) + (6) < 2000 by omega))) ?_
  refine jx_iinc (v0 := nI (6 + 1)) (lv' := [(6, .int (nI (6 + 1))), (7, .int (wb)), (0, .ref (a)), (1, .int (wa)), (2, .int (wb)), (3, .int (wc)), (4, .int (wd)), (5, .int (we))]) d_Md_feed_118 1 rfl (nI_add _ 1) (by decide) rfl ?_
  refine jx_goto (tgt := 34) d_Md_feed_121 (by decide) ?_
  refine jx_ath (show _ = mdH h a (mai s 1 (n + 6) (m_by wb 8)) from rfl) ?_
  refine jx_lv [0, 2, 3, 4, 5, 6, 7] rfl ?_
  exact kk
set_option maxHeartbeats 4000000 in
set_option maxRecDepth 100000 in
theorem st_Md_feed7 (l : Launch) (G : jm_G) {h : jm_H} {a : Nat} {s : MS} {n : Nat} {wa wb wc wd we : Int32} {n0 s0 d : Nat} {Post : jm_r → jm_H → Prop} (hK : MdK h a) (hn : s.1 2 = nI n) (hr : n + 20 ≤ 2000) (kk : jm_X l G mm_Md_feed n0 s0 (jm_zn G d n0 s0) Post 34 [(6, .int (nI 8)), (0, .ref (a)), (1, .int (wa)), (2, .int (wb)), (3, .int (wc)), (4, .int (wd)), (5, .int (we))] [] (mdH h a (mai s 1 (n + 7) (m_by wb 0)))) : jm_X l G mm_Md_feed n0 s0 (jm_zn G d n0 s0) Post 34 [(6, .int (nI 7)), (0, .ref (a)), (1, .int (wa)), (2, .int (wb)), (3, .int (wc)), (4, .int (wd)), (5, .int (we))] [] (mdH h a s) := by
  refine jx_iload d_Md_feed_34 0 rfl ?_
  refine jx_bipush (v0 := 20) d_Md_feed_36 (by decide) ?_
  refine jx_icmp_ge (tgt := 124) d_Md_feed_38 (by decide) (fun c1 => absurd c1 (by decide)) (fun c1 => ?_)
  refine jx_iload d_Md_feed_41 0 rfl ?_
  refine jx_iconst (v0 := 4) d_Md_feed_43 (by decide) ?_
  refine jx_icmp_ge (tgt := 51) d_Md_feed_44 (by decide) (fun c2 => ?_) (fun c2 => absurd c2 (by decide))
  refine jx_iload d_Md_feed_51 0 rfl ?_
  refine jx_bipush (v0 := 8) d_Md_feed_53 (by decide) ?_
  refine jx_icmp_ge (tgt := 62) d_Md_feed_55 (by decide) (fun c3 => absurd c3 (by decide)) (fun c3 => ?_)
  refine jx_iload_n d_Md_feed_58 3 rfl ?_
  refine jx_goto (tgt := 87) d_Md_feed_59 (by decide) ?_
  refine jx_istore (lv' := [(7, .int (wb)), (6, .int (nI 7)), (0, .ref (a)), (1, .int (wa)), (2, .int (wb)), (3, .int (wc)), (4, .int (wd)), (5, .int (we))]) d_Md_feed_87 (by decide) rfl ?_
  refine jx_aload_n d_Md_feed_89 2 rfl ?_
  refine jx_get d_Md_feed_90 fF_Md_7 (md_tg hK) (md_rr hK (k := 1) (j := 1) rfl rfl rfl) ?_
  refine jx_aload_n d_Md_feed_93 2 rfl ?_
  refine jx_get d_Md_feed_94 fF_Md_100 (md_tg hK) ((show (mdH h a s).2.2.2 a 2 = Value.int (s.1 2) from md_ri rfl).trans (congrArg Value.int hn)) ?_
  refine jx_iload d_Md_feed_97 1 rfl ?_
  refine jx_iadd d_Md_feed_99 ?_
  refine jx_ati (nI_add (n) (7)) ?_
  refine jx_iload d_Md_feed_100 0 rfl ?_
  refine jx_bipush (v0 := 24) d_Md_feed_102 (by decide) ?_
  refine jx_bipush (v0 := 8) d_Md_feed_104 (by decide) ?_
  refine jx_iload d_Md_feed_106 1 rfl ?_
  refine jx_iconst (v0 := 4) d_Md_feed_108 (by decide) ?_
  refine jx_irem d_Md_feed_109 (by decide) ?_
  refine jx_ati (show _ = (3 : Int32) by decide) ?_
  refine jx_imul d_Md_feed_110 ?_
  refine jx_ati (pk_mul (8) (3)) ?_
  refine jx_isub d_Md_feed_111 ?_
  refine jx_ati (pk_sub (a := 24) (b := (8) * (3)) (by omega)) ?_
  refine jx_ishr d_Md_feed_112 ?_
  refine jx_sipush (v0 := 255) d_Md_feed_113 (by decide) ?_
  refine jx_iand d_Md_feed_116 ?_
  refine jx_iast d_Md_feed_117 (md_ta hK (j := 1) rfl) rfl (jm_vinN (show (n) + (7) < 2000 by omega) (by decide)) ?_
  refine jx_ath ((jm_putN (show (n) + (7) < 2 ^ 31 by omega)).trans (md_wai (j := 1) (show (n) + (7) < 2000 by omega))) ?_
  refine jx_iinc (v0 := nI (7 + 1)) (lv' := [(6, .int (nI (7 + 1))), (7, .int (wb)), (0, .ref (a)), (1, .int (wa)), (2, .int (wb)), (3, .int (wc)), (4, .int (wd)), (5, .int (we))]) d_Md_feed_118 1 rfl (nI_add _ 1) (by decide) rfl ?_
  refine jx_goto (tgt := 34) d_Md_feed_121 (by decide) ?_
  refine jx_ath (show _ = mdH h a (mai s 1 (n + 7) (m_by wb 0)) from rfl) ?_
  refine jx_lv [0, 2, 3, 4, 5, 6, 7] rfl ?_
  exact kk
set_option maxHeartbeats 4000000 in
set_option maxRecDepth 100000 in
theorem st_Md_feed8 (l : Launch) (G : jm_G) {h : jm_H} {a : Nat} {s : MS} {n : Nat} {wa wb wc wd we : Int32} {n0 s0 d : Nat} {Post : jm_r → jm_H → Prop} (hK : MdK h a) (hn : s.1 2 = nI n) (hr : n + 20 ≤ 2000) (kk : jm_X l G mm_Md_feed n0 s0 (jm_zn G d n0 s0) Post 34 [(6, .int (nI 9)), (0, .ref (a)), (1, .int (wa)), (2, .int (wb)), (3, .int (wc)), (4, .int (wd)), (5, .int (we))] [] (mdH h a (mai s 1 (n + 8) (m_by wc 24)))) : jm_X l G mm_Md_feed n0 s0 (jm_zn G d n0 s0) Post 34 [(6, .int (nI 8)), (0, .ref (a)), (1, .int (wa)), (2, .int (wb)), (3, .int (wc)), (4, .int (wd)), (5, .int (we))] [] (mdH h a s) := by
  refine jx_iload d_Md_feed_34 0 rfl ?_
  refine jx_bipush (v0 := 20) d_Md_feed_36 (by decide) ?_
  refine jx_icmp_ge (tgt := 124) d_Md_feed_38 (by decide) (fun c1 => absurd c1 (by decide)) (fun c1 => ?_)
  refine jx_iload d_Md_feed_41 0 rfl ?_
  refine jx_iconst (v0 := 4) d_Md_feed_43 (by decide) ?_
  refine jx_icmp_ge (tgt := 51) d_Md_feed_44 (by decide) (fun c2 => ?_) (fun c2 => absurd c2 (by decide))
  refine jx_iload d_Md_feed_51 0 rfl ?_
  refine jx_bipush (v0 := 8) d_Md_feed_53 (by decide) ?_
  refine jx_icmp_ge (tgt := 62) d_Md_feed_55 (by decide) (fun c3 => ?_) (fun c3 => absurd c3 (by decide))
  refine jx_iload d_Md_feed_62 0 rfl ?_
  refine jx_bipush (v0 := 12) d_Md_feed_64 (by decide) ?_
  refine jx_icmp_ge (tgt := 73) d_Md_feed_66 (by decide) (fun c4 => absurd c4 (by decide)) (fun c4 => ?_)
  refine jx_iload_n d_Md_feed_69 4 rfl ?_
  refine jx_goto (tgt := 87) d_Md_feed_70 (by decide) ?_
  refine jx_istore (lv' := [(7, .int (wc)), (6, .int (nI 8)), (0, .ref (a)), (1, .int (wa)), (2, .int (wb)), (3, .int (wc)), (4, .int (wd)), (5, .int (we))]) d_Md_feed_87 (by decide) rfl ?_
  refine jx_aload_n d_Md_feed_89 2 rfl ?_
  refine jx_get d_Md_feed_90 fF_Md_7 (md_tg hK) (md_rr hK (k := 1) (j := 1) rfl rfl rfl) ?_
  refine jx_aload_n d_Md_feed_93 2 rfl ?_
  refine jx_get d_Md_feed_94 fF_Md_100 (md_tg hK) ((show (mdH h a s).2.2.2 a 2 = Value.int (s.1 2) from md_ri rfl).trans (congrArg Value.int hn)) ?_
  refine jx_iload d_Md_feed_97 1 rfl ?_
  refine jx_iadd d_Md_feed_99 ?_
  refine jx_ati (nI_add (n) (8)) ?_
  refine jx_iload d_Md_feed_100 0 rfl ?_
  refine jx_bipush (v0 := 24) d_Md_feed_102 (by decide) ?_
  refine jx_bipush (v0 := 8) d_Md_feed_104 (by decide) ?_
  refine jx_iload d_Md_feed_106 1 rfl ?_
  refine jx_iconst (v0 := 4) d_Md_feed_108 (by decide) ?_
  refine jx_irem d_Md_feed_109 (by decide) ?_
  refine jx_ati (show _ = (0 : Int32) by decide) ?_
  refine jx_imul d_Md_feed_110 ?_
  refine jx_ati (pk_mul (8) (0)) ?_
  refine jx_isub d_Md_feed_111 ?_
  refine jx_ati (pk_sub (a := 24) (b := (8) * (0)) (by omega)) ?_
  refine jx_ishr d_Md_feed_112 ?_
  refine jx_sipush (v0 := 255) d_Md_feed_113 (by decide) ?_
  refine jx_iand d_Md_feed_116 ?_
  refine jx_iast d_Md_feed_117 (md_ta hK (j := 1) rfl) rfl (jm_vinN (show (n) + (8) < 2000 by omega) (by decide)) ?_
  refine jx_ath ((jm_putN (show (n) + (8) < 2 ^ 31 by omega)).trans (md_wai (j := 1) (show (n) + (8) < 2000 by omega))) ?_
  refine jx_iinc (v0 := nI (8 + 1)) (lv' := [(6, .int (nI (8 + 1))), (7, .int (wc)), (0, .ref (a)), (1, .int (wa)), (2, .int (wb)), (3, .int (wc)), (4, .int (wd)), (5, .int (we))]) d_Md_feed_118 1 rfl (nI_add _ 1) (by decide) rfl ?_
  refine jx_goto (tgt := 34) d_Md_feed_121 (by decide) ?_
  refine jx_ath (show _ = mdH h a (mai s 1 (n + 8) (m_by wc 24)) from rfl) ?_
  refine jx_lv [0, 2, 3, 4, 5, 6, 7] rfl ?_
  exact kk
set_option maxHeartbeats 4000000 in
set_option maxRecDepth 100000 in
theorem st_Md_feed9 (l : Launch) (G : jm_G) {h : jm_H} {a : Nat} {s : MS} {n : Nat} {wa wb wc wd we : Int32} {n0 s0 d : Nat} {Post : jm_r → jm_H → Prop} (hK : MdK h a) (hn : s.1 2 = nI n) (hr : n + 20 ≤ 2000) (kk : jm_X l G mm_Md_feed n0 s0 (jm_zn G d n0 s0) Post 34 [(6, .int (nI 10)), (0, .ref (a)), (1, .int (wa)), (2, .int (wb)), (3, .int (wc)), (4, .int (wd)), (5, .int (we))] [] (mdH h a (mai s 1 (n + 9) (m_by wc 16)))) : jm_X l G mm_Md_feed n0 s0 (jm_zn G d n0 s0) Post 34 [(6, .int (nI 9)), (0, .ref (a)), (1, .int (wa)), (2, .int (wb)), (3, .int (wc)), (4, .int (wd)), (5, .int (we))] [] (mdH h a s) := by
  refine jx_iload d_Md_feed_34 0 rfl ?_
  refine jx_bipush (v0 := 20) d_Md_feed_36 (by decide) ?_
  refine jx_icmp_ge (tgt := 124) d_Md_feed_38 (by decide) (fun c1 => absurd c1 (by decide)) (fun c1 => ?_)
  refine jx_iload d_Md_feed_41 0 rfl ?_
  refine jx_iconst (v0 := 4) d_Md_feed_43 (by decide) ?_
  refine jx_icmp_ge (tgt := 51) d_Md_feed_44 (by decide) (fun c2 => ?_) (fun c2 => absurd c2 (by decide))
  refine jx_iload d_Md_feed_51 0 rfl ?_
  refine jx_bipush (v0 := 8) d_Md_feed_53 (by decide) ?_
  refine jx_icmp_ge (tgt := 62) d_Md_feed_55 (by decide) (fun c3 => ?_) (fun c3 => absurd c3 (by decide))
  refine jx_iload d_Md_feed_62 0 rfl ?_
  refine jx_bipush (v0 := 12) d_Md_feed_64 (by decide) ?_
  refine jx_icmp_ge (tgt := 73) d_Md_feed_66 (by decide) (fun c4 => absurd c4 (by decide)) (fun c4 => ?_)
  refine jx_iload_n d_Md_feed_69 4 rfl ?_
  refine jx_goto (tgt := 87) d_Md_feed_70 (by decide) ?_
  refine jx_istore (lv' := [(7, .int (wc)), (6, .int (nI 9)), (0, .ref (a)), (1, .int (wa)), (2, .int (wb)), (3, .int (wc)), (4, .int (wd)), (5, .int (we))]) d_Md_feed_87 (by decide) rfl ?_
  refine jx_aload_n d_Md_feed_89 2 rfl ?_
  refine jx_get d_Md_feed_90 fF_Md_7 (md_tg hK) (md_rr hK (k := 1) (j := 1) rfl rfl rfl) ?_
  refine jx_aload_n d_Md_feed_93 2 rfl ?_
  refine jx_get d_Md_feed_94 fF_Md_100 (md_tg hK) ((show (mdH h a s).2.2.2 a 2 = Value.int (s.1 2) from md_ri rfl).trans (congrArg Value.int hn)) ?_
  refine jx_iload d_Md_feed_97 1 rfl ?_
  refine jx_iadd d_Md_feed_99 ?_
  refine jx_ati (nI_add (n) (9)) ?_
  refine jx_iload d_Md_feed_100 0 rfl ?_
  refine jx_bipush (v0 := 24) d_Md_feed_102 (by decide) ?_
  refine jx_bipush (v0 := 8) d_Md_feed_104 (by decide) ?_
  refine jx_iload d_Md_feed_106 1 rfl ?_
  refine jx_iconst (v0 := 4) d_Md_feed_108 (by decide) ?_
  refine jx_irem d_Md_feed_109 (by decide) ?_
  refine jx_ati (show _ = (1 : Int32) by decide) ?_
  refine jx_imul d_Md_feed_110 ?_
  refine jx_ati (pk_mul (8) (1)) ?_
  refine jx_isub d_Md_feed_111 ?_
  refine jx_ati (pk_sub (a := 24) (b := (8) * (1)) (by omega)) ?_
  refine jx_ishr d_Md_feed_112 ?_
  refine jx_sipush (v0 := 255) d_Md_feed_113 (by decide) ?_
  refine jx_iand d_Md_feed_116 ?_
  refine jx_iast d_Md_feed_117 (md_ta hK (j := 1) rfl) rfl (jm_vinN (show (n) + (9) < 2000 by omega) (by decide)) ?_
  refine jx_ath ((jm_putN (show (n) + (9) < 2 ^ 31 by omega)).trans (md_wai (j := 1) (show (n) + (9) < 2000 by omega))) ?_
  refine jx_iinc (v0 := nI (9 + 1)) (lv' := [(6, .int (nI (9 + 1))), (7, .int (wc)), (0, .ref (a)), (1, .int (wa)), (2, .int (wb)), (3, .int (wc)), (4, .int (wd)), (5, .int (we))]) d_Md_feed_118 1 rfl (nI_add _ 1) (by decide) rfl ?_
  refine jx_goto (tgt := 34) d_Md_feed_121 (by decide) ?_
  refine jx_ath (show _ = mdH h a (mai s 1 (n + 9) (m_by wc 16)) from rfl) ?_
  refine jx_lv [0, 2, 3, 4, 5, 6, 7] rfl ?_
  exact kk
set_option maxHeartbeats 4000000 in
set_option maxRecDepth 100000 in
theorem st_Md_feed10 (l : Launch) (G : jm_G) {h : jm_H} {a : Nat} {s : MS} {n : Nat} {wa wb wc wd we : Int32} {n0 s0 d : Nat} {Post : jm_r → jm_H → Prop} (hK : MdK h a) (hn : s.1 2 = nI n) (hr : n + 20 ≤ 2000) (kk : jm_X l G mm_Md_feed n0 s0 (jm_zn G d n0 s0) Post 34 [(6, .int (nI 11)), (0, .ref (a)), (1, .int (wa)), (2, .int (wb)), (3, .int (wc)), (4, .int (wd)), (5, .int (we))] [] (mdH h a (mai s 1 (n + 10) (m_by wc 8)))) : jm_X l G mm_Md_feed n0 s0 (jm_zn G d n0 s0) Post 34 [(6, .int (nI 10)), (0, .ref (a)), (1, .int (wa)), (2, .int (wb)), (3, .int (wc)), (4, .int (wd)), (5, .int (we))] [] (mdH h a s) := by
  refine jx_iload d_Md_feed_34 0 rfl ?_
  refine jx_bipush (v0 := 20) d_Md_feed_36 (by decide) ?_
  refine jx_icmp_ge (tgt := 124) d_Md_feed_38 (by decide) (fun c1 => absurd c1 (by decide)) (fun c1 => ?_)
  refine jx_iload d_Md_feed_41 0 rfl ?_
  refine jx_iconst (v0 := 4) d_Md_feed_43 (by decide) ?_
  refine jx_icmp_ge (tgt := 51) d_Md_feed_44 (by decide) (fun c2 => ?_) (fun c2 => absurd c2 (by decide))
  refine jx_iload d_Md_feed_51 0 rfl ?_
  refine jx_bipush (v0 := 8) d_Md_feed_53 (by decide) ?_
  refine jx_icmp_ge (tgt := 62) d_Md_feed_55 (by decide) (fun c3 => ?_) (fun c3 => absurd c3 (by decide))
  refine jx_iload d_Md_feed_62 0 rfl ?_
  refine jx_bipush (v0 := 12) d_Md_feed_64 (by decide) ?_
  refine jx_icmp_ge (tgt := 73) d_Md_feed_66 (by decide) (fun c4 => absurd c4 (by decide)) (fun c4 => ?_)
  refine jx_iload_n d_Md_feed_69 4 rfl ?_
  refine jx_goto (tgt := 87) d_Md_feed_70 (by decide) ?_
  refine jx_istore (lv' := [(7, .int (wc)), (6, .int (nI 10)), (0, .ref (a)), (1, .int (wa)), (2, .int (wb)), (3, .int (wc)), (4, .int (wd)), (5, .int (we))]) d_Md_feed_87 (by decide) rfl ?_
  refine jx_aload_n d_Md_feed_89 2 rfl ?_
  refine jx_get d_Md_feed_90 fF_Md_7 (md_tg hK) (md_rr hK (k := 1) (j := 1) rfl rfl rfl) ?_
  refine jx_aload_n d_Md_feed_93 2 rfl ?_
  refine jx_get d_Md_feed_94 fF_Md_100 (md_tg hK) ((show (mdH h a s).2.2.2 a 2 = Value.int (s.1 2) from md_ri rfl).trans (congrArg Value.int hn)) ?_
  refine jx_iload d_Md_feed_97 1 rfl ?_
  refine jx_iadd d_Md_feed_99 ?_
  refine jx_ati (nI_add (n) (10)) ?_
  refine jx_iload d_Md_feed_100 0 rfl ?_
  refine jx_bipush (v0 := 24) d_Md_feed_102 (by decide) ?_
  refine jx_bipush (v0 := 8) d_Md_feed_104 (by decide) ?_
  refine jx_iload d_Md_feed_106 1 rfl ?_
  refine jx_iconst (v0 := 4) d_Md_feed_108 (by decide) ?_
  refine jx_irem d_Md_feed_109 (by decide) ?_
  refine jx_ati (show _ = (2 : Int32) by decide) ?_
  refine jx_imul d_Md_feed_110 ?_
  refine jx_ati (pk_mul (8) (2)) ?_
  refine jx_isub d_Md_feed_111 ?_
  refine jx_ati (pk_sub (a := 24) (b := (8) * (2)) (by omega)) ?_
  refine jx_ishr d_Md_feed_112 ?_
  refine jx_sipush (v0 := 255) d_Md_feed_113 (by decide) ?_
  refine jx_iand d_Md_feed_116 ?_
  refine jx_iast d_Md_feed_117 (md_ta hK (j := 1) rfl) rfl (jm_vinN (show (n) + (10) < 2000 by omega) (by decide)) ?_
  refine jx_ath ((jm_putN (show (n) + (10) < 2 ^ 31 by omega)).trans (md_wai (j := 1) (show (n) + (10) < 2000 by omega))) ?_
  refine jx_iinc (v0 := nI (10 + 1)) (lv' := [(6, .int (nI (10 + 1))), (7, .int (wc)), (0, .ref (a)), (1, .int (wa)), (2, .int (wb)), (3, .int (wc)), (4, .int (wd)), (5, .int (we))]) d_Md_feed_118 1 rfl (nI_add _ 1) (by decide) rfl ?_
  refine jx_goto (tgt := 34) d_Md_feed_121 (by decide) ?_
  refine jx_ath (show _ = mdH h a (mai s 1 (n + 10) (m_by wc 8)) from rfl) ?_
  refine jx_lv [0, 2, 3, 4, 5, 6, 7] rfl ?_
  exact kk
set_option maxHeartbeats 4000000 in
set_option maxRecDepth 100000 in
theorem st_Md_feed11 (l : Launch) (G : jm_G) {h : jm_H} {a : Nat} {s : MS} {n : Nat} {wa wb wc wd we : Int32} {n0 s0 d : Nat} {Post : jm_r → jm_H → Prop} (hK : MdK h a) (hn : s.1 2 = nI n) (hr : n + 20 ≤ 2000) (kk : jm_X l G mm_Md_feed n0 s0 (jm_zn G d n0 s0) Post 34 [(6, .int (nI 12)), (0, .ref (a)), (1, .int (wa)), (2, .int (wb)), (3, .int (wc)), (4, .int (wd)), (5, .int (we))] [] (mdH h a (mai s 1 (n + 11) (m_by wc 0)))) : jm_X l G mm_Md_feed n0 s0 (jm_zn G d n0 s0) Post 34 [(6, .int (nI 11)), (0, .ref (a)), (1, .int (wa)), (2, .int (wb)), (3, .int (wc)), (4, .int (wd)), (5, .int (we))] [] (mdH h a s) := by
  refine jx_iload d_Md_feed_34 0 rfl ?_
  refine jx_bipush (v0 := 20) d_Md_feed_36 (by decide) ?_
  refine jx_icmp_ge (tgt := 124) d_Md_feed_38 (by decide) (fun c1 => absurd c1 (by decide)) (fun c1 => ?_)
  refine jx_iload d_Md_feed_41 0 rfl ?_
  refine jx_iconst (v0 := 4) d_Md_feed_43 (by decide) ?_
  refine jx_icmp_ge (tgt := 51) d_Md_feed_44 (by decide) (fun c2 => ?_) (fun c2 => absurd c2 (by decide))
  refine jx_iload d_Md_feed_51 0 rfl ?_
  refine jx_bipush (v0 := 8) d_Md_feed_53 (by decide) ?_
  refine jx_icmp_ge (tgt := 62) d_Md_feed_55 (by decide) (fun c3 => ?_) (fun c3 => absurd c3 (by decide))
  refine jx_iload d_Md_feed_62 0 rfl ?_
  refine jx_bipush (v0 := 12) d_Md_feed_64 (by decide) ?_
  refine jx_icmp_ge (tgt := 73) d_Md_feed_66 (by decide) (fun c4 => absurd c4 (by decide)) (fun c4 => ?_)
  refine jx_iload_n d_Md_feed_69 4 rfl ?_
  refine jx_goto (tgt := 87) d_Md_feed_70 (by decide) ?_
  refine jx_istore (lv' := [(7, .int (wc)), (6, .int (nI 11)), (0, .ref (a)), (1, .int (wa)), (2, .int (wb)), (3, .int (wc)), (4, .int (wd)), (5, .int (we))]) d_Md_feed_87 (by decide) rfl ?_
  refine jx_aload_n d_Md_feed_89 2 rfl ?_
  refine jx_get d_Md_feed_90 fF_Md_7 (md_tg hK) (md_rr hK (k := 1) (j := 1) rfl rfl rfl) ?_
  refine jx_aload_n d_Md_feed_93 2 rfl ?_
  refine jx_get d_Md_feed_94 fF_Md_100 (md_tg hK) ((show (mdH h a s).2.2.2 a 2 = Value.int (s.1 2) from md_ri rfl).trans (congrArg Value.int hn)) ?_
  refine jx_iload d_Md_feed_97 1 rfl ?_
  refine jx_iadd d_Md_feed_99 ?_
  refine jx_ati (nI_add (n) (11)) ?_
  refine jx_iload d_Md_feed_100 0 rfl ?_
  refine jx_bipush (v0 := 24) d_Md_feed_102 (by decide) ?_
  refine jx_bipush (v0 := 8) d_Md_feed_104 (by decide) ?_
  refine jx_iload d_Md_feed_106 1 rfl ?_
  refine jx_iconst (v0 := 4) d_Md_feed_108 (by decide) ?_
  refine jx_irem d_Md_feed_109 (by decide) ?_
  refine jx_ati (show _ = (3 : Int32) by decide) ?_
  refine jx_imul d_Md_feed_110 ?_
  refine jx_ati (pk_mul (8) (3)) ?_
  refine jx_isub d_Md_feed_111 ?_
  refine jx_ati (pk_sub (a := 24) (b := (8) * (3)) (by omega)) ?_
  refine jx_ishr d_Md_feed_112 ?_
  refine jx_sipush (v0 := 255) d_Md_feed_113 (by decide) ?_
  refine jx_iand d_Md_feed_116 ?_
  refine jx_iast d_Md_feed_117 (md_ta hK (j := 1) rfl) rfl (jm_vinN (show (n) + (11) < 2000 by omega) (by decide)) ?_
  refine jx_ath ((jm_putN (show (n) + (11) < 2 ^ 31 by omega)).trans (md_wai (j := 1) (show (n) + (11) < 2000 by omega))) ?_
  refine jx_iinc (v0 := nI (11 + 1)) (lv' := [(6, .int (nI (11 + 1))), (7, .int (wc)), (0, .ref (a)), (1, .int (wa)), (2, .int (wb)), (3, .int (wc)), (4, .int (wd)), (5, .int (we))]) d_Md_feed_118 1 rfl (nI_add _ 1) (by decide) rfl ?_
  refine jx_goto (tgt := 34) d_Md_feed_121 (by decide) ?_
  refine jx_ath (show _ = mdH h a (mai s 1 (n + 11) (m_by wc 0)) from rfl) ?_
  refine jx_lv [0, 2, 3, 4, 5, 6, 7] rfl ?_
  exact kk
set_option maxHeartbeats 4000000 in
set_option maxRecDepth 100000 in
theorem st_Md_feed12 (l : Launch) (G : jm_G) {h : jm_H} {a : Nat} {s : MS} {n : Nat} {wa wb wc wd we : Int32} {n0 s0 d : Nat} {Post : jm_r → jm_H → Prop} (hK : MdK h a) (hn : s.1 2 = nI n) (hr : n + 20 ≤ 2000) (kk : jm_X l G mm_Md_feed n0 s0 (jm_zn G d n0 s0) Post 34 [(6, .int (nI 13)), (0, .ref (a)), (1, .int (wa)), (2, .int (wb)), (3, .int (wc)), (4, .int (wd)), (5, .int (we))] [] (mdH h a (mai s 1 (n + 12) (m_by wd 24)))) : jm_X l G mm_Md_feed n0 s0 (jm_zn G d n0 s0) Post 34 [(6, .int (nI 12)), (0, .ref (a)), (1, .int (wa)), (2, .int (wb)), (3, .int (wc)), (4, .int (wd)), (5, .int (we))] [] (mdH h a s) := by
  refine jx_iload d_Md_feed_34 0 rfl ?_
  refine jx_bipush (v0 := 20) d_Md_feed_36 (by decide) ?_
  refine jx_icmp_ge (tgt := 124) d_Md_feed_38 (by decide) (fun c1 => absurd c1 (by decide)) (fun c1 => ?_)
  refine jx_iload d_Md_feed_41 0 rfl ?_
  refine jx_iconst (v0 := 4) d_Md_feed_43 (by decide) ?_
  refine jx_icmp_ge (tgt := 51) d_Md_feed_44 (by decide) (fun c2 => ?_) (fun c2 => absurd c2 (by decide))
  refine jx_iload d_Md_feed_51 0 rfl ?_
  refine jx_bipush (v0 := 8) d_Md_feed_53 (by decide) ?_
  refine jx_icmp_ge (tgt := 62) d_Md_feed_55 (by decide) (fun c3 => ?_) (fun c3 => absurd c3 (by decide))
  refine jx_iload d_Md_feed_62 0 rfl ?_
  refine jx_bipush (v0 := 12) d_Md_feed_64 (by decide) ?_
  refine jx_icmp_ge (tgt := 73) d_Md_feed_66 (by decide) (fun c4 => ?_) (fun c4 => absurd c4 (by decide))
  refine jx_iload d_Md_feed_73 0 rfl ?_
  refine jx_bipush (v0 := 16) d_Md_feed_75 (by decide) ?_
  refine jx_icmp_ge (tgt := 85) d_Md_feed_77 (by decide) (fun c5 => absurd c5 (by decide)) (fun c5 => ?_)
  refine jx_iload d_Md_feed_80 5 rfl ?_
  refine jx_goto (tgt := 87) d_Md_feed_82 (by decide) ?_
  refine jx_istore (lv' := [(7, .int (wd)), (6, .int (nI 12)), (0, .ref (a)), (1, .int (wa)), (2, .int (wb)), (3, .int (wc)), (4, .int (wd)), (5, .int (we))]) d_Md_feed_87 (by decide) rfl ?_
  refine jx_aload_n d_Md_feed_89 2 rfl ?_
  refine jx_get d_Md_feed_90 fF_Md_7 (md_tg hK) (md_rr hK (k := 1) (j := 1) rfl rfl rfl) ?_
  refine jx_aload_n d_Md_feed_93 2 rfl ?_
  refine jx_get d_Md_feed_94 fF_Md_100 (md_tg hK) ((show (mdH h a s).2.2.2 a 2 = Value.int (s.1 2) from md_ri rfl).trans (congrArg Value.int hn)) ?_
  refine jx_iload d_Md_feed_97 1 rfl ?_
  refine jx_iadd d_Md_feed_99 ?_
  refine jx_ati (nI_add (n) (12)) ?_
  refine jx_iload d_Md_feed_100 0 rfl ?_
  refine jx_bipush (v0 := 24) d_Md_feed_102 (by decide) ?_
  refine jx_bipush (v0 := 8) d_Md_feed_104 (by decide) ?_
  refine jx_iload d_Md_feed_106 1 rfl ?_
  refine jx_iconst (v0 := 4) d_Md_feed_108 (by decide) ?_
  refine jx_irem d_Md_feed_109 (by decide) ?_
  refine jx_ati (show _ = (0 : Int32) by decide) ?_
  refine jx_imul d_Md_feed_110 ?_
  refine jx_ati (pk_mul (8) (0)) ?_
  refine jx_isub d_Md_feed_111 ?_
  refine jx_ati (pk_sub (a := 24) (b := (8) * (0)) (by omega)) ?_
  refine jx_ishr d_Md_feed_112 ?_
  refine jx_sipush (v0 := 255) d_Md_feed_113 (by decide) ?_
  refine jx_iand d_Md_feed_116 ?_
  refine jx_iast d_Md_feed_117 (md_ta hK (j := 1) rfl) rfl (jm_vinN (show (n) + (12) < 2000 by omega) (by decide)) ?_
  refine jx_ath ((jm_putN (show (n) + (12) < 2 ^ 31 by omega)).trans (md_wai (j := 1) (show (n) + (12) < 2000 by omega))) ?_
  refine jx_iinc (v0 := nI (12 + 1)) (lv' := [(6, .int (nI (12 + 1))), (7, .int (wd)), (0, .ref (a)), (1, .int (wa)), (2, .int (wb)), (3, .int (wc)), (4, .int (wd)), (5, .int (we))]) d_Md_feed_118 1 rfl (nI_add _ 1) (by decide) rfl ?_
  refine jx_goto (tgt := 34) d_Md_feed_121 (by decide) ?_
  refine jx_ath (show _ = mdH h a (mai s 1 (n + 12) (m_by wd 24)) from rfl) ?_
  refine jx_lv [0, 2, 3, 4, 5, 6, 7] rfl ?_
  exact kk
set_option maxHeartbeats 4000000 in
set_option maxRecDepth 100000 in
theorem st_Md_feed13 (l : Launch) (G : jm_G) {h : jm_H} {a : Nat} {s : MS} {n : Nat} {wa wb wc wd we : Int32} {n0 s0 d : Nat} {Post : jm_r → jm_H → Prop} (hK : MdK h a) (hn : s.1 2 = nI n) (hr : n + 20 ≤ 2000) (kk : jm_X l G mm_Md_feed n0 s0 (jm_zn G d n0 s0) Post 34 [(6, .int (nI 14)), (0, .ref (a)), (1, .int (wa)), (2, .int (wb)), (3, .int (wc)), (4, .int (wd)), (5, .int (we))] [] (mdH h a (mai s 1 (n + 13) (m_by wd 16)))) : jm_X l G mm_Md_feed n0 s0 (jm_zn G d n0 s0) Post 34 [(6, .int (nI 13)), (0, .ref (a)), (1, .int (wa)), (2, .int (wb)), (3, .int (wc)), (4, .int (wd)), (5, .int (we))] [] (mdH h a s) := by
  refine jx_iload d_Md_feed_34 0 rfl ?_
  refine jx_bipush (v0 := 20) d_Md_feed_36 (by decide) ?_
  refine jx_icmp_ge (tgt := 124) d_Md_feed_38 (by decide) (fun c1 => absurd c1 (by decide)) (fun c1 => ?_)
  refine jx_iload d_Md_feed_41 0 rfl ?_
  refine jx_iconst (v0 := 4) d_Md_feed_43 (by decide) ?_
  refine jx_icmp_ge (tgt := 51) d_Md_feed_44 (by decide) (fun c2 => ?_) (fun c2 => absurd c2 (by decide))
  refine jx_iload d_Md_feed_51 0 rfl ?_
  refine jx_bipush (v0 := 8) d_Md_feed_53 (by decide) ?_
  refine jx_icmp_ge (tgt := 62) d_Md_feed_55 (by decide) (fun c3 => ?_) (fun c3 => absurd c3 (by decide))
  refine jx_iload d_Md_feed_62 0 rfl ?_
  refine jx_bipush (v0 := 12) d_Md_feed_64 (by decide) ?_
  refine jx_icmp_ge (tgt := 73) d_Md_feed_66 (by decide) (fun c4 => ?_) (fun c4 => absurd c4 (by decide))
  refine jx_iload d_Md_feed_73 0 rfl ?_
  refine jx_bipush (v0 := 16) d_Md_feed_75 (by decide) ?_
  refine jx_icmp_ge (tgt := 85) d_Md_feed_77 (by decide) (fun c5 => absurd c5 (by decide)) (fun c5 => ?_)
  refine jx_iload d_Md_feed_80 5 rfl ?_
  refine jx_goto (tgt := 87) d_Md_feed_82 (by decide) ?_
  refine jx_istore (lv' := [(7, .int (wd)), (6, .int (nI 13)), (0, .ref (a)), (1, .int (wa)), (2, .int (wb)), (3, .int (wc)), (4, .int (wd)), (5, .int (we))]) d_Md_feed_87 (by decide) rfl ?_
  refine jx_aload_n d_Md_feed_89 2 rfl ?_
  refine jx_get d_Md_feed_90 fF_Md_7 (md_tg hK) (md_rr hK (k := 1) (j := 1) rfl rfl rfl) ?_
  refine jx_aload_n d_Md_feed_93 2 rfl ?_
  refine jx_get d_Md_feed_94 fF_Md_100 (md_tg hK) ((show (mdH h a s).2.2.2 a 2 = Value.int (s.1 2) from md_ri rfl).trans (congrArg Value.int hn)) ?_
  refine jx_iload d_Md_feed_97 1 rfl ?_
  refine jx_iadd d_Md_feed_99 ?_
  refine jx_ati (nI_add (n) (13)) ?_
  refine jx_iload d_Md_feed_100 0 rfl ?_
  refine jx_bipush (v0 := 24) d_Md_feed_102 (by decide) ?_
  refine jx_bipush (v0 := 8) d_Md_feed_104 (by decide) ?_
  refine jx_iload d_Md_feed_106 1 rfl ?_
  refine jx_iconst (v0 := 4) d_Md_feed_108 (by decide) ?_
  refine jx_irem d_Md_feed_109 (by decide) ?_
  refine jx_ati (show _ = (1 : Int32) by decide) ?_
  refine jx_imul d_Md_feed_110 ?_
  refine jx_ati (pk_mul (8) (1)) ?_
  refine jx_isub d_Md_feed_111 ?_
  refine jx_ati (pk_sub (a := 24) (b := (8) * (1)) (by omega)) ?_
  refine jx_ishr d_Md_feed_112 ?_
  refine jx_sipush (v0 := 255) d_Md_feed_113 (by decide) ?_
  refine jx_iand d_Md_feed_116 ?_
  refine jx_iast d_Md_feed_117 (md_ta hK (j := 1) rfl) rfl (jm_vinN (show (n) + (13) < 2000 by omega) (by decide)) ?_
  refine jx_ath ((jm_putN (show (n) + (13) < 2 ^ 31 by omega)).trans (md_wai (j := 1) (show (n) + (13) < 2000 by omega))) ?_
  refine jx_iinc (v0 := nI (13 + 1)) (lv' := [(6, .int (nI (13 + 1))), (7, .int (wd)), (0, .ref (a)), (1, .int (wa)), (2, .int (wb)), (3, .int (wc)), (4, .int (wd)), (5, .int (we))]) d_Md_feed_118 1 rfl (nI_add _ 1) (by decide) rfl ?_
  refine jx_goto (tgt := 34) d_Md_feed_121 (by decide) ?_
  refine jx_ath (show _ = mdH h a (mai s 1 (n + 13) (m_by wd 16)) from rfl) ?_
  refine jx_lv [0, 2, 3, 4, 5, 6, 7] rfl ?_
  exact kk
set_option maxHeartbeats 4000000 in
set_option maxRecDepth 100000 in
theorem st_Md_feed14 (l : Launch) (G : jm_G) {h : jm_H} {a : Nat} {s : MS} {n : Nat} {wa wb wc wd we : Int32} {n0 s0 d : Nat} {Post : jm_r → jm_H → Prop} (hK : MdK h a) (hn : s.1 2 = nI n) (hr : n + 20 ≤ 2000) (kk : jm_X l G mm_Md_feed n0 s0 (jm_zn G d n0 s0) Post 34 [(6, .int (nI 15)), (0, .ref (a)), (1, .int (wa)), (2, .int (wb)), (3, .int (wc)), (4, .int (wd)), (5, .int (we))] [] (mdH h a (mai s 1 (n + 14) (m_by wd 8)))) : jm_X l G mm_Md_feed n0 s0 (jm_zn G d n0 s0) Post 34 [(6, .int (nI 14)), (0, .ref (a)), (1, .int (wa)), (2, .int (wb)), (3, .int (wc)), (4, .int (wd)), (5, .int (we))] [] (mdH h a s) := by
  refine jx_iload d_Md_feed_34 0 rfl ?_
  refine jx_bipush (v0 := 20) d_Md_feed_36 (by decide) ?_
  refine jx_icmp_ge (tgt := 124) d_Md_feed_38 (by decide) (fun c1 => absurd c1 (by decide)) (fun c1 => ?_)
  refine jx_iload d_Md_feed_41 0 rfl ?_
  refine jx_iconst (v0 := 4) d_Md_feed_43 (by decide) ?_
  refine jx_icmp_ge (tgt := 51) d_Md_feed_44 (by decide) (fun c2 => ?_) (fun c2 => absurd c2 (by decide))
  refine jx_iload d_Md_feed_51 0 rfl ?_
  refine jx_bipush (v0 := 8) d_Md_feed_53 (by decide) ?_
  refine jx_icmp_ge (tgt := 62) d_Md_feed_55 (by decide) (fun c3 => ?_) (fun c3 => absurd c3 (by decide))
  refine jx_iload d_Md_feed_62 0 rfl ?_
  refine jx_bipush (v0 := 12) d_Md_feed_64 (by decide) ?_
  refine jx_icmp_ge (tgt := 73) d_Md_feed_66 (by decide) (fun c4 => ?_) (fun c4 => absurd c4 (by decide))
  refine jx_iload d_Md_feed_73 0 rfl ?_
  refine jx_bipush (v0 := 16) d_Md_feed_75 (by decide) ?_
  refine jx_icmp_ge (tgt := 85) d_Md_feed_77 (by decide) (fun c5 => absurd c5 (by decide)) (fun c5 => ?_)
  refine jx_iload d_Md_feed_80 5 rfl ?_
  refine jx_goto (tgt := 87) d_Md_feed_82 (by decide) ?_
  refine jx_istore (lv' := [(7, .int (wd)), (6, .int (nI 14)), (0, .ref (a)), (1, .int (wa)), (2, .int (wb)), (3, .int (wc)), (4, .int (wd)), (5, .int (we))]) d_Md_feed_87 (by decide) rfl ?_
  refine jx_aload_n d_Md_feed_89 2 rfl ?_
  refine jx_get d_Md_feed_90 fF_Md_7 (md_tg hK) (md_rr hK (k := 1) (j := 1) rfl rfl rfl) ?_
  refine jx_aload_n d_Md_feed_93 2 rfl ?_
  refine jx_get d_Md_feed_94 fF_Md_100 (md_tg hK) ((show (mdH h a s).2.2.2 a 2 = Value.int (s.1 2) from md_ri rfl).trans (congrArg Value.int hn)) ?_
  refine jx_iload d_Md_feed_97 1 rfl ?_
  refine jx_iadd d_Md_feed_99 ?_
  refine jx_ati (nI_add (n) (14)) ?_
  refine jx_iload d_Md_feed_100 0 rfl ?_
  refine jx_bipush (v0 := 24) d_Md_feed_102 (by decide) ?_
  refine jx_bipush (v0 := 8) d_Md_feed_104 (by decide) ?_
  refine jx_iload d_Md_feed_106 1 rfl ?_
  refine jx_iconst (v0 := 4) d_Md_feed_108 (by decide) ?_
  refine jx_irem d_Md_feed_109 (by decide) ?_
  refine jx_ati (show _ = (2 : Int32) by decide) ?_
  refine jx_imul d_Md_feed_110 ?_
  refine jx_ati (pk_mul (8) (2)) ?_
  refine jx_isub d_Md_feed_111 ?_
  refine jx_ati (pk_sub (a := 24) (b := (8) * (2)) (by omega)) ?_
  refine jx_ishr d_Md_feed_112 ?_
  refine jx_sipush (v0 := 255) d_Md_feed_113 (by decide) ?_
  refine jx_iand d_Md_feed_116 ?_
  refine jx_iast d_Md_feed_117 (md_ta hK (j := 1) rfl) rfl (jm_vinN (show (n) + (14) < 2000 by omega) (by decide)) ?_
  refine jx_ath ((jm_putN (show (n) + (14) < 2 ^ 31 by omega)).trans (md_wai (j := 1) (show (n) + (14) < 2000 by omega))) ?_
  refine jx_iinc (v0 := nI (14 + 1)) (lv' := [(6, .int (nI (14 + 1))), (7, .int (wd)), (0, .ref (a)), (1, .int (wa)), (2, .int (wb)), (3, .int (wc)), (4, .int (wd)), (5, .int (we))]) d_Md_feed_118 1 rfl (nI_add _ 1) (by decide) rfl ?_
  refine jx_goto (tgt := 34) d_Md_feed_121 (by decide) ?_
  refine jx_ath (show _ = mdH h a (mai s 1 (n + 14) (m_by wd 8)) from rfl) ?_
  refine jx_lv [0, 2, 3, 4, 5, 6, 7] rfl ?_
  exact kk
set_option maxHeartbeats 4000000 in
set_option maxRecDepth 100000 in
theorem st_Md_feed15 (l : Launch) (G : jm_G) {h : jm_H} {a : Nat} {s : MS} {n : Nat} {wa wb wc wd we : Int32} {n0 s0 d : Nat} {Post : jm_r → jm_H → Prop} (hK : MdK h a) (hn : s.1 2 = nI n) (hr : n + 20 ≤ 2000) (kk : jm_X l G mm_Md_feed n0 s0 (jm_zn G d n0 s0) Post 34 [(6, .int (nI 16)), (0, .ref (a)), (1, .int (wa)), (2, .int (wb)), (3, .int (wc)), (4, .int (wd)), (5, .int (we))] [] (mdH h a (mai s 1 (n + 15) (m_by wd 0)))) : jm_X l G mm_Md_feed n0 s0 (jm_zn G d n0 s0) Post 34 [(6, .int (nI 15)), (0, .ref (a)), (1, .int (wa)), (2, .int (wb)), (3, .int (wc)), (4, .int (wd)), (5, .int (we))] [] (mdH h a s) := by
  refine jx_iload d_Md_feed_34 0 rfl ?_
  refine jx_bipush (v0 := 20) d_Md_feed_36 (by decide) ?_
  refine jx_icmp_ge (tgt := 124) d_Md_feed_38 (by decide) (fun c1 => absurd c1 (by decide)) (fun c1 => ?_)
  refine jx_iload d_Md_feed_41 0 rfl ?_
  refine jx_iconst (v0 := 4) d_Md_feed_43 (by decide) ?_
  refine jx_icmp_ge (tgt := 51) d_Md_feed_44 (by decide) (fun c2 => ?_) (fun c2 => absurd c2 (by decide))
  refine jx_iload d_Md_feed_51 0 rfl ?_
  refine jx_bipush (v0 := 8) d_Md_feed_53 (by decide) ?_
  refine jx_icmp_ge (tgt := 62) d_Md_feed_55 (by decide) (fun c3 => ?_) (fun c3 => absurd c3 (by decide))
  refine jx_iload d_Md_feed_62 0 rfl ?_
  refine jx_bipush (v0 := 12) d_Md_feed_64 (by decide) ?_
  refine jx_icmp_ge (tgt := 73) d_Md_feed_66 (by decide) (fun c4 => ?_) (fun c4 => absurd c4 (by decide))
  refine jx_iload d_Md_feed_73 0 rfl ?_
  refine jx_bipush (v0 := 16) d_Md_feed_75 (by decide) ?_
  refine jx_icmp_ge (tgt := 85) d_Md_feed_77 (by decide) (fun c5 => absurd c5 (by decide)) (fun c5 => ?_)
  refine jx_iload d_Md_feed_80 5 rfl ?_
  refine jx_goto (tgt := 87) d_Md_feed_82 (by decide) ?_
  refine jx_istore (lv' := [(7, .int (wd)), (6, .int (nI 15)), (0, .ref (a)), (1, .int (wa)), (2, .int (wb)), (3, .int (wc)), (4, .int (wd)), (5, .int (we))]) d_Md_feed_87 (by decide) rfl ?_
  refine jx_aload_n d_Md_feed_89 2 rfl ?_
  refine jx_get d_Md_feed_90 fF_Md_7 (md_tg hK) (md_rr hK (k := 1) (j := 1) rfl rfl rfl) ?_
  refine jx_aload_n d_Md_feed_93 2 rfl ?_
  refine jx_get d_Md_feed_94 fF_Md_100 (md_tg hK) ((show (mdH h a s).2.2.2 a 2 = Value.int (s.1 2) from md_ri rfl).trans (congrArg Value.int hn)) ?_
  refine jx_iload d_Md_feed_97 1 rfl ?_
  refine jx_iadd d_Md_feed_99 ?_
  refine jx_ati (nI_add (n) (15)) ?_
  refine jx_iload d_Md_feed_100 0 rfl ?_
  refine jx_bipush (v0 := 24) d_Md_feed_102 (by decide) ?_
  refine jx_bipush (v0 := 8) d_Md_feed_104 (by decide) ?_
  refine jx_iload d_Md_feed_106 1 rfl ?_
  refine jx_iconst (v0 := 4) d_Md_feed_108 (by decide) ?_
  refine jx_irem d_Md_feed_109 (by decide) ?_
  refine jx_ati (show _ = (3 : Int32) by decide) ?_
  refine jx_imul d_Md_feed_110 ?_
  refine jx_ati (pk_mul (8) (3)) ?_
  refine jx_isub d_Md_feed_111 ?_
  refine jx_ati (pk_sub (a := 24) (b := (8) * (3)) (by omega)) ?_
  refine jx_ishr d_Md_feed_112 ?_
  refine jx_sipush (v0 := 255) d_Md_feed_113 (by decide) ?_
  refine jx_iand d_Md_feed_116 ?_
  refine jx_iast d_Md_feed_117 (md_ta hK (j := 1) rfl) rfl (jm_vinN (show (n) + (15) < 2000 by omega) (by decide)) ?_
  refine jx_ath ((jm_putN (show (n) + (15) < 2 ^ 31 by omega)).trans (md_wai (j := 1) (show (n) + (15) < 2000 by omega))) ?_
  refine jx_iinc (v0 := nI (15 + 1)) (lv' := [(6, .int (nI (15 + 1))), (7, .int (wd)), (0, .ref (a)), (1, .int (wa)), (2, .int (wb)), (3, .int (wc)), (4, .int (wd)), (5, .int (we))]) d_Md_feed_118 1 rfl (nI_add _ 1) (by decide) rfl ?_
  refine jx_goto (tgt := 34) d_Md_feed_121 (by decide) ?_
  refine jx_ath (show _ = mdH h a (mai s 1 (n + 15) (m_by wd 0)) from rfl) ?_
  refine jx_lv [0, 2, 3, 4, 5, 6, 7] rfl ?_
  exact kk
set_option maxHeartbeats 4000000 in
set_option maxRecDepth 100000 in
theorem st_Md_feed16 (l : Launch) (G : jm_G) {h : jm_H} {a : Nat} {s : MS} {n : Nat} {wa wb wc wd we : Int32} {n0 s0 d : Nat} {Post : jm_r → jm_H → Prop} (hK : MdK h a) (hn : s.1 2 = nI n) (hr : n + 20 ≤ 2000) (kk : jm_X l G mm_Md_feed n0 s0 (jm_zn G d n0 s0) Post 34 [(6, .int (nI 17)), (0, .ref (a)), (1, .int (wa)), (2, .int (wb)), (3, .int (wc)), (4, .int (wd)), (5, .int (we))] [] (mdH h a (mai s 1 (n + 16) (m_by we 24)))) : jm_X l G mm_Md_feed n0 s0 (jm_zn G d n0 s0) Post 34 [(6, .int (nI 16)), (0, .ref (a)), (1, .int (wa)), (2, .int (wb)), (3, .int (wc)), (4, .int (wd)), (5, .int (we))] [] (mdH h a s) := by
  refine jx_iload d_Md_feed_34 0 rfl ?_
  refine jx_bipush (v0 := 20) d_Md_feed_36 (by decide) ?_
  refine jx_icmp_ge (tgt := 124) d_Md_feed_38 (by decide) (fun c1 => absurd c1 (by decide)) (fun c1 => ?_)
  refine jx_iload d_Md_feed_41 0 rfl ?_
  refine jx_iconst (v0 := 4) d_Md_feed_43 (by decide) ?_
  refine jx_icmp_ge (tgt := 51) d_Md_feed_44 (by decide) (fun c2 => ?_) (fun c2 => absurd c2 (by decide))
  refine jx_iload d_Md_feed_51 0 rfl ?_
  refine jx_bipush (v0 := 8) d_Md_feed_53 (by decide) ?_
  refine jx_icmp_ge (tgt := 62) d_Md_feed_55 (by decide) (fun c3 => ?_) (fun c3 => absurd c3 (by decide))
  refine jx_iload d_Md_feed_62 0 rfl ?_
  refine jx_bipush (v0 := 12) d_Md_feed_64 (by decide) ?_
  refine jx_icmp_ge (tgt := 73) d_Md_feed_66 (by decide) (fun c4 => ?_) (fun c4 => absurd c4 (by decide))
  refine jx_iload d_Md_feed_73 0 rfl ?_
  refine jx_bipush (v0 := 16) d_Md_feed_75 (by decide) ?_
  refine jx_icmp_ge (tgt := 85) d_Md_feed_77 (by decide) (fun c5 => ?_) (fun c5 => absurd c5 (by decide))
  refine jx_iload d_Md_feed_85 6 rfl ?_
  refine jx_istore (lv' := [(7, .int (we)), (6, .int (nI 16)), (0, .ref (a)), (1, .int (wa)), (2, .int (wb)), (3, .int (wc)), (4, .int (wd)), (5, .int (we))]) d_Md_feed_87 (by decide) rfl ?_
  refine jx_aload_n d_Md_feed_89 2 rfl ?_
  refine jx_get d_Md_feed_90 fF_Md_7 (md_tg hK) (md_rr hK (k := 1) (j := 1) rfl rfl rfl) ?_
  refine jx_aload_n d_Md_feed_93 2 rfl ?_
  refine jx_get d_Md_feed_94 fF_Md_100 (md_tg hK) ((show (mdH h a s).2.2.2 a 2 = Value.int (s.1 2) from md_ri rfl).trans (congrArg Value.int hn)) ?_
  refine jx_iload d_Md_feed_97 1 rfl ?_
  refine jx_iadd d_Md_feed_99 ?_
  refine jx_ati (nI_add (n) (16)) ?_
  refine jx_iload d_Md_feed_100 0 rfl ?_
  refine jx_bipush (v0 := 24) d_Md_feed_102 (by decide) ?_
  refine jx_bipush (v0 := 8) d_Md_feed_104 (by decide) ?_
  refine jx_iload d_Md_feed_106 1 rfl ?_
  refine jx_iconst (v0 := 4) d_Md_feed_108 (by decide) ?_
  refine jx_irem d_Md_feed_109 (by decide) ?_
  refine jx_ati (show _ = (0 : Int32) by decide) ?_
  refine jx_imul d_Md_feed_110 ?_
  refine jx_ati (pk_mul (8) (0)) ?_
  refine jx_isub d_Md_feed_111 ?_
  refine jx_ati (pk_sub (a := 24) (b := (8) * (0)) (by omega)) ?_
  refine jx_ishr d_Md_feed_112 ?_
  refine jx_sipush (v0 := 255) d_Md_feed_113 (by decide) ?_
  refine jx_iand d_Md_feed_116 ?_
  refine jx_iast d_Md_feed_117 (md_ta hK (j := 1) rfl) rfl (jm_vinN (show (n) + (16) < 2000 by omega) (by decide)) ?_
  refine jx_ath ((jm_putN (show (n) + (16) < 2 ^ 31 by omega)).trans (md_wai (j := 1) (show (n) + (16) < 2000 by omega))) ?_
  refine jx_iinc (v0 := nI (16 + 1)) (lv' := [(6, .int (nI (16 + 1))), (7, .int (we)), (0, .ref (a)), (1, .int (wa)), (2, .int (wb)), (3, .int (wc)), (4, .int (wd)), (5, .int (we))]) d_Md_feed_118 1 rfl (nI_add _ 1) (by decide) rfl ?_
  refine jx_goto (tgt := 34) d_Md_feed_121 (by decide) ?_
  refine jx_ath (show _ = mdH h a (mai s 1 (n + 16) (m_by we 24)) from rfl) ?_
  refine jx_lv [0, 2, 3, 4, 5, 6, 7] rfl ?_
  exact kk
set_option maxHeartbeats 4000000 in
set_option maxRecDepth 100000 in
theorem st_Md_feed17 (l : Launch) (G : jm_G) {h : jm_H} {a : Nat} {s : MS} {n : Nat} {wa wb wc wd we : Int32} {n0 s0 d : Nat} {Post : jm_r → jm_H → Prop} (hK : MdK h a) (hn : s.1 2 = nI n) (hr : n + 20 ≤ 2000) (kk : jm_X l G mm_Md_feed n0 s0 (jm_zn G d n0 s0) Post 34 [(6, .int (nI 18)), (0, .ref (a)), (1, .int (wa)), (2, .int (wb)), (3, .int (wc)), (4, .int (wd)), (5, .int (we))] [] (mdH h a (mai s 1 (n + 17) (m_by we 16)))) : jm_X l G mm_Md_feed n0 s0 (jm_zn G d n0 s0) Post 34 [(6, .int (nI 17)), (0, .ref (a)), (1, .int (wa)), (2, .int (wb)), (3, .int (wc)), (4, .int (wd)), (5, .int (we))] [] (mdH h a s) := by
  refine jx_iload d_Md_feed_34 0 rfl ?_
  refine jx_bipush (v0 := 20) d_Md_feed_36 (by decide) ?_
  refine jx_icmp_ge (tgt := 124) d_Md_feed_38 (by decide) (fun c1 => absurd c1 (by decide)) (fun c1 => ?_)
  refine jx_iload d_Md_feed_41 0 rfl ?_
  refine jx_iconst (v0 := 4) d_Md_feed_43 (by decide) ?_
  refine jx_icmp_ge (tgt := 51) d_Md_feed_44 (by decide) (fun c2 => ?_) (fun c2 => absurd c2 (by decide))
  refine jx_iload d_Md_feed_51 0 rfl ?_
  refine jx_bipush (v0 := 8) d_Md_feed_53 (by decide) ?_
  refine jx_icmp_ge (tgt := 62) d_Md_feed_55 (by decide) (fun c3 => ?_) (fun c3 => absurd c3 (by decide))
  refine jx_iload d_Md_feed_62 0 rfl ?_
  refine jx_bipush (v0 := 12) d_Md_feed_64 (by decide) ?_
  refine jx_icmp_ge (tgt := 73) d_Md_feed_66 (by decide) (fun c4 => ?_) (fun c4 => absurd c4 (by decide))
  refine jx_iload d_Md_feed_73 0 rfl ?_
  refine jx_bipush (v0 := 16) d_Md_feed_75 (by decide) ?_
  refine jx_icmp_ge (tgt := 85) d_Md_feed_77 (by decide) (fun c5 => ?_) (fun c5 => absurd c5 (by decide))
  refine jx_iload d_Md_feed_85 6 rfl ?_
  refine jx_istore (lv' := [(7, .int (we)), (6, .int (nI 17)), (0, .ref (a)), (1, .int (wa)), (2, .int (wb)), (3, .int (wc)), (4, .int (wd)), (5, .int (we))]) d_Md_feed_87 (by decide) rfl ?_
  refine jx_aload_n d_Md_feed_89 2 rfl ?_
  refine jx_get d_Md_feed_90 fF_Md_7 (md_tg hK) (md_rr hK (k := 1) (j := 1) rfl rfl rfl) ?_
  refine jx_aload_n d_Md_feed_93 2 rfl ?_
  refine jx_get d_Md_feed_94 fF_Md_100 (md_tg hK) ((show (mdH h a s).2.2.2 a 2 = Value.int (s.1 2) from md_ri rfl).trans (congrArg Value.int hn)) ?_
  refine jx_iload d_Md_feed_97 1 rfl ?_
  refine jx_iadd d_Md_feed_99 ?_
  refine jx_ati (nI_add (n) (17)) ?_
  refine jx_iload d_Md_feed_100 0 rfl ?_
  refine jx_bipush (v0 := 24) d_Md_feed_102 (by decide) ?_
  refine jx_bipush (v0 := 8) d_Md_feed_104 (by decide) ?_
  refine jx_iload d_Md_feed_106 1 rfl ?_
  refine jx_iconst (v0 := 4) d_Md_feed_108 (by decide) ?_
  refine jx_irem d_Md_feed_109 (by decide) ?_
  refine jx_ati (show _ = (1 : Int32) by decide) ?_
  refine jx_imul d_Md_feed_110 ?_
  refine jx_ati (pk_mul (8) (1)) ?_
  refine jx_isub d_Md_feed_111 ?_
  refine jx_ati (pk_sub (a := 24) (b := (8) * (1)) (by omega)) ?_
  refine jx_ishr d_Md_feed_112 ?_
  refine jx_sipush (v0 := 255) d_Md_feed_113 (by decide) ?_
  refine jx_iand d_Md_feed_116 ?_
  refine jx_iast d_Md_feed_117 (md_ta hK (j := 1) rfl) rfl (jm_vinN (show (n) + (17) < 2000 by omega) (by decide)) ?_
  refine jx_ath ((jm_putN (show (n) + (17) < 2 ^ 31 by omega)).trans (md_wai (j := 1) (show (n) + (17) < 2000 by omega))) ?_
  refine jx_iinc (v0 := nI (17 + 1)) (lv' := [(6, .int (nI (17 + 1))), (7, .int (we)), (0, .ref (a)), (1, .int (wa)), (2, .int (wb)), (3, .int (wc)), (4, .int (wd)), (5, .int (we))]) d_Md_feed_118 1 rfl (nI_add _ 1) (by decide) rfl ?_
  refine jx_goto (tgt := 34) d_Md_feed_121 (by decide) ?_
  refine jx_ath (show _ = mdH h a (mai s 1 (n + 17) (m_by we 16)) from rfl) ?_
  refine jx_lv [0, 2, 3, 4, 5, 6, 7] rfl ?_
  exact kk
set_option maxHeartbeats 4000000 in
set_option maxRecDepth 100000 in
theorem st_Md_feed18 (l : Launch) (G : jm_G) {h : jm_H} {a : Nat} {s : MS} {n : Nat} {wa wb wc wd we : Int32} {n0 s0 d : Nat} {Post : jm_r → jm_H → Prop} (hK : MdK h a) (hn : s.1 2 = nI n) (hr : n + 20 ≤ 2000) (kk : jm_X l G mm_Md_feed n0 s0 (jm_zn G d n0 s0) Post 34 [(6, .int (nI 19)), (0, .ref (a)), (1, .int (wa)), (2, .int (wb)), (3, .int (wc)), (4, .int (wd)), (5, .int (we))] [] (mdH h a (mai s 1 (n + 18) (m_by we 8)))) : jm_X l G mm_Md_feed n0 s0 (jm_zn G d n0 s0) Post 34 [(6, .int (nI 18)), (0, .ref (a)), (1, .int (wa)), (2, .int (wb)), (3, .int (wc)), (4, .int (wd)), (5, .int (we))] [] (mdH h a s) := by
  refine jx_iload d_Md_feed_34 0 rfl ?_
  refine jx_bipush (v0 := 20) d_Md_feed_36 (by decide) ?_
  refine jx_icmp_ge (tgt := 124) d_Md_feed_38 (by decide) (fun c1 => absurd c1 (by decide)) (fun c1 => ?_)
  refine jx_iload d_Md_feed_41 0 rfl ?_
  refine jx_iconst (v0 := 4) d_Md_feed_43 (by decide) ?_
  refine jx_icmp_ge (tgt := 51) d_Md_feed_44 (by decide) (fun c2 => ?_) (fun c2 => absurd c2 (by decide))
  refine jx_iload d_Md_feed_51 0 rfl ?_
  refine jx_bipush (v0 := 8) d_Md_feed_53 (by decide) ?_
  refine jx_icmp_ge (tgt := 62) d_Md_feed_55 (by decide) (fun c3 => ?_) (fun c3 => absurd c3 (by decide))
  refine jx_iload d_Md_feed_62 0 rfl ?_
  refine jx_bipush (v0 := 12) d_Md_feed_64 (by decide) ?_
  refine jx_icmp_ge (tgt := 73) d_Md_feed_66 (by decide) (fun c4 => ?_) (fun c4 => absurd c4 (by decide))
  refine jx_iload d_Md_feed_73 0 rfl ?_
  refine jx_bipush (v0 := 16) d_Md_feed_75 (by decide) ?_
  refine jx_icmp_ge (tgt := 85) d_Md_feed_77 (by decide) (fun c5 => ?_) (fun c5 => absurd c5 (by decide))
  refine jx_iload d_Md_feed_85 6 rfl ?_
  refine jx_istore (lv' := [(7, .int (we)), (6, .int (nI 18)), (0, .ref (a)), (1, .int (wa)), (2, .int (wb)), (3, .int (wc)), (4, .int (wd)), (5, .int (we))]) d_Md_feed_87 (by decide) rfl ?_
  refine jx_aload_n d_Md_feed_89 2 rfl ?_
  refine jx_get d_Md_feed_90 fF_Md_7 (md_tg hK) (md_rr hK (k := 1) (j := 1) rfl rfl rfl) ?_
  refine jx_aload_n d_Md_feed_93 2 rfl ?_
  refine jx_get d_Md_feed_94 fF_Md_100 (md_tg hK) ((show (mdH h a s).2.2.2 a 2 = Value.int (s.1 2) from md_ri rfl).trans (congrArg Value.int hn)) ?_
  refine jx_iload d_Md_feed_97 1 rfl ?_
  refine jx_iadd d_Md_feed_99 ?_
  refine jx_ati (nI_add (n) (18)) ?_
  refine jx_iload d_Md_feed_100 0 rfl ?_
  refine jx_bipush (v0 := 24) d_Md_feed_102 (by decide) ?_
  refine jx_bipush (v0 := 8) d_Md_feed_104 (by decide) ?_
  refine jx_iload d_Md_feed_106 1 rfl ?_
  refine jx_iconst (v0 := 4) d_Md_feed_108 (by decide) ?_
  refine jx_irem d_Md_feed_109 (by decide) ?_
  refine jx_ati (show _ = (2 : Int32) by decide) ?_
  refine jx_imul d_Md_feed_110 ?_
  refine jx_ati (pk_mul (8) (2)) ?_
  refine jx_isub d_Md_feed_111 ?_
  refine jx_ati (pk_sub (a := 24) (b := (8) * (2)) (by omega)) ?_
  refine jx_ishr d_Md_feed_112 ?_
  refine jx_sipush (v0 := 255) d_Md_feed_113 (by decide) ?_
  refine jx_iand d_Md_feed_116 ?_
  refine jx_iast d_Md_feed_117 (md_ta hK (j := 1) rfl) rfl (jm_vinN (show (n) + (18) < 2000 by omega) (by decide)) ?_
  refine jx_ath ((jm_putN (show (n) + (18) < 2 ^ 31 by omega)).trans (md_wai (j := 1) (show (n) + (18) < 2000 by omega))) ?_
  refine jx_iinc (v0 := nI (18 + 1)) (lv' := [(6, .int (nI (18 + 1))), (7, .int (we)), (0, .ref (a)), (1, .int (wa)), (2, .int (wb)), (3, .int (wc)), (4, .int (wd)), (5, .int (we))]) d_Md_feed_118 1 rfl (nI_add _ 1) (by decide) rfl ?_
  refine jx_goto (tgt := 34) d_Md_feed_121 (by decide) ?_
  refine jx_ath (show _ = mdH h a (mai s 1 (n + 18) (m_by we 8)) from rfl) ?_
  refine jx_lv [0, 2, 3, 4, 5, 6, 7] rfl ?_
  exact kk
set_option maxHeartbeats 4000000 in
set_option maxRecDepth 100000 in
theorem st_Md_feed19 (l : Launch) (G : jm_G) {h : jm_H} {a : Nat} {s : MS} {n : Nat} {wa wb wc wd we : Int32} {n0 s0 d : Nat} {Post : jm_r → jm_H → Prop} (hK : MdK h a) (hn : s.1 2 = nI n) (hr : n + 20 ≤ 2000) (kk : jm_X l G mm_Md_feed n0 s0 (jm_zn G d n0 s0) Post 34 [(6, .int (nI 20)), (0, .ref (a)), (1, .int (wa)), (2, .int (wb)), (3, .int (wc)), (4, .int (wd)), (5, .int (we))] [] (mdH h a (mai s 1 (n + 19) (m_by we 0)))) : jm_X l G mm_Md_feed n0 s0 (jm_zn G d n0 s0) Post 34 [(6, .int (nI 19)), (0, .ref (a)), (1, .int (wa)), (2, .int (wb)), (3, .int (wc)), (4, .int (wd)), (5, .int (we))] [] (mdH h a s) := by
  refine jx_iload d_Md_feed_34 0 rfl ?_
  refine jx_bipush (v0 := 20) d_Md_feed_36 (by decide) ?_
  refine jx_icmp_ge (tgt := 124) d_Md_feed_38 (by decide) (fun c1 => absurd c1 (by decide)) (fun c1 => ?_)
  refine jx_iload d_Md_feed_41 0 rfl ?_
  refine jx_iconst (v0 := 4) d_Md_feed_43 (by decide) ?_
  refine jx_icmp_ge (tgt := 51) d_Md_feed_44 (by decide) (fun c2 => ?_) (fun c2 => absurd c2 (by decide))
  refine jx_iload d_Md_feed_51 0 rfl ?_
  refine jx_bipush (v0 := 8) d_Md_feed_53 (by decide) ?_
  refine jx_icmp_ge (tgt := 62) d_Md_feed_55 (by decide) (fun c3 => ?_) (fun c3 => absurd c3 (by decide))
  refine jx_iload d_Md_feed_62 0 rfl ?_
  refine jx_bipush (v0 := 12) d_Md_feed_64 (by decide) ?_
  refine jx_icmp_ge (tgt := 73) d_Md_feed_66 (by decide) (fun c4 => ?_) (fun c4 => absurd c4 (by decide))
  refine jx_iload d_Md_feed_73 0 rfl ?_
  refine jx_bipush (v0 := 16) d_Md_feed_75 (by decide) ?_
  refine jx_icmp_ge (tgt := 85) d_Md_feed_77 (by decide) (fun c5 => ?_) (fun c5 => absurd c5 (by decide))
  refine jx_iload d_Md_feed_85 6 rfl ?_
  refine jx_istore (lv' := [(7, .int (we)), (6, .int (nI 19)), (0, .ref (a)), (1, .int (wa)), (2, .int (wb)), (3, .int (wc)), (4, .int (wd)), (5, .int (we))]) d_Md_feed_87 (by decide) rfl ?_
  refine jx_aload_n d_Md_feed_89 2 rfl ?_
  refine jx_get d_Md_feed_90 fF_Md_7 (md_tg hK) (md_rr hK (k := 1) (j := 1) rfl rfl rfl) ?_
  refine jx_aload_n d_Md_feed_93 2 rfl ?_
  refine jx_get d_Md_feed_94 fF_Md_100 (md_tg hK) ((show (mdH h a s).2.2.2 a 2 = Value.int (s.1 2) from md_ri rfl).trans (congrArg Value.int hn)) ?_
  refine jx_iload d_Md_feed_97 1 rfl ?_
  refine jx_iadd d_Md_feed_99 ?_
  refine jx_ati (nI_add (n) (19)) ?_
  refine jx_iload d_Md_feed_100 0 rfl ?_
  refine jx_bipush (v0 := 24) d_Md_feed_102 (by decide) ?_
  refine jx_bipush (v0 := 8) d_Md_feed_104 (by decide) ?_
  refine jx_iload d_Md_feed_106 1 rfl ?_
  refine jx_iconst (v0 := 4) d_Md_feed_108 (by decide) ?_
  refine jx_irem d_Md_feed_109 (by decide) ?_
  refine jx_ati (show _ = (3 : Int32) by decide) ?_
  refine jx_imul d_Md_feed_110 ?_
  refine jx_ati (pk_mul (8) (3)) ?_
  refine jx_isub d_Md_feed_111 ?_
  refine jx_ati (pk_sub (a := 24) (b := (8) * (3)) (by omega)) ?_
  refine jx_ishr d_Md_feed_112 ?_
  refine jx_sipush (v0 := 255) d_Md_feed_113 (by decide) ?_
  refine jx_iand d_Md_feed_116 ?_
  refine jx_iast d_Md_feed_117 (md_ta hK (j := 1) rfl) rfl (jm_vinN (show (n) + (19) < 2000 by omega) (by decide)) ?_
  refine jx_ath ((jm_putN (show (n) + (19) < 2 ^ 31 by omega)).trans (md_wai (j := 1) (show (n) + (19) < 2000 by omega))) ?_
  refine jx_iinc (v0 := nI (19 + 1)) (lv' := [(6, .int (nI (19 + 1))), (7, .int (we)), (0, .ref (a)), (1, .int (wa)), (2, .int (wb)), (3, .int (wc)), (4, .int (wd)), (5, .int (we))]) d_Md_feed_118 1 rfl (nI_add _ 1) (by decide) rfl ?_
  refine jx_goto (tgt := 34) d_Md_feed_121 (by decide) ?_
  refine jx_ath (show _ = mdH h a (mai s 1 (n + 19) (m_by we 0)) from rfl) ?_
  refine jx_lv [0, 2, 3, 4, 5, 6, 7] rfl ?_
  exact kk
def m_feed (s : MS) (n : Nat) (wa wb wc wd we : Int32) : MS := (mi (mai (mai (mai (mai (mai (mai (mai (mai (mai (mai (mai (mai (mai (mai (mai (mai (mai (mai (mai (mai (mi s 0 0) 1 (n + 0) (m_by wa 24)) 1 (n + 1) (m_by wa 16)) 1 (n + 2) (m_by wa 8)) 1 (n + 3) (m_by wa 0)) 1 (n + 4) (m_by wb 24)) 1 (n + 5) (m_by wb 16)) 1 (n + 6) (m_by wb 8)) 1 (n + 7) (m_by wb 0)) 1 (n + 8) (m_by wc 24)) 1 (n + 9) (m_by wc 16)) 1 (n + 10) (m_by wc 8)) 1 (n + 11) (m_by wc 0)) 1 (n + 12) (m_by wd 24)) 1 (n + 13) (m_by wd 16)) 1 (n + 14) (m_by wd 8)) 1 (n + 15) (m_by wd 0)) 1 (n + 16) (m_by we 24)) 1 (n + 17) (m_by we 16)) 1 (n + 18) (m_by we 8)) 1 (n + 19) (m_by we 0)) 2 (nI (n + 20)))
set_option maxHeartbeats 4000000 in
set_option maxRecDepth 100000 in
theorem c_Md_feed_o (l : Launch) (G : jm_G) (d : Nat) {h : jm_H} {a : Nat} {s : MS} {n : Nat} {wa wb wc wd we : Int32} (hK : MdK h a) (hn : s.1 2 = nI n) (hr : n + 20 ≤ 2000) : jm_C l G mm_Md_feed d [.ref a, .int wa, .int wb, .int wc, .int wd, .int we] (mdH h a s) (some (.int (nI (n + 20)))) (mdH h a (m_feed s n wa wb wc wd we)) := by
  refine jm_ofE (by decide) rfl (Nat.le_of_ble_eq_true rfl) ?_
  refine jx_aload_n d_Md_feed_0 0 rfl ?_
  refine jx_aload_n d_Md_feed_1 0 rfl ?_
  refine jx_get d_Md_feed_2 fF_Md_100 (md_tg hK) ((show (mdH h a s).2.2.2 a 2 = Value.int (s.1 2) from md_ri rfl).trans (congrArg Value.int hn)) ?_
  refine jx_bipush (v0 := 20) d_Md_feed_5 (by decide) ?_
  refine jx_iadd d_Md_feed_7 ?_
  refine jx_ati (nI_add (n) (20)) ?_
  refine jx_sipush (v0 := 2000) d_Md_feed_8 (by decide) ?_
  refine jx_icmp_leN (tgt := 18) ((n) + (20)) (2000) d_Md_feed_11 rfl rfl (by omega) (by omega) (by decide) (fun c1 => ?_) (fun c1 => ?_)
  ·
    refine jx_iconst (v0 := 0) d_Md_feed_18 (by decide) ?_
    refine jx_put (v0 := .int (0)) d_Md_feed_19 fF_Md_96 jv_Md ft_Md_thrown (md_tg hK) rfl rfl ?_
    refine jx_ath (md_wi (k := 0) rfl) ?_
    refine jx_aload_n d_Md_feed_22 0 rfl ?_
    refine jx_get d_Md_feed_23 fF_Md_96 (md_tg hK) (show (mdH h a (mi s 0 0)).2.2.2 a 0 = Value.int (0) from md_ri rfl) ?_
    refine jx_if_le (tgt := 31) d_Md_feed_26 (by decide) (fun c2 => ?_) (fun c2 => absurd c2 (by decide))
    refine jx_iconst (v0 := 0) d_Md_feed_31 (by decide) ?_
    refine jx_istore (lv' := [(6, .int (0)), (0, .ref (a)), (1, .int (wa)), (2, .int (wb)), (3, .int (wc)), (4, .int (wd)), (5, .int (we))]) d_Md_feed_32 (by decide) rfl ?_
    refine st_Md_feed0 l G (s := (mi s 0 0)) hK hn hr ?_
    refine st_Md_feed1 l G (s := (mai (mi s 0 0) 1 (n + 0) (m_by wa 24))) hK hn hr ?_
    refine st_Md_feed2 l G (s := (mai (mai (mi s 0 0) 1 (n + 0) (m_by wa 24)) 1 (n + 1) (m_by wa 16))) hK hn hr ?_
    refine st_Md_feed3 l G (s := (mai (mai (mai (mi s 0 0) 1 (n + 0) (m_by wa 24)) 1 (n + 1) (m_by wa 16)) 1 (n + 2) (m_by wa 8))) hK hn hr ?_
    refine st_Md_feed4 l G (s := (mai (mai (mai (mai (mi s 0 0) 1 (n + 0) (m_by wa 24)) 1 (n + 1) (m_by wa 16)) 1 (n + 2) (m_by wa 8)) 1 (n + 3) (m_by wa 0))) hK hn hr ?_
    refine st_Md_feed5 l G (s := (mai (mai (mai (mai (mai (mi s 0 0) 1 (n + 0) (m_by wa 24)) 1 (n + 1) (m_by wa 16)) 1 (n + 2) (m_by wa 8)) 1 (n + 3) (m_by wa 0)) 1 (n + 4) (m_by wb 24))) hK hn hr ?_
    refine st_Md_feed6 l G (s := (mai (mai (mai (mai (mai (mai (mi s 0 0) 1 (n + 0) (m_by wa 24)) 1 (n + 1) (m_by wa 16)) 1 (n + 2) (m_by wa 8)) 1 (n + 3) (m_by wa 0)) 1 (n + 4) (m_by wb 24)) 1 (n + 5) (m_by wb 16))) hK hn hr ?_
    refine st_Md_feed7 l G (s := (mai (mai (mai (mai (mai (mai (mai (mi s 0 0) 1 (n + 0) (m_by wa 24)) 1 (n + 1) (m_by wa 16)) 1 (n + 2) (m_by wa 8)) 1 (n + 3) (m_by wa 0)) 1 (n + 4) (m_by wb 24)) 1 (n + 5) (m_by wb 16)) 1 (n + 6) (m_by wb 8))) hK hn hr ?_
    refine st_Md_feed8 l G (s := (mai (mai (mai (mai (mai (mai (mai (mai (mi s 0 0) 1 (n + 0) (m_by wa 24)) 1 (n + 1) (m_by wa 16)) 1 (n + 2) (m_by wa 8)) 1 (n + 3) (m_by wa 0)) 1 (n + 4) (m_by wb 24)) 1 (n + 5) (m_by wb 16)) 1 (n + 6) (m_by wb 8)) 1 (n + 7) (m_by wb 0))) hK hn hr ?_
    refine st_Md_feed9 l G (s := (mai (mai (mai (mai (mai (mai (mai (mai (mai (mi s 0 0) 1 (n + 0) (m_by wa 24)) 1 (n + 1) (m_by wa 16)) 1 (n + 2) (m_by wa 8)) 1 (n + 3) (m_by wa 0)) 1 (n + 4) (m_by wb 24)) 1 (n + 5) (m_by wb 16)) 1 (n + 6) (m_by wb 8)) 1 (n + 7) (m_by wb 0)) 1 (n + 8) (m_by wc 24))) hK hn hr ?_
    refine st_Md_feed10 l G (s := (mai (mai (mai (mai (mai (mai (mai (mai (mai (mai (mi s 0 0) 1 (n + 0) (m_by wa 24)) 1 (n + 1) (m_by wa 16)) 1 (n + 2) (m_by wa 8)) 1 (n + 3) (m_by wa 0)) 1 (n + 4) (m_by wb 24)) 1 (n + 5) (m_by wb 16)) 1 (n + 6) (m_by wb 8)) 1 (n + 7) (m_by wb 0)) 1 (n + 8) (m_by wc 24)) 1 (n + 9) (m_by wc 16))) hK hn hr ?_
    refine st_Md_feed11 l G (s := (mai (mai (mai (mai (mai (mai (mai (mai (mai (mai (mai (mi s 0 0) 1 (n + 0) (m_by wa 24)) 1 (n + 1) (m_by wa 16)) 1 (n + 2) (m_by wa 8)) 1 (n + 3) (m_by wa 0)) 1 (n + 4) (m_by wb 24)) 1 (n + 5) (m_by wb 16)) 1 (n + 6) (m_by wb 8)) 1 (n + 7) (m_by wb 0)) 1 (n + 8) (m_by wc 24)) 1 (n + 9) (m_by wc 16)) 1 (n + 10) (m_by wc 8))) hK hn hr ?_
    refine st_Md_feed12 l G (s := (mai (mai (mai (mai (mai (mai (mai (mai (mai (mai (mai (mai (mi s 0 0) 1 (n + 0) (m_by wa 24)) 1 (n + 1) (m_by wa 16)) 1 (n + 2) (m_by wa 8)) 1 (n + 3) (m_by wa 0)) 1 (n + 4) (m_by wb 24)) 1 (n + 5) (m_by wb 16)) 1 (n + 6) (m_by wb 8)) 1 (n + 7) (m_by wb 0)) 1 (n + 8) (m_by wc 24)) 1 (n + 9) (m_by wc 16)) 1 (n + 10) (m_by wc 8)) 1 (n + 11) (m_by wc 0))) hK hn hr ?_
    refine st_Md_feed13 l G (s := (mai (mai (mai (mai (mai (mai (mai (mai (mai (mai (mai (mai (mai (mi s 0 0) 1 (n + 0) (m_by wa 24)) 1 (n + 1) (m_by wa 16)) 1 (n + 2) (m_by wa 8)) 1 (n + 3) (m_by wa 0)) 1 (n + 4) (m_by wb 24)) 1 (n + 5) (m_by wb 16)) 1 (n + 6) (m_by wb 8)) 1 (n + 7) (m_by wb 0)) 1 (n + 8) (m_by wc 24)) 1 (n + 9) (m_by wc 16)) 1 (n + 10) (m_by wc 8)) 1 (n + 11) (m_by wc 0)) 1 (n + 12) (m_by wd 24))) hK hn hr ?_
    refine st_Md_feed14 l G (s := (mai (mai (mai (mai (mai (mai (mai (mai (mai (mai (mai (mai (mai (mai (mi s 0 0) 1 (n + 0) (m_by wa 24)) 1 (n + 1) (m_by wa 16)) 1 (n + 2) (m_by wa 8)) 1 (n + 3) (m_by wa 0)) 1 (n + 4) (m_by wb 24)) 1 (n + 5) (m_by wb 16)) 1 (n + 6) (m_by wb 8)) 1 (n + 7) (m_by wb 0)) 1 (n + 8) (m_by wc 24)) 1 (n + 9) (m_by wc 16)) 1 (n + 10) (m_by wc 8)) 1 (n + 11) (m_by wc 0)) 1 (n + 12) (m_by wd 24)) 1 (n + 13) (m_by wd 16))) hK hn hr ?_
    refine st_Md_feed15 l G (s := (mai (mai (mai (mai (mai (mai (mai (mai (mai (mai (mai (mai (mai (mai (mai (mi s 0 0) 1 (n + 0) (m_by wa 24)) 1 (n + 1) (m_by wa 16)) 1 (n + 2) (m_by wa 8)) 1 (n + 3) (m_by wa 0)) 1 (n + 4) (m_by wb 24)) 1 (n + 5) (m_by wb 16)) 1 (n + 6) (m_by wb 8)) 1 (n + 7) (m_by wb 0)) 1 (n + 8) (m_by wc 24)) 1 (n + 9) (m_by wc 16)) 1 (n + 10) (m_by wc 8)) 1 (n + 11) (m_by wc 0)) 1 (n + 12) (m_by wd 24)) 1 (n + 13) (m_by wd 16)) 1 (n + 14) (m_by wd 8))) hK hn hr ?_
    refine st_Md_feed16 l G (s := (mai (mai (mai (mai (mai (mai (mai (mai (mai (mai (mai (mai (mai (mai (mai (mai (mi s 0 0) 1 (n + 0) (m_by wa 24)) 1 (n + 1) (m_by wa 16)) 1 (n + 2) (m_by wa 8)) 1 (n + 3) (m_by wa 0)) 1 (n + 4) (m_by wb 24)) 1 (n + 5) (m_by wb 16)) 1 (n + 6) (m_by wb 8)) 1 (n + 7) (m_by wb 0)) 1 (n + 8) (m_by wc 24)) 1 (n + 9) (m_by wc 16)) 1 (n + 10) (m_by wc 8)) 1 (n + 11) (m_by wc 0)) 1 (n + 12) (m_by wd 24)) 1 (n + 13) (m_by wd 16)) 1 (n + 14) (m_by wd 8)) 1 (n + 15) (m_by wd 0))) hK hn hr ?_
    refine st_Md_feed17 l G (s := (mai (mai (mai (mai (mai (mai (mai (mai (mai (mai (mai (mai (mai (mai (mai (mai (mai (mi s 0 0) 1 (n + 0) (m_by wa 24)) 1 (n + 1) (m_by wa 16)) 1 (n + 2) (m_by wa 8)) 1 (n + 3) (m_by wa 0)) 1 (n + 4) (m_by wb 24)) 1 (n + 5) (m_by wb 16)) 1 (n + 6) (m_by wb 8)) 1 (n + 7) (m_by wb 0)) 1 (n + 8) (m_by wc 24)) 1 (n + 9) (m_by wc 16)) 1 (n + 10) (m_by wc 8)) 1 (n + 11) (m_by wc 0)) 1 (n + 12) (m_by wd 24)) 1 (n + 13) (m_by wd 16)) 1 (n + 14) (m_by wd 8)) 1 (n + 15) (m_by wd 0)) 1 (n + 16) (m_by we 24))) hK hn hr ?_
    refine st_Md_feed18 l G (s := (mai (mai (mai (mai (mai (mai (mai (mai (mai (mai (mai (mai (mai (mai (mai (mai (mai (mai (mi s 0 0) 1 (n + 0) (m_by wa 24)) 1 (n + 1) (m_by wa 16)) 1 (n + 2) (m_by wa 8)) 1 (n + 3) (m_by wa 0)) 1 (n + 4) (m_by wb 24)) 1 (n + 5) (m_by wb 16)) 1 (n + 6) (m_by wb 8)) 1 (n + 7) (m_by wb 0)) 1 (n + 8) (m_by wc 24)) 1 (n + 9) (m_by wc 16)) 1 (n + 10) (m_by wc 8)) 1 (n + 11) (m_by wc 0)) 1 (n + 12) (m_by wd 24)) 1 (n + 13) (m_by wd 16)) 1 (n + 14) (m_by wd 8)) 1 (n + 15) (m_by wd 0)) 1 (n + 16) (m_by we 24)) 1 (n + 17) (m_by we 16))) hK hn hr ?_
    refine st_Md_feed19 l G (s := (mai (mai (mai (mai (mai (mai (mai (mai (mai (mai (mai (mai (mai (mai (mai (mai (mai (mai (mai (mi s 0 0) 1 (n + 0) (m_by wa 24)) 1 (n + 1) (m_by wa 16)) 1 (n + 2) (m_by wa 8)) 1 (n + 3) (m_by wa 0)) 1 (n + 4) (m_by wb 24)) 1 (n + 5) (m_by wb 16)) 1 (n + 6) (m_by wb 8)) 1 (n + 7) (m_by wb 0)) 1 (n + 8) (m_by wc 24)) 1 (n + 9) (m_by wc 16)) 1 (n + 10) (m_by wc 8)) 1 (n + 11) (m_by wc 0)) 1 (n + 12) (m_by wd 24)) 1 (n + 13) (m_by wd 16)) 1 (n + 14) (m_by wd 8)) 1 (n + 15) (m_by wd 0)) 1 (n + 16) (m_by we 24)) 1 (n + 17) (m_by we 16)) 1 (n + 18) (m_by we 8))) hK hn hr ?_
    refine jx_iload d_Md_feed_34 0 rfl ?_
    refine jx_bipush (v0 := 20) d_Md_feed_36 (by decide) ?_
    refine jx_icmp_ge (tgt := 124) d_Md_feed_38 (by decide) (fun c3 => ?_) (fun c3 => absurd c3 (by decide))
    refine jx_aload_n d_Md_feed_124 1 rfl ?_
    refine jx_aload_n d_Md_feed_125 1 rfl ?_
    refine jx_get d_Md_feed_126 fF_Md_100 (md_tg hK) ((show (mdH h a (mai (mai (mai (mai (mai (mai (mai (mai (mai (mai (mai (mai (mai (mai (mai (mai (mai (mai (mai (mai (mi s 0 0) 1 (n + 0) (m_by wa 24)) 1 (n + 1) (m_by wa 16)) 1 (n + 2) (m_by wa 8)) 1 (n + 3) (m_by wa 0)) 1 (n + 4) (m_by wb 24)) 1 (n + 5) (m_by wb 16)) 1 (n + 6) (m_by wb 8)) 1 (n + 7) (m_by wb 0)) 1 (n + 8) (m_by wc 24)) 1 (n + 9) (m_by wc 16)) 1 (n + 10) (m_by wc 8)) 1 (n + 11) (m_by wc 0)) 1 (n + 12) (m_by wd 24)) 1 (n + 13) (m_by wd 16)) 1 (n + 14) (m_by wd 8)) 1 (n + 15) (m_by wd 0)) 1 (n + 16) (m_by we 24)) 1 (n + 17) (m_by we 16)) 1 (n + 18) (m_by we 8)) 1 (n + 19) (m_by we 0))).2.2.2 a 2 = Value.int (s.1 2) from md_ri rfl).trans (congrArg Value.int hn)) ?_
    refine jx_bipush (v0 := 20) d_Md_feed_129 (by decide) ?_
    refine jx_iadd d_Md_feed_131 ?_
    refine jx_ati (nI_add (n) (20)) ?_
    refine jx_put (v0 := .int (nI ((n) + (20)))) d_Md_feed_132 fF_Md_100 jv_Md ft_Md_tapeSize (md_tg hK) rfl rfl ?_
    refine jx_ath (md_wi (k := 2) rfl) ?_
    refine jx_aload_n d_Md_feed_135 1 rfl ?_
    refine jx_get d_Md_feed_136 fF_Md_100 (md_tg hK) (show (mdH h a (mi (mai (mai (mai (mai (mai (mai (mai (mai (mai (mai (mai (mai (mai (mai (mai (mai (mai (mai (mai (mai (mi s 0 0) 1 (n + 0) (m_by wa 24)) 1 (n + 1) (m_by wa 16)) 1 (n + 2) (m_by wa 8)) 1 (n + 3) (m_by wa 0)) 1 (n + 4) (m_by wb 24)) 1 (n + 5) (m_by wb 16)) 1 (n + 6) (m_by wb 8)) 1 (n + 7) (m_by wb 0)) 1 (n + 8) (m_by wc 24)) 1 (n + 9) (m_by wc 16)) 1 (n + 10) (m_by wc 8)) 1 (n + 11) (m_by wc 0)) 1 (n + 12) (m_by wd 24)) 1 (n + 13) (m_by wd 16)) 1 (n + 14) (m_by wd 8)) 1 (n + 15) (m_by wd 0)) 1 (n + 16) (m_by we 24)) 1 (n + 17) (m_by we 16)) 1 (n + 18) (m_by we 8)) 1 (n + 19) (m_by we 0)) 2 (nI ((n) + (20))))).2.2.2 a 2 = Value.int (nI ((n) + (20))) from md_ri rfl) ?_
    exact jx_iret d_Md_feed_139 rfl (⟨rfl, rfl⟩)
  · omega
theorem m_by_q (w : Int32) (k : Nat) (hk : k ≤ 24) : m_by w (nI k) = q_byte w (nI k) &&& 255 := by
  have e1 : ∀ k : Fin 25, (nI k.val &&& 31) = nI k.val := by decide +kernel
  have e2 : ∀ k : Fin 25, ((nI k.val).toBitVec.smod 32).toNat = k.val := by decide +kernel
  have e3 : ∀ k : Fin 25, ((nI k.val).toUInt32 &&& Int32.toUInt32 31).toNat % 32 = k.val := by decide +kernel
  have f1 := e1 ⟨k, by omega⟩
  have f2 := e2 ⟨k, by omega⟩
  have f3 := e3 ⟨k, by omega⟩
  simp only at f1 f2 f3
  unfold m_by q_byte
  rw [f1]
  apply Int32.toBitVec_inj.mp
  apply BitVec.eq_of_getLsbD_eq
  intro i hi
  have h255 : (255 : Int32).toBitVec.getLsbD i = decide (i < 8) := by
    have : ∀ i : Fin 32, (255 : Int32).toBitVec.getLsbD i.val = decide (i.val < 8) := by decide +kernel
    exact this ⟨i, hi⟩
  rw [Int32.toBitVec_and, Int32.toBitVec_and, BitVec.getLsbD_and, BitVec.getLsbD_and, h255]
  by_cases h8 : i < 8
  · have l : (w >>> nI k).toBitVec.getLsbD i = w.toBitVec.getLsbD (k + i) := by
      rw [Int32.toBitVec_shiftRight]
      show (w.toBitVec.sshiftRight ((nI k).toBitVec.smod 32).toNat).getLsbD i = _
      rw [f2, BitVec.getLsbD_sshiftRight]
      simp [show ¬ 32 ≤ i by omega, show k + i < 32 by omega]
    have r : ((w.toUInt32 >>> ((nI k).toUInt32 &&& Int32.toUInt32 31)).toInt32.toInt8.toInt32).toBitVec.getLsbD i = w.toBitVec.getLsbD (k + i) := by
      rw [Int8.toBitVec_toInt32, BitVec.getLsbD_signExtend]
      rw [if_pos h8, Int32.toBitVec_toInt8, BitVec.getLsbD_signExtend, if_pos hi]
      show (decide (i < 32) && (decide (i < 8) && (w.toUInt32 >>> ((nI k).toUInt32 &&& Int32.toUInt32 31)).toBitVec.getLsbD i)) = _
      rw [UInt32.toBitVec_shiftRight]
      simp only [h8, hi, decide_true, Bool.true_and]
      show (w.toBitVec >>> (((nI k).toUInt32 &&& Int32.toUInt32 31).toBitVec % 32#32)).getLsbD i = _
      rw [BitVec.ushiftRight_eq', BitVec.getLsbD_ushiftRight]
      congr 1
      rw [BitVec.toNat_umod]
      exact congrArg (· + i) f3
    rw [l, r]
  · simp [h8]
