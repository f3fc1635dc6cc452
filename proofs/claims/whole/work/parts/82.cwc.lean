def ixw : Option Nat → Int64
  | none => 0
  | some p => bt1 p
def ixn (k : Nat) : Option Nat → Int32
  | none => -1
  | some _ => nI k
set_option maxHeartbeats 4000000 in
set_option maxRecDepth 100000 in
theorem c_CW_build (l : Launch) (G : jm_G) (d : Nat) (hd : 8 ≤ d) {h : jm_H} {x Y n : Nat} {B : Nat → Int32} {fc fp : Int32} {m : Nat} {R : Nat → CRec} {T : Nat → Term} {ls : Nat} {tot : Int32} {LT : Nat → Int64} (hI : CWI h x Y n B fc fp m R T ls tot LT) (hq : q_nm B n ≠ 0) : jm_CP l G mm_CW_build d [.ref x] h (fun v h9 => ∃ R' wo RS, BI m T R R' (q_grun (q_trs R m RS m) m m (ixw (q_ix R m (q_nm B n))) 0) (q_grun (q_trs R m RS m) m m (ixw (q_ix R m (q_nm B n))) 0) wo ∧ CWI h9 x Y 0 B fc fp m R' T (cnt (bt wo) m) (tot + nI (cnt (bt wo) m)) (q_kl R' wo LT m) ∧ MvCW x Y h h9 0 0 ∧ v = some (.int (ixn (cnt (bt wo) m) (q_ix R m (q_nm B n))))) := by
  obtain ⟨⟨tx, x0, x1, x2⟩, ⟨f, c, k, L, N, ST, DT, NA, PL, nme, hRX⟩, ⟨RS, hC⟩, hO, hA, hBd, ⟨wn, wk, wv, wS, hW⟩, ⟨hn, hls, hY1, hY2⟩, hAc⟩ := id hI
  obtain ⟨hR, hf1, hf2, hL31, hN31, hf3⟩ := id hRX
  obtain ⟨tr, r0, r1, r2, r3, r4, r5, r6, tp, ⟨ta, g0, f1, g2, g3, g4, g5, g6, tb⟩, hBy, hF, hST, hDT, hNA, hPL, hdis, hcs⟩ := id hR
  refine jm_of (by decide) rfl (Nat.le_of_ble_eq_true rfl) ?_
  refine jx_aload_n d_CW_build_0 0 rfl ?_
  obtain ⟨v1, h1, hCn, rfl, hI1, hfr1⟩ := c_CW_name l G (d - 1) (by omega) hI hq
  obtain ⟨⟨tx1, x01, x11, x21⟩, ⟨f1, c1, k1, L1, N1, ST1, DT1, NA1, PL1, nme1, hRX1⟩, ⟨RS1, hC1⟩, hO1, hA1, hBd1, ⟨wn1, wk1, wv1, wS1, hW1⟩, ⟨hn1, hls1, hY11, hY21⟩, hAc1⟩ := id hI1
  obtain ⟨hR1, hf11, hf21, hL311, hN311, hf31⟩ := id hRX1
  obtain ⟨tr1, r01, r11, r21, r31, r41, r51, r61, tp1, ⟨ta1, g01, f11, g21, g31, g41, g51, g61, tb1⟩, hBy1, hF1, hST1, hDT1, hNA1, hPL1, hdis1, hcs1⟩ := id hR1
  have hMv1 : MvCW x Y h h1 0 0 := MvCW.of_fr hfr1 (fun b hb => Or.inl (by omega))
  refine jx_callV (M2 := mm_CW_nameOnTape) rfl tx lk_CW_69 wi_CW_nameOnTape ws_CW_nameOnTape d_CW_build_1 hCn cd_CW_nameOnTape rfl rfl (Nat.le_of_ble_eq_true rfl) (jm_fok (by omega)) (jm_look (by decide) (by omega)) ?_
  refine jx_lstore_n (lv' := [(1, .long (q_nm B n)), (0, .ref (x))]) d_CW_build_4 (by decide) rfl ?_
  refine jx_aload_n d_CW_build_5 1 rfl ?_
  refine jx_get d_CW_build_6 fF_CW_12 tx1 x01 ?_
  refine jx_get d_CW_build_9 fF_CW_30 tr1 r01 ?_
  refine jx_iconst (v0 := 0) d_CW_build_12 (by decide) ?_
  refine jx_put (v0 := .int (0)) d_CW_build_13 fF_CW_34 jv_Tp ft_Tp_length ta1 rfl rfl ?_
  refine jx_aload_n d_CW_build_16 1 rfl ?_
  refine jx_get d_CW_build_17 fF_CW_19 tx1 (jm_rd_a (jm_ne_oo tx1 ta1 (by decide)) x11) ?_
  refine jx_lload_n d_CW_build_20 0 rfl ?_
  obtain ⟨hI2, hMv2⟩ := hI1.len0
  obtain ⟨⟨tx2, x02, x12, x22⟩, ⟨f2, c2, k2, L2, N2, ST2, DT2, NA2, PL2, nme2, hRX2⟩, ⟨RS2, hC2⟩, hO2, hA2, hBd2, ⟨wn2, wk2, wv2, wS2, hW2⟩, ⟨hn2, hls2, hY12, hY22⟩, hAc2⟩ := id hI2
  cases ec : q_ix R m (q_nm B n) with
  | none =>
    have hCx := c_Cs_indexOf l G (d - 1) (by omega) (u := q_nm B n) hC2 hO2.2.1
    rw [ec] at hCx
    refine jx_callV (M2 := mm_Cs_indexOf) rfl hC1.1 lk_CW_77 wi_Cs_indexOf ws_Cs_indexOf d_CW_build_21 hCx cd_Cs_indexOf rfl rfl (Nat.le_of_ble_eq_true rfl) (jm_fok (by omega)) (jm_look (by decide) (by omega)) ?_
    refine jx_istore_n (lv' := [(3, .int (-1)), (1, .long (q_nm B n)), (0, .ref (x))]) d_CW_build_24 (by decide) rfl ?_
    refine jx_aload_n d_CW_build_25 2 rfl ?_
    refine jx_get d_CW_build_26 fF_CW_26 tx1 (jm_rd_k (by decide) x21) ?_
    refine jx_aload_n d_CW_build_29 2 rfl ?_
    refine jx_get d_CW_build_30 fF_CW_19 tx1 (jm_rd_a (jm_ne_oo tx1 ta1 (by decide)) x11) ?_
    refine jx_iload_n d_CW_build_33 0 rfl ?_
    refine jx_iconst (v0 := -1) d_CW_build_34 (by decide) ?_
    refine jx_icmp_ne (tgt := 42) d_CW_build_35 (by decide) (fun c1 => absurd rfl c1) (fun c1 => ?_)
    refine jx_lconst (v0 := 0) d_CW_build_38 (by decide) ?_
    refine jx_goto (tgt := 45) d_CW_build_39 (by decide) ?_
    have hin : InM m (0) := (fun p _ q => by rw [bt_zero] at q; cases q)
    obtain ⟨v3, h3, hC3, R', wo, rfl, hCs3, hBI, hBd3, hW3, hfr3⟩ := c_Bd_run l G (d - 1) (by omega) (u := 0) hC2 hO2 hBd2 hW2 hAc2 rfl (grun_ok hO2.1 hin)
    have hI3 := hI2.mkC hfr3 (hBI.same hO2.1) ⟨_, hCs3⟩ hBd3 (Nat.le_trans (cnt_le _ _) hO2.1) hW3
    have hMv3 := MvCW.of_fr (x := x) (Y := Y) hfr3 (fun b hb => S_B_cw hA2 hb)
    refine jx_callV (M2 := mm_Bd_run) rfl hBd1.1 lk_CW_81 wi_Bd_run ws_Bd_run d_CW_build_45 hC3 cd_Bd_run rfl rfl (Nat.le_of_ble_eq_true rfl) (jm_fok (by omega)) (jm_look (by decide) (by omega)) ?_
    refine jx_istore (lv' := [(4, .int (nI (cnt (bt wo) m))), (3, .int (-1)), (1, .long (q_nm B n)), (0, .ref (x))]) d_CW_build_48 (by decide) rfl ?_
    refine jx_iload_n d_CW_build_50 1 rfl ?_
    refine jx_iconst (v0 := -1) d_CW_build_51 (by decide) ?_
    refine jx_icmp_ne (tgt := 59) d_CW_build_52 (by decide) (fun c2 => absurd rfl c2) (fun c2 => ?_)
    refine jx_iconst (v0 := -1) d_CW_build_55 (by decide) ?_
    refine jx_goto (tgt := 61) d_CW_build_56 (by decide) ?_
    exact jx_iret d_CW_build_61 rfl (⟨_, rfl, R', wo, RS2, hBI, hI3, (hMv1.trans0 hMv2).trans0 hMv3, rfl⟩)
  | some p =>
    have hp := q_ix_some ec
    have hm64 := hO.1
    have hCx := c_Cs_indexOf l G (d - 1) (by omega) (u := q_nm B n) hC2 hO2.2.1
    rw [ec] at hCx
    refine jx_callV (M2 := mm_Cs_indexOf) rfl hC1.1 lk_CW_77 wi_Cs_indexOf ws_Cs_indexOf d_CW_build_21 hCx cd_Cs_indexOf rfl rfl (Nat.le_of_ble_eq_true rfl) (jm_fok (by omega)) (jm_look (by decide) (by omega)) ?_
    refine jx_istore_n (lv' := [(3, .int (nI (p))), (1, .long (q_nm B n)), (0, .ref (x))]) d_CW_build_24 (by decide) rfl ?_
    refine jx_aload_n d_CW_build_25 2 rfl ?_
    refine jx_get d_CW_build_26 fF_CW_26 tx1 (jm_rd_k (by decide) x21) ?_
    refine jx_aload_n d_CW_build_29 2 rfl ?_
    refine jx_get d_CW_build_30 fF_CW_19 tx1 (jm_rd_a (jm_ne_oo tx1 ta1 (by decide)) x11) ?_
    refine jx_iload_n d_CW_build_33 0 rfl ?_
    refine jx_iconst (v0 := -1) d_CW_build_34 (by decide) ?_
    refine jx_icmp_ne (tgt := 42) d_CW_build_35 (by decide) (fun c3 => ?_) (fun c3 => absurd c3 (nI_nm1 (by omega)))
    refine jx_lconst (v0 := 1) d_CW_build_42 (by decide) ?_
    refine jx_iload_n d_CW_build_43 0 rfl ?_
    refine jx_lshl d_CW_build_44 ?_
    refine jx_atl (show _ = bt1 (p) from rfl) ?_
    have hin : InM m ((bt1 (p))) := (fun q hq1 hb => by rw [bt_bt1 (by omega) hq1, decide_eq_true_iff] at hb; omega)
    obtain ⟨v3, h3, hC3, R', wo, rfl, hCs3, hBI, hBd3, hW3, hfr3⟩ := c_Bd_run l G (d - 1) (by omega) (u := (bt1 (p))) hC2 hO2 hBd2 hW2 hAc2 rfl (grun_ok hO2.1 hin)
    have hI3 := hI2.mkC hfr3 (hBI.same hO2.1) ⟨_, hCs3⟩ hBd3 (Nat.le_trans (cnt_le _ _) hO2.1) hW3
    have hMv3 := MvCW.of_fr (x := x) (Y := Y) hfr3 (fun b hb => S_B_cw hA2 hb)
    refine jx_callV (M2 := mm_Bd_run) rfl hBd1.1 lk_CW_81 wi_Bd_run ws_Bd_run d_CW_build_45 hC3 cd_Bd_run rfl rfl (Nat.le_of_ble_eq_true rfl) (jm_fok (by omega)) (jm_look (by decide) (by omega)) ?_
    refine jx_istore (lv' := [(4, .int (nI (cnt (bt wo) m))), (3, .int (nI (p))), (1, .long (q_nm B n)), (0, .ref (x))]) d_CW_build_48 (by decide) rfl ?_
    refine jx_iload_n d_CW_build_50 1 rfl ?_
    refine jx_iconst (v0 := -1) d_CW_build_51 (by decide) ?_
    refine jx_icmp_ne (tgt := 59) d_CW_build_52 (by decide) (fun c4 => ?_) (fun c4 => absurd c4 (nI_nm1 (by omega)))
    refine jx_iload d_CW_build_59 0 rfl ?_
    exact jx_iret d_CW_build_61 rfl (⟨_, rfl, R', wo, RS2, hBI, hI3, (hMv1.trans0 hMv2).trans0 hMv3, rfl⟩)
set_option maxHeartbeats 4000000 in
set_option maxRecDepth 100000 in
theorem c_CW_buildAll (l : Launch) (G : jm_G) (d : Nat) (hd : 8 ≤ d) {h : jm_H} {x Y n : Nat} {B : Nat → Int32} {fc fp : Int32} {m : Nat} {R : Nat → CRec} {T : Nat → Term} {ls : Nat} {tot : Int32} {LT : Nat → Int64} (hI : CWI h x Y n B fc fp m R T ls tot LT) : jm_CP l G mm_CW_buildAll d [.ref x] h (fun v h9 => ∃ R' wo RS, BI m T R R' (q_grun (q_trs R m RS m) m m (q_all m) 0) (q_grun (q_trs R m RS m) m m (q_all m) 0) wo ∧ CWI h9 x Y n B fc fp m R' T (cnt (bt wo) m) (tot + nI (cnt (bt wo) m)) (q_kl R' wo LT m) ∧ MvCW x Y h h9 0 0 ∧ v = some (.int (nI (cnt (bt wo) m)))) := by
  obtain ⟨⟨tx, x0, x1, x2⟩, ⟨f, c, k, L, N, ST, DT, NA, PL, nme, hRX⟩, ⟨RS, hC⟩, hO, hA, hBd, ⟨wn, wk, wv, wS, hW⟩, ⟨hn, hls, hY1, hY2⟩, hAc⟩ := id hI
  obtain ⟨hR, hf1, hf2, hL31, hN31, hf3⟩ := id hRX
  obtain ⟨tr, r0, r1, r2, r3, r4, r5, r6, tp, ⟨ta, g0, f1, g2, g3, g4, g5, g6, tb⟩, hBy, hF, hST, hDT, hNA, hPL, hdis, hcs⟩ := id hR
  refine jm_of (by decide) rfl (Nat.le_of_ble_eq_true rfl) ?_
  refine jx_aload_n d_CW_buildAll_0 0 rfl ?_
  refine jx_get d_CW_buildAll_1 fF_CW_26 tx x2 ?_
  refine jx_aload_n d_CW_buildAll_4 0 rfl ?_
  refine jx_get d_CW_buildAll_5 fF_CW_19 tx x1 ?_
  refine jx_aload_n d_CW_buildAll_8 0 rfl ?_
  refine jx_get d_CW_buildAll_9 fF_CW_19 tx x1 ?_
  refine jx_callV (M2 := mm_Cs_all) rfl hC.1 lk_CW_85 wi_Cs_all ws_Cs_all d_CW_buildAll_12 (c_Cs_all l G (d - 1) hC) cd_Cs_all rfl rfl (Nat.le_of_ble_eq_true rfl) (jm_fok (by omega)) (jm_look (by decide) (by omega)) ?_
  have hin : InM m (q_all m) := (fun p hp q => (q_all_bt hO.1 m (Nat.le_refl _) p hp).mp q)
  obtain ⟨v3, h3, hC3, R', wo, rfl, hCs3, hBI, hBd3, hW3, hfr3⟩ := c_Bd_run l G (d - 1) (by omega) (u := q_all m) hC hO hBd hW hAc rfl (grun_ok hO.1 hin)
  have hI3 := hI.mkC hfr3 (hBI.same hO.1) ⟨_, hCs3⟩ hBd3 (Nat.le_trans (cnt_le _ _) hO.1) hW3
  have hMv3 := MvCW.of_fr (x := x) (Y := Y) hfr3 (fun b hb => S_B_cw hA hb)
  refine jx_callV (M2 := mm_Bd_run) rfl hBd.1 lk_CW_81 wi_Bd_run ws_Bd_run d_CW_buildAll_15 hC3 cd_Bd_run rfl rfl (Nat.le_of_ble_eq_true rfl) (jm_fok (by omega)) (jm_look (by decide) (by omega)) ?_
  exact jx_iret d_CW_buildAll_18 rfl (⟨_, rfl, R', wo, RS, hBI, hI3, hMv3, rfl⟩)
