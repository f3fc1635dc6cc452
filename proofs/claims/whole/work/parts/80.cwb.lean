set_option maxHeartbeats 4000000 in
set_option maxRecDepth 100000 in
theorem c_CW_value (l : Launch) (G : jm_G) (d : Nat) (hd : 6 ≤ d) {h : jm_H} {x Y n : Nat} {B : Nat → Int32} {fc fp : Int32} {m : Nat} {R : Nat → CRec} {T : Nat → Term} {ls : Nat} {tot : Int32} {LT : Nat → Int64} (hI : CWI h x Y n B fc fp m R T ls tot LT) (hq : q_nm B n ≠ 0) : jm_CP l G mm_CW_value d [.ref x] h (fun v h9 => v = some (.long (resf R m (q_nm B n)).2) ∧ CWI h9 x Y n B fc fp m R T ls tot LT ∧ MvCW x Y h h9 0 0) := by
  obtain ⟨⟨tx, x0, x1, x2⟩, ⟨f, c, k, L, N, ST, DT, NA, PL, nme, hRX⟩, ⟨RS, hC⟩, hO, hA, hBd, ⟨wn, wk, wv, wS, hW⟩, ⟨hn, hls, hY1, hY2⟩, hAc⟩ := id hI
  obtain ⟨hR, hf1, hf2, hL31, hN31, hf3⟩ := id hRX
  obtain ⟨tr, r0, r1, r2, r3, r4, r5, r6, tp, ⟨ta, g0, f1, g2, g3, g4, g5, g6, tb⟩, hBy, hF, hST, hDT, hNA, hPL, hdis, hcs⟩ := id hR
  refine jm_of (by decide) rfl (Nat.le_of_ble_eq_true rfl) ?_
  refine jx_aload_n d_CW_value_0 0 rfl ?_
  refine jx_get d_CW_value_1 fF_CW_19 tx x1 ?_
  refine jx_aload_n d_CW_value_4 0 rfl ?_
  refine jx_get d_CW_value_5 fF_CW_19 tx x1 ?_
  refine jx_aload_n d_CW_value_8 0 rfl ?_
  obtain ⟨v1, h1, hCn, rfl, hI1, hfr1⟩ := c_CW_name l G (d - 1) (by omega) hI hq
  obtain ⟨⟨tx1, x01, x11, x21⟩, ⟨f1, c1, k1, L1, N1, ST1, DT1, NA1, PL1, nme1, hRX1⟩, ⟨RS1, hC1⟩, hO1, hA1, hBd1, ⟨wn1, wk1, wv1, wS1, hW1⟩, ⟨hn1, hls1, hY11, hY21⟩, hAc1⟩ := id hI1
  obtain ⟨hR1, hf11, hf21, hL311, hN311, hf31⟩ := id hRX1
  obtain ⟨tr1, r01, r11, r21, r31, r41, r51, r61, tp1, ⟨ta1, g01, f11, g21, g31, g41, g51, g61, tb1⟩, hBy1, hF1, hST1, hDT1, hNA1, hPL1, hdis1, hcs1⟩ := id hR1
  have hMv1 : MvCW x Y h h1 0 0 := MvCW.of_fr hfr1 (fun b hb => Or.inl (by omega))
  refine jx_callV (M2 := mm_CW_nameOnTape) rfl tx lk_CW_69 wi_CW_nameOnTape ws_CW_nameOnTape d_CW_value_9 hCn cd_CW_nameOnTape rfl rfl (Nat.le_of_ble_eq_true rfl) (jm_fok (by omega)) (jm_look (by decide) (by omega)) ?_
  cases ec : q_ix R m (q_nm B n) with
  | none =>
    have hCf := c_Cs_find l G (d - 1) (by omega) (u := q_nm B n) hC1 hO1.2.1
    rw [ec] at hCf
    refine jx_callV (M2 := mm_Cs_find) rfl hC1.1 lk_CW_88 wi_Cs_find ws_Cs_find d_CW_value_12 hCf cd_Cs_find rfl rfl (Nat.le_of_ble_eq_true rfl) (jm_fok (by omega)) (jm_look (by decide) (by omega)) ?_
    refine jx_callV (M2 := mm_Cs_valueOf) rfl hC1.1 lk_CW_92 wi_Cs_valueOf ws_Cs_valueOf d_CW_value_15 (c_Cs_valueOf_n l G (d - 1)) cd_Cs_valueOf rfl rfl (Nat.le_of_ble_eq_true rfl) (jm_fok (by omega)) (jm_look (by decide) (by omega)) ?_
    exact jx_lret d_CW_value_18 rfl (⟨_, rfl, by unfold resf; rw [ec], hI1, hMv1⟩)
  | some p =>
    have hp := q_ix_some ec
    have hrp := hC1.2.2.2.2.2.2.2.2 p hp.1
    have hCf := c_Cs_find l G (d - 1) (by omega) (u := q_nm B n) hC1 hO1.2.1
    rw [ec] at hCf
    refine jx_callV (M2 := mm_Cs_find) rfl hC1.1 lk_CW_88 wi_Cs_find ws_Cs_find d_CW_value_12 hCf cd_Cs_find rfl rfl (Nat.le_of_ble_eq_true rfl) (jm_fok (by omega)) (jm_look (by decide) (by omega)) ?_
    refine jx_callV (M2 := mm_Cs_valueOf) rfl hC1.1 lk_CW_92 wi_Cs_valueOf ws_Cs_valueOf d_CW_value_15 (c_Cs_valueOf_c l G (d - 1) hrp.2.1.1 hrp.2.1.2.2.2.2.2) cd_Cs_valueOf rfl rfl (Nat.le_of_ble_eq_true rfl) (jm_fok (by omega)) (jm_look (by decide) (by omega)) ?_
    exact jx_lret d_CW_value_18 rfl (⟨_, rfl, by unfold resf; rw [ec], hI1, hMv1⟩)
set_option maxHeartbeats 4000000 in
set_option maxRecDepth 100000 in
theorem c_CW_state (l : Launch) (G : jm_G) (d : Nat) (hd : 6 ≤ d) {h : jm_H} {x Y n : Nat} {B : Nat → Int32} {fc fp : Int32} {m : Nat} {R : Nat → CRec} {T : Nat → Term} {ls : Nat} {tot : Int32} {LT : Nat → Int64} (hI : CWI h x Y n B fc fp m R T ls tot LT) (hq : q_nm B n ≠ 0) : jm_CP l G mm_CW_state d [.ref x] h (fun v h9 => CWI h9 x Y n B fc fp m R T ls tot LT ∧ MvCW x Y h h9 0 0 ∧ match q_ix R m (q_nm B n) with
    | none => v = some (.int (-1))
    | some p => v = some (.int (k_k (R p) + if q_stale R m (R p) = true then 4 else 0))) := by
  obtain ⟨⟨tx, x0, x1, x2⟩, ⟨f, c, k, L, N, ST, DT, NA, PL, nme, hRX⟩, ⟨RS, hC⟩, hO, hA, hBd, ⟨wn, wk, wv, wS, hW⟩, ⟨hn, hls, hY1, hY2⟩, hAc⟩ := id hI
  obtain ⟨hR, hf1, hf2, hL31, hN31, hf3⟩ := id hRX
  obtain ⟨tr, r0, r1, r2, r3, r4, r5, r6, tp, ⟨ta, g0, f1, g2, g3, g4, g5, g6, tb⟩, hBy, hF, hST, hDT, hNA, hPL, hdis, hcs⟩ := id hR
  refine jm_of (by decide) rfl (Nat.le_of_ble_eq_true rfl) ?_
  refine jx_aload_n d_CW_state_0 0 rfl ?_
  refine jx_get d_CW_state_1 fF_CW_19 tx x1 ?_
  refine jx_aload_n d_CW_state_4 0 rfl ?_
  obtain ⟨v1, h1, hCn, rfl, hI1, hfr1⟩ := c_CW_name l G (d - 1) (by omega) hI hq
  obtain ⟨⟨tx1, x01, x11, x21⟩, ⟨f1, c1, k1, L1, N1, ST1, DT1, NA1, PL1, nme1, hRX1⟩, ⟨RS1, hC1⟩, hO1, hA1, hBd1, ⟨wn1, wk1, wv1, wS1, hW1⟩, ⟨hn1, hls1, hY11, hY21⟩, hAc1⟩ := id hI1
  obtain ⟨hR1, hf11, hf21, hL311, hN311, hf31⟩ := id hRX1
  obtain ⟨tr1, r01, r11, r21, r31, r41, r51, r61, tp1, ⟨ta1, g01, f11, g21, g31, g41, g51, g61, tb1⟩, hBy1, hF1, hST1, hDT1, hNA1, hPL1, hdis1, hcs1⟩ := id hR1
  have hMv1 : MvCW x Y h h1 0 0 := MvCW.of_fr hfr1 (fun b hb => Or.inl (by omega))
  refine jx_callV (M2 := mm_CW_nameOnTape) rfl tx lk_CW_69 wi_CW_nameOnTape ws_CW_nameOnTape d_CW_state_5 hCn cd_CW_nameOnTape rfl rfl (Nat.le_of_ble_eq_true rfl) (jm_fok (by omega)) (jm_look (by decide) (by omega)) ?_
  cases ec : q_ix R m (q_nm B n) with
  | none =>
    have hCf := c_Cs_find l G (d - 1) (by omega) (u := q_nm B n) hC1 hO1.2.1
    rw [ec] at hCf
    refine jx_callV (M2 := mm_Cs_find) rfl hC1.1 lk_CW_88 wi_Cs_find ws_Cs_find d_CW_state_8 hCf cd_Cs_find rfl rfl (Nat.le_of_ble_eq_true rfl) (jm_fok (by omega)) (jm_look (by decide) (by omega)) ?_
    refine jx_astore_nN (lv' := [(1, .null), (0, .ref (x))]) d_CW_state_11 (by decide) rfl ?_
    refine jx_aload_nN d_CW_state_12 0 rfl ?_
    refine jx_ifnonnullN d_CW_state_13 ?_
    refine jx_iconst (v0 := -1) d_CW_state_16 (by decide) ?_
    exact jx_iret d_CW_state_17 rfl (⟨_, rfl, hI1, hMv1, rfl⟩)
  | some p =>
    have hp := q_ix_some ec
    have hrp := hC1.2.2.2.2.2.2.2.2 p hp.1
    have hCf := c_Cs_find l G (d - 1) (by omega) (u := q_nm B n) hC1 hO1.2.1
    rw [ec] at hCf
    refine jx_callV (M2 := mm_Cs_find) rfl hC1.1 lk_CW_88 wi_Cs_find ws_Cs_find d_CW_state_8 hCf cd_Cs_find rfl rfl (Nat.le_of_ble_eq_true rfl) (jm_fok (by omega)) (jm_look (by decide) (by omega)) ?_
    refine jx_astore_n (lv' := [(1, .ref (k_a (R p))), (0, .ref (x))]) d_CW_state_11 (by decide) rfl ?_
    refine jx_aload_n d_CW_state_12 0 rfl ?_
    refine jx_ifnonnull (tgt := 18) d_CW_state_13 (by decide) ?_
    refine jx_aload_n d_CW_state_18 0 rfl ?_
    refine jx_get d_CW_state_19 fF_CW_96 hrp.2.1.1 hrp.2.1.2.2.2.2.1 ?_
    refine jx_aload_n d_CW_state_22 1 rfl ?_
    refine jx_get d_CW_state_23 fF_CW_19 tx1 x11 ?_
    refine jx_aload_n d_CW_state_26 0 rfl ?_
    refine jx_callV (M2 := mm_Cs_isStale) rfl hC1.1 lk_CW_101 wi_Cs_isStale ws_Cs_isStale d_CW_state_27 (c_Cs_isStale l G (d - 1) (by omega) hC1 hO1.2.1 hp.1) cd_Cs_isStale rfl rfl (Nat.le_of_ble_eq_true rfl) (jm_fok (by omega)) (jm_look (by decide) (by omega)) ?_
    refine jx_if_eq (tgt := 37) d_CW_state_30 (by decide) (fun c1 => ?_) (fun c1 => ?_)
    ·
      refine jx_iconst (v0 := 0) d_CW_state_37 (by decide) ?_
      refine jx_iadd d_CW_state_38 ?_
      exact jx_iret d_CW_state_39 rfl (⟨_, rfl, hI1, hMv1, by show some (Value.int (k_k (R p) + 0)) = some (Value.int (k_k (R p) + if q_stale R m (R p) = true then 4 else 0)); rw [jb0 c1]; rfl⟩)
    ·
      refine jx_iconst (v0 := 4) d_CW_state_33 (by decide) ?_
      refine jx_goto (tgt := 38) d_CW_state_34 (by decide) ?_
      refine jx_iadd d_CW_state_38 ?_
      exact jx_iret d_CW_state_39 rfl (⟨_, rfl, hI1, hMv1, by show some (Value.int (k_k (R p) + 4)) = some (Value.int (k_k (R p) + if q_stale R m (R p) = true then 4 else 0)); rw [jb1 c1]; rfl⟩)
/-- the cells' table of reads has changed alone -/
theorem CWI.trh {h : jm_H} {x Y n : Nat} {B : Nat → Int32} {fc fp : Int32} {m : Nat} {R : Nat → CRec} {T : Nat → Term} {ls : Nat} {tot : Int32} {LT : Nat → Int64} {RS : Nat → Int64} (hI : CWI h x Y n B fc fp m R T ls tot LT) (hC : CsA h (x + 11) m R RS) : CWI (q_trh R m (x + 11) h m) x Y n B fc fp m R T ls tot LT ∧ MvCW x Y h (q_trh R m (x + 11) h m) 0 0 := by
  have q := q_trh_fr (R := R) (m := m) (b := x + 11) (h := h) m
  have a := Agr.of_fr q
  obtain ⟨-, -, -, hO, hA, hB, ⟨wn, kd, v, S, hW⟩, ⟨b1, b2, b3, b4⟩, -⟩ := id hI
  refine ⟨hI.mkC (q.weak fun b hb => Or.inr (Or.inl hb)) (fun i _ => SameR.rf) ⟨_, hC.trh m⟩ (hB.ag a (by omega) (by omega)) b2 ⟨wn, kd, v, S, hW.ag a (by omega) (by omega)⟩, MvCW.of_fr q fun b hb => Or.inl (by omega)⟩
theorem MvCW.trans0 {x Y : Nat} {h h1 h2 : jm_H} {K S : Nat} (p : MvCW x Y h h1 0 0) (q : MvCW x Y h1 h2 K S) : MvCW x Y h h2 K S := by
  obtain ⟨p1, p2, p3, p4, p5⟩ := p
  obtain ⟨q1, q2, q3, q4, q5⟩ := q
  refine ⟨fun b hb => ?_, by omega, by omega, by omega, by omega⟩
  have a := p1 b hb
  have c := q1 b ⟨hb.1, by have := hb.2; omega⟩
  exact ⟨c.1.trans a.1, fun j => (c.2 j).trans (a.2 j)⟩
set_option maxHeartbeats 4000000 in
set_option maxRecDepth 100000 in
theorem c_CW_readersA (l : Launch) (G : jm_G) (d : Nat) (hd : 6 ≤ d) {h : jm_H} {x Y n : Nat} {B : Nat → Int32} {fc fp : Int32} {m : Nat} {R : Nat → CRec} {T : Nat → Term} {ls : Nat} {tot : Int32} {LT : Nat → Int64} {z : Int32} (hI : CWI h x Y n B fc fp m R T ls tot LT) (hq : q_nm B n ≠ 0) (hz : ¬ z = 0) : jm_CP l G mm_CW_readers d [.ref x, .int z] h (fun v h9 => (∃ RS1, v = some (.int (q_bc (q_drun (q_trs R m RS1 m) m m (q_dir R (q_nm B n) m) 0)))) ∧ CWI h9 x Y n B fc fp m R T ls tot LT ∧ MvCW x Y h h9 0 0) := by
  obtain ⟨⟨tx, x0, x1, x2⟩, ⟨f, c, k, L, N, ST, DT, NA, PL, nme, hRX⟩, ⟨RS, hC⟩, hO, hA, hBd, ⟨wn, wk, wv, wS, hW⟩, ⟨hn, hls, hY1, hY2⟩, hAc⟩ := id hI
  obtain ⟨hR, hf1, hf2, hL31, hN31, hf3⟩ := id hRX
  obtain ⟨tr, r0, r1, r2, r3, r4, r5, r6, tp, ⟨ta, g0, f1, g2, g3, g4, g5, g6, tb⟩, hBy, hF, hST, hDT, hNA, hPL, hdis, hcs⟩ := id hR
  refine jm_of (by decide) rfl (Nat.le_of_ble_eq_true rfl) ?_
  refine jx_aload_n d_CW_readers_0 0 rfl ?_
  obtain ⟨v1, h1, hCn, rfl, hI1, hfr1⟩ := c_CW_name l G (d - 1) (by omega) hI hq
  obtain ⟨⟨tx1, x01, x11, x21⟩, ⟨f1, c1, k1, L1, N1, ST1, DT1, NA1, PL1, nme1, hRX1⟩, ⟨RS1, hC1⟩, hO1, hA1, hBd1, ⟨wn1, wk1, wv1, wS1, hW1⟩, ⟨hn1, hls1, hY11, hY21⟩, hAc1⟩ := id hI1
  obtain ⟨hR1, hf11, hf21, hL311, hN311, hf31⟩ := id hRX1
  obtain ⟨tr1, r01, r11, r21, r31, r41, r51, r61, tp1, ⟨ta1, g01, f11, g21, g31, g41, g51, g61, tb1⟩, hBy1, hF1, hST1, hDT1, hNA1, hPL1, hdis1, hcs1⟩ := id hR1
  have hMv1 : MvCW x Y h h1 0 0 := MvCW.of_fr hfr1 (fun b hb => Or.inl (by omega))
  refine jx_callV (M2 := mm_CW_nameOnTape) rfl tx lk_CW_69 wi_CW_nameOnTape ws_CW_nameOnTape d_CW_readers_1 hCn cd_CW_nameOnTape rfl rfl (Nat.le_of_ble_eq_true rfl) (jm_fok (by omega)) (jm_look (by decide) (by omega)) ?_
  refine jx_lstore_n (lv' := [(2, .long (q_nm B n)), (0, .ref (x)), (1, .int (z))]) d_CW_readers_4 (by decide) rfl ?_
  refine jx_iload_n d_CW_readers_5 2 rfl ?_
  refine jx_if_eq (tgt := 20) d_CW_readers_6 (by decide) (fun c1 => ?_) (fun c1 => ?_)
  · exact absurd c1 hz
  ·
    refine jx_aload_n d_CW_readers_9 1 rfl ?_
    refine jx_get d_CW_readers_10 fF_CW_19 tx1 x11 ?_
    refine jx_lload_n d_CW_readers_13 0 rfl ?_
    refine jx_callV (M2 := mm_Cs_dependents) rfl hC1.1 lk_CW_105 wi_Cs_dependents ws_Cs_dependents d_CW_readers_14 (c_Cs_dependents l G (d - 1) (by omega) (u := q_nm B n) hC1 hO1.2.1) cd_Cs_dependents rfl rfl (Nat.le_of_ble_eq_true rfl) (jm_fok (by omega)) (jm_look (by decide) (by omega)) ?_
    refine jx_goto (tgt := 28) d_CW_readers_17 (by decide) ?_
    refine jx_callS (M2 := mm_Lo_bitCount) lk_CW_112 wt_Lo_bitCount d_CW_readers_28 (c_Lo_bitCount l G (d - 1) (x := q_drun (q_trs R m RS1 m) m m (q_dir R (q_nm B n) m) 0)) cd_Lo_bitCount rfl rfl (Nat.le_of_ble_eq_true rfl) (jm_fok (by omega)) (jm_look (by decide) (by omega)) ?_
    exact jx_iret d_CW_readers_31 rfl (⟨_, rfl, ⟨RS1, rfl⟩, (hI1.trh hC1).1, hMv1.trans0 (hI1.trh hC1).2⟩)
set_option maxHeartbeats 4000000 in
set_option maxRecDepth 100000 in
theorem c_CW_readersD (l : Launch) (G : jm_G) (d : Nat) (hd : 6 ≤ d) {h : jm_H} {x Y n : Nat} {B : Nat → Int32} {fc fp : Int32} {m : Nat} {R : Nat → CRec} {T : Nat → Term} {ls : Nat} {tot : Int32} {LT : Nat → Int64} {z : Int32} (hI : CWI h x Y n B fc fp m R T ls tot LT) (hq : q_nm B n ≠ 0) (hz : z = 0) : jm_CP l G mm_CW_readers d [.ref x, .int z] h (fun v h9 => (v = some (.int (q_bc (q_dir R (q_nm B n) m)))) ∧ CWI h9 x Y n B fc fp m R T ls tot LT ∧ MvCW x Y h h9 0 0) := by
  obtain ⟨⟨tx, x0, x1, x2⟩, ⟨f, c, k, L, N, ST, DT, NA, PL, nme, hRX⟩, ⟨RS, hC⟩, hO, hA, hBd, ⟨wn, wk, wv, wS, hW⟩, ⟨hn, hls, hY1, hY2⟩, hAc⟩ := id hI
  obtain ⟨hR, hf1, hf2, hL31, hN31, hf3⟩ := id hRX
  obtain ⟨tr, r0, r1, r2, r3, r4, r5, r6, tp, ⟨ta, g0, f1, g2, g3, g4, g5, g6, tb⟩, hBy, hF, hST, hDT, hNA, hPL, hdis, hcs⟩ := id hR
  refine jm_of (by decide) rfl (Nat.le_of_ble_eq_true rfl) ?_
  refine jx_aload_n d_CW_readers_0 0 rfl ?_
  obtain ⟨v1, h1, hCn, rfl, hI1, hfr1⟩ := c_CW_name l G (d - 1) (by omega) hI hq
  obtain ⟨⟨tx1, x01, x11, x21⟩, ⟨f1, c1, k1, L1, N1, ST1, DT1, NA1, PL1, nme1, hRX1⟩, ⟨RS1, hC1⟩, hO1, hA1, hBd1, ⟨wn1, wk1, wv1, wS1, hW1⟩, ⟨hn1, hls1, hY11, hY21⟩, hAc1⟩ := id hI1
  obtain ⟨hR1, hf11, hf21, hL311, hN311, hf31⟩ := id hRX1
  obtain ⟨tr1, r01, r11, r21, r31, r41, r51, r61, tp1, ⟨ta1, g01, f11, g21, g31, g41, g51, g61, tb1⟩, hBy1, hF1, hST1, hDT1, hNA1, hPL1, hdis1, hcs1⟩ := id hR1
  have hMv1 : MvCW x Y h h1 0 0 := MvCW.of_fr hfr1 (fun b hb => Or.inl (by omega))
  refine jx_callV (M2 := mm_CW_nameOnTape) rfl tx lk_CW_69 wi_CW_nameOnTape ws_CW_nameOnTape d_CW_readers_1 hCn cd_CW_nameOnTape rfl rfl (Nat.le_of_ble_eq_true rfl) (jm_fok (by omega)) (jm_look (by decide) (by omega)) ?_
  refine jx_lstore_n (lv' := [(2, .long (q_nm B n)), (0, .ref (x)), (1, .int (z))]) d_CW_readers_4 (by decide) rfl ?_
  refine jx_iload_n d_CW_readers_5 2 rfl ?_
  refine jx_if_eq (tgt := 20) d_CW_readers_6 (by decide) (fun c1 => ?_) (fun c1 => ?_)
  ·
    refine jx_aload_n d_CW_readers_20 1 rfl ?_
    refine jx_get d_CW_readers_21 fF_CW_19 tx1 x11 ?_
    refine jx_lload_n d_CW_readers_24 0 rfl ?_
    refine jx_callV (M2 := mm_Cs_directReaders) rfl hC1.1 lk_CW_109 wi_Cs_directReaders ws_Cs_directReaders d_CW_readers_25 (c_Cs_directReaders l G (d - 1) (by omega) (u := q_nm B n) hC1) cd_Cs_directReaders rfl rfl (Nat.le_of_ble_eq_true rfl) (jm_fok (by omega)) (jm_look (by decide) (by omega)) ?_
    refine jx_callS (M2 := mm_Lo_bitCount) lk_CW_112 wt_Lo_bitCount d_CW_readers_28 (c_Lo_bitCount l G (d - 1) (x := q_dir R (q_nm B n) m)) cd_Lo_bitCount rfl rfl (Nat.le_of_ble_eq_true rfl) (jm_fok (by omega)) (jm_look (by decide) (by omega)) ?_
    exact jx_iret d_CW_readers_31 rfl (⟨_, rfl, rfl, hI1, hMv1⟩)
  · exact absurd hz c1
theorem CWI.len0 {h : jm_H} {x Y n : Nat} {B : Nat → Int32} {fc fp : Int32} {m : Nat} {R : Nat → CRec} {T : Nat → Term} {ls : Nat} {tot : Int32} {LT : Nat → Int64} (hI : CWI h x Y n B fc fp m R T ls tot LT) : CWI (jm_put h (x + 1 + 1) 1 (.int 0)) x Y 0 B fc fp m R T ls tot LT ∧ MvCW x Y h (jm_put h (x + 1 + 1) 1 (.int 0)) 0 0 := by
  obtain ⟨-, ⟨f, c, k, L, N, ST, DT, NA, PL, nme, hRX⟩, -⟩ := id hI
  obtain ⟨hR, hf1, hf2, hL31, hN31, hf3⟩ := id hRX
  have q : jm_fr (S_rx x f) h (jm_put h (x + 1 + 1) 1 (.int 0)) := jm_fr.rf.put (Or.inr (Or.inr (Or.inl rfl)))
  exact ⟨hI.mkR hRX q (RdC.len (n' := 0) hR) (by omega) hL31 hN31, MvCW.of_fr q (fun b hb => S_rx_cw hf1 hb)⟩
/-- a cell is dropped -/
theorem CWI.drop {h h' : jm_H} {x Y n : Nat} {B : Nat → Int32} {fc fp : Int32} {m K : Nat} {R : Nat → CRec} {T : Nat → Term} {ls : Nat} {tot : Int32} {LT RS : Nat → Int64} (hI : CWI h x Y n B fc fp m R T ls tot LT) (hK : K < m) (q : jm_fr (fun b => b = x + 11 ∨ b = x + 11 + 1) h h') (hC : CsA h' (x + 11) (m - 1) (delR R K) RS) : CWI h' x Y n B fc fp (m - 1) (delR R K) (fun p => if p < K then T p else T (p + 1)) ls tot LT ∧ MvCW x Y h h' 0 0 := by
  obtain ⟨⟨tx, x0, x1, x2⟩, ⟨f, c, k, L, N, ST, DT, NA, PL, nme, hR, hf1, hf2, hL, hN, hf3, hTy⟩, -, ⟨o1, o2, o3, o4, o5, o6⟩, hA, hB, ⟨wn, kd, v, S, hW⟩, ⟨b1, b2, b3, b4⟩, ⟨rk, hrk⟩⟩ := id hI
  have a := Agr.of_fr q
  have e1 : h'.1 = h.1 := q.1
  have dl : ∀ p, p < m - 1 → ∃ p', p' < m ∧ delR R K p = R p' ∧ (if p < K then T p else T (p + 1)) = T p' ∧ p' = (if p < K then p else p + 1) := fun p hp => by
    unfold delR
    by_cases e : p < K
    · exact ⟨p, by omega, by rw [if_pos e], by rw [if_pos e], by rw [if_pos e]⟩
    · exact ⟨p + 1, by omega, by rw [if_neg e], by rw [if_neg e], by rw [if_neg e]⟩
  have inj : ∀ {p q' : Nat}, p ≠ q' → (if p < K then p else p + 1) ≠ (if q' < K then q' else q' + 1) := fun {p q'} hne => by split <;> split <;> omega
  have mono : ∀ {p q' : Nat}, p < q' → (if p < K then p else p + 1) < (if q' < K then q' else q' + 1) := fun {p q'} hlt => by split <;> split <;> omega
  have hx := a x (by omega)
  refine ⟨⟨⟨hx.1.trans tx, (hx.2 0).trans x0, (hx.2 1).trans x1, (hx.2 2).trans x2⟩, ⟨f, c, k, L, N, ST, DT, NA, PL, nme, hR.ag a (by omega) (by omega) (by omega) (by omega) (fun j hj => ?_), hf1, by omega, hL, hN, fun p hp => ?_, hTy.ag a (by omega) (by omega)⟩, ⟨_, hC⟩, ⟨by omega, fun p p' h1 h2 => ?_, fun p p' h1 h2 h3 => ?_, fun p p' h1 h2 h3 => ?_, fun p h1 => ?_, fun p h1 => ?_⟩, fun p hp => ?_, hB.ag a (by omega) (by omega), ⟨wn, kd, v, S, hW.ag a (by omega) (by omega)⟩, ⟨b1, b2, b3, by omega⟩, ⟨fun p => rk (if p < K then p else p + 1), fun p hp i hi => ?_⟩⟩, MvCW.of_fr q fun b hb => Or.inl (by omega)⟩
  · have hF : FmA h f L N := hR.2.2.2.2.2.2.2.2.2.2.2.1
    rcases hf1 with e | e
    · omega
    · omega
  · obtain ⟨p', g1, g2, -, -⟩ := dl p hp
    rw [g2]; exact hf3 p' g1
  · obtain ⟨u, g1, g2, -, g4⟩ := dl p (by omega)
    obtain ⟨w, k1, k2, -, k4⟩ := dl p' h2
    rw [g2, k2]
    exact o2 u w (by rw [g4, k4]; exact mono h1) k1
  · obtain ⟨u, g1, g2, -, g4⟩ := dl p h1
    obtain ⟨w, k1, k2, -, k4⟩ := dl p' h2
    rw [g2, k2]
    exact o3 u w g1 k1 (by rw [g4, k4]; exact inj h3)
  · obtain ⟨u, g1, g2, -, g4⟩ := dl p h1
    obtain ⟨w, k1, k2, -, k4⟩ := dl p' h2
    rw [g2, k2]
    exact o4 u w g1 k1 (by rw [g4, k4]; exact inj h3)
  · obtain ⟨u, g1, g2, -, -⟩ := dl p h1
    rw [g2]; exact o5 u g1
  · obtain ⟨u, g1, g2, g3, -⟩ := dl p h1
    show Tree (if p < K then T p else T (p + 1)) ∧ ∃ PL, Cdx (k_ST (delR R K p)) (k_DT (delR R K p)) (k_NA (delR R K p)) PL (if p < K then T p else T (p + 1)) 0 0 (k_L (delR R K p)) (k_N (delR R K p))
    rw [g2, g3]; exact o6 u g1
  · obtain ⟨u, g1, g2, -, -⟩ := dl p hp
    rw [g2]
    obtain ⟨a1, a2, a3, a4⟩ := hA u g1
    exact ⟨a1, by omega, a3, by omega⟩
  · obtain ⟨u, g1, g2, -, g4⟩ := dl p hp
    obtain ⟨j, j1, j2⟩ := hi
    rw [g2] at j1 j2
    have hi1 := q_ix_some j2
    obtain ⟨w, k1, k2, -, k4⟩ := dl i hi1.1
    show rk (if i < K then i else i + 1) < rk (if p < K then p else p + 1)
    rw [← g4, ← k4]
    refine hrk u g1 w ⟨j, j1, ?_⟩
    have := q_ix_of o2 k1
    rw [← k2, hi1.2] at this
    exact this
set_option maxHeartbeats 4000000 in
set_option maxRecDepth 100000 in
theorem c_CW_remove (l : Launch) (G : jm_G) (d : Nat) (hd : 6 ≤ d) {h : jm_H} {x Y n : Nat} {B : Nat → Int32} {fc fp : Int32} {m : Nat} {R : Nat → CRec} {T : Nat → Term} {ls : Nat} {tot : Int32} {LT : Nat → Int64} (hI : CWI h x Y n B fc fp m R T ls tot LT) (hq : q_nm B n ≠ 0) : jm_CP l G mm_CW_remove d [.ref x] h (fun v h9 => match q_ix R m (q_nm B n) with
    | none => v = some (.int 0) ∧ CWI h9 x Y 0 B fc fp m R T ls tot LT ∧ MvCW x Y h h9 0 0
    | some K => v = some (.int 1) ∧ CWI h9 x Y 0 B fc fp (m - 1) (delR R K) (fun p => if p < K then T p else T (p + 1)) ls tot LT ∧ MvCW x Y h h9 0 0) := by
  obtain ⟨⟨tx, x0, x1, x2⟩, ⟨f, c, k, L, N, ST, DT, NA, PL, nme, hRX⟩, ⟨RS, hC⟩, hO, hA, hBd, ⟨wn, wk, wv, wS, hW⟩, ⟨hn, hls, hY1, hY2⟩, hAc⟩ := id hI
  obtain ⟨hR, hf1, hf2, hL31, hN31, hf3⟩ := id hRX
  obtain ⟨tr, r0, r1, r2, r3, r4, r5, r6, tp, ⟨ta, g0, f1, g2, g3, g4, g5, g6, tb⟩, hBy, hF, hST, hDT, hNA, hPL, hdis, hcs⟩ := id hR
  refine jm_of (by decide) rfl (Nat.le_of_ble_eq_true rfl) ?_
  refine jx_aload_n d_CW_remove_0 0 rfl ?_
  obtain ⟨v1, h1, hCn, rfl, hI1, hfr1⟩ := c_CW_name l G (d - 1) (by omega) hI hq
  obtain ⟨⟨tx1, x01, x11, x21⟩, ⟨f1, c1, k1, L1, N1, ST1, DT1, NA1, PL1, nme1, hRX1⟩, ⟨RS1, hC1⟩, hO1, hA1, hBd1, ⟨wn1, wk1, wv1, wS1, hW1⟩, ⟨hn1, hls1, hY11, hY21⟩, hAc1⟩ := id hI1
  obtain ⟨hR1, hf11, hf21, hL311, hN311, hf31⟩ := id hRX1
  obtain ⟨tr1, r01, r11, r21, r31, r41, r51, r61, tp1, ⟨ta1, g01, f11, g21, g31, g41, g51, g61, tb1⟩, hBy1, hF1, hST1, hDT1, hNA1, hPL1, hdis1, hcs1⟩ := id hR1
  have hMv1 : MvCW x Y h h1 0 0 := MvCW.of_fr hfr1 (fun b hb => Or.inl (by omega))
  refine jx_callV (M2 := mm_CW_nameOnTape) rfl tx lk_CW_69 wi_CW_nameOnTape ws_CW_nameOnTape d_CW_remove_1 hCn cd_CW_nameOnTape rfl rfl (Nat.le_of_ble_eq_true rfl) (jm_fok (by omega)) (jm_look (by decide) (by omega)) ?_
  refine jx_lstore_n (lv' := [(1, .long (q_nm B n)), (0, .ref (x))]) d_CW_remove_4 (by decide) rfl ?_
  refine jx_aload_n d_CW_remove_5 1 rfl ?_
  refine jx_get d_CW_remove_6 fF_CW_12 tx1 x01 ?_
  refine jx_get d_CW_remove_9 fF_CW_30 tr1 r01 ?_
  refine jx_iconst (v0 := 0) d_CW_remove_12 (by decide) ?_
  refine jx_put (v0 := .int (0)) d_CW_remove_13 fF_CW_34 jv_Tp ft_Tp_length ta1 rfl rfl ?_
  refine jx_aload_n d_CW_remove_16 1 rfl ?_
  refine jx_get d_CW_remove_17 fF_CW_19 tx1 (jm_rd_a (jm_ne_oo tx1 ta1 (by decide)) x11) ?_
  refine jx_lload_n d_CW_remove_20 0 rfl ?_
  obtain ⟨hI2, hMv2⟩ := hI1.len0
  obtain ⟨-, -, ⟨RS2, hC2⟩, hO2, -⟩ := id hI2
  obtain ⟨v3, h3, hC3, hD⟩ := c_Cs_drop l G (d - 1) (by omega) (u := q_nm B n) hC2 hO2.2.1
  cases ec : q_ix R m (q_nm B n) with
  | none =>
    rw [ec] at hD
    obtain ⟨rfl, rfl⟩ := hD
    refine jx_callV (M2 := mm_Cs_drop) rfl hC1.1 lk_CW_73 wi_Cs_drop ws_Cs_drop d_CW_remove_21 hC3 cd_Cs_drop rfl rfl (Nat.le_of_ble_eq_true rfl) (jm_fok (by omega)) (jm_look (by decide) (by omega)) ?_
    exact jx_zret d_CW_remove_24 rfl (by first | rfl | decide | exact jb_nar _) (⟨_, rfl, rfl, hI2, hMv1.trans0 hMv2⟩)
  | some p =>
    rw [ec] at hD
    obtain ⟨rfl, hfr3, hCd⟩ := hD
    have hdr := hI2.drop (q_ix_some ec).1 hfr3 hCd
    refine jx_callV (M2 := mm_Cs_drop) rfl hC1.1 lk_CW_73 wi_Cs_drop ws_Cs_drop d_CW_remove_21 hC3 cd_Cs_drop rfl rfl (Nat.le_of_ble_eq_true rfl) (jm_fok (by omega)) (jm_look (by decide) (by omega)) ?_
    exact jx_zret d_CW_remove_24 rfl (by first | rfl | decide | exact jb_nar _) (⟨_, rfl, rfl, hdr.1, (hMv1.trans0 hMv2).trans0 hdr.2⟩)
theorem q_b8_nm1 (x : Int64) (k : Nat) : ¬ q_b8 x k = -1 := fun e => by
  obtain ⟨C, hC, e2⟩ := by_255 (Int64.toInt32 (q_us x (nI (56 - 8 * k))))
  unfold q_b8 at e
  rw [e2] at e
  exact nI_nm1 (by omega) e
set_option maxHeartbeats 4000000 in
set_option maxRecDepth 100000 in
theorem c_CW_built (l : Launch) (G : jm_G) (d : Nat) (hd : 1 ≤ d) {h : jm_H} {x Y n : Nat} {B : Nat → Int32} {fc fp : Int32} {m : Nat} {R : Nat → CRec} {T : Nat → Term} {ls : Nat} {tot : Int32} {LT : Nat → Int64} {j : Nat} {k : Nat} (hI : CWI h x Y n B fc fp m R T ls tot LT) (hj : j < ls) (hk : k < 8) (hb : ¬ q_b8 (LT j) k = 0) : jm_C l G mm_CW_built d [.ref x, .int (nI j), .int (nI k)] h (some (.int (q_b8 (LT j) k))) h := by
  obtain ⟨⟨tx, x0, x1, x2⟩, ⟨f, c, k9, L, N, ST, DT, NA, PL, nme, hRX⟩, ⟨RS, hC⟩, hO, hA, hBd, ⟨wn, wk, wv, wS, hW⟩, ⟨hn, hls, hY1, hY2⟩, hAc⟩ := id hI
  obtain ⟨hR, hf1, hf2, hL31, hN31, hf3⟩ := id hRX
  obtain ⟨tr, r0, r1, r2, r3, r4, r5, r6, tp, ⟨ta, g0, f1, g2, g3, g4, g5, g6, tb⟩, hBy, hF, hST, hDT, hNA, hPL, hdis, hcs⟩ := id hR
  refine jm_ofE (by decide) rfl (Nat.le_of_ble_eq_true rfl) ?_
  refine jx_aload_n d_CW_built_0 0 rfl ?_
  refine jx_get d_CW_built_1 fF_CW_26 tx x2 ?_
  refine jx_iload_n d_CW_built_4 1 rfl ?_
  refine jx_iload_n d_CW_built_5 2 rfl ?_
  refine jx_callV (M2 := mm_Bd_byteOfLatest) rfl hBd.1 lk_CW_117 wi_Bd_byteOfLatest ws_Bd_byteOfLatest d_CW_built_6 (show jm_C l G mm_Bd_byteOfLatest (d - 1) [.ref (x + 11 + 3), .int (nI j), .int (nI k)] h (some (.int (q_b8 (LT j) k))) h by have := c_Bd_byteIn l G (d - 1) hBd hls hj hk; rw [if_neg hb] at this; exact this) cd_Bd_byteOfLatest rfl rfl (Nat.le_of_ble_eq_true rfl) (jm_fok (by omega)) (jm_look (by decide) (by omega)) ?_
  refine jx_istore_n (lv' := [(3, .int (q_b8 (LT j) k)), (0, .ref (x)), (1, .int (nI (j))), (2, .int (nI (k)))]) d_CW_built_9 (by decide) rfl ?_
  refine jx_iload_n d_CW_built_10 0 rfl ?_
  refine jx_iconst (v0 := -1) d_CW_built_11 (by decide) ?_
  refine jx_icmp_ne (tgt := 25) d_CW_built_12 (by decide) (fun c1 => ?_) (fun c1 => ?_)
  ·
    refine jx_iload_n d_CW_built_25 0 rfl ?_
    exact jx_iret d_CW_built_26 rfl (⟨rfl, rfl⟩)
  · exact absurd c1 (q_b8_nm1 _ _)
set_option maxHeartbeats 4000000 in
set_option maxRecDepth 100000 in
theorem c_CW_builtT0 (l : Launch) (G : jm_G) (hl : l.stackTraces = false) (d : Nat) (hd : 6 ≤ d) {h : jm_H} {x Y n : Nat} {B : Nat → Int32} {fc fp : Int32} {m : Nat} {R : Nat → CRec} {T : Nat → Term} {ls : Nat} {tot : Int32} {LT : Nat → Int64} {j k : Nat} (hI : CWI h x Y n B fc fp m R T ls tot LT) (hj : j < ls) (hk : k < 8) (hb : q_b8 (LT j) k = 0) : jm_CT l G mm_CW_built d [.ref x, .int (nI j), .int (nI k)] h "java/lang/IndexOutOfBoundsException" (jm_thr h) := by
  obtain ⟨⟨tx, x0, x1, x2⟩, ⟨f, c, k9, L, N, ST, DT, NA, PL, nme, hRX⟩, ⟨RS, hC⟩, hO, hA, hBd, ⟨wn, wk, wv, wS, hW⟩, ⟨hn, hls, hY1, hY2⟩, hAc⟩ := id hI
  obtain ⟨hR, hf1, hf2, hL31, hN31, hf3⟩ := id hRX
  obtain ⟨tr, r0, r1, r2, r3, r4, r5, r6, tp, ⟨ta, g0, f1, g2, g3, g4, g5, g6, tb⟩, hBy, hF, hST, hDT, hNA, hPL, hdis, hcs⟩ := id hR
  refine jm_ofT (by decide) rfl (Nat.le_of_ble_eq_true rfl) ?_
  refine jx_aload_n d_CW_built_0 0 rfl ?_
  refine jx_get d_CW_built_1 fF_CW_26 tx x2 ?_
  refine jx_iload_n d_CW_built_4 1 rfl ?_
  refine jx_iload_n d_CW_built_5 2 rfl ?_
  refine jx_callV (M2 := mm_Bd_byteOfLatest) rfl hBd.1 lk_CW_117 wi_Bd_byteOfLatest ws_Bd_byteOfLatest d_CW_built_6 (show jm_C l G mm_Bd_byteOfLatest (d - 1) [.ref (x + 11 + 3), .int (nI j), .int (nI k)] h (some (.int (-1))) h by have := c_Bd_byteIn l G (d - 1) hBd hls hj hk; rw [if_pos hb] at this; exact this) cd_Bd_byteOfLatest rfl rfl (Nat.le_of_ble_eq_true rfl) (jm_fok (by omega)) (jm_look (by decide) (by omega)) ?_
  refine jx_istore_n (lv' := [(3, .int (-1)), (0, .ref (x)), (1, .int (nI (j))), (2, .int (nI (k)))]) d_CW_built_9 (by decide) rfl ?_
  refine jx_iload_n d_CW_built_10 0 rfl ?_
  refine jx_iconst (v0 := -1) d_CW_built_11 (by decide) ?_
  refine jx_icmp_ne (tgt := 25) d_CW_built_12 (by decide) (fun c1 => absurd rfl c1) (fun c1 => ?_)
  exact jx_throw (tx := "there is no such name or byte") hl rfl rfl th_ok4 (by simp [jm_NS]) lk_CW_121 thk_4 thn_4 d_CW_built_15 d_CW_built_18 d_CW_built_19 d_CW_built_21 d_CW_built_24 (by omega) ⟨rfl, rfl⟩
set_option maxHeartbeats 4000000 in
set_option maxRecDepth 100000 in
theorem c_CW_builtT1 (l : Launch) (G : jm_G) (hl : l.stackTraces = false) (d : Nat) (hd : 6 ≤ d) {h : jm_H} {x Y n : Nat} {B : Nat → Int32} {fc fp : Int32} {m : Nat} {R : Nat → CRec} {T : Nat → Term} {ls : Nat} {tot : Int32} {LT : Nat → Int64} {i j : Int32} (hI : CWI h x Y n B fc fp m R T ls tot LT) (ho : i < 0 ∨ nI ls ≤ i ∨ j < 0 ∨ 8 ≤ j) : jm_CT l G mm_CW_built d [.ref x, .int i, .int j] h "java/lang/IndexOutOfBoundsException" (jm_thr h) := by
  obtain ⟨⟨tx, x0, x1, x2⟩, ⟨f, c, k9, L, N, ST, DT, NA, PL, nme, hRX⟩, ⟨RS, hC⟩, hO, hA, hBd, ⟨wn, wk, wv, wS, hW⟩, ⟨hn, hls, hY1, hY2⟩, hAc⟩ := id hI
  obtain ⟨hR, hf1, hf2, hL31, hN31, hf3⟩ := id hRX
  obtain ⟨tr, r0, r1, r2, r3, r4, r5, r6, tp, ⟨ta, g0, f1, g2, g3, g4, g5, g6, tb⟩, hBy, hF, hST, hDT, hNA, hPL, hdis, hcs⟩ := id hR
  refine jm_ofT (by decide) rfl (Nat.le_of_ble_eq_true rfl) ?_
  refine jx_aload_n d_CW_built_0 0 rfl ?_
  refine jx_get d_CW_built_1 fF_CW_26 tx x2 ?_
  refine jx_iload_n d_CW_built_4 1 rfl ?_
  refine jx_iload_n d_CW_built_5 2 rfl ?_
  refine jx_callV (M2 := mm_Bd_byteOfLatest) rfl hBd.1 lk_CW_117 wi_Bd_byteOfLatest ws_Bd_byteOfLatest d_CW_built_6 (c_Bd_byteOut l G (d - 1) hBd ho) cd_Bd_byteOfLatest rfl rfl (Nat.le_of_ble_eq_true rfl) (jm_fok (by omega)) (jm_look (by decide) (by omega)) ?_
  refine jx_istore_n (lv' := [(3, .int (-1)), (0, .ref (x)), (1, .int (i)), (2, .int (j))]) d_CW_built_9 (by decide) rfl ?_
  refine jx_iload_n d_CW_built_10 0 rfl ?_
  refine jx_iconst (v0 := -1) d_CW_built_11 (by decide) ?_
  refine jx_icmp_ne (tgt := 25) d_CW_built_12 (by decide) (fun c1 => absurd rfl c1) (fun c1 => ?_)
  exact jx_throw (tx := "there is no such name or byte") hl rfl rfl th_ok4 (by simp [jm_NS]) lk_CW_121 thk_4 thn_4 d_CW_built_15 d_CW_built_18 d_CW_built_19 d_CW_built_21 d_CW_built_24 (by omega) ⟨rfl, rfl⟩
set_option maxHeartbeats 4000000 in
set_option maxRecDepth 100000 in
theorem c_CW_count0 (l : Launch) (G : jm_G) (d : Nat) (hd : 5 ≤ d) {h : jm_H} {x Y n : Nat} {B : Nat → Int32} {fc fp : Int32} {m : Nat} {R : Nat → CRec} {T : Nat → Term} {ls : Nat} {tot : Int32} {LT : Nat → Int64} (hI : CWI h x Y n B fc fp m R T ls tot LT) : jm_C l G mm_CW_count d [.ref x, .int 0] h (some (.int (nI m))) h := by
  obtain ⟨⟨tx, x0, x1, x2⟩, ⟨f, c, k, L, N, ST, DT, NA, PL, nme, hRX⟩, ⟨RS, hC⟩, hO, hA, hBd, ⟨wn, wk, wv, wS, hW⟩, ⟨hn, hls, hY1, hY2⟩, hAc⟩ := id hI
  obtain ⟨hR, hf1, hf2, hL31, hN31, hf3⟩ := id hRX
  obtain ⟨tr, r0, r1, r2, r3, r4, r5, r6, tp, ⟨ta, g0, f1, g2, g3, g4, g5, g6, tb⟩, hBy, hF, hST, hDT, hNA, hPL, hdis, hcs⟩ := id hR
  refine jm_ofE (by decide) rfl (Nat.le_of_ble_eq_true rfl) ?_
  refine jx_iload_n d_CW_count_0 1 rfl ?_
  refine jx_tableIn (tgt := 36) d_CW_count_1 (by decide) (by decide) (show _ = some 35 from rfl) (by decide) ?_
  refine jx_aload_n d_CW_count_36 0 rfl ?_
  refine jx_get d_CW_count_37 fF_CW_19 tx x1 ?_
  refine jx_get d_CW_count_40 fF_CW_126 hC.1 hC.2.2.1 ?_
  exact jx_iret d_CW_count_43 rfl (⟨rfl, rfl⟩)
set_option maxHeartbeats 4000000 in
set_option maxRecDepth 100000 in
theorem c_CW_count1 (l : Launch) (G : jm_G) (d : Nat) (hd : 5 ≤ d) {h : jm_H} {x Y n : Nat} {B : Nat → Int32} {fc fp : Int32} {m : Nat} {R : Nat → CRec} {T : Nat → Term} {ls : Nat} {tot : Int32} {LT : Nat → Int64} (hI : CWI h x Y n B fc fp m R T ls tot LT) : jm_C l G mm_CW_count d [.ref x, .int 1] h (some (.int (nI (cnt (q_stf R m) m)))) h := by
  obtain ⟨⟨tx, x0, x1, x2⟩, ⟨f, c, k, L, N, ST, DT, NA, PL, nme, hRX⟩, ⟨RS, hC⟩, hO, hA, hBd, ⟨wn, wk, wv, wS, hW⟩, ⟨hn, hls, hY1, hY2⟩, hAc⟩ := id hI
  obtain ⟨hR, hf1, hf2, hL31, hN31, hf3⟩ := id hRX
  obtain ⟨tr, r0, r1, r2, r3, r4, r5, r6, tp, ⟨ta, g0, f1, g2, g3, g4, g5, g6, tb⟩, hBy, hF, hST, hDT, hNA, hPL, hdis, hcs⟩ := id hR
  refine jm_ofE (by decide) rfl (Nat.le_of_ble_eq_true rfl) ?_
  refine jx_iload_n d_CW_count_0 1 rfl ?_
  refine jx_tableIn (tgt := 44) d_CW_count_1 (by decide) (by decide) (show _ = some 43 from rfl) (by decide) ?_
  refine jx_aload_n d_CW_count_44 0 rfl ?_
  refine jx_get d_CW_count_45 fF_CW_19 tx x1 ?_
  refine jx_callV (M2 := mm_Cs_staleOnes) rfl hC.1 lk_CW_129 wi_Cs_staleOnes ws_Cs_staleOnes d_CW_count_48 (c_Cs_staleOnes l G (d - 1) (by omega) hC hO.2.1) cd_Cs_staleOnes rfl rfl (Nat.le_of_ble_eq_true rfl) (jm_fok (by omega)) (jm_look (by decide) (by omega)) ?_
  exact jx_iret d_CW_count_51 rfl (⟨rfl, rfl⟩)
set_option maxHeartbeats 4000000 in
set_option maxRecDepth 100000 in
theorem c_CW_count2 (l : Launch) (G : jm_G) (d : Nat) (hd : 5 ≤ d) {h : jm_H} {x Y n : Nat} {B : Nat → Int32} {fc fp : Int32} {m : Nat} {R : Nat → CRec} {T : Nat → Term} {ls : Nat} {tot : Int32} {LT : Nat → Int64} (hI : CWI h x Y n B fc fp m R T ls tot LT) : jm_C l G mm_CW_count d [.ref x, .int 2] h (some (.int (nI n))) h := by
  obtain ⟨⟨tx, x0, x1, x2⟩, ⟨f, c, k, L, N, ST, DT, NA, PL, nme, hRX⟩, ⟨RS, hC⟩, hO, hA, hBd, ⟨wn, wk, wv, wS, hW⟩, ⟨hn, hls, hY1, hY2⟩, hAc⟩ := id hI
  obtain ⟨hR, hf1, hf2, hL31, hN31, hf3⟩ := id hRX
  obtain ⟨tr, r0, r1, r2, r3, r4, r5, r6, tp, ⟨ta, g0, f1, g2, g3, g4, g5, g6, tb⟩, hBy, hF, hST, hDT, hNA, hPL, hdis, hcs⟩ := id hR
  refine jm_ofE (by decide) rfl (Nat.le_of_ble_eq_true rfl) ?_
  refine jx_iload_n d_CW_count_0 1 rfl ?_
  refine jx_tableIn (tgt := 52) d_CW_count_1 (by decide) (by decide) (show _ = some 51 from rfl) (by decide) ?_
  refine jx_aload_n d_CW_count_52 0 rfl ?_
  refine jx_get d_CW_count_53 fF_CW_12 tx x0 ?_
  refine jx_get d_CW_count_56 fF_CW_30 tr r0 ?_
  refine jx_get d_CW_count_59 fF_CW_34 ta f1 ?_
  exact jx_iret d_CW_count_62 rfl (⟨rfl, rfl⟩)
set_option maxHeartbeats 4000000 in
set_option maxRecDepth 100000 in
theorem c_CW_count3 (l : Launch) (G : jm_G) (d : Nat) (hd : 5 ≤ d) {h : jm_H} {x Y n : Nat} {B : Nat → Int32} {fc fp : Int32} {m : Nat} {R : Nat → CRec} {T : Nat → Term} {ls : Nat} {tot : Int32} {LT : Nat → Int64} (hI : CWI h x Y n B fc fp m R T ls tot LT) : jm_C l G mm_CW_count d [.ref x, .int 3] h (some (.int (tot))) h := by
  obtain ⟨⟨tx, x0, x1, x2⟩, ⟨f, c, k, L, N, ST, DT, NA, PL, nme, hRX⟩, ⟨RS, hC⟩, hO, hA, hBd, ⟨wn, wk, wv, wS, hW⟩, ⟨hn, hls, hY1, hY2⟩, hAc⟩ := id hI
  obtain ⟨hR, hf1, hf2, hL31, hN31, hf3⟩ := id hRX
  obtain ⟨tr, r0, r1, r2, r3, r4, r5, r6, tp, ⟨ta, g0, f1, g2, g3, g4, g5, g6, tb⟩, hBy, hF, hST, hDT, hNA, hPL, hdis, hcs⟩ := id hR
  refine jm_ofE (by decide) rfl (Nat.le_of_ble_eq_true rfl) ?_
  refine jx_iload_n d_CW_count_0 1 rfl ?_
  refine jx_tableIn (tgt := 63) d_CW_count_1 (by decide) (by decide) (show _ = some 62 from rfl) (by decide) ?_
  refine jx_aload_n d_CW_count_63 0 rfl ?_
  refine jx_get d_CW_count_64 fF_CW_26 tx x2 ?_
  refine jx_get d_CW_count_67 fF_CW_133 hBd.1 hBd.2.2.2.2.1 ?_
  exact jx_iret d_CW_count_70 rfl (⟨rfl, rfl⟩)
set_option maxHeartbeats 4000000 in
set_option maxRecDepth 100000 in
theorem c_CW_count4 (l : Launch) (G : jm_G) (d : Nat) (hd : 5 ≤ d) {h : jm_H} {x Y n : Nat} {B : Nat → Int32} {fc fp : Int32} {m : Nat} {R : Nat → CRec} {T : Nat → Term} {ls : Nat} {tot : Int32} {LT : Nat → Int64} (hI : CWI h x Y n B fc fp m R T ls tot LT) : jm_C l G mm_CW_count d [.ref x, .int 4] h (some (.int (nI ls))) h := by
  obtain ⟨⟨tx, x0, x1, x2⟩, ⟨f, c, k, L, N, ST, DT, NA, PL, nme, hRX⟩, ⟨RS, hC⟩, hO, hA, hBd, ⟨wn, wk, wv, wS, hW⟩, ⟨hn, hls, hY1, hY2⟩, hAc⟩ := id hI
  obtain ⟨hR, hf1, hf2, hL31, hN31, hf3⟩ := id hRX
  obtain ⟨tr, r0, r1, r2, r3, r4, r5, r6, tp, ⟨ta, g0, f1, g2, g3, g4, g5, g6, tb⟩, hBy, hF, hST, hDT, hNA, hPL, hdis, hcs⟩ := id hR
  refine jm_ofE (by decide) rfl (Nat.le_of_ble_eq_true rfl) ?_
  refine jx_iload_n d_CW_count_0 1 rfl ?_
  refine jx_tableIn (tgt := 71) d_CW_count_1 (by decide) (by decide) (show _ = some 70 from rfl) (by decide) ?_
  refine jx_aload_n d_CW_count_71 0 rfl ?_
  refine jx_get d_CW_count_72 fF_CW_26 tx x2 ?_
  refine jx_get d_CW_count_75 fF_CW_136 hBd.1 hBd.2.2.2.1 ?_
  exact jx_iret d_CW_count_78 rfl (⟨rfl, rfl⟩)
set_option maxHeartbeats 4000000 in
set_option maxRecDepth 100000 in
theorem c_CW_countT (l : Launch) (G : jm_G) (hl : l.stackTraces = false) (d : Nat) (hd : 6 ≤ d) {h : jm_H} {x Y n : Nat} {B : Nat → Int32} {fc fp : Int32} {m : Nat} {R : Nat → CRec} {T : Nat → Term} {ls : Nat} {tot : Int32} {LT : Nat → Int64} {i : Int32} (hI : CWI h x Y n B fc fp m R T ls tot LT) (hw : i.toInt < 0 ∨ 4 < i.toInt) : jm_CT l G mm_CW_count d [.ref x, .int i] h "java/lang/IllegalArgumentException" (jm_thr h) := by
  obtain ⟨⟨tx, x0, x1, x2⟩, ⟨f, c, k, L, N, ST, DT, NA, PL, nme, hRX⟩, ⟨RS, hC⟩, hO, hA, hBd, ⟨wn, wk, wv, wS, hW⟩, ⟨hn, hls, hY1, hY2⟩, hAc⟩ := id hI
  obtain ⟨hR, hf1, hf2, hL31, hN31, hf3⟩ := id hRX
  obtain ⟨tr, r0, r1, r2, r3, r4, r5, r6, tp, ⟨ta, g0, f1, g2, g3, g4, g5, g6, tb⟩, hBy, hF, hST, hDT, hNA, hPL, hdis, hcs⟩ := id hR
  refine jm_ofT (by decide) rfl (Nat.le_of_ble_eq_true rfl) ?_
  refine jx_iload_n d_CW_count_0 1 rfl ?_
  refine jx_tableOut (tgt := 79) d_CW_count_1 hw (by decide) ?_
  exact jx_throw (tx := "what is none of 0 to 4") hl rfl rfl th_ok2 (by simp [jm_NS]) lk_CW_51 thk_2 thn_2 d_CW_count_79 d_CW_count_82 d_CW_count_83 d_CW_count_85 d_CW_count_88 (by omega) ⟨rfl, rfl⟩
set_option maxHeartbeats 4000000 in
set_option maxRecDepth 100000 in
theorem c_CW_removeT (l : Launch) (G : jm_G) (hl : l.stackTraces = false) (d : Nat) (hd : 7 ≤ d) {h : jm_H} {x Y n : Nat} {B : Nat → Int32} {fc fp : Int32} {m : Nat} {R : Nat → CRec} {T : Nat → Term} {ls : Nat} {tot : Int32} {LT : Nat → Int64} (hI : CWI h x Y n B fc fp m R T ls tot LT) (hq : q_nm B n = 0) : ∃ h1, jm_CT l G mm_CW_remove d [.ref x] h "java/util/NoSuchElementException" (jm_thr h1) ∧ CWI h1 x Y n B fc fp m R T ls tot LT ∧ MvCW x Y h h1 0 0 := by
  obtain ⟨⟨tx, x0, x1, x2⟩, ⟨f, c, k, L, N, ST, DT, NA, PL, nme, hRX⟩, ⟨RS, hC⟩, hO, hA, hBd, ⟨wn, wk, wv, wS, hW⟩, ⟨hn, hls, hY1, hY2⟩, hAc⟩ := id hI
  obtain ⟨hR, hf1, hf2, hL31, hN31, hf3⟩ := id hRX
  obtain ⟨tr, r0, r1, r2, r3, r4, r5, r6, tp, ⟨ta, g0, f1, g2, g3, g4, g5, g6, tb⟩, hBy, hF, hST, hDT, hNA, hPL, hdis, hcs⟩ := id hR
  obtain ⟨h1, hCT, hI1, hfr1⟩ := c_CW_nameT l G hl (d - 1) (by omega) hI hq
  refine ⟨h1, ?_, hI1, MvCW.of_fr hfr1 (fun b hb => Or.inl (by omega))⟩
  refine jm_ofT (by decide) rfl (Nat.le_of_ble_eq_true rfl) ?_
  refine jx_aload_n d_CW_remove_0 0 rfl ?_
  exact jx_callVX (M2 := mm_CW_nameOnTape) rfl rfl tx lk_CW_69 wi_CW_nameOnTape ws_CW_nameOnTape d_CW_remove_1 hCT cd_CW_nameOnTape rfl rfl (Nat.le_of_ble_eq_true rfl) (jm_fok (G := G) (n0 := 0) (s0 := 0) (by omega)) (jm_look (G := G) (n0 := 0) (s0 := 0) (by decide) (by omega)) ⟨rfl, rfl⟩
set_option maxHeartbeats 4000000 in
set_option maxRecDepth 100000 in
theorem c_CW_buildT (l : Launch) (G : jm_G) (hl : l.stackTraces = false) (d : Nat) (hd : 7 ≤ d) {h : jm_H} {x Y n : Nat} {B : Nat → Int32} {fc fp : Int32} {m : Nat} {R : Nat → CRec} {T : Nat → Term} {ls : Nat} {tot : Int32} {LT : Nat → Int64} (hI : CWI h x Y n B fc fp m R T ls tot LT) (hq : q_nm B n = 0) : ∃ h1, jm_CT l G mm_CW_build d [.ref x] h "java/util/NoSuchElementException" (jm_thr h1) ∧ CWI h1 x Y n B fc fp m R T ls tot LT ∧ MvCW x Y h h1 0 0 := by
  obtain ⟨⟨tx, x0, x1, x2⟩, ⟨f, c, k, L, N, ST, DT, NA, PL, nme, hRX⟩, ⟨RS, hC⟩, hO, hA, hBd, ⟨wn, wk, wv, wS, hW⟩, ⟨hn, hls, hY1, hY2⟩, hAc⟩ := id hI
  obtain ⟨hR, hf1, hf2, hL31, hN31, hf3⟩ := id hRX
  obtain ⟨tr, r0, r1, r2, r3, r4, r5, r6, tp, ⟨ta, g0, f1, g2, g3, g4, g5, g6, tb⟩, hBy, hF, hST, hDT, hNA, hPL, hdis, hcs⟩ := id hR
  obtain ⟨h1, hCT, hI1, hfr1⟩ := c_CW_nameT l G hl (d - 1) (by omega) hI hq
  refine ⟨h1, ?_, hI1, MvCW.of_fr hfr1 (fun b hb => Or.inl (by omega))⟩
  refine jm_ofT (by decide) rfl (Nat.le_of_ble_eq_true rfl) ?_
  refine jx_aload_n d_CW_build_0 0 rfl ?_
  exact jx_callVX (M2 := mm_CW_nameOnTape) rfl rfl tx lk_CW_69 wi_CW_nameOnTape ws_CW_nameOnTape d_CW_build_1 hCT cd_CW_nameOnTape rfl rfl (Nat.le_of_ble_eq_true rfl) (jm_fok (G := G) (n0 := 0) (s0 := 0) (by omega)) (jm_look (G := G) (n0 := 0) (s0 := 0) (by decide) (by omega)) ⟨rfl, rfl⟩
set_option maxHeartbeats 4000000 in
set_option maxRecDepth 100000 in
theorem c_CW_valueT (l : Launch) (G : jm_G) (hl : l.stackTraces = false) (d : Nat) (hd : 7 ≤ d) {h : jm_H} {x Y n : Nat} {B : Nat → Int32} {fc fp : Int32} {m : Nat} {R : Nat → CRec} {T : Nat → Term} {ls : Nat} {tot : Int32} {LT : Nat → Int64} (hI : CWI h x Y n B fc fp m R T ls tot LT) (hq : q_nm B n = 0) : ∃ h1, jm_CT l G mm_CW_value d [.ref x] h "java/util/NoSuchElementException" (jm_thr h1) ∧ CWI h1 x Y n B fc fp m R T ls tot LT ∧ MvCW x Y h h1 0 0 := by
  obtain ⟨⟨tx, x0, x1, x2⟩, ⟨f, c, k, L, N, ST, DT, NA, PL, nme, hRX⟩, ⟨RS, hC⟩, hO, hA, hBd, ⟨wn, wk, wv, wS, hW⟩, ⟨hn, hls, hY1, hY2⟩, hAc⟩ := id hI
  obtain ⟨hR, hf1, hf2, hL31, hN31, hf3⟩ := id hRX
  obtain ⟨tr, r0, r1, r2, r3, r4, r5, r6, tp, ⟨ta, g0, f1, g2, g3, g4, g5, g6, tb⟩, hBy, hF, hST, hDT, hNA, hPL, hdis, hcs⟩ := id hR
  obtain ⟨h1, hCT, hI1, hfr1⟩ := c_CW_nameT l G hl (d - 1) (by omega) hI hq
  refine ⟨h1, ?_, hI1, MvCW.of_fr hfr1 (fun b hb => Or.inl (by omega))⟩
  refine jm_ofT (by decide) rfl (Nat.le_of_ble_eq_true rfl) ?_
  refine jx_aload_n d_CW_value_0 0 rfl ?_
  refine jx_get d_CW_value_1 fF_CW_19 tx x1 ?_
  refine jx_aload_n d_CW_value_4 0 rfl ?_
  refine jx_get d_CW_value_5 fF_CW_19 tx x1 ?_
  refine jx_aload_n d_CW_value_8 0 rfl ?_
  exact jx_callVX (M2 := mm_CW_nameOnTape) rfl rfl tx lk_CW_69 wi_CW_nameOnTape ws_CW_nameOnTape d_CW_value_9 hCT cd_CW_nameOnTape rfl rfl (Nat.le_of_ble_eq_true rfl) (jm_fok (G := G) (n0 := 0) (s0 := 0) (by omega)) (jm_look (G := G) (n0 := 0) (s0 := 0) (by decide) (by omega)) ⟨rfl, rfl⟩
set_option maxHeartbeats 4000000 in
set_option maxRecDepth 100000 in
theorem c_CW_stateT (l : Launch) (G : jm_G) (hl : l.stackTraces = false) (d : Nat) (hd : 7 ≤ d) {h : jm_H} {x Y n : Nat} {B : Nat → Int32} {fc fp : Int32} {m : Nat} {R : Nat → CRec} {T : Nat → Term} {ls : Nat} {tot : Int32} {LT : Nat → Int64} (hI : CWI h x Y n B fc fp m R T ls tot LT) (hq : q_nm B n = 0) : ∃ h1, jm_CT l G mm_CW_state d [.ref x] h "java/util/NoSuchElementException" (jm_thr h1) ∧ CWI h1 x Y n B fc fp m R T ls tot LT ∧ MvCW x Y h h1 0 0 := by
  obtain ⟨⟨tx, x0, x1, x2⟩, ⟨f, c, k, L, N, ST, DT, NA, PL, nme, hRX⟩, ⟨RS, hC⟩, hO, hA, hBd, ⟨wn, wk, wv, wS, hW⟩, ⟨hn, hls, hY1, hY2⟩, hAc⟩ := id hI
  obtain ⟨hR, hf1, hf2, hL31, hN31, hf3⟩ := id hRX
  obtain ⟨tr, r0, r1, r2, r3, r4, r5, r6, tp, ⟨ta, g0, f1, g2, g3, g4, g5, g6, tb⟩, hBy, hF, hST, hDT, hNA, hPL, hdis, hcs⟩ := id hR
  obtain ⟨h1, hCT, hI1, hfr1⟩ := c_CW_nameT l G hl (d - 1) (by omega) hI hq
  refine ⟨h1, ?_, hI1, MvCW.of_fr hfr1 (fun b hb => Or.inl (by omega))⟩
  refine jm_ofT (by decide) rfl (Nat.le_of_ble_eq_true rfl) ?_
  refine jx_aload_n d_CW_state_0 0 rfl ?_
  refine jx_get d_CW_state_1 fF_CW_19 tx x1 ?_
  refine jx_aload_n d_CW_state_4 0 rfl ?_
  exact jx_callVX (M2 := mm_CW_nameOnTape) rfl rfl tx lk_CW_69 wi_CW_nameOnTape ws_CW_nameOnTape d_CW_state_5 hCT cd_CW_nameOnTape rfl rfl (Nat.le_of_ble_eq_true rfl) (jm_fok (G := G) (n0 := 0) (s0 := 0) (by omega)) (jm_look (G := G) (n0 := 0) (s0 := 0) (by decide) (by omega)) ⟨rfl, rfl⟩
set_option maxHeartbeats 4000000 in
set_option maxRecDepth 100000 in
theorem c_CW_readersT (l : Launch) (G : jm_G) (hl : l.stackTraces = false) (d : Nat) (hd : 7 ≤ d) {h : jm_H} {x Y n : Nat} {B : Nat → Int32} {fc fp : Int32} {m : Nat} {R : Nat → CRec} {T : Nat → Term} {ls : Nat} {tot : Int32} {LT : Nat → Int64} {z : Int32} (hI : CWI h x Y n B fc fp m R T ls tot LT) (hq : q_nm B n = 0) : ∃ h1, jm_CT l G mm_CW_readers d [.ref x, .int z] h "java/util/NoSuchElementException" (jm_thr h1) ∧ CWI h1 x Y n B fc fp m R T ls tot LT ∧ MvCW x Y h h1 0 0 := by
  obtain ⟨⟨tx, x0, x1, x2⟩, ⟨f, c, k, L, N, ST, DT, NA, PL, nme, hRX⟩, ⟨RS, hC⟩, hO, hA, hBd, ⟨wn, wk, wv, wS, hW⟩, ⟨hn, hls, hY1, hY2⟩, hAc⟩ := id hI
  obtain ⟨hR, hf1, hf2, hL31, hN31, hf3⟩ := id hRX
  obtain ⟨tr, r0, r1, r2, r3, r4, r5, r6, tp, ⟨ta, g0, f1, g2, g3, g4, g5, g6, tb⟩, hBy, hF, hST, hDT, hNA, hPL, hdis, hcs⟩ := id hR
  obtain ⟨h1, hCT, hI1, hfr1⟩ := c_CW_nameT l G hl (d - 1) (by omega) hI hq
  refine ⟨h1, ?_, hI1, MvCW.of_fr hfr1 (fun b hb => Or.inl (by omega))⟩
  refine jm_ofT (by decide) rfl (Nat.le_of_ble_eq_true rfl) ?_
  refine jx_aload_n d_CW_readers_0 0 rfl ?_
  exact jx_callVX (M2 := mm_CW_nameOnTape) rfl rfl tx lk_CW_69 wi_CW_nameOnTape ws_CW_nameOnTape d_CW_readers_1 hCT cd_CW_nameOnTape rfl rfl (Nat.le_of_ble_eq_true rfl) (jm_fok (G := G) (n0 := 0) (s0 := 0) (by omega)) (jm_look (G := G) (n0 := 0) (s0 := 0) (by decide) (by omega)) ⟨rfl, rfl⟩
