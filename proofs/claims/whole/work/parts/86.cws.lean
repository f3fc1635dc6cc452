def insT (T : Nat → Term) (K : Nat) (t : Term) (j : Nat) : Term := if j < K then T j else if j = K then t else T (j - 1)
theorem insT_eq {T : Nat → Term} {K : Nat} {t : Term} : insT T K t K = t := by unfold insT; rw [if_neg (by omega), if_pos rfl]
theorem insT_od {T : Nat → Term} {K j : Nat} {t : Term} (h : j ≠ K) : insT T K t j = T (odI K j) := by
  unfold insT odI
  by_cases e : j < K
  · rw [if_pos e, if_pos e]
  · rw [if_neg e, if_neg h, if_neg e]
theorem CWI.newc {h : jm_H} {x Y n : Nat} {B : Nat → Int32} {fc fp : Int32} {m : Nat} {R : Nat → CRec} {T : Nat → Term} {ls : Nat} {tot : Int32} {LT : Nat → Int64} {f : Nat} {c : Cur} {k L N : Nat} {ST DT : Nat → Int32} {NA : Nat → Int64} {PL : Nat → Int32} {nme : Int64} {t : Term} {h' h9 : jm_H} {A : Nat} {SK : Nat → Int32} {SV RS : Nat → Int64} (hI : CWI h x Y n B fc fp m R T ls tot LT) (hRX : RdX h x Y n B fc fp m R f c k L N ST DT NA PL nme) (ht : Tree t) (hcd : Cdx ST DT NA PL t 0 0 L N) (hm : m < 64) (hix : q_ix R m nme = none) (hno : NoC R m nme N NA) (hA0 : h.1 = A)
    (ag : Agr (fun b => b < A ∧ b ≠ x + 1) h h') (tr : h'.2.2.1 (x + 1) = (jm_o 1, 7)) (kr : ∀ j, j ≠ 1 → h'.2.2.2 (x + 1) j = h.2.2.2 (x + 1) j) (kr1 : h'.2.2.2 (x + 1) 1 = .ref (A + 1)) (hF' : FmA h' (A + 1) 0 0) (z1 : arI h' (A + 1 + 1) 80 (fun _ => 0)) (z2 : arI h' (A + 1 + 2) 80 (fun _ => 0)) (z3 : arL h' (A + 1 + 3) 40 (fun _ => 0)) (hTy' : TySn h' (A + 1)) (e1 : h'.1 = A + 7) (e2 : h'.2.1 = h.2.1 + 292) (fr : jm_fr (fun b => b = x + 11 ∨ b = x + 11 + 1) h' h9) (hC9 : CsA h9 (x + 11) (m + 1) (insR R (q_pl R m nme) (newRec A f nme 0 0 L N ST DT NA SK SV)) RS) : CWI h9 x Y n B fc fp (m + 1) (insR R (q_pl R m nme) (newRec A f nme 0 0 L N ST DT NA SK SV)) (insT T (q_pl R m nme) t) ls tot LT ∧ MvCW x Y h h9 7 292 := by
  obtain ⟨⟨tx, x0, x1, x2⟩, -, ⟨RS0, hC⟩, hO, hA, hB, ⟨wn, kd, v, S, hW⟩, ⟨b1, b2, b3, b4⟩, hAc⟩ := id hI
  obtain ⟨hR, hf1, hf2, hL, hN, hf3, hTy⟩ := id hRX
  obtain ⟨o1, o2, o3, o4, o5, o6⟩ := id hO
  have hK := q_pl_le R m nme
  have a9 := Agr.of_fr fr
  have e9 : h9.1 = A + 7 := fr.1.trans e1
  have ag9 : Agr (fun b => b < A ∧ b ≠ x + 1 ∧ b ≠ x + 11 ∧ b ≠ x + 11 + 1) h h9 := fun b hb => by
    have u := ag b ⟨hb.1, hb.2.1⟩
    have w := a9 b (by omega)
    exact ⟨w.1.trans u.1, fun j => (w.2 j).trans (u.2 j)⟩
  have hx := ag9 x (by omega)
  have w1 := a9 (x + 1) (by omega)
  have nf : ∀ j, j ≤ 5 → ¬ (A + 1 + j = x + 11 ∨ A + 1 + j = x + 11 + 1) := fun j hj => by omega
  have kfn : ∀ q, q < m + 1 → k_f (insR R (q_pl R m nme) (newRec A f nme 0 0 L N ST DT NA SK SV) q) + 5 < A := fun q hq => by
    by_cases e : q = q_pl R m nme
    · rw [e, insR_eq]; show f + 5 < A; omega
    · rw [insR_od e]
      have := (hA _ (odI_lt hK hq e)).2.1
      omega
  refine ⟨⟨⟨hx.1.trans tx, (hx.2 0).trans x0, (hx.2 1).trans x1, (hx.2 2).trans x2⟩, ⟨A + 1, c, k, 0, 0, _, _, _, PL, nme, hR.xch (ag9.weak fun b hb => by omega) (w1.1.trans tr) (fun j hj => (w1.2 j).trans (kr j hj)) ((w1.2 1).trans kr1) (hF'.ag a9 (nf 0 (by decide)) (nf 1 (by decide)) (nf 2 (by decide)) (nf 3 (by decide)) (nf 4 (by decide)) (nf 5 (by decide))) (z1.ag a9 (nf 1 (by decide))) (z2.ag a9 (nf 2 (by decide))) (z3.ag a9 (nf 3 (by decide))) (by omega), Or.inr (by omega), by omega, by decide, by decide, fun q hq => by have := kfn q hq; omega, hTy'.ag a9 (nf 4 (by decide)) (nf 5 (by decide))⟩, ⟨RS, hC9⟩, ⟨by omega, SortR.ins (r := newRec A f nme 0 0 L N ST DT NA SK SV) o2 hix, fun i j hi hj hij => ?_, fun i j hi hj hij => ?_, fun i hi => ?_, fun i hi => ?_⟩, fun i hi => ?_, hB.ag ag9 (by omega) (by omega), ⟨wn, kd, v, S, hW.ag ag9 (by omega) (by omega)⟩, ⟨b1, b2, b3, by omega⟩, Acyc.ins (r := newRec A f nme 0 0 L N ST DT NA SK SV) o2 hm hAc hno⟩, ?_⟩
  · by_cases e : i = q_pl R m nme
    · rw [e, insR_eq, insR_od (by omega)]; exact hf3 _ (odI_lt hK hj (by omega))
    · by_cases e' : j = q_pl R m nme
      · rw [e', insR_eq, insR_od e]; exact fun z => hf3 _ (odI_lt hK hi e) z.symm
      · rw [insR_od e, insR_od e']; exact o3 _ _ (odI_lt hK hi e) (odI_lt hK hj e') (odI_inj e e' hij)
  · by_cases e : i = q_pl R m nme
    · rw [e, insR_eq, insR_od (by omega)]
      have := (hA _ (odI_lt hK hj (show j ≠ q_pl R m nme by omega))).2.2.2
      show A ≠ _; omega
    · by_cases e' : j = q_pl R m nme
      · rw [e', insR_eq, insR_od e]
        have := (hA _ (odI_lt hK hi e)).2.2.2
        show _ ≠ A; omega
      · rw [insR_od e, insR_od e']; exact o4 _ _ (odI_lt hK hi e) (odI_lt hK hj e') (odI_inj e e' hij)
  · by_cases e : i = q_pl R m nme
    · rw [e, insR_eq]; show f + 5 < x + 11 ∨ x + 11 + 7 ≤ f; omega
    · rw [insR_od e]; exact o5 _ (odI_lt hK hi e)
  · by_cases e : i = q_pl R m nme
    · rw [e, insR_eq, insT_eq]; exact ⟨ht, PL, hcd⟩
    · rw [insR_od e, insT_od e]; exact o6 _ (odI_lt hK hi e)
  · by_cases e : i = q_pl R m nme
    · rw [e, insR_eq]; exact ⟨hf1, by show f + 5 < _; omega, by show Y ≤ A; omega, by show A < _; omega⟩
    · rw [insR_od e]
      obtain ⟨d1, d2, d3, d4⟩ := hA _ (odI_lt hK hi e)
      exact ⟨d1, by omega, d3, by omega⟩
  · refine ⟨fun b hb => ?_, by omega, by omega, by rw [fr.2.1, e2]; omega, by rw [fr.2.1, e2]; omega⟩
    have h1 := hb.1
    unfold S_cw at h1
    exact ag9 b (by omega)
set_option maxHeartbeats 4000000 in
set_option maxRecDepth 100000 in
theorem c_CW_settleR (l : Launch) (G : jm_G) (d : Nat) (hd : 5 ≤ d) {h : jm_H} {x Y n : Nat} {B : Nat → Int32} {fc fp : Int32} {m : Nat} {R : Nat → CRec} {T : Nat → Term} {ls : Nat} {tot : Int32} {LT : Nat → Int64} {f : Nat} {c : Cur} {k L N : Nat} {ST DT : Nat → Int32} {NA : Nat → Int64} {PL : Nat → Int32} {nme : Int64} {t : Term} (hI : CWI h x Y n B fc fp m R T ls tot LT) (hRX : RdX h x Y n B fc fp m R f c k L N ST DT NA PL nme) (ht : Tree t) (hcd : Cdx ST DT NA PL t 0 0 L N) (hL79 : L ≤ 79) (hN40 : N ≤ 40) (hix : q_ix R m nme = none) (hm : m = 64) : jm_CP l G mm_CW_settle d [.ref x] h (fun v h9 => v = none ∧ CWI h9 x Y n B 4 0 m R T ls tot LT ∧ MvCW x Y h h9 0 0) := by
  obtain ⟨⟨tx, x0, x1, x2⟩, -, ⟨RS, hC⟩, hO, hA, hBd, -, ⟨hn, hls, hY1, hY2⟩, hAc⟩ := id hI
  obtain ⟨hR, hf1, hf2, hL31, hN31, hf3, hTy⟩ := id hRX
  obtain ⟨tr, r0, r1, r2, r3, r4, r5, r6, tp, ⟨ta, g0, f1, g2, g3, g4, g5, g6, tb⟩, hBy, hF, hST, hDT, hNA, hPL, hdis, hcs⟩ := id hR
  refine jm_of (by decide) rfl (Nat.le_of_ble_eq_true rfl) ?_
  refine jx_aload_n d_CW_settle_0 0 rfl ?_
  refine jx_get d_CW_settle_1 fF_CW_19 tx x1 ?_
  refine jx_aload_n d_CW_settle_4 0 rfl ?_
  refine jx_get d_CW_settle_5 fF_CW_12 tx x0 ?_
  refine jx_get d_CW_settle_8 fF_CW_149 tr r2 ?_
  have hCf := c_Cs_find l G (d - 1) (by omega) (u := nme) hC hO.2.1
  rw [hix] at hCf
  refine jx_callV (M2 := mm_Cs_find) rfl hC.1 lk_CW_88 wi_Cs_find ws_Cs_find d_CW_settle_11 hCf cd_Cs_find rfl rfl (Nat.le_of_ble_eq_true rfl) (jm_fok (by omega)) (jm_look (by decide) (by omega)) ?_
  refine jx_astore_nN (lv' := [(1, .null), (0, .ref (x))]) d_CW_settle_14 (by decide) rfl ?_
  refine jx_aload_nN d_CW_settle_15 0 rfl ?_
  refine jx_ifnonnullN d_CW_settle_16 ?_
  refine jx_aload_n d_CW_settle_19 1 rfl ?_
  refine jx_get d_CW_settle_20 fF_CW_19 tx x1 ?_
  refine jx_get d_CW_settle_23 fF_CW_126 hC.1 hC.2.2.1 ?_
  refine jx_bipush (v0 := 64) d_CW_settle_26 (by decide) ?_
  refine jx_icmp_neN (tgt := 41) (m) (64) d_CW_settle_28 rfl rfl (by omega) (by omega) (by decide) (fun c1 => ?_) (fun c1 => ?_)
  · omega
  ·
    refine jx_aload_n d_CW_settle_31 1 rfl ?_
    refine jx_get d_CW_settle_32 fF_CW_12 tx x0 ?_
    refine jx_iconst (v0 := 4) d_CW_settle_35 (by decide) ?_
    refine jx_iconst (v0 := 0) d_CW_settle_36 (by decide) ?_
    refine jx_callV (M2 := mm_Rd_refuseAt) rfl tr lk_CW_153 wi_Rd_refuseAt ws_Rd_refuseAt d_CW_settle_37 (c_Rd_refuseA l G (d - 1) (h := h) (q := 4) (p := 0) tr) cd_Rd_refuseAt rfl rfl (Nat.le_of_ble_eq_true rfl) (jm_fok (by omega)) (jm_look (by decide) (by omega)) ?_
    exact jx_vret d_CW_settle_40 rfl (⟨_, rfl, rfl, (hI.mkR hRX (((jm_fr.rf.put (S := S_rx x f) (Or.inr (Or.inl rfl))).put (Or.inr (Or.inl rfl)))) (RdC.flt hR) hn (by omega) (by omega)), (MvCW.of_fr (((jm_fr.rf.put (S := S_rx x f) (Or.inr (Or.inl rfl))).put (Or.inr (Or.inl rfl)))) (fun b hb => S_rx_cw hf1 hb))⟩)
set_option maxHeartbeats 4000000 in
set_option maxRecDepth 100000 in
theorem c_CW_settleCn (l : Launch) (G : jm_G) (d : Nat) (hd : 5 ≤ d) {h : jm_H} {x Y n : Nat} {B : Nat → Int32} {fc fp : Int32} {m : Nat} {R : Nat → CRec} {T : Nat → Term} {ls : Nat} {tot : Int32} {LT : Nat → Int64} {f : Nat} {c : Cur} {k L N : Nat} {ST DT : Nat → Int32} {NA : Nat → Int64} {PL : Nat → Int32} {nme : Int64} {t : Term} (hI : CWI h x Y n B fc fp m R T ls tot LT) (hRX : RdX h x Y n B fc fp m R f c k L N ST DT NA PL nme) (ht : Tree t) (hcd : Cdx ST DT NA PL t 0 0 L N) (hL79 : L ≤ 79) (hN40 : N ≤ 40) (hix : q_ix R m nme = none) (hm : m < 64) {i : Nat} (hi : i < N) (hci : ∀ RS, firstN (q_back R m (q_drun (q_trs R m RS m) m m (q_dir R nme m) 0) nme NA) N = some i) : jm_CP l G mm_CW_settle d [.ref x] h (fun v h9 => v = none ∧ CWI h9 x Y n B 5 (PL i) m R T ls tot LT ∧ MvCW x Y h h9 0 0) := by
  obtain ⟨⟨tx, x0, x1, x2⟩, -, ⟨RS, hC⟩, hO, hA, hBd, -, ⟨hn, hls, hY1, hY2⟩, hAc⟩ := id hI
  obtain ⟨hR, hf1, hf2, hL31, hN31, hf3, hTy⟩ := id hRX
  obtain ⟨tr, r0, r1, r2, r3, r4, r5, r6, tp, ⟨ta, g0, f1, g2, g3, g4, g5, g6, tb⟩, hBy, hF, hST, hDT, hNA, hPL, hdis, hcs⟩ := id hR
  refine jm_of (by decide) rfl (Nat.le_of_ble_eq_true rfl) ?_
  refine jx_aload_n d_CW_settle_0 0 rfl ?_
  refine jx_get d_CW_settle_1 fF_CW_19 tx x1 ?_
  refine jx_aload_n d_CW_settle_4 0 rfl ?_
  refine jx_get d_CW_settle_5 fF_CW_12 tx x0 ?_
  refine jx_get d_CW_settle_8 fF_CW_149 tr r2 ?_
  have hCf := c_Cs_find l G (d - 1) (by omega) (u := nme) hC hO.2.1
  rw [hix] at hCf
  refine jx_callV (M2 := mm_Cs_find) rfl hC.1 lk_CW_88 wi_Cs_find ws_Cs_find d_CW_settle_11 hCf cd_Cs_find rfl rfl (Nat.le_of_ble_eq_true rfl) (jm_fok (by omega)) (jm_look (by decide) (by omega)) ?_
  refine jx_astore_nN (lv' := [(1, .null), (0, .ref (x))]) d_CW_settle_14 (by decide) rfl ?_
  refine jx_aload_nN d_CW_settle_15 0 rfl ?_
  refine jx_ifnonnullN d_CW_settle_16 ?_
  refine jx_aload_n d_CW_settle_19 1 rfl ?_
  refine jx_get d_CW_settle_20 fF_CW_19 tx x1 ?_
  refine jx_get d_CW_settle_23 fF_CW_126 hC.1 hC.2.2.1 ?_
  refine jx_bipush (v0 := 64) d_CW_settle_26 (by decide) ?_
  refine jx_icmp_neN (tgt := 41) (m) (64) d_CW_settle_28 rfl rfl (by omega) (by omega) (by decide) (fun c1 => ?_) (fun c1 => ?_)
  ·
    refine jx_aload_n d_CW_settle_41 1 rfl ?_
    refine jx_get d_CW_settle_42 fF_CW_19 tx x1 ?_
    refine jx_aload_n d_CW_settle_45 1 rfl ?_
    refine jx_get d_CW_settle_46 fF_CW_12 tx x0 ?_
    refine jx_get d_CW_settle_49 fF_CW_149 tr r2 ?_
    refine jx_aload_n d_CW_settle_52 1 rfl ?_
    refine jx_get d_CW_settle_53 fF_CW_12 tx x0 ?_
    refine jx_get d_CW_settle_56 fF_CW_157 tr r1 ?_
    have hCc := c_Cs_firstInCircle l G (d - 1) (by omega) (u := nme) hC hO.2.1 hF hNA hN40
    rw [hci] at hCc
    obtain ⟨hI1, hMv1⟩ := hI.trh hC
    have hRX1 := RdX.trh hC hY1 hRX
    obtain ⟨⟨tx1, x01, x11, x21⟩, -, ⟨RS1, hC1⟩, hO1, hA1, hBd1, -, ⟨hn1, hls1, hY11, hY21⟩, hAc1⟩ := id hI1
    obtain ⟨hR1, hf11, hf21, hL311, hN311, hf31, hTy1⟩ := id hRX1
    obtain ⟨tr1, r01, r11, r21, r31, r41, r51, r61, tp1, ⟨ta1, g01, f11, g21, g31, g41, g51, g61, tb1⟩, hBy1, hF1, hST1, hDT1, hNA1, hPL1, hdis1, hcs1⟩ := id hR1
    refine jx_callV (M2 := mm_Cs_firstInCircle) rfl hC.1 lk_CW_161 wi_Cs_firstInCircle ws_Cs_firstInCircle d_CW_settle_59 hCc cd_Cs_firstInCircle rfl rfl (Nat.le_of_ble_eq_true rfl) (jm_fok (by omega)) (jm_look (by decide) (by omega)) ?_
    refine jx_istore_n (lv' := [(2, .int (nI (i))), (1, .null), (0, .ref (x))]) d_CW_settle_62 (by decide) rfl ?_
    refine jx_iload_n d_CW_settle_63 0 rfl ?_
    refine jx_iconst (v0 := -1) d_CW_settle_64 (by decide) ?_
    refine jx_icmp_eq (tgt := 85) d_CW_settle_65 (by decide) (fun c2 => absurd c2 (nI_nm1 (by omega))) (fun c2 => ?_)
    refine jx_aload_n d_CW_settle_68 2 rfl ?_
    refine jx_get d_CW_settle_69 fF_CW_12 tx1 x01 ?_
    refine jx_iconst (v0 := 5) d_CW_settle_72 (by decide) ?_
    refine jx_aload_n d_CW_settle_73 2 rfl ?_
    refine jx_get d_CW_settle_74 fF_CW_12 tx1 x01 ?_
    refine jx_iload_n d_CW_settle_77 0 rfl ?_
    refine jx_callV (M2 := mm_Rd_placeOfName) rfl tr1 lk_CW_165 wi_Rd_placeOfName ws_Rd_placeOfName d_CW_settle_78 (c_Rd_placeA l G (d - 1) tr1 r61 tp1 hPL1 (by omega)) cd_Rd_placeOfName rfl rfl (Nat.le_of_ble_eq_true rfl) (jm_fok (by omega)) (jm_look (by decide) (by omega)) ?_
    refine jx_callV (M2 := mm_Rd_refuseAt) rfl tr1 lk_CW_153 wi_Rd_refuseAt ws_Rd_refuseAt d_CW_settle_81 (c_Rd_refuseA l G (d - 1) (h := (q_trh R m (x + 11) h m)) (q := 5) (p := PL i) tr1) cd_Rd_refuseAt rfl rfl (Nat.le_of_ble_eq_true rfl) (jm_fok (by omega)) (jm_look (by decide) (by omega)) ?_
    exact jx_vret d_CW_settle_84 rfl (⟨_, rfl, rfl, (hI1.mkR hRX1 (((jm_fr.rf.put (S := S_rx x f) (Or.inr (Or.inl rfl))).put (Or.inr (Or.inl rfl)))) (RdC.flt hR1) hn (by omega) (by omega)), hMv1.trans0 (MvCW.of_fr (((jm_fr.rf.put (S := S_rx x f) (Or.inr (Or.inl rfl))).put (Or.inr (Or.inl rfl)))) (fun b hb => S_rx_cw hf1 hb))⟩)
  · omega
set_option maxHeartbeats 4000000 in
set_option maxRecDepth 100000 in
theorem c_CW_settleCo (l : Launch) (G : jm_G) (d : Nat) (hd : 5 ≤ d) {h : jm_H} {x Y n : Nat} {B : Nat → Int32} {fc fp : Int32} {m : Nat} {R : Nat → CRec} {T : Nat → Term} {ls : Nat} {tot : Int32} {LT : Nat → Int64} {f : Nat} {c : Cur} {k L N : Nat} {ST DT : Nat → Int32} {NA : Nat → Int64} {PL : Nat → Int32} {nme : Int64} {t : Term} (hI : CWI h x Y n B fc fp m R T ls tot LT) (hRX : RdX h x Y n B fc fp m R f c k L N ST DT NA PL nme) (ht : Tree t) (hcd : Cdx ST DT NA PL t 0 0 L N) (hL79 : L ≤ 79) (hN40 : N ≤ 40) {p : Nat} (hix : q_ix R m nme = some p) (hp : p < m) {i : Nat} (hi : i < N) (hci : ∀ RS, firstN (q_back R m (q_drun (q_trs R m RS m) m m (q_dir R nme m) 0) nme NA) N = some i) : jm_CP l G mm_CW_settle d [.ref x] h (fun v h9 => v = none ∧ CWI h9 x Y n B 5 (PL i) m R T ls tot LT ∧ MvCW x Y h h9 0 0) := by
  obtain ⟨⟨tx, x0, x1, x2⟩, -, ⟨RS, hC⟩, hO, hA, hBd, -, ⟨hn, hls, hY1, hY2⟩, hAc⟩ := id hI
  obtain ⟨hR, hf1, hf2, hL31, hN31, hf3, hTy⟩ := id hRX
  obtain ⟨tr, r0, r1, r2, r3, r4, r5, r6, tp, ⟨ta, g0, f1, g2, g3, g4, g5, g6, tb⟩, hBy, hF, hST, hDT, hNA, hPL, hdis, hcs⟩ := id hR
  refine jm_of (by decide) rfl (Nat.le_of_ble_eq_true rfl) ?_
  refine jx_aload_n d_CW_settle_0 0 rfl ?_
  refine jx_get d_CW_settle_1 fF_CW_19 tx x1 ?_
  refine jx_aload_n d_CW_settle_4 0 rfl ?_
  refine jx_get d_CW_settle_5 fF_CW_12 tx x0 ?_
  refine jx_get d_CW_settle_8 fF_CW_149 tr r2 ?_
  have hCf := c_Cs_find l G (d - 1) (by omega) (u := nme) hC hO.2.1
  rw [hix] at hCf
  refine jx_callV (M2 := mm_Cs_find) rfl hC.1 lk_CW_88 wi_Cs_find ws_Cs_find d_CW_settle_11 hCf cd_Cs_find rfl rfl (Nat.le_of_ble_eq_true rfl) (jm_fok (by omega)) (jm_look (by decide) (by omega)) ?_
  refine jx_astore_n (lv' := [(1, .ref (k_a (R p))), (0, .ref (x))]) d_CW_settle_14 (by decide) rfl ?_
  refine jx_aload_n d_CW_settle_15 0 rfl ?_
  refine jx_ifnonnull (tgt := 41) d_CW_settle_16 (by decide) ?_
  refine jx_aload_n d_CW_settle_41 1 rfl ?_
  refine jx_get d_CW_settle_42 fF_CW_19 tx x1 ?_
  refine jx_aload_n d_CW_settle_45 1 rfl ?_
  refine jx_get d_CW_settle_46 fF_CW_12 tx x0 ?_
  refine jx_get d_CW_settle_49 fF_CW_149 tr r2 ?_
  refine jx_aload_n d_CW_settle_52 1 rfl ?_
  refine jx_get d_CW_settle_53 fF_CW_12 tx x0 ?_
  refine jx_get d_CW_settle_56 fF_CW_157 tr r1 ?_
  have hCc := c_Cs_firstInCircle l G (d - 1) (by omega) (u := nme) hC hO.2.1 hF hNA hN40
  rw [hci] at hCc
  obtain ⟨hI1, hMv1⟩ := hI.trh hC
  have hRX1 := RdX.trh hC hY1 hRX
  obtain ⟨⟨tx1, x01, x11, x21⟩, -, ⟨RS1, hC1⟩, hO1, hA1, hBd1, -, ⟨hn1, hls1, hY11, hY21⟩, hAc1⟩ := id hI1
  obtain ⟨hR1, hf11, hf21, hL311, hN311, hf31, hTy1⟩ := id hRX1
  obtain ⟨tr1, r01, r11, r21, r31, r41, r51, r61, tp1, ⟨ta1, g01, f11, g21, g31, g41, g51, g61, tb1⟩, hBy1, hF1, hST1, hDT1, hNA1, hPL1, hdis1, hcs1⟩ := id hR1
  have hrp := hC1.2.2.2.2.2.2.2.2 p hp
  refine jx_callV (M2 := mm_Cs_firstInCircle) rfl hC.1 lk_CW_161 wi_Cs_firstInCircle ws_Cs_firstInCircle d_CW_settle_59 hCc cd_Cs_firstInCircle rfl rfl (Nat.le_of_ble_eq_true rfl) (jm_fok (by omega)) (jm_look (by decide) (by omega)) ?_
  refine jx_istore_n (lv' := [(2, .int (nI (i))), (1, .ref (k_a (R p))), (0, .ref (x))]) d_CW_settle_62 (by decide) rfl ?_
  refine jx_iload_n d_CW_settle_63 0 rfl ?_
  refine jx_iconst (v0 := -1) d_CW_settle_64 (by decide) ?_
  refine jx_icmp_eq (tgt := 85) d_CW_settle_65 (by decide) (fun c1 => absurd c1 (nI_nm1 (by omega))) (fun c1 => ?_)
  refine jx_aload_n d_CW_settle_68 2 rfl ?_
  refine jx_get d_CW_settle_69 fF_CW_12 tx1 x01 ?_
  refine jx_iconst (v0 := 5) d_CW_settle_72 (by decide) ?_
  refine jx_aload_n d_CW_settle_73 2 rfl ?_
  refine jx_get d_CW_settle_74 fF_CW_12 tx1 x01 ?_
  refine jx_iload_n d_CW_settle_77 0 rfl ?_
  refine jx_callV (M2 := mm_Rd_placeOfName) rfl tr1 lk_CW_165 wi_Rd_placeOfName ws_Rd_placeOfName d_CW_settle_78 (c_Rd_placeA l G (d - 1) tr1 r61 tp1 hPL1 (by omega)) cd_Rd_placeOfName rfl rfl (Nat.le_of_ble_eq_true rfl) (jm_fok (by omega)) (jm_look (by decide) (by omega)) ?_
  refine jx_callV (M2 := mm_Rd_refuseAt) rfl tr1 lk_CW_153 wi_Rd_refuseAt ws_Rd_refuseAt d_CW_settle_81 (c_Rd_refuseA l G (d - 1) (h := (q_trh R m (x + 11) h m)) (q := 5) (p := PL i) tr1) cd_Rd_refuseAt rfl rfl (Nat.le_of_ble_eq_true rfl) (jm_fok (by omega)) (jm_look (by decide) (by omega)) ?_
  exact jx_vret d_CW_settle_84 rfl (⟨_, rfl, rfl, (hI1.mkR hRX1 (((jm_fr.rf.put (S := S_rx x f) (Or.inr (Or.inl rfl))).put (Or.inr (Or.inl rfl)))) (RdC.flt hR1) hn (by omega) (by omega)), hMv1.trans0 (MvCW.of_fr (((jm_fr.rf.put (S := S_rx x f) (Or.inr (Or.inl rfl))).put (Or.inr (Or.inl rfl)))) (fun b hb => S_rx_cw hf1 hb))⟩)
set_option maxHeartbeats 4000000 in
set_option maxRecDepth 100000 in
theorem c_CW_settleO (l : Launch) (G : jm_G) (d : Nat) (hd : 5 ≤ d) {h : jm_H} {x Y n : Nat} {B : Nat → Int32} {fc fp : Int32} {m : Nat} {R : Nat → CRec} {T : Nat → Term} {ls : Nat} {tot : Int32} {LT : Nat → Int64} {f : Nat} {c : Cur} {k L N : Nat} {ST DT : Nat → Int32} {NA : Nat → Int64} {PL : Nat → Int32} {nme : Int64} {t : Term} (hI : CWI h x Y n B fc fp m R T ls tot LT) (hRX : RdX h x Y n B fc fp m R f c k L N ST DT NA PL nme) (ht : Tree t) (hcd : Cdx ST DT NA PL t 0 0 L N) (hL79 : L ≤ 79) (hN40 : N ≤ 40) {p : Nat} (hix : q_ix R m nme = some p) (hp : p < m) (hci : ∀ RS, firstN (q_back R m (q_drun (q_trs R m RS m) m m (q_dir R nme m) 0) nme NA) N = none) : jm_CP l G mm_CW_settle d [.ref x] h (fun v h9 => v = none ∧ ∃ SK SV, CWI h9 x Y n B fc fp m (upR R p (newRec (k_a (R p)) f (k_n (R p)) (k_k (R p)) (k_v (R p)) L N ST DT NA SK SV)) (fun q => if q = p then t else T q) ls tot LT ∧ MvCW x Y h h9 0 0) := by
  obtain ⟨⟨tx, x0, x1, x2⟩, -, ⟨RS, hC⟩, hO, hA, hBd, -, ⟨hn, hls, hY1, hY2⟩, hAc⟩ := id hI
  obtain ⟨hR, hf1, hf2, hL31, hN31, hf3, hTy⟩ := id hRX
  obtain ⟨tr, r0, r1, r2, r3, r4, r5, r6, tp, ⟨ta, g0, f1, g2, g3, g4, g5, g6, tb⟩, hBy, hF, hST, hDT, hNA, hPL, hdis, hcs⟩ := id hR
  refine jm_of (by decide) rfl (Nat.le_of_ble_eq_true rfl) ?_
  refine jx_aload_n d_CW_settle_0 0 rfl ?_
  refine jx_get d_CW_settle_1 fF_CW_19 tx x1 ?_
  refine jx_aload_n d_CW_settle_4 0 rfl ?_
  refine jx_get d_CW_settle_5 fF_CW_12 tx x0 ?_
  refine jx_get d_CW_settle_8 fF_CW_149 tr r2 ?_
  have hCf := c_Cs_find l G (d - 1) (by omega) (u := nme) hC hO.2.1
  rw [hix] at hCf
  refine jx_callV (M2 := mm_Cs_find) rfl hC.1 lk_CW_88 wi_Cs_find ws_Cs_find d_CW_settle_11 hCf cd_Cs_find rfl rfl (Nat.le_of_ble_eq_true rfl) (jm_fok (by omega)) (jm_look (by decide) (by omega)) ?_
  refine jx_astore_n (lv' := [(1, .ref (k_a (R p))), (0, .ref (x))]) d_CW_settle_14 (by decide) rfl ?_
  refine jx_aload_n d_CW_settle_15 0 rfl ?_
  refine jx_ifnonnull (tgt := 41) d_CW_settle_16 (by decide) ?_
  refine jx_aload_n d_CW_settle_41 1 rfl ?_
  refine jx_get d_CW_settle_42 fF_CW_19 tx x1 ?_
  refine jx_aload_n d_CW_settle_45 1 rfl ?_
  refine jx_get d_CW_settle_46 fF_CW_12 tx x0 ?_
  refine jx_get d_CW_settle_49 fF_CW_149 tr r2 ?_
  refine jx_aload_n d_CW_settle_52 1 rfl ?_
  refine jx_get d_CW_settle_53 fF_CW_12 tx x0 ?_
  refine jx_get d_CW_settle_56 fF_CW_157 tr r1 ?_
  have hCc := c_Cs_firstInCircle l G (d - 1) (by omega) (u := nme) hC hO.2.1 hF hNA hN40
  rw [hci] at hCc
  obtain ⟨hI1, hMv1⟩ := hI.trh hC
  have hRX1 := RdX.trh hC hY1 hRX
  obtain ⟨⟨tx1, x01, x11, x21⟩, -, ⟨RS1, hC1⟩, hO1, hA1, hBd1, -, ⟨hn1, hls1, hY11, hY21⟩, hAc1⟩ := id hI1
  obtain ⟨hR1, hf11, hf21, hL311, hN311, hf31, hTy1⟩ := id hRX1
  obtain ⟨tr1, r01, r11, r21, r31, r41, r51, r61, tp1, ⟨ta1, g01, f11, g21, g31, g41, g51, g61, tb1⟩, hBy1, hF1, hST1, hDT1, hNA1, hPL1, hdis1, hcs1⟩ := id hR1
  have hrp := hC1.2.2.2.2.2.2.2.2 p hp
  refine jx_callV (M2 := mm_Cs_firstInCircle) rfl hC.1 lk_CW_161 wi_Cs_firstInCircle ws_Cs_firstInCircle d_CW_settle_59 hCc cd_Cs_firstInCircle rfl rfl (Nat.le_of_ble_eq_true rfl) (jm_fok (by omega)) (jm_look (by decide) (by omega)) ?_
  refine jx_istore_n (lv' := [(2, .int (-1)), (1, .ref (k_a (R p))), (0, .ref (x))]) d_CW_settle_62 (by decide) rfl ?_
  refine jx_iload_n d_CW_settle_63 0 rfl ?_
  refine jx_iconst (v0 := -1) d_CW_settle_64 (by decide) ?_
  refine jx_icmp_eq (tgt := 85) d_CW_settle_65 (by decide) (fun c1 => ?_) (fun c1 => absurd rfl c1)
  refine jx_aload_n d_CW_settle_85 1 rfl ?_
  refine jx_ifnonnull (tgt := 127) d_CW_settle_86 (by decide) ?_
  obtain ⟨SK, SV, hSK, hSV⟩ := hTy1
  have hrd := hI1.redef hRX1 ht hcd hL79 hN40 hSK hSV hp (q_ix_some hix).2.symm (NoC.of hO.1 (hci RS))
  refine jx_aload_n d_CW_settle_127 1 rfl ?_
  refine jx_aload_n d_CW_settle_128 2 rfl ?_
  refine jx_get d_CW_settle_129 fF_CW_12 tx1 x01 ?_
  refine jx_aload_n d_CW_settle_132 1 rfl ?_
  refine jx_get d_CW_settle_133 fF_CW_183 hrp.2.1.1 hrp.2.1.2.2.1 ?_
  refine jx_callV (M2 := mm_Rd_exchangeFormula) rfl tr1 lk_CW_172 wi_Rd_exchangeFormula ws_Rd_exchangeFormula d_CW_settle_136 (c_Rd_exchangeFormula l G (d - 1) (g := k_f (R p)) tr1 r11) cd_Rd_exchangeFormula rfl rfl (Nat.le_of_ble_eq_true rfl) (jm_fok (by omega)) (jm_look (by decide) (by omega)) ?_
  refine jx_put (v0 := .ref (f)) d_CW_settle_139 fF_CW_183 jv_Cl ft_Cl_formula hrp.2.1.1 rfl rfl ?_
  refine jx_aload_n d_CW_settle_142 1 rfl ?_
  refine jx_iconst (v0 := 0) d_CW_settle_143 (by decide) ?_
  refine jx_put (v0 := .int (0)) d_CW_settle_144 fF_CW_184 jv_Cl ft_Cl_workedOut hrp.2.1.1 rfl rfl ?_
  exact jx_vret d_CW_settle_147 rfl (⟨_, rfl, rfl, SK, SV, hrd.1, hMv1.trans0 hrd.2⟩)
set_option maxHeartbeats 4000000 in
set_option maxRecDepth 100000 in
theorem c_CW_settleN (l : Launch) (G : jm_G) (d : Nat) (hd : 5 ≤ d) {h : jm_H} {x Y n : Nat} {B : Nat → Int32} {fc fp : Int32} {m : Nat} {R : Nat → CRec} {T : Nat → Term} {ls : Nat} {tot : Int32} {LT : Nat → Int64} {f : Nat} {c : Cur} {k L N : Nat} {ST DT : Nat → Int32} {NA : Nat → Int64} {PL : Nat → Int32} {nme : Int64} {t : Term} (hI : CWI h x Y n B fc fp m R T ls tot LT) (hRX : RdX h x Y n B fc fp m R f c k L N ST DT NA PL nme) (ht : Tree t) (hcd : Cdx ST DT NA PL t 0 0 L N) (hL79 : L ≤ 79) (hN40 : N ≤ 40) (hix : q_ix R m nme = none) (hm : m < 64) (hci : ∀ RS, firstN (q_back R m (q_drun (q_trs R m RS m) m m (q_dir R nme m) 0) nme NA) N = none) : jm_CP l G mm_CW_settle d [.ref x] h (fun v h9 => v = none ∧ ∃ A SK SV, CWI h9 x Y n B fc fp (m + 1) (insR R (q_pl R m nme) (newRec A f nme 0 0 L N ST DT NA SK SV)) (insT T (q_pl R m nme) t) ls tot LT ∧ MvCW x Y h h9 7 292) := by
  obtain ⟨⟨tx, x0, x1, x2⟩, -, ⟨RS, hC⟩, hO, hA, hBd, -, ⟨hn, hls, hY1, hY2⟩, hAc⟩ := id hI
  obtain ⟨hR, hf1, hf2, hL31, hN31, hf3, hTy⟩ := id hRX
  obtain ⟨tr, r0, r1, r2, r3, r4, r5, r6, tp, ⟨ta, g0, f1, g2, g3, g4, g5, g6, tb⟩, hBy, hF, hST, hDT, hNA, hPL, hdis, hcs⟩ := id hR
  refine jm_of (by decide) rfl (Nat.le_of_ble_eq_true rfl) ?_
  refine jx_aload_n d_CW_settle_0 0 rfl ?_
  refine jx_get d_CW_settle_1 fF_CW_19 tx x1 ?_
  refine jx_aload_n d_CW_settle_4 0 rfl ?_
  refine jx_get d_CW_settle_5 fF_CW_12 tx x0 ?_
  refine jx_get d_CW_settle_8 fF_CW_149 tr r2 ?_
  have hCf := c_Cs_find l G (d - 1) (by omega) (u := nme) hC hO.2.1
  rw [hix] at hCf
  refine jx_callV (M2 := mm_Cs_find) rfl hC.1 lk_CW_88 wi_Cs_find ws_Cs_find d_CW_settle_11 hCf cd_Cs_find rfl rfl (Nat.le_of_ble_eq_true rfl) (jm_fok (by omega)) (jm_look (by decide) (by omega)) ?_
  refine jx_astore_nN (lv' := [(1, .null), (0, .ref (x))]) d_CW_settle_14 (by decide) rfl ?_
  refine jx_aload_nN d_CW_settle_15 0 rfl ?_
  refine jx_ifnonnullN d_CW_settle_16 ?_
  refine jx_aload_n d_CW_settle_19 1 rfl ?_
  refine jx_get d_CW_settle_20 fF_CW_19 tx x1 ?_
  refine jx_get d_CW_settle_23 fF_CW_126 hC.1 hC.2.2.1 ?_
  refine jx_bipush (v0 := 64) d_CW_settle_26 (by decide) ?_
  refine jx_icmp_neN (tgt := 41) (m) (64) d_CW_settle_28 rfl rfl (by omega) (by omega) (by decide) (fun c1 => ?_) (fun c1 => ?_)
  ·
    refine jx_aload_n d_CW_settle_41 1 rfl ?_
    refine jx_get d_CW_settle_42 fF_CW_19 tx x1 ?_
    refine jx_aload_n d_CW_settle_45 1 rfl ?_
    refine jx_get d_CW_settle_46 fF_CW_12 tx x0 ?_
    refine jx_get d_CW_settle_49 fF_CW_149 tr r2 ?_
    refine jx_aload_n d_CW_settle_52 1 rfl ?_
    refine jx_get d_CW_settle_53 fF_CW_12 tx x0 ?_
    refine jx_get d_CW_settle_56 fF_CW_157 tr r1 ?_
    have hCc := c_Cs_firstInCircle l G (d - 1) (by omega) (u := nme) hC hO.2.1 hF hNA hN40
    rw [hci] at hCc
    obtain ⟨hI1, hMv1⟩ := hI.trh hC
    have hRX1 := RdX.trh hC hY1 hRX
    obtain ⟨⟨tx1, x01, x11, x21⟩, -, ⟨RS1, hC1⟩, hO1, hA1, hBd1, -, ⟨hn1, hls1, hY11, hY21⟩, hAc1⟩ := id hI1
    obtain ⟨hR1, hf11, hf21, hL311, hN311, hf31, hTy1⟩ := id hRX1
    obtain ⟨tr1, r01, r11, r21, r31, r41, r51, r61, tp1, ⟨ta1, g01, f11, g21, g31, g41, g51, g61, tb1⟩, hBy1, hF1, hST1, hDT1, hNA1, hPL1, hdis1, hcs1⟩ := id hR1
    refine jx_callV (M2 := mm_Cs_firstInCircle) rfl hC.1 lk_CW_161 wi_Cs_firstInCircle ws_Cs_firstInCircle d_CW_settle_59 hCc cd_Cs_firstInCircle rfl rfl (Nat.le_of_ble_eq_true rfl) (jm_fok (by omega)) (jm_look (by decide) (by omega)) ?_
    refine jx_istore_n (lv' := [(2, .int (-1)), (1, .null), (0, .ref (x))]) d_CW_settle_62 (by decide) rfl ?_
    refine jx_iload_n d_CW_settle_63 0 rfl ?_
    refine jx_iconst (v0 := -1) d_CW_settle_64 (by decide) ?_
    refine jx_icmp_eq (tgt := 85) d_CW_settle_65 (by decide) (fun c2 => ?_) (fun c2 => absurd rfl c2)
    refine jx_aload_nN d_CW_settle_85 1 rfl ?_
    refine jx_ifnonnullN d_CW_settle_86 ?_
    obtain ⟨SK, SV, hSK, hSV⟩ := hTy1
    obtain ⟨A, hA0⟩ : ∃ A, (q_trh R m (x + 11) h m).1 = A := ⟨_, rfl⟩
    have hYA : Y ≤ A := by rw [← hA0]; exact hY21
    refine jx_aload_n d_CW_settle_89 2 rfl ?_
    refine jx_get d_CW_settle_90 fF_CW_19 tx1 x11 ?_
    refine jx_newG (c := 5) (a := A) hA0 d_CW_settle_93 rfl jl_Cl jt_Cl_ok lk_CW_97 wk_Cl wn_Cl fun n1 w1 => ?_
    refine jx_dup d_CW_settle_96 rfl ?_
    have o1 : ∀ b, b < A → n1.2.2.1 b = (q_trh R m (x + 11) h m).2.2.1 b ∧ ∀ j, n1.2.2.2 b j = (q_trh R m (x + 11) h m).2.2.2 b j := fun b hb => w1.2.2.2.2 b (by omega)
    refine jx_aload_n d_CW_settle_97 2 rfl ?_
    refine jx_get d_CW_settle_98 fF_CW_12 ((o1 x (by omega)).1.trans tx1) (((o1 x (by omega)).2 0).trans x01) ?_
    refine jx_get d_CW_settle_101 fF_CW_149 ((o1 (x + 1) (by omega)).1.trans tr1) (((o1 (x + 1) (by omega)).2 2).trans r21) ?_
    refine jx_aload_n d_CW_settle_104 2 rfl ?_
    refine jx_get d_CW_settle_105 fF_CW_12 ((o1 x (by omega)).1.trans tx1) (((o1 x (by omega)).2 0).trans x01) ?_
    refine jx_newG (c := 3) (a := A + 1) w1.1 d_CW_settle_108 rfl jl_Fm jt_Fm_ok lk_CW_169 wk_Fm wn_Fm fun n2 w2 => ?_
    refine jx_dup d_CW_settle_111 rfl ?_
    obtain ⟨u3, g3, hC3, rfl, z3, s3, b3, hF3, y1, y2, y3, y4, y5⟩ := c_Fm_init l G (d - 1) (by omega) (h := n2) (a := A + 1) w2.1 w2.2.2.1
    refine jx_callIN (M2 := mm_Fm_init) rfl rfl (by decide) wi_Fm_init d_CW_settle_112 hC3 cd_Fm_init rfl rfl (Nat.le_of_ble_eq_true rfl) (jm_fok (by omega)) (jm_look (by decide) (by omega)) ?_
    have o3 : ∀ b, b < A → g3.2.2.1 b = (q_trh R m (x + 11) h m).2.2.1 b ∧ ∀ j, g3.2.2.2 b j = (q_trh R m (x + 11) h m).2.2.2 b j := fun b hb => by
      have u := b3 b (by omega)
      have v := w2.2.2.2.2 b (by omega)
      have w := o1 b hb
      exact ⟨u.1.trans (v.1.trans w.1), fun j => (u.2 j).trans ((v.2 j).trans (w.2 j))⟩
    refine jx_callV (M2 := mm_Rd_exchangeFormula) rfl ((o3 (x + 1) (by omega)).1.trans tr1) lk_CW_172 wi_Rd_exchangeFormula ws_Rd_exchangeFormula d_CW_settle_115 (c_Rd_exchangeFormula l G (d - 1) (g := A + 1) ((o3 (x + 1) (by omega)).1.trans tr1) (((o3 (x + 1) (by omega)).2 1).trans r11)) cd_Rd_exchangeFormula rfl rfl (Nat.le_of_ble_eq_true rfl) (jm_fok (by omega)) (jm_look (by decide) (by omega)) ?_
    have tA : g3.2.2.1 A = (jm_o 5, 5) := (b3 A (by omega)).1.trans ((w2.2.2.2.2 A (by omega)).1.trans w1.2.2.1)
    refine jx_callI (M2 := mm_Cl_init) rfl rfl lk_CW_176 wi_Cl_init d_CW_settle_118 (c_Cl_init l G (d - 1) (by omega) (h := (jm_put g3 (x + 1) 1 (.ref (A + 1)))) (a := A) (f := f) (nm := nme) tA) cd_Cl_init rfl rfl (Nat.le_of_ble_eq_true rfl) (jm_fok (by omega)) (jm_look (by decide) (by omega)) ?_
    generalize hh : (jm_put (jm_put (jm_put (jm_put (jm_put (jm_put g3 (x + 1) 1 (.ref (A + 1))) A 2 (.int 0)) A 3 (.int 0)) A 4 (.long 0)) A 0 (.long nme)) A 1 (.ref f)) = g4
    have fr4 : jm_fr (fun b => b = x + 1 ∨ b = A) g3 g4 := by rw [← hh]; exact (((((jm_fr.rf.put (Or.inl rfl)).put (Or.inr rfl)).put (Or.inr rfl)).put (Or.inr rfl)).put (Or.inr rfl)).put (Or.inr rfl)
    have a4 := Agr.of_fr fr4
    have hxA : x + 1 ≠ A := by omega
    have ag4 : Agr (fun b => b < A ∧ b ≠ x + 1) (q_trh R m (x + 11) h m) g4 := fun b hb => by
      have u := a4 b (by omega)
      have v := o3 b hb.1
      exact ⟨u.1.trans v.1, fun j => (u.2 j).trans (v.2 j)⟩
    have kr4 : ∀ j, j ≠ 1 → g4.2.2.2 (x + 1) j = (q_trh R m (x + 11) h m).2.2.2 (x + 1) j := fun j hj => by rw [← hh]; exact jm_rd_a hxA (jm_rd_a hxA (jm_rd_a hxA (jm_rd_a hxA (jm_rd_a hxA (jm_rd_k hj ((o3 (x + 1) (by omega)).2 j))))))
    have kr41 : g4.2.2.2 (x + 1) 1 = .ref (A + 1) := by rw [← hh]; exact jm_rd_a hxA (jm_rd_a hxA (jm_rd_a hxA (jm_rd_a hxA (jm_rd_a hxA (jm_rd_s _ _ _ _)))))
    have tg4 : ∀ b, g4.2.2.1 b = g3.2.2.1 b := fun b => by rw [fr4.2.2.1]
    have nA : ∀ j, ¬ (A + 1 + j = x + 1 ∨ A + 1 + j = A) := fun j => by omega
    have fl : ∀ j, j ≤ 5 → f + j < A ∧ f + j ≠ x + 1 := fun j hj => by have h9 : f + 5 < A := (by rw [← hA0]; exact hf21); omega
    have hcel : CellA g4 (newRec A f nme 0 0 L N ST DT NA SK SV) := ⟨(tg4 A).trans tA, by rw [← hh]; exact jm_rd_k (by decide) (jm_rd_s _ _ _ _), by rw [← hh]; exact jm_rd_s _ _ _ _, by rw [← hh]; exact jm_rd_k (by decide) (jm_rd_k (by decide) (jm_rd_k (by decide) (jm_rd_k (by decide) (jm_rd_s _ _ _ _)))), by rw [← hh]; exact jm_rd_k (by decide) (jm_rd_k (by decide) (jm_rd_k (by decide) (jm_rd_s _ _ _ _))), by rw [← hh]; exact jm_rd_k (by decide) (jm_rd_k (by decide) (jm_rd_s _ _ _ _))⟩
    have hfm : FmR g4 (newRec A f nme 0 0 L N ST DT NA SK SV) := ⟨hF1.ag ag4 (fl 0 (by decide)) (fl 1 (by decide)) (fl 2 (by decide)) (fl 3 (by decide)) (fl 4 (by decide)) (fl 5 (by decide)), hST1.ag ag4 (fl 1 (by decide)), hDT1.ag ag4 (fl 2 (by decide)), hNA1.ag ag4 (fl 3 (by decide)), hSK.ag ag4 (fl 4 (by decide)), hSV.ag ag4 (fl 5 (by decide)), hN40, hL79⟩
    have hC4 : CsA g4 (x + 11) m R RS1 := hC1.ag ag4 (by omega) (by omega) (by omega) (fun i hi => by
      obtain ⟨d1, d2, d3, d4⟩ := hA1 i hi
      rw [hA0] at d2 d4
      exact ⟨by omega, fun j hj => by omega⟩)
    obtain ⟨v9, h9, hC9, rfl, fr9, hCs9⟩ := c_Cs_insert l G (d - 1) (by omega) hC4 hO1.2.1 hm hcel hfm
    refine jx_callV (M2 := mm_Cs_insert) rfl hC4.1 lk_CW_179 wi_Cs_insert ws_Cs_insert d_CW_settle_121 hC9 cd_Cs_insert rfl rfl (Nat.le_of_ble_eq_true rfl) (jm_fok (by omega)) (jm_look (by decide) (by omega)) ?_
    refine jx_goto (tgt := 147) d_CW_settle_124 (by decide) ?_
    have es : g4.2.1 = (q_trh R m (x + 11) h m).2.1 + 292 := by rw [fr4.2.1, s3, w2.2.1, w1.2.1]
    have hnw := hI1.newc hRX1 ht hcd hm hix (NoC.of hO.1 (hci RS)) hA0 ag4 ((tg4 _).trans ((o3 (x + 1) (by omega)).1.trans tr1)) kr4 kr41 (hF3.ag a4 (nA 0) (nA 1) (nA 2) (nA 3) (nA 4) (nA 5)) (y1.ag a4 (nA 1)) (y2.ag a4 (nA 2)) (y3.ag a4 (nA 3)) (TySn.ag (⟨_, _, y4, y5⟩ : TySn g3 (A + 1)) a4 (nA 4) (nA 5)) (fr4.1.trans z3) es fr9 hCs9
    exact jx_vret d_CW_settle_147 rfl ⟨_, rfl, rfl, A, SK, SV, hnw.1, hMv1.trans0 hnw.2⟩
  · omega
