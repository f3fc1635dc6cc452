theorem drun_ind {R : Nat → CRec} {m : Nat} (hm : m ≤ 64) (u : Int64) (RS RS' : Nat → Int64) : q_drun (q_trs R m RS m) m m (q_dir R u m) 0 = q_drun (q_trs R m RS' m) m m (q_dir R u m) 0 := bt_ext fun p hp => by
  have h1 := drun_bt (R := R) (RS := RS) hm u hp
  have h2 := drun_bt (R := R) (RS := RS') hm u hp
  cases e : bt (q_drun (q_trs R m RS m) m m (q_dir R u m) 0) p with
  | true => exact (h2.mpr (h1.mp e)).symm
  | false =>
    cases e2 : bt (q_drun (q_trs R m RS' m) m m (q_dir R u m) 0) p with
    | false => rfl
    | true => rw [h1.mpr (h2.mp e2)] at e; cases e
/-- name j of the new formula closes a circle -/
def bkC (R : Nat → CRec) (m : Nat) (nm : Int64) (NA : Nat → Int64) (j : Nat) : Prop := NA j = nm ∨ ∃ p, q_ix R m (NA j) = some p ∧ DepC R m nm p
/-- what define() comes to, at the class, where the text has no fault -/
def DefC (h h9 : jm_H) (x Y : Nat) (B : Nat → Int32) (fp : Int32) (m : Nat) (R : Nat → CRec) (T : Nat → Term) (ls : Nat) (tot : Int32) (LT : Nat → Int64) (nm : Int64) (t : Term) (v : Option Value) : Prop := ∃ (L N : Nat) (ST DT : Nat → Int32) (NA : Nat → Int64) (PL : Nat → Int32), Tree t ∧ Cdx ST DT NA PL t 0 0 L N ∧ L ≤ 79 ∧ N ≤ 40 ∧
  ((q_ix R m nm = none ∧ m = 64 ∧ v = some (.int 0) ∧ CWI h9 x Y 0 B 4 0 m R T ls tot LT ∧ MvCW x Y h h9 0 0) ∨
   (¬ (q_ix R m nm = none ∧ m = 64) ∧ ∃ i, i < N ∧ (∀ j, j < i → ¬ bkC R m nm NA j) ∧ bkC R m nm NA i ∧ v = some (.int (PL i)) ∧ CWI h9 x Y 0 B 5 (PL i) m R T ls tot LT ∧ MvCW x Y h h9 0 0) ∨
   (NoC R m nm N NA ∧ v = some (.int (-1)) ∧ ∃ p f SK SV, q_ix R m nm = some p ∧ CWI h9 x Y 0 B 0 fp m (upR R p (newRec (k_a (R p)) f (k_n (R p)) (k_k (R p)) (k_v (R p)) L N ST DT NA SK SV)) (fun q => if q = p then t else T q) ls tot LT ∧ MvCW x Y h h9 0 0) ∨
   (NoC R m nm N NA ∧ v = some (.int (-1)) ∧ ∃ A f SK SV, q_ix R m nm = none ∧ m < 64 ∧ CWI h9 x Y 0 B 0 fp (m + 1) (insR R (q_pl R m nm) (newRec A f nm 0 0 L N ST DT NA SK SV)) (insT T (q_pl R m nm) t) ls tot LT ∧ MvCW x Y h h9 7 292))
theorem MvCW.then0 {x Y : Nat} {h h1 h2 : jm_H} {K S : Nat} (p : MvCW x Y h h1 K S) (q : MvCW x Y h1 h2 0 0) : MvCW x Y h h2 K S := by
  obtain ⟨p1, p2, p3, p4, p5⟩ := p
  obtain ⟨q1, q2, q3, q4, q5⟩ := q
  refine ⟨fun b hb => ?_, by omega, by omega, by omega, by omega⟩
  have a := p1 b hb
  have c := q1 b ⟨hb.1, by have := hb.2; omega⟩
  exact ⟨c.1.trans a.1, fun j => (c.2 j).trans (a.2 j)⟩
set_option maxHeartbeats 4000000 in
set_option maxRecDepth 100000 in
theorem c_CW_define (l : Launch) (G : jm_G) (d : Nat) (hd : 94 ≤ d) {h : jm_H} {x Y n : Nat} {B : Nat → Int32} {fc fp : Int32} {m : Nat} {R : Nat → CRec} {T : Nat → Term} {ls : Nat} {tot : Int32} {LT : Nat → Int64} (hI : CWI h x Y n B fc fp m R T ls tot LT) : jm_CP l G mm_CW_define d [.ref x] h (fun v h9 => ∃ c nm res, Df B n (cu0 c) nm res ∧ match res with
    | .inl e => v = some (.int (nI e.2)) ∧ CWI h9 x Y 0 B e.1 (nI e.2) m R T ls tot LT ∧ MvCW x Y h h9 0 0
    | .inr y => DefC h h9 x Y B fp m R T ls tot LT nm y.1 v) := by
  obtain ⟨⟨tx, x0, x1, x2⟩, ⟨f, c, k, L, N, ST, DT, NA, PL, nme, hRX⟩, ⟨RS, hC⟩, hO, hA, hBd, ⟨wn, wk, wv, wS, hW⟩, ⟨hn, hls, hY1, hY2⟩, hAc⟩ := id hI
  obtain ⟨hR, hf1, hf2, hL31, hN31, hf3⟩ := id hRX
  obtain ⟨tr, r0, r1, r2, r3, r4, r5, r6, tp, ⟨ta, g0, f1, g2, g3, g4, g5, g6, tb⟩, hBy, hF, hST, hDT, hNA, hPL, hdis, hcs⟩ := id hR
  refine jm_of (by decide) rfl (Nat.le_of_ble_eq_true rfl) ?_
  refine jx_aload_n d_CW_define_0 0 rfl ?_
  refine jx_get d_CW_define_1 fF_CW_12 tx x0 ?_
  obtain ⟨v1, h1, hC1, hfr1, nm, res, hDf, hOut⟩ := c_Rd_readDefinition l G (d - 1) (by omega) hR hn
  have hfrx : jm_fr (S_rx x f) h h1 := hfr1.weak fun b hb => Or.inr hb
  cases res with
  | inl e =>
    obtain ⟨rfl, c1, k1, L1, N1, ST1, DT1, NA1, PL1, hS1, hL1, hN1⟩ := hOut
    have hI1 := hI.mkR hRX hfrx (RdS.core hS1 hn) hn hL1 hN1
    have hMv1 := MvCW.of_fr (x := x) (Y := Y) hfrx (fun b hb => S_rx_cw hf1 hb)
    have hL0 := hI1.len0
    obtain ⟨⟨tx7, x07, x17, x27⟩, ⟨f7, c7, k7, L7, N7, ST7, DT7, NA7, PL7, nme7, hRX7⟩, ⟨RS7, hC7⟩, hO7, hA7, hBd7, ⟨wn7, wk7, wv7, wS7, hW7⟩, ⟨hn7, hls7, hY17, hY27⟩, hAc7⟩ := id hI1
    obtain ⟨hR7, hf17, hf27, hL317, hN317, hf37⟩ := id hRX7
    obtain ⟨tr7, r07, r17, r27, r37, r47, r57, r67, tp7, ⟨ta7, g07, f17, g27, g37, g47, g57, g67, tb7⟩, hBy7, hF7, hST7, hDT7, hNA7, hPL7, hdis7, hcs7⟩ := id hR7
    refine jx_callV (M2 := mm_Rd_readDefinition) rfl tr lk_CW_56 wi_Rd_readDefinition ws_Rd_readDefinition d_CW_define_4 hC1 cd_Rd_readDefinition rfl rfl (Nat.le_of_ble_eq_true rfl) (jm_fok (by omega)) (jm_look (by decide) (by omega)) ?_
    refine jx_if_eq (tgt := 14) d_CW_define_7 (by decide) (fun c1 => ?_) (fun c1 => absurd c1 (by decide))
    refine jx_aload_n d_CW_define_14 0 rfl ?_
    refine jx_get d_CW_define_15 fF_CW_12 tx7 x07 ?_
    refine jx_get d_CW_define_18 fF_CW_30 tr7 r07 ?_
    refine jx_iconst (v0 := 0) d_CW_define_21 (by decide) ?_
    refine jx_put (v0 := .int (0)) d_CW_define_22 fF_CW_34 jv_Tp ft_Tp_length ta7 rfl rfl ?_
    refine jx_aload_n d_CW_define_25 0 rfl ?_
    refine jx_get d_CW_define_26 fF_CW_12 tx7 (jm_rd_k (by decide) x07) ?_
    refine jx_get d_CW_define_29 fF_CW_63 tr7 (jm_rd_k (by decide) r37) ?_
    refine jx_if_ne (tgt := 39) d_CW_define_32 (by decide) (fun c2 => ?_) (fun c2 => ?_)
    ·
      refine jx_aload_n d_CW_define_39 0 rfl ?_
      refine jx_get d_CW_define_40 fF_CW_12 tx7 (jm_rd_k (by decide) x07) ?_
      refine jx_get d_CW_define_43 fF_CW_66 tr7 (jm_rd_k (by decide) r47) ?_
      exact jx_iret d_CW_define_46 rfl (⟨_, rfl, c, nm, .inl e, hDf, rfl, hL0.1, hMv1.then0 hL0.2⟩)
    · exact absurd c2 (cd_pos (hDf.cd e rfl)).1
  | inr y =>
    obtain ⟨t, c1, k1⟩ := y
    obtain ⟨rfl, L1, N1, ST1, DT1, NA1, PL1, hS1, ht, hcd, hk1, hL79, hNk⟩ := hOut
    have hN40 : N1 ≤ 40 := Nat.le_trans hNk hk1
    have hI1 : CWI h1 x Y n B 0 fp m R T ls tot LT := hI.mkR hRX hfrx (RdS.core hS1 hn) hn (by omega) (by omega)
    have hMv1 := MvCW.of_fr (x := x) (Y := Y) hfrx (fun b hb => S_rx_cw hf1 hb)
    have hTy1 : TySn h1 f := hRX.2.2.2.2.2.2.ag (Agr.of_fr hfrx) (fun z => by unfold S_rx S_rd at z; omega) (fun z => by unfold S_rx S_rd at z; omega)
    have hRX1 : RdX h1 x Y n B 0 fp m R f c1 k1 L1 N1 ST1 DT1 NA1 PL1 nm := ⟨RdS.core hS1 hn, hf1, by rw [hfrx.1]; exact hf2, by omega, by omega, hRX.2.2.2.2.2.1, hTy1⟩
    obtain ⟨⟨tx7, x07, x17, x27⟩, ⟨f7, c7, k7, L7, N7, ST7, DT7, NA7, PL7, nme7, hRX7⟩, ⟨RS7, hC7⟩, hO7, hA7, hBd7, ⟨wn7, wk7, wv7, wS7, hW7⟩, ⟨hn7, hls7, hY17, hY27⟩, hAc7⟩ := id hI1
    obtain ⟨hR7, hf17, hf27, hL317, hN317, hf37⟩ := id hRX7
    obtain ⟨tr7, r07, r17, r27, r37, r47, r57, r67, tp7, ⟨ta7, g07, f17, g27, g37, g47, g57, g67, tb7⟩, hBy7, hF7, hST7, hDT7, hNA7, hPL7, hdis7, hcs7⟩ := id hR7
    refine jx_callV (M2 := mm_Rd_readDefinition) rfl tr lk_CW_56 wi_Rd_readDefinition ws_Rd_readDefinition d_CW_define_4 hC1 cd_Rd_readDefinition rfl rfl (Nat.le_of_ble_eq_true rfl) (jm_fok (by omega)) (jm_look (by decide) (by omega)) ?_
    refine jx_if_eq (tgt := 14) d_CW_define_7 (by decide) (fun c3 => absurd c3 (by decide)) (fun c3 => ?_)
    refine jx_aload_n d_CW_define_10 0 rfl ?_
    by_cases hfull : q_ix R m nm = none ∧ m = 64
    ·
      obtain ⟨v9, h9, hCs, rfl, hI9, hMv9⟩ := c_CW_settleR l G (d - 1) (by omega) hI1 hRX1 ht hcd hL79 hN40 hfull.1 hfull.2
      have hL9 := hI9.len0
      obtain ⟨⟨tx9, x09, x19, x29⟩, ⟨f9, c9, k9, L9, N9, ST9, DT9, NA9, PL9, nme9, hRX9⟩, ⟨RS9, hC9⟩, hO9, hA9, hBd9, ⟨wn9, wk9, wv9, wS9, hW9⟩, ⟨hn9, hls9, hY19, hY29⟩, hAc9⟩ := id hI9
      obtain ⟨hR9, hf19, hf29, hL319, hN319, hf39⟩ := id hRX9
      obtain ⟨tr9, r09, r19, r29, r39, r49, r59, r69, tp9, ⟨ta9, g09, f19, g29, g39, g49, g59, g69, tb9⟩, hBy9, hF9, hST9, hDT9, hNA9, hPL9, hdis9, hcs9⟩ := id hR9
      refine jx_callV (M2 := mm_CW_settle) rfl tx7 lk_CW_60 wi_CW_settle ws_CW_settle d_CW_define_11 hCs cd_CW_settle rfl rfl (Nat.le_of_ble_eq_true rfl) (jm_fok (by omega)) (jm_look (by decide) (by omega)) ?_
      refine jx_aload_n d_CW_define_14 0 rfl ?_
      refine jx_get d_CW_define_15 fF_CW_12 tx9 x09 ?_
      refine jx_get d_CW_define_18 fF_CW_30 tr9 r09 ?_
      refine jx_iconst (v0 := 0) d_CW_define_21 (by decide) ?_
      refine jx_put (v0 := .int (0)) d_CW_define_22 fF_CW_34 jv_Tp ft_Tp_length ta9 rfl rfl ?_
      refine jx_aload_n d_CW_define_25 0 rfl ?_
      refine jx_get d_CW_define_26 fF_CW_12 tx9 (jm_rd_k (by decide) x09) ?_
      refine jx_get d_CW_define_29 fF_CW_63 tr9 (jm_rd_k (by decide) r39) ?_
      refine jx_if_ne (tgt := 39) d_CW_define_32 (by decide) (fun c4 => ?_) (fun c4 => absurd c4 (by decide))
      refine jx_aload_n d_CW_define_39 0 rfl ?_
      refine jx_get d_CW_define_40 fF_CW_12 tx9 (jm_rd_k (by decide) x09) ?_
      refine jx_get d_CW_define_43 fF_CW_66 tr9 (jm_rd_k (by decide) r49) ?_
      exact jx_iret d_CW_define_46 rfl (⟨_, rfl, c, nm, .inr (t, c1, k1), hDf, L1, N1, ST1, DT1, NA1, PL1, ht, hcd, hL79, hN40, Or.inl ⟨hfull.1, hfull.2, rfl, hL9.1, (hMv1.trans0 hMv9).then0 hL9.2⟩⟩)
    ·
      have hind : ∀ RS, firstN (q_back R m (q_drun (q_trs R m RS m) m m (q_dir R nm m) 0) nm NA1) N1 = firstN (q_back R m (q_drun (q_trs R m (fun _ => 0) m) m m (q_dir R nm m) 0) nm NA1) N1 := fun RS => by rw [drun_ind hO.1 nm RS (fun _ => 0)]
      cases ef : firstN (q_back R m (q_drun (q_trs R m (fun _ => 0) m) m m (q_dir R nm m) 0) nm NA1) N1 with
      | some i =>
        obtain ⟨i1, i2, i3⟩ := firstN_ok ef
        have hb1 : bkC R m nm NA1 i := (back_iff hO.1).mp i2
        have hb2 : ∀ j, j < i → ¬ bkC R m nm NA1 j := fun j hj q => by have h8 := i3 j hj; rw [(back_iff hO.1).mpr q] at h8; cases h8
        cases hix : q_ix R m nm with
        | none =>
          have hm64 : m < 64 := by have := hO.1; have : m ≠ 64 := fun q => hfull ⟨hix, q⟩; omega
          obtain ⟨v9, h9, hCs, rfl, hI9, hMv9⟩ := c_CW_settleCn l G (d - 1) (by omega) hI1 hRX1 ht hcd hL79 hN40 hix hm64 i1 (fun RS => (hind RS).trans ef)
          have hL9 := hI9.len0
          obtain ⟨⟨tx9, x09, x19, x29⟩, ⟨f9, c9, k9, L9, N9, ST9, DT9, NA9, PL9, nme9, hRX9⟩, ⟨RS9, hC9⟩, hO9, hA9, hBd9, ⟨wn9, wk9, wv9, wS9, hW9⟩, ⟨hn9, hls9, hY19, hY29⟩, hAc9⟩ := id hI9
          obtain ⟨hR9, hf19, hf29, hL319, hN319, hf39⟩ := id hRX9
          obtain ⟨tr9, r09, r19, r29, r39, r49, r59, r69, tp9, ⟨ta9, g09, f19, g29, g39, g49, g59, g69, tb9⟩, hBy9, hF9, hST9, hDT9, hNA9, hPL9, hdis9, hcs9⟩ := id hR9
          refine jx_callV (M2 := mm_CW_settle) rfl tx7 lk_CW_60 wi_CW_settle ws_CW_settle d_CW_define_11 hCs cd_CW_settle rfl rfl (Nat.le_of_ble_eq_true rfl) (jm_fok (by omega)) (jm_look (by decide) (by omega)) ?_
          refine jx_aload_n d_CW_define_14 0 rfl ?_
          refine jx_get d_CW_define_15 fF_CW_12 tx9 x09 ?_
          refine jx_get d_CW_define_18 fF_CW_30 tr9 r09 ?_
          refine jx_iconst (v0 := 0) d_CW_define_21 (by decide) ?_
          refine jx_put (v0 := .int (0)) d_CW_define_22 fF_CW_34 jv_Tp ft_Tp_length ta9 rfl rfl ?_
          refine jx_aload_n d_CW_define_25 0 rfl ?_
          refine jx_get d_CW_define_26 fF_CW_12 tx9 (jm_rd_k (by decide) x09) ?_
          refine jx_get d_CW_define_29 fF_CW_63 tr9 (jm_rd_k (by decide) r39) ?_
          refine jx_if_ne (tgt := 39) d_CW_define_32 (by decide) (fun c5 => ?_) (fun c5 => absurd c5 (by decide))
          refine jx_aload_n d_CW_define_39 0 rfl ?_
          refine jx_get d_CW_define_40 fF_CW_12 tx9 (jm_rd_k (by decide) x09) ?_
          refine jx_get d_CW_define_43 fF_CW_66 tr9 (jm_rd_k (by decide) r49) ?_
          exact jx_iret d_CW_define_46 rfl (⟨_, rfl, c, nm, .inr (t, c1, k1), hDf, L1, N1, ST1, DT1, NA1, PL1, ht, hcd, hL79, hN40, Or.inr (Or.inl ⟨by first | exact hfull | (rw [hix] at *; exact hfull), i, i1, hb2, hb1, rfl, hL9.1, (hMv1.trans0 hMv9).then0 hL9.2⟩)⟩)
        | some p =>
          obtain ⟨v9, h9, hCs, rfl, hI9, hMv9⟩ := c_CW_settleCo l G (d - 1) (by omega) hI1 hRX1 ht hcd hL79 hN40 hix (q_ix_some hix).1 i1 (fun RS => (hind RS).trans ef)
          have hL9 := hI9.len0
          obtain ⟨⟨tx9, x09, x19, x29⟩, ⟨f9, c9, k9, L9, N9, ST9, DT9, NA9, PL9, nme9, hRX9⟩, ⟨RS9, hC9⟩, hO9, hA9, hBd9, ⟨wn9, wk9, wv9, wS9, hW9⟩, ⟨hn9, hls9, hY19, hY29⟩, hAc9⟩ := id hI9
          obtain ⟨hR9, hf19, hf29, hL319, hN319, hf39⟩ := id hRX9
          obtain ⟨tr9, r09, r19, r29, r39, r49, r59, r69, tp9, ⟨ta9, g09, f19, g29, g39, g49, g59, g69, tb9⟩, hBy9, hF9, hST9, hDT9, hNA9, hPL9, hdis9, hcs9⟩ := id hR9
          refine jx_callV (M2 := mm_CW_settle) rfl tx7 lk_CW_60 wi_CW_settle ws_CW_settle d_CW_define_11 hCs cd_CW_settle rfl rfl (Nat.le_of_ble_eq_true rfl) (jm_fok (by omega)) (jm_look (by decide) (by omega)) ?_
          refine jx_aload_n d_CW_define_14 0 rfl ?_
          refine jx_get d_CW_define_15 fF_CW_12 tx9 x09 ?_
          refine jx_get d_CW_define_18 fF_CW_30 tr9 r09 ?_
          refine jx_iconst (v0 := 0) d_CW_define_21 (by decide) ?_
          refine jx_put (v0 := .int (0)) d_CW_define_22 fF_CW_34 jv_Tp ft_Tp_length ta9 rfl rfl ?_
          refine jx_aload_n d_CW_define_25 0 rfl ?_
          refine jx_get d_CW_define_26 fF_CW_12 tx9 (jm_rd_k (by decide) x09) ?_
          refine jx_get d_CW_define_29 fF_CW_63 tr9 (jm_rd_k (by decide) r39) ?_
          refine jx_if_ne (tgt := 39) d_CW_define_32 (by decide) (fun c6 => ?_) (fun c6 => absurd c6 (by decide))
          refine jx_aload_n d_CW_define_39 0 rfl ?_
          refine jx_get d_CW_define_40 fF_CW_12 tx9 (jm_rd_k (by decide) x09) ?_
          refine jx_get d_CW_define_43 fF_CW_66 tr9 (jm_rd_k (by decide) r49) ?_
          exact jx_iret d_CW_define_46 rfl (⟨_, rfl, c, nm, .inr (t, c1, k1), hDf, L1, N1, ST1, DT1, NA1, PL1, ht, hcd, hL79, hN40, Or.inr (Or.inl ⟨by first | exact hfull | (rw [hix] at *; exact hfull), i, i1, hb2, hb1, rfl, hL9.1, (hMv1.trans0 hMv9).then0 hL9.2⟩)⟩)
      | none =>
        have hno : NoC R m nm N1 NA1 := NoC.of hO.1 ef
        cases hix : q_ix R m nm with
        | none =>
          have hm64 : m < 64 := by have := hO.1; have : m ≠ 64 := fun q => hfull ⟨hix, q⟩; omega
          obtain ⟨v9, h9, hCs, rfl, A, SK, SV, hI9, hMv9⟩ := c_CW_settleN l G (d - 1) (by omega) hI1 hRX1 ht hcd hL79 hN40 hix hm64 (fun RS => (hind RS).trans ef)
          have hL9 := hI9.len0
          obtain ⟨⟨tx9, x09, x19, x29⟩, ⟨f9, c9, k9, L9, N9, ST9, DT9, NA9, PL9, nme9, hRX9⟩, ⟨RS9, hC9⟩, hO9, hA9, hBd9, ⟨wn9, wk9, wv9, wS9, hW9⟩, ⟨hn9, hls9, hY19, hY29⟩, hAc9⟩ := id hI9
          obtain ⟨hR9, hf19, hf29, hL319, hN319, hf39⟩ := id hRX9
          obtain ⟨tr9, r09, r19, r29, r39, r49, r59, r69, tp9, ⟨ta9, g09, f19, g29, g39, g49, g59, g69, tb9⟩, hBy9, hF9, hST9, hDT9, hNA9, hPL9, hdis9, hcs9⟩ := id hR9
          refine jx_callV (M2 := mm_CW_settle) rfl tx7 lk_CW_60 wi_CW_settle ws_CW_settle d_CW_define_11 hCs cd_CW_settle rfl rfl (Nat.le_of_ble_eq_true rfl) (jm_fok (by omega)) (jm_look (by decide) (by omega)) ?_
          refine jx_aload_n d_CW_define_14 0 rfl ?_
          refine jx_get d_CW_define_15 fF_CW_12 tx9 x09 ?_
          refine jx_get d_CW_define_18 fF_CW_30 tr9 r09 ?_
          refine jx_iconst (v0 := 0) d_CW_define_21 (by decide) ?_
          refine jx_put (v0 := .int (0)) d_CW_define_22 fF_CW_34 jv_Tp ft_Tp_length ta9 rfl rfl ?_
          refine jx_aload_n d_CW_define_25 0 rfl ?_
          refine jx_get d_CW_define_26 fF_CW_12 tx9 (jm_rd_k (by decide) x09) ?_
          refine jx_get d_CW_define_29 fF_CW_63 tr9 (jm_rd_k (by decide) r39) ?_
          refine jx_if_ne (tgt := 39) d_CW_define_32 (by decide) (fun c7 => absurd c7 (by decide)) (fun c7 => ?_)
          refine jx_iconst (v0 := -1) d_CW_define_35 (by decide) ?_
          refine jx_goto (tgt := 46) d_CW_define_36 (by decide) ?_
          exact jx_iret d_CW_define_46 rfl (⟨_, rfl, c, nm, .inr (t, c1, k1), hDf, L1, N1, ST1, DT1, NA1, PL1, ht, hcd, hL79, hN40, Or.inr (Or.inr (Or.inr ⟨hno, rfl, A, f, SK, SV, hix, hm64, hL9.1, (hMv1.trans0 hMv9).then0 hL9.2⟩))⟩)
        | some p =>
          obtain ⟨v9, h9, hCs, rfl, SK, SV, hI9, hMv9⟩ := c_CW_settleO l G (d - 1) (by omega) hI1 hRX1 ht hcd hL79 hN40 hix (q_ix_some hix).1 (fun RS => (hind RS).trans ef)
          have hL9 := hI9.len0
          obtain ⟨⟨tx9, x09, x19, x29⟩, ⟨f9, c9, k9, L9, N9, ST9, DT9, NA9, PL9, nme9, hRX9⟩, ⟨RS9, hC9⟩, hO9, hA9, hBd9, ⟨wn9, wk9, wv9, wS9, hW9⟩, ⟨hn9, hls9, hY19, hY29⟩, hAc9⟩ := id hI9
          obtain ⟨hR9, hf19, hf29, hL319, hN319, hf39⟩ := id hRX9
          obtain ⟨tr9, r09, r19, r29, r39, r49, r59, r69, tp9, ⟨ta9, g09, f19, g29, g39, g49, g59, g69, tb9⟩, hBy9, hF9, hST9, hDT9, hNA9, hPL9, hdis9, hcs9⟩ := id hR9
          refine jx_callV (M2 := mm_CW_settle) rfl tx7 lk_CW_60 wi_CW_settle ws_CW_settle d_CW_define_11 hCs cd_CW_settle rfl rfl (Nat.le_of_ble_eq_true rfl) (jm_fok (by omega)) (jm_look (by decide) (by omega)) ?_
          refine jx_aload_n d_CW_define_14 0 rfl ?_
          refine jx_get d_CW_define_15 fF_CW_12 tx9 x09 ?_
          refine jx_get d_CW_define_18 fF_CW_30 tr9 r09 ?_
          refine jx_iconst (v0 := 0) d_CW_define_21 (by decide) ?_
          refine jx_put (v0 := .int (0)) d_CW_define_22 fF_CW_34 jv_Tp ft_Tp_length ta9 rfl rfl ?_
          refine jx_aload_n d_CW_define_25 0 rfl ?_
          refine jx_get d_CW_define_26 fF_CW_12 tx9 (jm_rd_k (by decide) x09) ?_
          refine jx_get d_CW_define_29 fF_CW_63 tr9 (jm_rd_k (by decide) r39) ?_
          refine jx_if_ne (tgt := 39) d_CW_define_32 (by decide) (fun c8 => absurd c8 (by decide)) (fun c8 => ?_)
          refine jx_iconst (v0 := -1) d_CW_define_35 (by decide) ?_
          refine jx_goto (tgt := 46) d_CW_define_36 (by decide) ?_
          exact jx_iret d_CW_define_46 rfl (⟨_, rfl, c, nm, .inr (t, c1, k1), hDf, L1, N1, ST1, DT1, NA1, PL1, ht, hcd, hL79, hN40, Or.inr (Or.inr (Or.inl ⟨hno, rfl, p, f, SK, SV, hix, hL9.1, (hMv1.trans0 hMv9).then0 hL9.2⟩))⟩)
