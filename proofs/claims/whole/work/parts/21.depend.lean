def q_dps (RS : Nat → Int64) (s : Int64) : Nat → Int64
  | 0 => s
  | p + 1 => if RS p &&& q_dps RS s p = 0 then q_dps RS s p else q_dps RS s p ||| bt1 p
def q_drun (RS : Nat → Int64) (m : Nat) : Nat → Int64 → Int64 → Int64
  | 0, s, _ => s
  | f + 1, s, before => if s = before then s else q_drun RS m f (q_dps RS s m) s
def q_gps (RS : Nat → Int64) (s : Int64) : Nat → Int64
  | 0 => s
  | p + 1 => if q_gps RS s p &&& bt1 p = 0 then q_gps RS s p else q_gps RS s p ||| RS p
def q_grun (RS : Nat → Int64) (m : Nat) : Nat → Int64 → Int64 → Int64
  | 0, s, _ => s
  | f + 1, s, before => if s = before then s else q_grun RS m f (q_gps RS s m) s
set_option maxHeartbeats 4000000 in
set_option maxRecDepth 100000 in
theorem lpi_Cs_dependents (l : Launch) (G : jm_G) {h : jm_H} {b m : Nat} {R : Nat → CRec} {RS : Nat → Int64} {u : Int64} {n0 s0 d k : Nat} {s : Int64} {Post : jm_r → jm_H → Prop} (hC : CsA h b m R RS) (kk : jm_X l G mm_Cs_dependents n0 s0 (jm_zn G d n0 s0) Post 74 [(8, .int (nI (m))), (3, .long (q_dps RS s (m))), (5, .long s), (7, .int (nI k)), (0, .ref b), (1, .long u)] [] h) (t : Nat) : ∀ p, m - p < t → p ≤ m → jm_X l G mm_Cs_dependents n0 s0 (jm_zn G d n0 s0) Post 38 [(8, .int (nI (p))), (3, .long (q_dps RS s (p))), (5, .long s), (7, .int (nI k)), (0, .ref b), (1, .long u)] [] h := by
  obtain ⟨tb, b0, b1, b2, t1, t2, hRS, hm, hR⟩ := id hC
  induction t with
  | zero => intro i hm; omega
  | succ t ih =>
    intro p hm2 hpm
    refine jx_iload d_Cs_dependents_38 0 rfl ?_
    refine jx_aload_n d_Cs_dependents_40 4 rfl ?_
    refine jx_get d_Cs_dependents_41 fF_Cs_17 tb b1 ?_
    refine jx_icmp_geN (tgt := 74) (p) (m) d_Cs_dependents_44 rfl rfl (by omega) (by omega) (by decide) (fun c1 => ?_) (fun c1 => ?_)
    ·
      have hi : m = p := by omega
      rw [hi] at kk
      exact kk
    ·
      refine jx_aload_n d_Cs_dependents_47 4 rfl ?_
      refine jx_get d_Cs_dependents_48 fF_Cs_21 tb b2 ?_
      refine jx_iload d_Cs_dependents_51 0 rfl ?_
      refine jx_lald d_Cs_dependents_53 t2 rfl (jm_vinN (by omega) (by decide)) (jm_atN (by omega) (hRS _ (by omega))) ?_
      refine jx_lload_n d_Cs_dependents_54 1 rfl ?_
      refine jx_land d_Cs_dependents_55 ?_
      refine jx_lconst (v0 := 0) d_Cs_dependents_56 (by decide) ?_
      refine jx_lcmp d_Cs_dependents_57 ?_
      refine jx_if_eqL (tgt := 68) d_Cs_dependents_58 (by decide) (fun c2 => ?_) (fun c2 => ?_)
      ·
        refine jx_iinc (v0 := nI (p + 1)) (lv' := [(8, .int (nI (p + 1))), (3, .long (q_dps RS s p)), (5, .long (s)), (7, .int (nI (k))), (0, .ref (b)), (1, .long (u))]) d_Cs_dependents_68 0 rfl (nI_add _ 1) (by decide) rfl ?_
        refine jx_goto (tgt := 38) d_Cs_dependents_71 (by decide) ?_
        refine jx_lv [0, 1, 2, 3, 4, 5] rfl ?_
        have hx : q_dps RS s (p + 1) = _ := if_pos c2
        rw [← hx]
        exact ih (p + 1) (by omega) (by omega)
      ·
        refine jx_lload_n d_Cs_dependents_61 1 rfl ?_
        refine jx_lconst (v0 := 1) d_Cs_dependents_62 (by decide) ?_
        refine jx_iload d_Cs_dependents_63 0 rfl ?_
        refine jx_lshl d_Cs_dependents_65 ?_
        refine jx_atl (show _ = bt1 (p) from rfl) ?_
        refine jx_lor d_Cs_dependents_66 ?_
        refine jx_topl fun x3 ex3 => ?_
        refine jx_lstore_n (lv' := [(3, .long (x3)), (8, .int (nI (p))), (5, .long (s)), (7, .int (nI (k))), (0, .ref (b)), (1, .long (u))]) d_Cs_dependents_67 (by decide) rfl ?_
        refine jx_iinc (v0 := nI (p + 1)) (lv' := [(8, .int (nI (p + 1))), (3, .long (x3)), (5, .long (s)), (7, .int (nI (k))), (0, .ref (b)), (1, .long (u))]) d_Cs_dependents_68 1 rfl (nI_add _ 1) (by decide) rfl ?_
        refine jx_goto (tgt := 38) d_Cs_dependents_71 (by decide) ?_
        subst ex3
        refine jx_lv [0, 1, 2, 3, 4, 5] rfl ?_
        have hx : q_dps RS s (p + 1) = _ := if_neg c2
        rw [← hx]
        exact ih (p + 1) (by omega) (by omega)
set_option maxHeartbeats 4000000 in
set_option maxRecDepth 100000 in
theorem lp_Cs_dependents (l : Launch) (G : jm_G) {h : jm_H} {b m : Nat} {R : Nat → CRec} {RS : Nat → Int64} {u : Int64} {n0 s0 d : Nat} {Post : jm_r → jm_H → Prop} (hC : CsA h b m R RS) (t : Nat) : ∀ (k : Nat) (s bf : Int64), m - k < t → k ≤ m → Post (.inl (some (.long (q_drun RS m (m - k) s bf)))) h → jm_X l G mm_Cs_dependents n0 s0 (jm_zn G d n0 s0) Post 16 [(7, .int (nI k)), (5, .long bf), (3, .long s), (0, .ref b), (1, .long u)] [] h := by
  obtain ⟨tb, b0, b1, b2, t1, t2, hRS, hm, hR⟩ := id hC
  induction t with
  | zero => intro k s bf hm; omega
  | succ t ih =>
    intro k s bf hm2 hkm kk
    refine jx_iload d_Cs_dependents_16 0 rfl ?_
    refine jx_aload_n d_Cs_dependents_18 3 rfl ?_
    refine jx_get d_Cs_dependents_19 fF_Cs_17 tb b1 ?_
    refine jx_icmp_geN (tgt := 80) (k) (m) d_Cs_dependents_22 rfl rfl (by omega) (by omega) (by decide) (fun c1 => ?_) (fun c1 => ?_)
    ·
      refine jx_lload_n d_Cs_dependents_80 2 rfl ?_
      exact jx_lret d_Cs_dependents_81 rfl (by rw [show m - k = 0 by omega] at kk; exact kk)
    ·
      refine jx_lload_n d_Cs_dependents_25 2 rfl ?_
      refine jx_lload d_Cs_dependents_26 1 rfl ?_
      refine jx_lcmp d_Cs_dependents_28 ?_
      refine jx_if_eqL (tgt := 80) d_Cs_dependents_29 (by decide) (fun c2 => ?_) (fun c2 => ?_)
      ·
        refine jx_lload_n d_Cs_dependents_80 2 rfl ?_
        exact jx_lret d_Cs_dependents_81 rfl (by rw [show m - k = (m - (k + 1)) + 1 by omega, show q_drun RS m ((m - (k + 1)) + 1) s bf = s from if_pos c2] at kk; exact kk)
      ·
        refine jx_lload_n d_Cs_dependents_32 2 rfl ?_
        refine jx_lstore (lv' := [(5, .long (s)), (7, .int (nI (k))), (3, .long (s)), (0, .ref (b)), (1, .long (u))]) d_Cs_dependents_33 (by decide) rfl ?_
        refine jx_iconst (v0 := 0) d_Cs_dependents_35 (by decide) ?_
        refine jx_istore (lv' := [(8, .int (0)), (5, .long (s)), (7, .int (nI (k))), (3, .long (s)), (0, .ref (b)), (1, .long (u))]) d_Cs_dependents_36 (by decide) rfl ?_
        refine jx_lv [0, 3, 1, 2, 4, 5] rfl ?_
        refine lpi_Cs_dependents l G hC ?_ (m + 1) 0 (by omega) (by omega)
        refine jx_iinc (v0 := nI (k + 1)) (lv' := [(7, .int (nI (k + 1))), (8, .int (nI (m))), (3, .long (q_dps RS s m)), (5, .long (s)), (0, .ref (b)), (1, .long (u))]) d_Cs_dependents_74 3 rfl (nI_add _ 1) (by decide) rfl ?_
        refine jx_goto (tgt := 16) d_Cs_dependents_77 (by decide) ?_
        refine jx_lv [0, 3, 2, 4, 5] rfl ?_
        have hx : q_drun RS m (m - k) s bf = q_drun RS m (m - (k + 1)) (q_dps RS s m) s := by rw [show m - k = (m - (k + 1)) + 1 by omega]; exact if_neg c2
        rw [hx] at kk
        exact ih (k + 1) _ _ (by omega) (by omega) kk
set_option maxHeartbeats 4000000 in
set_option maxRecDepth 100000 in
theorem c_Cs_dependents (l : Launch) (G : jm_G) (d : Nat) (hd : 3 ≤ d) {h : jm_H} {b m : Nat} {R : Nat → CRec} {RS : Nat → Int64} {u : Int64} (hC : CsA h b m R RS) (hs : SortR R m) : jm_C l G mm_Cs_dependents d [.ref b, .long u] h (some (.long (q_drun (q_trs R m RS m) m m (q_dir R u m) 0))) (q_trh R m b h m) := by
  obtain ⟨tb, b0, b1, b2, t1, t2, hRS, hm, hR⟩ := id hC
  refine jm_ofE (by decide) rfl (Nat.le_of_ble_eq_true rfl) ?_
  refine jx_aload_n d_Cs_dependents_0 0 rfl ?_
  refine jx_lload_n d_Cs_dependents_1 1 rfl ?_
  refine jx_callV (M2 := mm_Cs_directReaders) rfl tb lk_Cs_85 wi_Cs_directReaders ws_Cs_directReaders d_Cs_dependents_2 (c_Cs_directReaders l G (d - 1) (by omega) hC) cd_Cs_directReaders rfl rfl (Nat.le_of_ble_eq_true rfl) (jm_fok (by omega)) (jm_look (by decide) (by omega)) ?_
  refine jx_lstore_n (lv' := [(3, .long (q_dir R u m)), (0, .ref (b)), (1, .long (u))]) d_Cs_dependents_5 (by decide) rfl ?_
  refine jx_lconst (v0 := 0) d_Cs_dependents_6 (by decide) ?_
  refine jx_lstore (lv' := [(5, .long (0)), (3, .long (q_dir R u m)), (0, .ref (b)), (1, .long (u))]) d_Cs_dependents_7 (by decide) rfl ?_
  refine jx_aload_n d_Cs_dependents_9 2 rfl ?_
  obtain ⟨tb9, b09, b19, b29, t19, t29, hRS9, -, hR9⟩ := id (hC.trh m)
  refine jx_callV (M2 := mm_Cs_trace) rfl tb lk_Cs_89 wi_Cs_trace ws_Cs_trace d_Cs_dependents_10 (c_Cs_trace l G (d - 1) (by omega) hC hs) cd_Cs_trace rfl rfl (Nat.le_of_ble_eq_true rfl) (jm_fok (by omega)) (jm_look (by decide) (by omega)) ?_
  refine jx_iconst (v0 := 0) d_Cs_dependents_13 (by decide) ?_
  refine jx_istore (lv' := [(7, .int (0)), (5, .long (0)), (3, .long (q_dir R u m)), (0, .ref (b)), (1, .long (u))]) d_Cs_dependents_14 (by decide) rfl ?_
  refine jx_lv [0, 1, 2, 3, 4] rfl ?_
  exact lp_Cs_dependents l G (hC.trh m) (m + 1) 0 _ _ (by omega) (by omega) ⟨rfl, rfl⟩
set_option maxHeartbeats 4000000 in
set_option maxRecDepth 100000 in
theorem lpi_Cs_withGround (l : Launch) (G : jm_G) {h : jm_H} {b m : Nat} {R : Nat → CRec} {RS : Nat → Int64} {u : Int64} {n0 s0 d k : Nat} {s : Int64} {Post : jm_r → jm_H → Prop} (hC : CsA h b m R RS) (kk : jm_X l G mm_Cs_withGround n0 s0 (jm_zn G d n0 s0) Post 70 [(8, .int (nI (m))), (3, .long (q_gps RS s (m))), (5, .long s), (7, .int (nI k)), (0, .ref b), (1, .long u)] [] h) (t : Nat) : ∀ p, m - p < t → p ≤ m → jm_X l G mm_Cs_withGround n0 s0 (jm_zn G d n0 s0) Post 34 [(8, .int (nI (p))), (3, .long (q_gps RS s (p))), (5, .long s), (7, .int (nI k)), (0, .ref b), (1, .long u)] [] h := by
  obtain ⟨tb, b0, b1, b2, t1, t2, hRS, hm, hR⟩ := id hC
  induction t with
  | zero => intro i hm; omega
  | succ t ih =>
    intro p hm2 hpm
    refine jx_iload d_Cs_withGround_34 0 rfl ?_
    refine jx_aload_n d_Cs_withGround_36 4 rfl ?_
    refine jx_get d_Cs_withGround_37 fF_Cs_17 tb b1 ?_
    refine jx_icmp_geN (tgt := 70) (p) (m) d_Cs_withGround_40 rfl rfl (by omega) (by omega) (by decide) (fun c1 => ?_) (fun c1 => ?_)
    ·
      have hi : m = p := by omega
      rw [hi] at kk
      exact kk
    ·
      refine jx_lload_n d_Cs_withGround_43 1 rfl ?_
      refine jx_lconst (v0 := 1) d_Cs_withGround_44 (by decide) ?_
      refine jx_iload d_Cs_withGround_45 0 rfl ?_
      refine jx_lshl d_Cs_withGround_47 ?_
      refine jx_atl (show _ = bt1 (p) from rfl) ?_
      refine jx_land d_Cs_withGround_48 ?_
      refine jx_lconst (v0 := 0) d_Cs_withGround_49 (by decide) ?_
      refine jx_lcmp d_Cs_withGround_50 ?_
      refine jx_if_eqL (tgt := 64) d_Cs_withGround_51 (by decide) (fun c2 => ?_) (fun c2 => ?_)
      ·
        refine jx_iinc (v0 := nI (p + 1)) (lv' := [(8, .int (nI (p + 1))), (3, .long (q_gps RS s p)), (5, .long (s)), (7, .int (nI (k))), (0, .ref (b)), (1, .long (u))]) d_Cs_withGround_64 0 rfl (nI_add _ 1) (by decide) rfl ?_
        refine jx_goto (tgt := 34) d_Cs_withGround_67 (by decide) ?_
        refine jx_lv [0, 1, 2, 3, 4, 5] rfl ?_
        have hx : q_gps RS s (p + 1) = _ := if_pos c2
        rw [← hx]
        exact ih (p + 1) (by omega) (by omega)
      ·
        refine jx_lload_n d_Cs_withGround_54 1 rfl ?_
        refine jx_aload_n d_Cs_withGround_55 4 rfl ?_
        refine jx_get d_Cs_withGround_56 fF_Cs_21 tb b2 ?_
        refine jx_iload d_Cs_withGround_59 0 rfl ?_
        refine jx_lald d_Cs_withGround_61 t2 rfl (jm_vinN (by omega) (by decide)) (jm_atN (by omega) (hRS _ (by omega))) ?_
        refine jx_lor d_Cs_withGround_62 ?_
        refine jx_lstore_n (lv' := [(3, .long ((q_gps RS s p ||| RS p))), (8, .int (nI (p))), (5, .long (s)), (7, .int (nI (k))), (0, .ref (b)), (1, .long (u))]) d_Cs_withGround_63 (by decide) rfl ?_
        refine jx_iinc (v0 := nI (p + 1)) (lv' := [(8, .int (nI (p + 1))), (3, .long ((q_gps RS s p ||| RS p))), (5, .long (s)), (7, .int (nI (k))), (0, .ref (b)), (1, .long (u))]) d_Cs_withGround_64 1 rfl (nI_add _ 1) (by decide) rfl ?_
        refine jx_goto (tgt := 34) d_Cs_withGround_67 (by decide) ?_
        refine jx_lv [0, 1, 2, 3, 4, 5] rfl ?_
        have hx : q_gps RS s (p + 1) = _ := if_neg c2
        rw [← hx]
        exact ih (p + 1) (by omega) (by omega)
set_option maxHeartbeats 4000000 in
set_option maxRecDepth 100000 in
theorem lp_Cs_withGround (l : Launch) (G : jm_G) {h : jm_H} {b m : Nat} {R : Nat → CRec} {RS : Nat → Int64} {u : Int64} {n0 s0 d : Nat} {Post : jm_r → jm_H → Prop} (hC : CsA h b m R RS) (t : Nat) : ∀ (k : Nat) (s bf : Int64), m - k < t → k ≤ m → Post (.inl (some (.long (q_grun RS m (m - k) s bf)))) h → jm_X l G mm_Cs_withGround n0 s0 (jm_zn G d n0 s0) Post 12 [(7, .int (nI k)), (5, .long bf), (3, .long s), (0, .ref b), (1, .long u)] [] h := by
  obtain ⟨tb, b0, b1, b2, t1, t2, hRS, hm, hR⟩ := id hC
  induction t with
  | zero => intro k s bf hm; omega
  | succ t ih =>
    intro k s bf hm2 hkm kk
    refine jx_iload d_Cs_withGround_12 0 rfl ?_
    refine jx_aload_n d_Cs_withGround_14 3 rfl ?_
    refine jx_get d_Cs_withGround_15 fF_Cs_17 tb b1 ?_
    refine jx_icmp_geN (tgt := 76) (k) (m) d_Cs_withGround_18 rfl rfl (by omega) (by omega) (by decide) (fun c1 => ?_) (fun c1 => ?_)
    ·
      refine jx_lload_n d_Cs_withGround_76 2 rfl ?_
      exact jx_lret d_Cs_withGround_77 rfl (by rw [show m - k = 0 by omega] at kk; exact kk)
    ·
      refine jx_lload_n d_Cs_withGround_21 2 rfl ?_
      refine jx_lload d_Cs_withGround_22 1 rfl ?_
      refine jx_lcmp d_Cs_withGround_24 ?_
      refine jx_if_eqL (tgt := 76) d_Cs_withGround_25 (by decide) (fun c2 => ?_) (fun c2 => ?_)
      ·
        refine jx_lload_n d_Cs_withGround_76 2 rfl ?_
        exact jx_lret d_Cs_withGround_77 rfl (by rw [show m - k = (m - (k + 1)) + 1 by omega, show q_grun RS m ((m - (k + 1)) + 1) s bf = s from if_pos c2] at kk; exact kk)
      ·
        refine jx_lload_n d_Cs_withGround_28 2 rfl ?_
        refine jx_lstore (lv' := [(5, .long (s)), (7, .int (nI (k))), (3, .long (s)), (0, .ref (b)), (1, .long (u))]) d_Cs_withGround_29 (by decide) rfl ?_
        refine jx_iconst (v0 := 0) d_Cs_withGround_31 (by decide) ?_
        refine jx_istore (lv' := [(8, .int (0)), (5, .long (s)), (7, .int (nI (k))), (3, .long (s)), (0, .ref (b)), (1, .long (u))]) d_Cs_withGround_32 (by decide) rfl ?_
        refine jx_lv [0, 3, 1, 2, 4, 5] rfl ?_
        refine lpi_Cs_withGround l G hC ?_ (m + 1) 0 (by omega) (by omega)
        refine jx_iinc (v0 := nI (k + 1)) (lv' := [(7, .int (nI (k + 1))), (8, .int (nI (m))), (3, .long (q_gps RS s m)), (5, .long (s)), (0, .ref (b)), (1, .long (u))]) d_Cs_withGround_70 3 rfl (nI_add _ 1) (by decide) rfl ?_
        refine jx_goto (tgt := 12) d_Cs_withGround_73 (by decide) ?_
        refine jx_lv [0, 3, 2, 4, 5] rfl ?_
        have hx : q_grun RS m (m - k) s bf = q_grun RS m (m - (k + 1)) (q_gps RS s m) s := by rw [show m - k = (m - (k + 1)) + 1 by omega]; exact if_neg c2
        rw [hx] at kk
        exact ih (k + 1) _ _ (by omega) (by omega) kk
set_option maxHeartbeats 4000000 in
set_option maxRecDepth 100000 in
theorem c_Cs_withGround (l : Launch) (G : jm_G) (d : Nat) (hd : 3 ≤ d) {h : jm_H} {b m : Nat} {R : Nat → CRec} {RS : Nat → Int64} {u : Int64} (hC : CsA h b m R RS) (hs : SortR R m) : jm_C l G mm_Cs_withGround d [.ref b, .long u] h (some (.long (q_grun (q_trs R m RS m) m m (u) 0))) (q_trh R m b h m) := by
  obtain ⟨tb, b0, b1, b2, t1, t2, hRS, hm, hR⟩ := id hC
  refine jm_ofE (by decide) rfl (Nat.le_of_ble_eq_true rfl) ?_
  refine jx_lload_n d_Cs_withGround_0 1 rfl ?_
  refine jx_lstore_n (lv' := [(3, .long (u)), (0, .ref (b)), (1, .long (u))]) d_Cs_withGround_1 (by decide) rfl ?_
  refine jx_lconst (v0 := 0) d_Cs_withGround_2 (by decide) ?_
  refine jx_lstore (lv' := [(5, .long (0)), (3, .long (u)), (0, .ref (b)), (1, .long (u))]) d_Cs_withGround_3 (by decide) rfl ?_
  refine jx_aload_n d_Cs_withGround_5 2 rfl ?_
  obtain ⟨tb9, b09, b19, b29, t19, t29, hRS9, -, hR9⟩ := id (hC.trh m)
  refine jx_callV (M2 := mm_Cs_trace) rfl tb lk_Cs_89 wi_Cs_trace ws_Cs_trace d_Cs_withGround_6 (c_Cs_trace l G (d - 1) (by omega) hC hs) cd_Cs_trace rfl rfl (Nat.le_of_ble_eq_true rfl) (jm_fok (by omega)) (jm_look (by decide) (by omega)) ?_
  refine jx_iconst (v0 := 0) d_Cs_withGround_9 (by decide) ?_
  refine jx_istore (lv' := [(7, .int (0)), (5, .long (0)), (3, .long (u)), (0, .ref (b)), (1, .long (u))]) d_Cs_withGround_10 (by decide) rfl ?_
  refine jx_lv [0, 1, 2, 3, 4] rfl ?_
  exact lp_Cs_withGround l G (hC.trh m) (m + 1) 0 _ _ (by omega) (by omega) ⟨rfl, rfl⟩
