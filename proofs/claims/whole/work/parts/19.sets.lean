def q_stf (R : Nat → CRec) (m : Nat) (p : Nat) : Bool := q_stale R m (R p)
theorem cnt_t {f : Nat → Bool} {p : Nat} (h : f p = true) : cnt f (p + 1) = cnt f p + 1 := by show cnt f p + (if f p = true then 1 else 0) = _; rw [if_pos h]
theorem cnt_f {f : Nat → Bool} {p : Nat} (h : f p = false) : cnt f (p + 1) = cnt f p := by show cnt f p + (if f p = true then 1 else 0) = _; rw [if_neg (by rw [h]; decide)]; rfl
set_option maxHeartbeats 4000000 in
set_option maxRecDepth 100000 in
theorem lp_Cs_staleOnes (l : Launch) (G : jm_G) {h : jm_H} {b m : Nat} {R : Nat → CRec} {RS : Nat → Int64} {n0 s0 d : Nat} (hd : 4 ≤ d) (hC : CsA h b m R RS) (hs : SortR R m) (t : Nat) : ∀ p, m - p < t → p ≤ m → jm_X l G mm_Cs_staleOnes n0 s0 (jm_zn G d n0 s0) (fun r h9 => r = .inl (some (.int (nI (cnt (q_stf R m) m)))) ∧ h9 = h) 4 [(2, .int (nI p)), (1, .int (nI (cnt (q_stf R m) p))), (0, .ref b)] [] h := by
  obtain ⟨tb, b0, b1, b2, t1, t2, hRS, hm, hR⟩ := id hC
  induction t with
  | zero => intro p hm; omega
  | succ t ih =>
    intro p hm2 hpm
    have hcl := cnt_le (q_stf R m) p
    refine jx_iload_n d_Cs_staleOnes_4 0 rfl ?_
    refine jx_aload_n d_Cs_staleOnes_5 2 rfl ?_
    refine jx_get d_Cs_staleOnes_6 fF_Cs_17 tb b1 ?_
    refine jx_icmp_geN (tgt := 34) (p) (m) d_Cs_staleOnes_9 rfl rfl (by omega) (by omega) (by decide) (fun c1 => ?_) (fun c1 => ?_)
    ·
      refine jx_iload_n d_Cs_staleOnes_34 1 rfl ?_
      exact jx_iret d_Cs_staleOnes_35 rfl (⟨by rw [show m = p by omega], rfl⟩)
    ·
      refine jx_aload_n d_Cs_staleOnes_12 2 rfl ?_
      refine jx_aload_n d_Cs_staleOnes_13 2 rfl ?_
      refine jx_get d_Cs_staleOnes_14 fF_Cs_11 tb b0 ?_
      refine jx_iload_n d_Cs_staleOnes_17 0 rfl ?_
      refine jx_aald d_Cs_staleOnes_18 t1 rfl (jm_vinN (by omega) (by decide)) (jm_atN (by omega) (hR p (by omega)).1) ?_
      have hC2 := c_Cs_isStale l G (d - 1) (by omega) hC hs (p := p) (by omega)
      cases e2 : q_stale R m (R p) with
      | false =>
        rw [e2] at hC2
        refine jx_callV (M2 := mm_Cs_isStale) rfl tb lk_Cs_77 wi_Cs_isStale ws_Cs_isStale d_Cs_staleOnes_19 hC2 cd_Cs_isStale rfl rfl (Nat.le_of_ble_eq_true rfl) (jm_fok (by omega)) (jm_look (by decide) (by omega)) ?_
        refine jx_if_eq (tgt := 28) d_Cs_staleOnes_22 (by decide) (fun c3 => ?_) (fun c3 => absurd c3 (by decide))
        refine jx_iinc (v0 := nI (p + 1)) (lv' := [(2, .int (nI (p + 1))), (1, .int (nI (cnt (q_stf R m) p))), (0, .ref (b))]) d_Cs_staleOnes_28 0 rfl (nI_add _ 1) (by decide) rfl ?_
        refine jx_goto (tgt := 4) d_Cs_staleOnes_31 (by decide) ?_
        rw [← cnt_f (f := q_stf R m) e2]
        exact ih (p + 1) (by omega) (by omega)
      | true =>
        rw [e2] at hC2
        refine jx_callV (M2 := mm_Cs_isStale) rfl tb lk_Cs_77 wi_Cs_isStale ws_Cs_isStale d_Cs_staleOnes_19 hC2 cd_Cs_isStale rfl rfl (Nat.le_of_ble_eq_true rfl) (jm_fok (by omega)) (jm_look (by decide) (by omega)) ?_
        refine jx_if_eq (tgt := 28) d_Cs_staleOnes_22 (by decide) (fun c4 => absurd c4 (by decide)) (fun c4 => ?_)
        refine jx_iinc (v0 := nI (cnt (q_stf R m) p + 1)) (lv' := [(1, .int (nI (cnt (q_stf R m) p + 1))), (2, .int (nI (p))), (0, .ref (b))]) d_Cs_staleOnes_25 1 rfl (nI_add _ 1) (by decide) rfl ?_
        refine jx_iinc (v0 := nI (p + 1)) (lv' := [(2, .int (nI (p + 1))), (1, .int (nI (cnt (q_stf R m) p + 1))), (0, .ref (b))]) d_Cs_staleOnes_28 1 rfl (nI_add _ 1) (by decide) rfl ?_
        refine jx_goto (tgt := 4) d_Cs_staleOnes_31 (by decide) ?_
        rw [← cnt_t (f := q_stf R m) e2]
        exact ih (p + 1) (by omega) (by omega)
set_option maxHeartbeats 4000000 in
set_option maxRecDepth 100000 in
theorem c_Cs_staleOnes (l : Launch) (G : jm_G) (d : Nat) (hd : 4 ≤ d) {h : jm_H} {b m : Nat} {R : Nat → CRec} {RS : Nat → Int64} (hC : CsA h b m R RS) (hs : SortR R m) : jm_C l G mm_Cs_staleOnes d [.ref b] h (some (.int (nI (cnt (q_stf R m) m)))) h := by
  obtain ⟨tb, b0, b1, b2, t1, t2, hRS, hm, hR⟩ := id hC
  refine jm_ofE (by decide) rfl (Nat.le_of_ble_eq_true rfl) ?_
  refine jx_iconst (v0 := 0) d_Cs_staleOnes_0 (by decide) ?_
  refine jx_istore_n (lv' := [(1, .int (0)), (0, .ref (b))]) d_Cs_staleOnes_1 (by decide) rfl ?_
  refine jx_iconst (v0 := 0) d_Cs_staleOnes_2 (by decide) ?_
  refine jx_istore_n (lv' := [(2, .int (0)), (1, .int (0)), (0, .ref (b))]) d_Cs_staleOnes_3 (by decide) rfl ?_
  exact lp_Cs_staleOnes l G hd hC hs (m + 1) 0 (by omega) (by omega)
def q_all : Nat → Int64
  | 0 => 0
  | p + 1 => q_all p ||| bt1 p
set_option maxHeartbeats 4000000 in
set_option maxRecDepth 100000 in
theorem lp_Cs_all (l : Launch) (G : jm_G) {h : jm_H} {b m : Nat} {R : Nat → CRec} {RS : Nat → Int64} {n0 s0 d : Nat} (hC : CsA h b m R RS) (t : Nat) : ∀ p, m - p < t → p ≤ m → jm_X l G mm_Cs_all n0 s0 (jm_zn G d n0 s0) (fun r h9 => r = .inl (some (.long (q_all m))) ∧ h9 = h) 4 [(3, .int (nI p)), (1, .long (q_all p)), (0, .ref b)] [] h := by
  obtain ⟨tb, b0, b1, b2, t1, t2, hRS, hm, hR⟩ := id hC
  induction t with
  | zero => intro p hm; omega
  | succ t ih =>
    intro p hm2 hpm
    refine jx_iload_n d_Cs_all_4 0 rfl ?_
    refine jx_aload_n d_Cs_all_5 2 rfl ?_
    refine jx_get d_Cs_all_6 fF_Cs_17 tb b1 ?_
    refine jx_icmp_geN (tgt := 24) (p) (m) d_Cs_all_9 rfl rfl (by omega) (by omega) (by decide) (fun c1 => ?_) (fun c1 => ?_)
    ·
      refine jx_lload_n d_Cs_all_24 1 rfl ?_
      exact jx_lret d_Cs_all_25 rfl (⟨by rw [show m = p by omega], rfl⟩)
    ·
      refine jx_lload_n d_Cs_all_12 1 rfl ?_
      refine jx_lconst (v0 := 1) d_Cs_all_13 (by decide) ?_
      refine jx_iload_n d_Cs_all_14 0 rfl ?_
      refine jx_lshl d_Cs_all_15 ?_
      refine jx_atl (show _ = bt1 (p) from rfl) ?_
      refine jx_lor d_Cs_all_16 ?_
      refine jx_lstore_n (lv' := [(1, .long ((q_all p ||| (bt1 (p))))), (3, .int (nI (p))), (0, .ref (b))]) d_Cs_all_17 (by decide) rfl ?_
      refine jx_iinc (v0 := nI (p + 1)) (lv' := [(3, .int (nI (p + 1))), (1, .long ((q_all p ||| (bt1 (p))))), (0, .ref (b))]) d_Cs_all_18 1 rfl (nI_add _ 1) (by decide) rfl ?_
      refine jx_goto (tgt := 4) d_Cs_all_21 (by decide) ?_
      exact ih (p + 1) (by omega) (by omega)
set_option maxHeartbeats 4000000 in
set_option maxRecDepth 100000 in
theorem c_Cs_all (l : Launch) (G : jm_G) (d : Nat) {h : jm_H} {b m : Nat} {R : Nat → CRec} {RS : Nat → Int64} (hC : CsA h b m R RS) : jm_C l G mm_Cs_all d [.ref b] h (some (.long (q_all m))) h := by
  obtain ⟨tb, b0, b1, b2, t1, t2, hRS, hm, hR⟩ := id hC
  refine jm_ofE (by decide) rfl (Nat.le_of_ble_eq_true rfl) ?_
  refine jx_lconst (v0 := 0) d_Cs_all_0 (by decide) ?_
  refine jx_lstore_n (lv' := [(1, .long (0)), (0, .ref (b))]) d_Cs_all_1 (by decide) rfl ?_
  refine jx_iconst (v0 := 0) d_Cs_all_2 (by decide) ?_
  refine jx_istore_n (lv' := [(3, .int (0)), (1, .long (0)), (0, .ref (b))]) d_Cs_all_3 (by decide) rfl ?_
  exact lp_Cs_all l G hC (m + 1) 0 (by omega) (by omega)
noncomputable def q_dir (R : Nat → CRec) (u : Int64) : Nat → Int64
  | 0 => 0
  | p + 1 => if q_ment (k_NA (R p)) (k_N (R p)) u = true then q_dir R u p ||| bt1 p else q_dir R u p
set_option maxHeartbeats 4000000 in
set_option maxRecDepth 100000 in
theorem lp_Cs_directReaders (l : Launch) (G : jm_G) {h : jm_H} {b m : Nat} {R : Nat → CRec} {RS : Nat → Int64} {u : Int64} {n0 s0 d : Nat} (hd : 1 ≤ d) (hC : CsA h b m R RS) (t : Nat) : ∀ p, m - p < t → p ≤ m → jm_X l G mm_Cs_directReaders n0 s0 (jm_zn G d n0 s0) (fun r h9 => r = .inl (some (.long (q_dir R u m))) ∧ h9 = h) 5 [(5, .int (nI p)), (3, .long (q_dir R u p)), (0, .ref b), (1, .long u)] [] h := by
  obtain ⟨tb, b0, b1, b2, t1, t2, hRS, hm, hR⟩ := id hC
  induction t with
  | zero => intro p hm; omega
  | succ t ih =>
    intro p hm2 hpm
    refine jx_iload d_Cs_directReaders_5 0 rfl ?_
    refine jx_aload_n d_Cs_directReaders_7 2 rfl ?_
    refine jx_get d_Cs_directReaders_8 fF_Cs_17 tb b1 ?_
    refine jx_icmp_geN (tgt := 44) (p) (m) d_Cs_directReaders_11 rfl rfl (by omega) (by omega) (by decide) (fun c1 => ?_) (fun c1 => ?_)
    ·
      refine jx_lload_n d_Cs_directReaders_44 1 rfl ?_
      exact jx_lret d_Cs_directReaders_45 rfl (⟨by rw [show m = p by omega], rfl⟩)
    ·
      refine jx_aload_n d_Cs_directReaders_14 2 rfl ?_
      refine jx_get d_Cs_directReaders_15 fF_Cs_11 tb b0 ?_
      refine jx_iload d_Cs_directReaders_18 0 rfl ?_
      refine jx_aald d_Cs_directReaders_20 t1 rfl (jm_vinN (by omega) (by decide)) (jm_atN (by omega) (hR p (by omega)).1) ?_
      refine jx_get d_Cs_directReaders_21 fF_Cs_46 (hR p (by omega)).2.1.1 (hR p (by omega)).2.1.2.2.1 ?_
      refine jx_lload_n d_Cs_directReaders_24 3 rfl ?_
      have hC2 := c_Fm_mentions l G (d - 1) (u := u) (hR p (by omega)).2.2.1 (hR p (by omega)).2.2.2.2.2.1 (hR p (by omega)).2.2.2.2.2.2.2.2.1
      cases e2 : q_ment (k_NA (R p)) (k_N (R p)) u with
      | false =>
        rw [e2] at hC2
        refine jx_callV (M2 := mm_Fm_mentions) rfl (hR p (by omega)).2.2.1.1 lk_Cs_81 wi_Fm_mentions ws_Fm_mentions d_Cs_directReaders_25 hC2 cd_Fm_mentions rfl rfl (Nat.le_of_ble_eq_true rfl) (jm_fok (by omega)) (jm_look (by decide) (by omega)) ?_
        refine jx_if_eq (tgt := 38) d_Cs_directReaders_28 (by decide) (fun c3 => ?_) (fun c3 => absurd c3 (by decide))
        refine jx_iinc (v0 := nI (p + 1)) (lv' := [(5, .int (nI (p + 1))), (3, .long (q_dir R u p)), (0, .ref (b)), (1, .long (u))]) d_Cs_directReaders_38 0 rfl (nI_add _ 1) (by decide) rfl ?_
        refine jx_goto (tgt := 5) d_Cs_directReaders_41 (by decide) ?_
        have hx : q_dir R u (p + 1) = q_dir R u p := by show (if _ then _ else _) = _; rw [if_neg (by rw [e2]; decide)]
        rw [← hx]
        exact ih (p + 1) (by omega) (by omega)
      | true =>
        rw [e2] at hC2
        refine jx_callV (M2 := mm_Fm_mentions) rfl (hR p (by omega)).2.2.1.1 lk_Cs_81 wi_Fm_mentions ws_Fm_mentions d_Cs_directReaders_25 hC2 cd_Fm_mentions rfl rfl (Nat.le_of_ble_eq_true rfl) (jm_fok (by omega)) (jm_look (by decide) (by omega)) ?_
        refine jx_if_eq (tgt := 38) d_Cs_directReaders_28 (by decide) (fun c4 => absurd c4 (by decide)) (fun c4 => ?_)
        refine jx_lload_n d_Cs_directReaders_31 1 rfl ?_
        refine jx_lconst (v0 := 1) d_Cs_directReaders_32 (by decide) ?_
        refine jx_iload d_Cs_directReaders_33 0 rfl ?_
        refine jx_lshl d_Cs_directReaders_35 ?_
        refine jx_atl (show _ = bt1 (p) from rfl) ?_
        refine jx_lor d_Cs_directReaders_36 ?_
        refine jx_topl fun x5 ex5 => ?_
        refine jx_lstore_n (lv' := [(3, .long (x5)), (5, .int (nI (p))), (0, .ref (b)), (1, .long (u))]) d_Cs_directReaders_37 (by decide) rfl ?_
        refine jx_iinc (v0 := nI (p + 1)) (lv' := [(5, .int (nI (p + 1))), (3, .long (x5)), (0, .ref (b)), (1, .long (u))]) d_Cs_directReaders_38 1 rfl (nI_add _ 1) (by decide) rfl ?_
        refine jx_goto (tgt := 5) d_Cs_directReaders_41 (by decide) ?_
        have hx : q_dir R u (p + 1) = q_dir R u p ||| bt1 p := by show (if _ then _ else _) = _; rw [if_pos (by rw [e2])]
        subst ex5
        rw [← hx]
        exact ih (p + 1) (by omega) (by omega)
set_option maxHeartbeats 4000000 in
set_option maxRecDepth 100000 in
theorem c_Cs_directReaders (l : Launch) (G : jm_G) (d : Nat) (hd : 1 ≤ d) {h : jm_H} {b m : Nat} {R : Nat → CRec} {RS : Nat → Int64} {u : Int64} (hC : CsA h b m R RS) : jm_C l G mm_Cs_directReaders d [.ref b, .long u] h (some (.long (q_dir R u m))) h := by
  obtain ⟨tb, b0, b1, b2, t1, t2, hRS, hm, hR⟩ := id hC
  refine jm_ofE (by decide) rfl (Nat.le_of_ble_eq_true rfl) ?_
  refine jx_lconst (v0 := 0) d_Cs_directReaders_0 (by decide) ?_
  refine jx_lstore_n (lv' := [(3, .long (0)), (0, .ref (b)), (1, .long (u))]) d_Cs_directReaders_1 (by decide) rfl ?_
  refine jx_iconst (v0 := 0) d_Cs_directReaders_2 (by decide) ?_
  refine jx_istore (lv' := [(5, .int (0)), (3, .long (0)), (0, .ref (b)), (1, .long (u))]) d_Cs_directReaders_3 (by decide) rfl ?_
  exact lp_Cs_directReaders l G hd hC (m + 1) 0 (by omega) (by omega)
