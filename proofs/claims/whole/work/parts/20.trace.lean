theorem jm_ne_k {h : jm_H} {a b : Nat} {x y : Nat × Nat} (ha : h.2.2.1 a = x) (hb : h.2.2.1 b = y) (hc : x ≠ y) : a ≠ b := fun e => by
  subst e
  exact hc (ha.symm.trans hb)
theorem CellA.put {h : jm_H} {r : CRec} {a k : Nat} {v : Value} (p : CellA h r) (hn : k_a r ≠ a) : CellA (jm_put h a k v) r := ⟨p.1, jm_rd_a hn p.2.1, jm_rd_a hn p.2.2.1, jm_rd_a hn p.2.2.2.1, jm_rd_a hn p.2.2.2.2.1, jm_rd_a hn p.2.2.2.2.2⟩
theorem FmA.put {h : jm_H} {f L N a k : Nat} {v : Value} (p : FmA h f L N) (hn : f ≠ a) : FmA (jm_put h a k v) f L N := by
  obtain ⟨tf, g0, g1, g2, g3, g4, g5, g6, t1, t2, t3, t4, t5⟩ := p
  exact ⟨tf, jm_rd_a hn g0, jm_rd_a hn g1, jm_rd_a hn g2, jm_rd_a hn g3, jm_rd_a hn g4, jm_rd_a hn g5, jm_rd_a hn g6, t1, t2, t3, t4, t5⟩
theorem FmR.put {h : jm_H} {r : CRec} {a k : Nat} {v : Value} (p : FmR h r) (h0 : k_f r ≠ a) (h1 : k_f r + 1 ≠ a) (h2 : k_f r + 2 ≠ a) (h3 : k_f r + 3 ≠ a) (h4 : k_f r + 4 ≠ a) (h5 : k_f r + 5 ≠ a) : FmR (jm_put h a k v) r :=
  ⟨p.1.put h0, p.2.1.keep h1, p.2.2.1.keep h2, p.2.2.2.1.keep h3, p.2.2.2.2.1.keep h4, p.2.2.2.2.2.1.keep h5, p.2.2.2.2.2.2⟩
theorem CsA.reads {h : jm_H} {b m k : Nat} {R : Nat → CRec} {RS : Nat → Int64} {v : Int64} (hC : CsA h b m R RS) : CsA (jm_put h (b + 2) k (.long v)) b m R (jm_up RS k v) := by
  obtain ⟨tb, b0, b1, b2, t1, t2, hRS, hm, hR⟩ := hC
  refine ⟨tb, jm_rd_a (by omega) b0, jm_rd_a (by omega) b1, jm_rd_a (by omega) b2, t1, t2, hRS.put, hm, fun p hp => ?_⟩
  obtain ⟨r1, r2, r3⟩ := hR p hp
  obtain ⟨tf, -, -, -, -, -, -, -, s1, s2, s3, s4, s5⟩ := r3.1
  exact ⟨jm_rd_a (by omega) r1, r2.put (jm_ne_oa r2.1 t2), r3.put (jm_ne_oa tf t2) (jm_ne_aa s1 t2 (by decide)) (jm_ne_aa s2 t2 (by decide)) (jm_ne_k s3 t2 (by decide)) (jm_ne_aa s4 t2 (by decide)) (jm_ne_k s5 t2 (by decide))⟩
def q_rds (R : Nat → CRec) (m : Nat) (NA : Nat → Int64) : Nat → Int64
  | 0 => 0
  | i + 1 => match q_ix R m (NA i) with
    | none => q_rds R m NA i
    | some p => q_rds R m NA i ||| bt1 p
theorem q_rds_n {R : Nat → CRec} {m i : Nat} {NA : Nat → Int64} (h : q_ix R m (NA i) = none) : q_rds R m NA (i + 1) = q_rds R m NA i := by
  show (match q_ix R m (NA i) with | none => _ | some p => _) = _
  rw [h]
theorem q_rds_s {R : Nat → CRec} {m i p : Nat} {NA : Nat → Int64} (h : q_ix R m (NA i) = some p) : q_rds R m NA (i + 1) = q_rds R m NA i ||| bt1 p := by
  show (match q_ix R m (NA i) with | none => _ | some p => _) = _
  rw [h]
/-- what trace notes of a cell: the places of the cells whose names stand in its formula -/
def q_tr (R : Nat → CRec) (m p : Nat) : Int64 := q_rds R m (k_NA (R p)) (k_N (R p))
def q_trh (R : Nat → CRec) (m b : Nat) (h : jm_H) : Nat → jm_H
  | 0 => h
  | p + 1 => jm_put (q_trh R m b h p) (b + 2) p (.long (q_tr R m p))
def q_trs (R : Nat → CRec) (m : Nat) (RS : Nat → Int64) : Nat → Nat → Int64
  | 0 => RS
  | p + 1 => jm_up (q_trs R m RS p) p (q_tr R m p)
theorem CsA.trh {h : jm_H} {b m : Nat} {R : Nat → CRec} {RS : Nat → Int64} (hC : CsA h b m R RS) (p : Nat) : CsA (q_trh R m b h p) b m R (q_trs R m RS p) := by
  induction p with
  | zero => exact hC
  | succ p ih => exact ih.reads
theorem q_trs_at {R : Nat → CRec} {m : Nat} {RS : Nat → Int64} {n p : Nat} (h : p < n) : q_trs R m RS n p = q_tr R m p := by
  induction n with
  | zero => omega
  | succ n ih =>
    show jm_up (q_trs R m RS n) n (q_tr R m n) p = _
    by_cases e : p = n
    · subst e; exact jm_up_eq
    · rw [jm_up_ne e]; exact ih (by omega)
theorem q_trh_fr {R : Nat → CRec} {m b : Nat} {h : jm_H} (p : Nat) : jm_fr (fun x => x = b + 2) h (q_trh R m b h p) := by
  induction p with
  | zero => exact jm_fr.rf
  | succ p ih => exact ih.put rfl
set_option maxHeartbeats 4000000 in
set_option maxRecDepth 100000 in
theorem lpi_Cs_trace (l : Launch) (G : jm_G) {h : jm_H} {b m : Nat} {R : Nat → CRec} {RS : Nat → Int64} {n0 s0 d p : Nat} {Post : jm_r → jm_H → Prop} (hd : 2 ≤ d) (hC : CsA h b m R RS) (hs : SortR R m) (hp : p < m) (kk : jm_X l G mm_Cs_trace n0 s0 (jm_zn G d n0 s0) Post 66 [(5, .int (nI (k_N (R p)))), (3, .long (q_rds R m (k_NA (R p)) (k_N (R p)))), (2, .ref (k_f (R p))), (1, .int (nI p)), (0, .ref b)] [] h) (t : Nat) : ∀ i, k_N (R p) - i < t → i ≤ k_N (R p) → jm_X l G mm_Cs_trace n0 s0 (jm_zn G d n0 s0) Post 25 [(5, .int (nI (i))), (3, .long (q_rds R m (k_NA (R p)) (i))), (2, .ref (k_f (R p))), (1, .int (nI p)), (0, .ref b)] [] h := by
  obtain ⟨tb, b0, b1, b2, t1, t2, hRS, hm, hR⟩ := id hC
  have hN := (hR p (by omega)).2.2.2.2.2.2.2.2.1
  induction t with
  | zero => intro i hm; omega
  | succ t ih =>
    intro i hm2 hiN
    refine jx_iload d_Cs_trace_25 0 rfl ?_
    refine jx_aload_n d_Cs_trace_27 2 rfl ?_
    refine jx_get d_Cs_trace_28 fF_Cs_50 (hR p (by omega)).2.2.1.1 (hR p (by omega)).2.2.1.2.2.2.2.2.2.2.1 ?_
    refine jx_icmp_geN (tgt := 66) (i) (k_N (R p)) d_Cs_trace_31 rfl rfl (by omega) (by omega) (by decide) (fun c1 => ?_) (fun c1 => ?_)
    ·
      have hi : k_N (R p) = i := by omega
      rw [← hi]
      exact kk
    ·
      refine jx_aload_n d_Cs_trace_34 4 rfl ?_
      refine jx_aload_n d_Cs_trace_35 2 rfl ?_
      refine jx_get d_Cs_trace_36 fF_Cs_55 (hR p (by omega)).2.2.1.1 (hR p (by omega)).2.2.1.2.2.2.2.1 ?_
      refine jx_iload d_Cs_trace_39 0 rfl ?_
      refine jx_lald d_Cs_trace_41 (hR p (by omega)).2.2.1.2.2.2.2.2.2.2.2.2.2.1 rfl (jm_vinN (by omega) (by decide)) (jm_atN (by omega) ((hR p (by omega)).2.2.2.2.2.1 _ (by omega))) ?_
      cases e2 : q_ix R m (k_NA (R p) i) with
      | none =>
        have hC2 := c_Cs_indexOf l G (d - 1) (by omega) (u := (k_NA (R p) i)) hC hs
        rw [e2] at hC2
        refine jx_callV (M2 := mm_Cs_indexOf) rfl tb lk_Cs_33 wi_Cs_indexOf ws_Cs_indexOf d_Cs_trace_42 hC2 cd_Cs_indexOf rfl rfl (Nat.le_of_ble_eq_true rfl) (jm_fok (by omega)) (jm_look (by decide) (by omega)) ?_
        refine jx_istore (lv' := [(6, .int (-1)), (5, .int (nI (i))), (3, .long (q_rds R m (k_NA (R p)) i)), (2, .ref (k_f (R p))), (1, .int (nI (p))), (0, .ref (b))]) d_Cs_trace_45 (by decide) rfl ?_
        refine jx_iload d_Cs_trace_47 0 rfl ?_
        refine jx_iconst (v0 := -1) d_Cs_trace_49 (by decide) ?_
        refine jx_icmp_eq (tgt := 60) d_Cs_trace_50 (by decide) (fun c3 => ?_) (fun c3 => absurd rfl c3)
        refine jx_iinc (v0 := nI (i + 1)) (lv' := [(5, .int (nI (i + 1))), (6, .int (-1)), (3, .long (q_rds R m (k_NA (R p)) i)), (2, .ref (k_f (R p))), (1, .int (nI (p))), (0, .ref (b))]) d_Cs_trace_60 1 rfl (nI_add _ 1) (by decide) rfl ?_
        refine jx_goto (tgt := 25) d_Cs_trace_63 (by decide) ?_
        refine jx_lv [0, 2, 3, 4, 5] rfl ?_
        rw [← q_rds_n e2]
        exact ih (i + 1) (by omega) (by omega)
      | some p2 =>
        have hp2 := q_ix_some e2
        have hC2 := c_Cs_indexOf l G (d - 1) (by omega) (u := (k_NA (R p) i)) hC hs
        rw [e2] at hC2
        refine jx_callV (M2 := mm_Cs_indexOf) rfl tb lk_Cs_33 wi_Cs_indexOf ws_Cs_indexOf d_Cs_trace_42 hC2 cd_Cs_indexOf rfl rfl (Nat.le_of_ble_eq_true rfl) (jm_fok (by omega)) (jm_look (by decide) (by omega)) ?_
        refine jx_istore (lv' := [(6, .int (nI (p2))), (5, .int (nI (i))), (3, .long (q_rds R m (k_NA (R p)) i)), (2, .ref (k_f (R p))), (1, .int (nI (p))), (0, .ref (b))]) d_Cs_trace_45 (by decide) rfl ?_
        refine jx_iload d_Cs_trace_47 0 rfl ?_
        refine jx_iconst (v0 := -1) d_Cs_trace_49 (by decide) ?_
        refine jx_icmp_eq (tgt := 60) d_Cs_trace_50 (by decide) (fun c4 => absurd c4 (nI_nm1 (by omega))) (fun c4 => ?_)
        refine jx_lload_n d_Cs_trace_53 2 rfl ?_
        refine jx_lconst (v0 := 1) d_Cs_trace_54 (by decide) ?_
        refine jx_iload d_Cs_trace_55 0 rfl ?_
        refine jx_lshl d_Cs_trace_57 ?_
        refine jx_atl (show _ = bt1 (p2) from rfl) ?_
        refine jx_lor d_Cs_trace_58 ?_
        refine jx_topl fun x5 ex5 => ?_
        refine jx_lstore_n (lv' := [(3, .long (x5)), (6, .int (nI (p2))), (5, .int (nI (i))), (2, .ref (k_f (R p))), (1, .int (nI (p))), (0, .ref (b))]) d_Cs_trace_59 (by decide) rfl ?_
        refine jx_iinc (v0 := nI (i + 1)) (lv' := [(5, .int (nI (i + 1))), (3, .long (x5)), (6, .int (nI (p2))), (2, .ref (k_f (R p))), (1, .int (nI (p))), (0, .ref (b))]) d_Cs_trace_60 2 rfl (nI_add _ 1) (by decide) rfl ?_
        refine jx_goto (tgt := 25) d_Cs_trace_63 (by decide) ?_
        subst ex5
        refine jx_lv [0, 1, 3, 4, 5] rfl ?_
        rw [← q_rds_s e2]
        exact ih (i + 1) (by omega) (by omega)
set_option maxHeartbeats 4000000 in
set_option maxRecDepth 100000 in
theorem lp_Cs_trace (l : Launch) (G : jm_G) {h : jm_H} {b m : Nat} {R : Nat → CRec} {RS : Nat → Int64} {n0 s0 d : Nat} (hd : 2 ≤ d) (hC : CsA h b m R RS) (hs : SortR R m) (t : Nat) : ∀ p, m - p < t → p ≤ m → jm_X l G mm_Cs_trace n0 s0 (jm_zn G d n0 s0) (fun r h9 => r = .inl none ∧ h9 = q_trh R m b h m) 2 [(1, .int (nI p)), (0, .ref b)] [] (q_trh R m b h p) := by
  have hm : m ≤ 64 := hC.2.2.2.2.2.2.2.1
  induction t with
  | zero => intro p hm; omega
  | succ t ih =>
    intro p hm2 hpm
    have hCp := hC.trh p
    obtain ⟨tb, b0, b1, b2, t1, t2, hRS, -, hR⟩ := id hCp
    refine jx_iload_n d_Cs_trace_2 0 rfl ?_
    refine jx_aload_n d_Cs_trace_3 1 rfl ?_
    refine jx_get d_Cs_trace_4 fF_Cs_17 tb b1 ?_
    refine jx_icmp_geN (tgt := 79) (p) (m) d_Cs_trace_7 rfl rfl (by omega) (by omega) (by decide) (fun c1 => ?_) (fun c1 => ?_)
    ·
      exact jx_vret d_Cs_trace_79 rfl (⟨rfl, by rw [show m = p by omega]⟩)
    ·
      refine jx_aload_n d_Cs_trace_10 1 rfl ?_
      refine jx_get d_Cs_trace_11 fF_Cs_11 tb b0 ?_
      refine jx_iload_n d_Cs_trace_14 0 rfl ?_
      refine jx_aald d_Cs_trace_15 t1 rfl (jm_vinN (by omega) (by decide)) (jm_atN (by omega) (hR p (by omega)).1) ?_
      refine jx_get d_Cs_trace_16 fF_Cs_46 (hR p (by omega)).2.1.1 (hR p (by omega)).2.1.2.2.1 ?_
      refine jx_astore_n (lv' := [(2, .ref (k_f (R p))), (1, .int (nI (p))), (0, .ref (b))]) d_Cs_trace_19 (by decide) rfl ?_
      refine jx_lconst (v0 := 0) d_Cs_trace_20 (by decide) ?_
      refine jx_lstore_n (lv' := [(3, .long (0)), (2, .ref (k_f (R p))), (1, .int (nI (p))), (0, .ref (b))]) d_Cs_trace_21 (by decide) rfl ?_
      refine jx_iconst (v0 := 0) d_Cs_trace_22 (by decide) ?_
      refine jx_istore (lv' := [(5, .int (0)), (3, .long (0)), (2, .ref (k_f (R p))), (1, .int (nI (p))), (0, .ref (b))]) d_Cs_trace_23 (by decide) rfl ?_
      refine lpi_Cs_trace l G hd hCp hs (by omega) ?_ (k_N (R p) + 1) 0 (by omega) (by omega)
      refine jx_aload_n d_Cs_trace_66 4 rfl ?_
      refine jx_get d_Cs_trace_67 fF_Cs_21 tb b2 ?_
      refine jx_iload_n d_Cs_trace_70 3 rfl ?_
      refine jx_lload_n d_Cs_trace_71 1 rfl ?_
      refine jx_last d_Cs_trace_72 t2 rfl (jm_vinN (by omega) (by decide)) ?_
      rw [jm_putN (by omega)]
      refine jx_iinc (v0 := nI (p + 1)) (lv' := [(1, .int (nI (p + 1))), (5, .int (nI (k_N (R p)))), (3, .long (q_tr R m p)), (2, .ref (k_f (R p))), (0, .ref (b))]) d_Cs_trace_73 3 rfl (nI_add _ 1) (by decide) rfl ?_
      refine jx_goto (tgt := 2) d_Cs_trace_76 (by decide) ?_
      refine jx_lv [0, 4] rfl ?_
      exact ih (p + 1) (by omega) (by omega)
set_option maxHeartbeats 4000000 in
set_option maxRecDepth 100000 in
theorem c_Cs_trace (l : Launch) (G : jm_G) (d : Nat) (hd : 2 ≤ d) {h : jm_H} {b m : Nat} {R : Nat → CRec} {RS : Nat → Int64} (hC : CsA h b m R RS) (hs : SortR R m) : jm_C l G mm_Cs_trace d [.ref b] h none (q_trh R m b h m) := by
  obtain ⟨tb, b0, b1, b2, t1, t2, hRS, hm, hR⟩ := id hC
  refine jm_ofE (by decide) rfl (Nat.le_of_ble_eq_true rfl) ?_
  refine jx_iconst (v0 := 0) d_Cs_trace_0 (by decide) ?_
  refine jx_istore_n (lv' := [(1, .int (0)), (0, .ref (b))]) d_Cs_trace_1 (by decide) rfl ?_
  exact lp_Cs_trace l G hd hC hs (m + 1) 0 (by omega) (by omega)
