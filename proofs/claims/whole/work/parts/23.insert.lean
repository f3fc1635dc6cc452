theorem nI_dec {p : Nat} (h : 1 ≤ p) : nI p + (-1) = nI (p - 1) := by
  obtain ⟨q, rfl⟩ : ∃ q, p = q + 1 := ⟨p - 1, by omega⟩
  rw [show q + 1 - 1 = q by omega, ← nI_pred q, Int32.sub_eq_add_neg]
theorem CellA.fr {S : Nat → Prop} {h h' : jm_H} {r : CRec} (p : CellA h r) (q : jm_fr S h h') (hf : ¬ S (k_a r)) : CellA h' r := by
  obtain ⟨t, g0, g1, g2, g3, g4⟩ := p
  have e := q.2.2.1
  have w := q.2.2.2 _ hf
  exact ⟨by rw [e]; exact t, by rw [w]; exact g0, by rw [w]; exact g1, by rw [w]; exact g2, by rw [w]; exact g3, by rw [w]; exact g4⟩
theorem FmR.fr {S : Nat → Prop} {h h' : jm_H} {r : CRec} (p : FmR h r) (q : jm_fr S h h') (h0 : ¬ S (k_f r)) (h1 : ¬ S (k_f r + 1)) (h2 : ¬ S (k_f r + 2)) (h3 : ¬ S (k_f r + 3)) (h4 : ¬ S (k_f r + 4)) (h5 : ¬ S (k_f r + 5)) : FmR h' r :=
  ⟨p.1.fr q h0, p.2.1.fr q h1, p.2.2.1.fr q h2, p.2.2.2.1.fr q h3, p.2.2.2.2.1.fr q h4, p.2.2.2.2.2.1.fr q h5, p.2.2.2.2.2.2⟩
/-- a cell keeps what it is when only the Cells and its rows change -/
theorem cell_fr {h h' : jm_H} {r : CRec} {b : Nat} (tb : h.2.2.1 b = (jm_o 4, 3)) (t1 : h.2.2.1 (b + 1) = (jm_a 4, 64)) (q : jm_fr (fun x => x = b ∨ x = b + 1) h h') (p1 : CellA h r) (p2 : FmR h r) : CellA h' r ∧ FmR h' r := by
  obtain ⟨tf, -, -, -, -, -, -, -, s1, s2, s3, s4, s5⟩ := p2.1
  refine ⟨p1.fr q (fun e => e.elim (jm_ne_oo p1.1 tb (by decide)) (jm_ne_oa p1.1 t1)), p2.fr q (fun e => e.elim (jm_ne_oo tf tb (by decide)) (jm_ne_oa tf t1)) (fun e => e.elim (Ne.symm (jm_ne_oa tb s1)) (jm_ne_aa s1 t1 (by decide))) (fun e => e.elim (Ne.symm (jm_ne_oa tb s2)) (jm_ne_aa s2 t1 (by decide))) (fun e => e.elim (Ne.symm (jm_ne_oa tb s3)) (jm_ne_aa s3 t1 (by decide))) (fun e => e.elim (Ne.symm (jm_ne_oa tb s4)) (jm_ne_aa s4 t1 (by decide))) (fun e => e.elim (Ne.symm (jm_ne_oa tb s5)) (jm_ne_aa s5 t1 (by decide)))⟩
def insR (R : Nat → CRec) (K : Nat) (r : CRec) (j : Nat) : CRec := if j < K then R j else if j = K then r else R (j - 1)
def delR (R : Nat → CRec) (K : Nat) (j : Nat) : CRec := if j < K then R j else R (j + 1)
theorem CsA.ins {h h' : jm_H} {b m K : Nat} {R : Nat → CRec} {RS : Nat → Int64} {r : CRec} (hC : CsA h b m R RS) (hm : m < 64) (hK : K ≤ m) (q : jm_fr (fun x => x = b ∨ x = b + 1) h h') (h0 : h'.2.2.2 b 0 = .ref (b + 1)) (h1 : h'.2.2.2 b 1 = .int (nI (m + 1))) (h2 : h'.2.2.2 b 2 = .ref (b + 2)) (hr : ∀ j, j ≤ m → h'.2.2.2 (b + 1) j = .ref (k_a (insR R K r j))) (p1 : CellA h r) (p2 : FmR h r) : CsA h' b (m + 1) (insR R K r) RS := by
  obtain ⟨tb, b0, b1, b2, t1, t2, hRS, -, hR⟩ := hC
  refine ⟨by rw [q.2.2.1]; exact tb, h0, h1, h2, by rw [q.2.2.1]; exact t1, by rw [q.2.2.1]; exact t2, hRS.fr q (fun e => by omega), by omega, fun p hp => ⟨hr p (by omega), ?_⟩⟩
  unfold insR
  split
  · exact cell_fr tb t1 q (hR p (by omega)).2.1 (hR p (by omega)).2.2
  · split
    · exact cell_fr tb t1 q p1 p2
    · exact cell_fr tb t1 q (hR (p - 1) (by omega)).2.1 (hR (p - 1) (by omega)).2.2
theorem CsA.del {h h' : jm_H} {b m K : Nat} {R : Nat → CRec} {RS : Nat → Int64} (hC : CsA h b m R RS) (hK : K < m) (q : jm_fr (fun x => x = b ∨ x = b + 1) h h') (h0 : h'.2.2.2 b 0 = .ref (b + 1)) (h1 : h'.2.2.2 b 1 = .int (nI (m - 1))) (h2 : h'.2.2.2 b 2 = .ref (b + 2)) (hr : ∀ j, j < m - 1 → h'.2.2.2 (b + 1) j = .ref (k_a (delR R K j))) : CsA h' b (m - 1) (delR R K) RS := by
  obtain ⟨tb, b0, b1, b2, t1, t2, hRS, hm, hR⟩ := hC
  refine ⟨by rw [q.2.2.1]; exact tb, h0, h1, h2, by rw [q.2.2.1]; exact t1, by rw [q.2.2.1]; exact t2, hRS.fr q (fun e => by omega), by omega, fun p hp => ⟨hr p (by omega), ?_⟩⟩
  unfold delR
  split
  · exact cell_fr tb t1 q (hR p (by omega)).2.1 (hR p (by omega)).2.2
  · exact cell_fr tb t1 q (hR (p + 1) (by omega)).2.1 (hR (p + 1) (by omega)).2.2
set_option maxHeartbeats 4000000 in
set_option maxRecDepth 100000 in
theorem lp_Cs_insert (l : Launch) (G : jm_G) {h : jm_H} {b m : Nat} {R : Nat → CRec} {RS : Nat → Int64} {n0 s0 d a K : Nat} {Post : jm_r → jm_H → Prop} (hC : CsA h b m R RS) (hm : m < 64) (t : Nat) : ∀ (p : Nat) (h' : jm_H), p - K < t → K ≤ p → p ≤ m → jm_fr (fun x => x = b + 1) h h' → (∀ j, j < p → h'.2.2.2 (b + 1) j = .ref (k_a (R j))) → (∀ j, p < j → j ≤ m → h'.2.2.2 (b + 1) j = .ref (k_a (R (j - 1)))) →
    (∀ h', jm_fr (fun x => x = b + 1) h h' → (∀ j, j < K → h'.2.2.2 (b + 1) j = .ref (k_a (R j))) → (∀ j, K < j → j ≤ m → h'.2.2.2 (b + 1) j = .ref (k_a (R (j - 1)))) → jm_X l G mm_Cs_insert n0 s0 (jm_zn G d n0 s0) Post 52 [(3, .int (nI K)), (2, .int (nI K)), (0, .ref b), (1, .ref a)] [] h') → jm_X l G mm_Cs_insert n0 s0 (jm_zn G d n0 s0) Post 27 [(3, .int (nI p)), (2, .int (nI K)), (0, .ref b), (1, .ref a)] [] h' := by
  obtain ⟨tb, b0, b1, b2, t1, t2, hRS, -, hR⟩ := id hC
  induction t with
  | zero => intro p h' hm; omega
  | succ t ih =>
    intro p h' hm2 hKp hpm q hr1 hr2 kk
    have hkk : h.2.2.1 = h'.2.2.1 := q.2.2.1.symm
    have tb' : h'.2.2.1 b = (jm_o 4, 3) := hkk ▸ tb
    have t1' : h'.2.2.1 (b + 1) = (jm_a 4, 64) := hkk ▸ t1
    have b0' : h'.2.2.2 b 0 = .ref (b + 1) := by rw [q.2.2.2 b (fun e => by omega)]; exact b0
    have b1' : h'.2.2.2 b 1 = .int (nI m) := by rw [q.2.2.2 b (fun e => by omega)]; exact b1
    have b2' : h'.2.2.2 b 2 = .ref (b + 2) := by rw [q.2.2.2 b (fun e => by omega)]; exact b2
    refine jx_iload_n d_Cs_insert_27 0 rfl ?_
    refine jx_iload_n d_Cs_insert_28 1 rfl ?_
    refine jx_icmp_leN (tgt := 52) (p) (K) d_Cs_insert_29 rfl rfl (by omega) (by omega) (by decide) (fun c1 => ?_) (fun c1 => ?_)
    ·
      have hi : p = K := by omega
      subst hi
      exact kk h' q hr1 hr2
    ·
      refine jx_aload_n d_Cs_insert_32 2 rfl ?_
      refine jx_get d_Cs_insert_33 fF_Cs_11 tb' b0' ?_
      refine jx_iload_n d_Cs_insert_36 0 rfl ?_
      refine jx_aload_n d_Cs_insert_37 2 rfl ?_
      refine jx_get d_Cs_insert_38 fF_Cs_11 tb' b0' ?_
      refine jx_iload_n d_Cs_insert_41 0 rfl ?_
      refine jx_iconst (v0 := 1) d_Cs_insert_42 (by decide) ?_
      refine jx_isub d_Cs_insert_43 ?_
      refine jx_ati (pk_sub (a := p) (b := 1) (by omega)) ?_
      refine jx_aald d_Cs_insert_44 t1' rfl (jm_vinN (by omega) (by decide)) (jm_atN (by omega) (hr1 (p - 1) (by omega))) ?_
      refine jx_aast d_Cs_insert_45 t1' rfl (jm_vinN (by omega) (by decide)) (hkk ▸ (hR (p - 1) (by omega)).2.1.1) rfl ?_
      rw [jm_putN (by omega)]
      refine jx_iinc (v0 := nI (p - 1)) (lv' := [(3, .int (nI (p - 1))), (2, .int (nI (K))), (0, .ref (b)), (1, .ref (a))]) d_Cs_insert_46 0 rfl (nI_dec (by omega)) (by decide) rfl ?_
      refine jx_goto (tgt := 27) d_Cs_insert_49 (by decide) ?_
      refine ih (p - 1) _ (by omega) (by omega) (by omega) (q.put rfl) (fun j hj => jm_rd_k (by omega) (hr1 j (by omega))) (fun j h3 h4 => ?_) kk
      by_cases e : j = p
      · subst e; exact jm_rd_s _ _ _ _
      · exact jm_rd_k e (hr2 j (by omega) h4)
set_option maxHeartbeats 4000000 in
set_option maxRecDepth 100000 in
theorem c_Cs_insert (l : Launch) (G : jm_G) (d : Nat) (hd : 1 ≤ d) {h : jm_H} {b m : Nat} {R : Nat → CRec} {RS : Nat → Int64} {r : CRec} (hC : CsA h b m R RS) (hs : SortR R m) (hm : m < 64) (hr : CellA h r) (hf : FmR h r) : jm_CP l G mm_Cs_insert d [.ref b, .ref (k_a r)] h (fun v h9 => v = none ∧ jm_fr (fun x => x = b ∨ x = b + 1) h h9 ∧ CsA h9 b (m + 1) (insR R (q_pl R m (k_n r)) r) RS) := by
  obtain ⟨tb, b0, b1, b2, t1, t2, hRS, -, hR⟩ := id hC
  have hq := q_pl_le R m (k_n r)
  refine jm_of (by decide) rfl (Nat.le_of_ble_eq_true rfl) ?_
  refine jx_aload_n d_Cs_insert_0 0 rfl ?_
  refine jx_get d_Cs_insert_1 fF_Cs_17 tb b1 ?_
  refine jx_aload_n d_Cs_insert_4 0 rfl ?_
  refine jx_get d_Cs_insert_5 fF_Cs_11 tb b0 ?_
  refine jx_alen (v0 := 64) d_Cs_insert_8 t1 (by decide) ?_
  refine jx_icmp_ltN (tgt := 13) (m) (64) d_Cs_insert_9 rfl rfl (by omega) (by omega) (by decide) (fun c1 => ?_) (fun c1 => ?_)
  ·
    refine jx_aload_n d_Cs_insert_13 0 rfl ?_
    refine jx_aload_n d_Cs_insert_14 1 rfl ?_
    refine jx_get d_Cs_insert_15 fF_Cs_25 hr.1 hr.2.1 ?_
    refine jx_callV (M2 := mm_Cs_placeFor) rfl tb lk_Cs_29 wi_Cs_placeFor ws_Cs_placeFor d_Cs_insert_18 (c_Cs_placeFor l G (d - 1) hC hs) cd_Cs_placeFor rfl rfl (Nat.le_of_ble_eq_true rfl) (jm_fok (by omega)) (jm_look (by decide) (by omega)) ?_
    refine jx_istore_n (lv' := [(2, .int (nI (q_pl R m (k_n r)))), (0, .ref (b)), (1, .ref (k_a r))]) d_Cs_insert_21 (by decide) rfl ?_
    refine jx_aload_n d_Cs_insert_22 1 rfl ?_
    refine jx_get d_Cs_insert_23 fF_Cs_17 tb b1 ?_
    refine jx_istore_n (lv' := [(3, .int (nI (m))), (2, .int (nI (q_pl R m (k_n r)))), (0, .ref (b)), (1, .ref (k_a r))]) d_Cs_insert_26 (by decide) rfl ?_
    refine lp_Cs_insert l G hC hm (m + 1) m h (by omega) (by omega) (by omega) jm_fr.rf (fun j hj => (hR j hj).1) (fun j h1 h2 => by omega) (fun h' q hr1 hr2 => ?_)
    have hkk : h.2.2.1 = h'.2.2.1 := q.2.2.1.symm
    have tb' : h'.2.2.1 b = (jm_o 4, 3) := hkk ▸ tb
    have t1' : h'.2.2.1 (b + 1) = (jm_a 4, 64) := hkk ▸ t1
    have b0' : h'.2.2.2 b 0 = .ref (b + 1) := by rw [q.2.2.2 b (fun e => by omega)]; exact b0
    have b1' : h'.2.2.2 b 1 = .int (nI m) := by rw [q.2.2.2 b (fun e => by omega)]; exact b1
    have b2' : h'.2.2.2 b 2 = .ref (b + 2) := by rw [q.2.2.2 b (fun e => by omega)]; exact b2
    refine jx_aload_n d_Cs_insert_52 2 rfl ?_
    refine jx_get d_Cs_insert_53 fF_Cs_11 tb' b0' ?_
    refine jx_iload_n d_Cs_insert_56 1 rfl ?_
    refine jx_aload_n d_Cs_insert_57 3 rfl ?_
    refine jx_aast d_Cs_insert_58 t1' rfl (jm_vinN (by omega) (by decide)) (hkk ▸ hr.1) rfl ?_
    rw [jm_putN (by omega)]
    refine jx_aload_n d_Cs_insert_59 2 rfl ?_
    refine jx_dup d_Cs_insert_60 rfl ?_
    refine jx_get d_Cs_insert_61 fF_Cs_17 tb' (jm_rd_a (jm_ne_oa tb' t1') b1') ?_
    refine jx_iconst (v0 := 1) d_Cs_insert_64 (by decide) ?_
    refine jx_iadd d_Cs_insert_65 ?_
    refine jx_ati (nI_add (m) (1)) ?_
    refine jx_put (v0 := .int (nI ((m) + (1)))) d_Cs_insert_66 fF_Cs_17 jv_Cs ft_Cs_size tb' rfl rfl ?_
    exact jx_vret d_Cs_insert_69 rfl (⟨_, rfl, rfl, (((q.weak (fun x e => Or.inr e)).put (Or.inr rfl)).put (Or.inl rfl)), hC.ins hm hq (((q.weak (fun x e => Or.inr e)).put (Or.inr rfl)).put (Or.inl rfl)) (jm_rd_k (by decide) (jm_rd_a (jm_ne_oa tb' t1') b0')) (jm_rd_s _ _ _ _) (jm_rd_k (by decide) (jm_rd_a (jm_ne_oa tb' t1') b2')) (fun j hj => by
      rw [jm_rd_a (by omega) rfl]
      unfold insR
      by_cases e1 : j < q_pl R m (k_n r)
      · rw [if_pos e1]; exact jm_rd_k (by omega) (hr1 j e1)
      · rw [if_neg e1]
        by_cases e2 : j = q_pl R m (k_n r)
        · rw [if_pos e2, e2]; exact jm_rd_s _ _ _ _
        · rw [if_neg e2]; exact jm_rd_k e2 (hr2 j (by omega) hj)) hr hf⟩)
  · omega
set_option maxHeartbeats 4000000 in
set_option maxRecDepth 100000 in
theorem lp_Cs_drop (l : Launch) (G : jm_G) {h : jm_H} {b m : Nat} {R : Nat → CRec} {RS : Nat → Int64} {u : Int64} {n0 s0 d K : Nat} {Post : jm_r → jm_H → Prop} (hC : CsA h b m R RS) (hK : K < m) (t : Nat) : ∀ (p : Nat) (h' : jm_H), m - p < t → K ≤ p → p < m → jm_fr (fun x => x = b + 1) h h' → (∀ j, j < p → h'.2.2.2 (b + 1) j = .ref (k_a (delR R K j))) → (∀ j, p ≤ j → j < m → h'.2.2.2 (b + 1) j = .ref (k_a (R j))) →
    (∀ h', jm_fr (fun x => x = b + 1) h h' → (∀ j, j < m - 1 → h'.2.2.2 (b + 1) j = .ref (k_a (delR R K j))) → jm_X l G mm_Cs_drop n0 s0 (jm_zn G d n0 s0) Post 49 [(4, .int (nI (m - 1))), (3, .int (nI K)), (0, .ref b), (1, .long u)] [] h') → jm_X l G mm_Cs_drop n0 s0 (jm_zn G d n0 s0) Post 16 [(4, .int (nI (p))), (3, .int (nI K)), (0, .ref b), (1, .long u)] [] h' := by
  obtain ⟨tb, b0, b1, b2, t1, t2, hRS, hm, hR⟩ := id hC
  induction t with
  | zero => intro p h' hm; omega
  | succ t ih =>
    intro p h' hm2 hKp hpm q hr1 hr2 kk
    have hkk : h.2.2.1 = h'.2.2.1 := q.2.2.1.symm
    have tb' : h'.2.2.1 b = (jm_o 4, 3) := hkk ▸ tb
    have t1' : h'.2.2.1 (b + 1) = (jm_a 4, 64) := hkk ▸ t1
    have b0' : h'.2.2.2 b 0 = .ref (b + 1) := by rw [q.2.2.2 b (fun e => by omega)]; exact b0
    have b1' : h'.2.2.2 b 1 = .int (nI m) := by rw [q.2.2.2 b (fun e => by omega)]; exact b1
    have b2' : h'.2.2.2 b 2 = .ref (b + 2) := by rw [q.2.2.2 b (fun e => by omega)]; exact b2
    refine jx_iload d_Cs_drop_16 0 rfl ?_
    refine jx_iconst (v0 := 1) d_Cs_drop_18 (by decide) ?_
    refine jx_iadd d_Cs_drop_19 ?_
    refine jx_ati (nI_add (p) (1)) ?_
    refine jx_aload_n d_Cs_drop_20 2 rfl ?_
    refine jx_get d_Cs_drop_21 fF_Cs_17 tb' b1' ?_
    refine jx_icmp_geN (tgt := 49) ((p) + (1)) (m) d_Cs_drop_24 rfl rfl (by omega) (by omega) (by decide) (fun c1 => ?_) (fun c1 => ?_)
    ·
      have hi : p = m - 1 := by omega
      subst hi
      exact kk h' q hr1
    ·
      refine jx_aload_n d_Cs_drop_27 2 rfl ?_
      refine jx_get d_Cs_drop_28 fF_Cs_11 tb' b0' ?_
      refine jx_iload d_Cs_drop_31 0 rfl ?_
      refine jx_aload_n d_Cs_drop_33 2 rfl ?_
      refine jx_get d_Cs_drop_34 fF_Cs_11 tb' b0' ?_
      refine jx_iload d_Cs_drop_37 0 rfl ?_
      refine jx_iconst (v0 := 1) d_Cs_drop_39 (by decide) ?_
      refine jx_iadd d_Cs_drop_40 ?_
      refine jx_ati (nI_add (p) (1)) ?_
      refine jx_aald d_Cs_drop_41 t1' rfl (jm_vinN (by omega) (by decide)) (jm_atN (by omega) (hr2 (p + 1) (by omega) (by omega))) ?_
      refine jx_aast d_Cs_drop_42 t1' rfl (jm_vinN (by omega) (by decide)) (hkk ▸ (hR (p + 1) (by omega)).2.1.1) rfl ?_
      rw [jm_putN (by omega)]
      refine jx_iinc (v0 := nI (p + 1)) (lv' := [(4, .int (nI (p + 1))), (3, .int (nI (K))), (0, .ref (b)), (1, .long (u))]) d_Cs_drop_43 0 rfl (nI_add _ 1) (by decide) rfl ?_
      refine jx_goto (tgt := 16) d_Cs_drop_46 (by decide) ?_
      refine ih (p + 1) _ (by omega) (by omega) (by omega) (q.put rfl) (fun j hj => ?_) (fun j h3 h4 => jm_rd_k (by omega) (hr2 j (by omega) h4)) kk
      by_cases e : j = p
      · subst e; rw [show delR R K j = R (j + 1) from if_neg (by omega)]; exact jm_rd_s _ _ _ _
      · exact jm_rd_k e (hr1 j (by omega))
def DropO (R : Nat → CRec) (RS : Nat → Int64) (b m : Nat) (h : jm_H) (x : Option Nat) (v : Option Value) (h9 : jm_H) : Prop := match x with
  | none => v = some (.int 0) ∧ h9 = h
  | some K => v = some (.int 1) ∧ jm_fr (fun x => x = b ∨ x = b + 1) h h9 ∧ CsA h9 b (m - 1) (delR R K) RS
set_option maxHeartbeats 4000000 in
set_option maxRecDepth 100000 in
theorem c_Cs_drop (l : Launch) (G : jm_G) (d : Nat) (hd : 2 ≤ d) {h : jm_H} {b m : Nat} {R : Nat → CRec} {RS : Nat → Int64} {u : Int64} (hC : CsA h b m R RS) (hs : SortR R m) : jm_CP l G mm_Cs_drop d [.ref b, .long u] h (DropO R RS b m h (q_ix R m u)) := by
  obtain ⟨tb, b0, b1, b2, t1, t2, hRS, hm, hR⟩ := id hC
  refine jm_of (by decide) rfl (Nat.le_of_ble_eq_true rfl) ?_
  refine jx_aload_n d_Cs_drop_0 0 rfl ?_
  refine jx_lload_n d_Cs_drop_1 1 rfl ?_
  cases e1 : q_ix R m u with
  | none =>
    have hC1 := c_Cs_indexOf l G (d - 1) (by omega) (u := u) hC hs
    rw [e1] at hC1
    refine jx_callV (M2 := mm_Cs_indexOf) rfl tb lk_Cs_33 wi_Cs_indexOf ws_Cs_indexOf d_Cs_drop_2 hC1 cd_Cs_indexOf rfl rfl (Nat.le_of_ble_eq_true rfl) (jm_fok (by omega)) (jm_look (by decide) (by omega)) ?_
    refine jx_istore_n (lv' := [(3, .int (-1)), (0, .ref (b)), (1, .long (u))]) d_Cs_drop_5 (by decide) rfl ?_
    refine jx_iload_n d_Cs_drop_6 0 rfl ?_
    refine jx_iconst (v0 := -1) d_Cs_drop_7 (by decide) ?_
    refine jx_icmp_ne (tgt := 13) d_Cs_drop_8 (by decide) (fun c2 => absurd rfl c2) (fun c2 => ?_)
    refine jx_iconst (v0 := 0) d_Cs_drop_11 (by decide) ?_
    exact jx_zret d_Cs_drop_12 rfl (by first | rfl | decide) (⟨_, rfl, ⟨rfl, rfl⟩⟩)
  | some p1 =>
    have hp1 := q_ix_some e1
    have hC1 := c_Cs_indexOf l G (d - 1) (by omega) (u := u) hC hs
    rw [e1] at hC1
    refine jx_callV (M2 := mm_Cs_indexOf) rfl tb lk_Cs_33 wi_Cs_indexOf ws_Cs_indexOf d_Cs_drop_2 hC1 cd_Cs_indexOf rfl rfl (Nat.le_of_ble_eq_true rfl) (jm_fok (by omega)) (jm_look (by decide) (by omega)) ?_
    refine jx_istore_n (lv' := [(3, .int (nI (p1))), (0, .ref (b)), (1, .long (u))]) d_Cs_drop_5 (by decide) rfl ?_
    refine jx_iload_n d_Cs_drop_6 0 rfl ?_
    refine jx_iconst (v0 := -1) d_Cs_drop_7 (by decide) ?_
    refine jx_icmp_ne (tgt := 13) d_Cs_drop_8 (by decide) (fun c3 => ?_) (fun c3 => absurd c3 (nI_nm1 (by omega)))
    refine jx_iload_n d_Cs_drop_13 0 rfl ?_
    refine jx_istore (lv' := [(4, .int (nI (p1))), (3, .int (nI (p1))), (0, .ref (b)), (1, .long (u))]) d_Cs_drop_14 (by decide) rfl ?_
    refine lp_Cs_drop l G hC hp1.1 (m + 1) p1 h (by omega) (by omega) (by omega) jm_fr.rf (fun j hj => by rw [show delR R p1 j = R j from if_pos hj]; exact (hR j (by omega)).1) (fun j h1 h2 => (hR j h2).1) (fun h' q hr1 => ?_)
    have hkk : h.2.2.1 = h'.2.2.1 := q.2.2.1.symm
    have tb' : h'.2.2.1 b = (jm_o 4, 3) := hkk ▸ tb
    have t1' : h'.2.2.1 (b + 1) = (jm_a 4, 64) := hkk ▸ t1
    have b0' : h'.2.2.2 b 0 = .ref (b + 1) := by rw [q.2.2.2 b (fun e => by omega)]; exact b0
    have b1' : h'.2.2.2 b 1 = .int (nI m) := by rw [q.2.2.2 b (fun e => by omega)]; exact b1
    have b2' : h'.2.2.2 b 2 = .ref (b + 2) := by rw [q.2.2.2 b (fun e => by omega)]; exact b2
    refine jx_aload_n d_Cs_drop_49 2 rfl ?_
    refine jx_dup d_Cs_drop_50 rfl ?_
    refine jx_get d_Cs_drop_51 fF_Cs_17 tb' b1' ?_
    refine jx_iconst (v0 := 1) d_Cs_drop_54 (by decide) ?_
    refine jx_isub d_Cs_drop_55 ?_
    refine jx_ati (pk_sub (a := m) (b := 1) (by omega)) ?_
    refine jx_put (v0 := .int (nI ((m) - (1)))) d_Cs_drop_56 fF_Cs_17 jv_Cs ft_Cs_size tb' rfl rfl ?_
    refine jx_iconst (v0 := 1) d_Cs_drop_59 (by decide) ?_
    exact jx_zret d_Cs_drop_60 rfl (by first | rfl | decide) (⟨_, rfl, ⟨rfl, ((q.weak (fun x e => Or.inr e)).put (Or.inl rfl)), hC.del hp1.1 ((q.weak (fun x e => Or.inr e)).put (Or.inl rfl)) (jm_rd_k (by decide) b0') (jm_rd_s _ _ _ _) (jm_rd_k (by decide) b2') (fun j hj => jm_rd_a (by omega) (hr1 j hj))⟩⟩)
