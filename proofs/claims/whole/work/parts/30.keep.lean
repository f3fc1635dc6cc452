/-- the Builder at b + 3: how many names, the total, the names -/
def BdA (h : jm_H) (b ls : Nat) (tot : Int32) (LT : Nat → Int64) : Prop := h.2.2.1 (b + 3) = (jm_o 6, 4) ∧ h.2.2.2 (b + 3) 0 = .ref (b + 4) ∧ h.2.2.2 (b + 3) 1 = .ref (b + 6) ∧ h.2.2.2 (b + 3) 2 = .int (nI ls) ∧ h.2.2.2 (b + 3) 3 = .int tot ∧ h.2.2.1 (b + 6) = (jm_a 2, 64) ∧ arL h (b + 6) 64 LT
def S_bd (b : Nat) (x : Nat) : Prop := x = b + 3 ∨ x = b + 6
theorem BdA.fr {S9 : Nat → Prop} {h h' : jm_H} {b ls : Nat} {tot : Int32} {LT : Nat → Int64} (p : BdA h b ls tot LT) (q : jm_fr S9 h h') (h1 : ¬ S9 (b + 3)) (h2 : ¬ S9 (b + 6)) : BdA h' b ls tot LT := by
  obtain ⟨ty, y0, y1, y2, y3, tl, hL⟩ := p
  exact ⟨by rw [q.2.2.1]; exact ty, by rw [q.2.2.2 _ h1]; exact y0, by rw [q.2.2.2 _ h1]; exact y1, by rw [q.2.2.2 _ h1]; exact y2, by rw [q.2.2.2 _ h1]; exact y3, by rw [q.2.2.1]; exact tl, hL.fr q h2⟩
theorem CsA.bld {h h' : jm_H} {b m : Nat} {R : Nat → CRec} {RS : Nat → Int64} (hC : CsA h b m R RS) (q : jm_fr (S_bd b) h h') (ty : h.2.2.1 (b + 3) = (jm_o 6, 4)) (tl : h.2.2.1 (b + 6) = (jm_a 2, 64)) : CsA h' b m R RS := by
  obtain ⟨tb, b0, b1, b2, t1, t2, hRS, hm, hR⟩ := hC
  have e := q.2.2.1
  have nb : ∀ x, x < b + 3 → ¬ S_bd b x := fun x hx q => by unfold S_bd at q; omega
  refine ⟨by rw [e]; exact tb, by rw [q.2.2.2 b (nb b (by omega))]; exact b0, by rw [q.2.2.2 b (nb b (by omega))]; exact b1, by rw [q.2.2.2 b (nb b (by omega))]; exact b2, by rw [e]; exact t1, by rw [e]; exact t2, hRS.fr q (nb _ (by omega)), hm, fun p hp => ?_⟩
  obtain ⟨r1, r2, r3⟩ := hR p hp
  obtain ⟨tf, -, -, -, -, -, -, -, s1, s2, s3, s4, s5⟩ := r3.1
  exact ⟨by rw [q.2.2.2 (b + 1) (nb _ (by omega))]; exact r1, r2.fr q (fun z => z.elim (jm_ne_oo r2.1 ty (by decide)) (jm_ne_oa r2.1 tl)), r3.fr q (fun z => z.elim (jm_ne_oo tf ty (by decide)) (jm_ne_oa tf tl)) (fun z => z.elim (Ne.symm (jm_ne_oa ty s1)) (jm_ne_aa s1 tl (by decide))) (fun z => z.elim (Ne.symm (jm_ne_oa ty s2)) (jm_ne_aa s2 tl (by decide))) (fun z => z.elim (Ne.symm (jm_ne_oa ty s3)) (jm_ne_k s3 tl (by decide))) (fun z => z.elim (Ne.symm (jm_ne_oa ty s4)) (jm_ne_aa s4 tl (by decide))) (fun z => z.elim (Ne.symm (jm_ne_oa ty s5)) (jm_ne_k s5 tl (by decide)))⟩
/-- the names that are kept -/
def q_kl (R : Nat → CRec) (wo : Int64) (LT : Nat → Int64) : Nat → Nat → Int64
  | 0 => LT
  | p + 1 => if bt wo p = true then jm_up (q_kl R wo LT p) (cnt (bt wo) p) (k_n (R p)) else q_kl R wo LT p
set_option maxHeartbeats 4000000 in
set_option maxRecDepth 100000 in
theorem lp_Bd_keepNames (l : Launch) (G : jm_G) {h0 : jm_H} {b m : Nat} {R : Nat → CRec} {RS : Nat → Int64} {n0 s0 d : Nat} {wo : Int64} {tot : Int32} {LT : Nat → Int64} {Post : jm_r → jm_H → Prop} (hC0 : CsA h0 b m R RS) (ty0 : h0.2.2.1 (b + 3) = (jm_o 6, 4)) (tl0 : h0.2.2.1 (b + 6) = (jm_a 2, 64)) (t : Nat) : ∀ (p : Nat) (h : jm_H), m - p < t → p ≤ m → BdA h b (cnt (bt wo) p) tot (q_kl R wo LT p) → jm_fr (S_bd b) h0 h → (∀ h', BdA h' b (cnt (bt wo) m) (tot + nI (cnt (bt wo) m)) (q_kl R wo LT m) → jm_fr (S_bd b) h0 h' → Post (.inl none) h') → jm_X l G mm_Bd_keepNames n0 s0 (jm_zn G d n0 s0) Post 8 [(4, .int (nI p)), (0, .ref (b + 3)), (1, .ref b), (2, .long wo)] [] h := by
  have hm := hC0.2.2.2.2.2.2.2.1
  induction t with
  | zero => intro p h hm; omega
  | succ t ih =>
    intro p h hm2 hpm hB q kk
    have hcl := cnt_le (bt wo) p
    obtain ⟨tb, b0, b1, b2, t1, t2, hRS, hm, hR⟩ := hC0.bld q ty0 tl0
    obtain ⟨ty, y0, y1, y2, y3, tl, hL⟩ := id hB
    refine jx_iload d_Bd_keepNames_8 0 rfl ?_
    refine jx_aload_n d_Bd_keepNames_10 2 rfl ?_
    refine jx_get d_Bd_keepNames_11 fF_Bd_35 tb b1 ?_
    refine jx_icmp_geN (tgt := 75) (p) (m) d_Bd_keepNames_14 rfl rfl (by omega) (by omega) (by decide) (fun c1 => ?_) (fun c1 => ?_)
    ·
      refine jx_aload_n d_Bd_keepNames_75 1 rfl ?_
      refine jx_dup d_Bd_keepNames_76 rfl ?_
      refine jx_get d_Bd_keepNames_77 fF_Bd_26 ty y3 ?_
      refine jx_aload_n d_Bd_keepNames_80 1 rfl ?_
      refine jx_get d_Bd_keepNames_81 fF_Bd_22 ty y2 ?_
      refine jx_iadd d_Bd_keepNames_84 ?_
      refine jx_put (v0 := .int ((tot + nI (cnt (bt wo) p)))) d_Bd_keepNames_85 fF_Bd_26 jv_Bd ft_Bd_total ty rfl rfl ?_
      exact jx_vret d_Bd_keepNames_88 rfl (kk _ ((show p = m by omega) ▸ ⟨ty, (jm_rd_k (by decide) y0), (jm_rd_k (by decide) y1), (jm_rd_k (by decide) y2), (jm_rd_s _ _ _ _), tl, (arL.keep hL (Ne.symm (jm_ne_oa ty tl)))⟩) (q.put (Or.inl rfl)))
    ·
      refine jx_lload_n d_Bd_keepNames_17 3 rfl ?_
      refine jx_lconst (v0 := 1) d_Bd_keepNames_18 (by decide) ?_
      refine jx_iload d_Bd_keepNames_19 0 rfl ?_
      refine jx_lshl d_Bd_keepNames_21 ?_
      refine jx_atl (show _ = bt1 (p) from rfl) ?_
      refine jx_land d_Bd_keepNames_22 ?_
      refine jx_lconst (v0 := 0) d_Bd_keepNames_23 (by decide) ?_
      refine jx_lcmp d_Bd_keepNames_24 ?_
      refine jx_if_eqL (tgt := 69) d_Bd_keepNames_25 (by decide) (fun c2 => ?_) (fun c2 => ?_)
      ·
        refine jx_iinc (v0 := nI (p + 1)) (lv' := [(4, .int (nI (p + 1))), (0, .ref (b + 3)), (1, .ref (b)), (2, .long (wo))]) d_Bd_keepNames_69 0 rfl (nI_add _ 1) (by decide) rfl ?_
        refine jx_goto (tgt := 8) d_Bd_keepNames_72 (by decide) ?_
        refine jx_lv [0, 1, 2, 3] rfl ?_
        have hb : bt wo p = false := Bool.eq_false_iff.mpr (fun z => (bt_has (by omega)).mpr z c2)
        refine ih (p + 1) _ (by omega) (by omega) ?_ q kk
        rw [cnt_f hb, show q_kl R wo LT (p + 1) = _ from if_neg (by rw [hb]; decide)]
        exact hB
      ·
        refine jx_aload_n d_Bd_keepNames_28 1 rfl ?_
        refine jx_get d_Bd_keepNames_29 fF_Bd_22 ty y2 ?_
        refine jx_aload_n d_Bd_keepNames_32 1 rfl ?_
        refine jx_get d_Bd_keepNames_33 fF_Bd_18 ty y1 ?_
        refine jx_alen (v0 := 64) d_Bd_keepNames_36 tl (by decide) ?_
        refine jx_icmp_geN (tgt := 69) (cnt (bt wo) p) (64) d_Bd_keepNames_37 rfl rfl (by omega) (by omega) (by decide) (fun c3 => ?_) (fun c3 => ?_)
        ·
          refine jx_iinc (v0 := nI (p + 1)) (lv' := [(4, .int (nI (p + 1))), (0, .ref (b + 3)), (1, .ref (b)), (2, .long (wo))]) d_Bd_keepNames_69 0 rfl (nI_add _ 1) (by decide) rfl ?_
          refine jx_goto (tgt := 8) d_Bd_keepNames_72 (by decide) ?_
          exact absurd c3 (by omega)
        ·
          refine jx_aload_n d_Bd_keepNames_40 1 rfl ?_
          refine jx_get d_Bd_keepNames_41 fF_Bd_18 ty y1 ?_
          refine jx_aload_n d_Bd_keepNames_44 1 rfl ?_
          refine jx_get d_Bd_keepNames_45 fF_Bd_22 ty y2 ?_
          refine jx_aload_n d_Bd_keepNames_48 2 rfl ?_
          refine jx_get d_Bd_keepNames_49 fF_Bd_43 tb b0 ?_
          refine jx_iload d_Bd_keepNames_52 0 rfl ?_
          refine jx_aald d_Bd_keepNames_54 t1 rfl (jm_vinN (by omega) (by decide)) (jm_atN (by omega) (hR p (by omega)).1) ?_
          refine jx_get d_Bd_keepNames_55 fF_Bd_85 (hR p (by omega)).2.1.1 (hR p (by omega)).2.1.2.1 ?_
          refine jx_last d_Bd_keepNames_58 tl rfl (jm_vinN (by omega) (by decide)) ?_
          rw [jm_putN (by omega)]
          refine jx_aload_n d_Bd_keepNames_59 1 rfl ?_
          refine jx_dup d_Bd_keepNames_60 rfl ?_
          refine jx_get d_Bd_keepNames_61 fF_Bd_22 ty (jm_rd_a (jm_ne_oa ty tl) y2) ?_
          refine jx_iconst (v0 := 1) d_Bd_keepNames_64 (by decide) ?_
          refine jx_iadd d_Bd_keepNames_65 ?_
          refine jx_ati (nI_add (cnt (bt wo) p) (1)) ?_
          refine jx_put (v0 := .int (nI ((cnt (bt wo) p) + (1)))) d_Bd_keepNames_66 fF_Bd_22 jv_Bd ft_Bd_latestSize ty rfl rfl ?_
          refine jx_iinc (v0 := nI (p + 1)) (lv' := [(4, .int (nI (p + 1))), (0, .ref (b + 3)), (1, .ref (b)), (2, .long (wo))]) d_Bd_keepNames_69 0 rfl (nI_add _ 1) (by decide) rfl ?_
          refine jx_goto (tgt := 8) d_Bd_keepNames_72 (by decide) ?_
          refine jx_lv [0, 1, 2, 3] rfl ?_
          have hb : bt wo p = true := (bt_has (by omega)).mp c2
          refine ih (p + 1) _ (by omega) (by omega) ?_ ?_ kk
          · have hz : BdA (jm_put (jm_put h (b + 6) (cnt (bt wo) p) (.long (k_n (R p)))) (b + 3) 2 (.int (nI ((cnt (bt wo) p) + (1))))) b (cnt (bt wo) p + 1) tot (jm_up (q_kl R wo LT p) (cnt (bt wo) p) (k_n (R p))) := ⟨ty, (jm_rd_k (by decide) (jm_rd_a (jm_ne_oa ty tl) y0)), (jm_rd_k (by decide) (jm_rd_a (jm_ne_oa ty tl) y1)), (jm_rd_s _ _ _ _), (jm_rd_k (by decide) (jm_rd_a (jm_ne_oa ty tl) y3)), tl, (arL.keep (arL.put hL) (Ne.symm (jm_ne_oa ty tl)))⟩
            rw [cnt_t hb, show q_kl R wo LT (p + 1) = _ from if_pos hb]
            exact hz
          · exact (q.put (Or.inr rfl)).put (Or.inl rfl)
set_option maxHeartbeats 4000000 in
set_option maxRecDepth 100000 in
theorem c_Bd_keepNames (l : Launch) (G : jm_G) (d : Nat) {h : jm_H} {b m : Nat} {R : Nat → CRec} {RS : Nat → Int64} {ls : Nat} {wo : Int64} {tot : Int32} {LT : Nat → Int64} (hC : CsA h b m R RS) (hB : BdA h b ls tot LT) : jm_CP l G mm_Bd_keepNames d [.ref (b + 3), .ref b, .long wo] h (fun v h9 => v = none ∧ BdA h9 b (cnt (bt wo) m) (tot + nI (cnt (bt wo) m)) (q_kl R wo LT m) ∧ jm_fr (S_bd b) h h9) := by
  obtain ⟨tb, b0, b1, b2, t1, t2, hRS, hm, hR⟩ := id hC
  obtain ⟨ty, y0, y1, y2, y3, tl, hL⟩ := id hB
  refine jm_of (by decide) rfl (Nat.le_of_ble_eq_true rfl) ?_
  refine jx_aload_n d_Bd_keepNames_0 0 rfl ?_
  refine jx_iconst (v0 := 0) d_Bd_keepNames_1 (by decide) ?_
  refine jx_put (v0 := .int (0)) d_Bd_keepNames_2 fF_Bd_22 jv_Bd ft_Bd_latestSize ty rfl rfl ?_
  refine jx_iconst (v0 := 0) d_Bd_keepNames_5 (by decide) ?_
  refine jx_istore (lv' := [(4, .int (0)), (0, .ref (b + 3)), (1, .ref (b)), (2, .long (wo))]) d_Bd_keepNames_6 (by decide) rfl ?_
  exact lp_Bd_keepNames l G (LT := LT) hC ty tl (m + 1) 0 _ (by omega) (by omega) ⟨ty, (jm_rd_k (by decide) y0), (jm_rd_k (by decide) y1), (jm_rd_s _ _ _ _), (jm_rd_k (by decide) y3), tl, (arL.keep hL (Ne.symm (jm_ne_oa ty tl)))⟩ (jm_fr.rf.put (Or.inl rfl)) (fun h9 q1 q2 => ⟨_, rfl, rfl, q1, q2⟩)
