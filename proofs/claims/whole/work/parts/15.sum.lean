theorem rd1_l {B : Nat → Int32} {n dp k : Nat} {acc : Term} {c : Cur} {e : Flt} (h : Rd B n 4 dp .null c k (.inl e)) : Rd B n 1 dp acc c k (.inl e) := Rd.intro (show (pb (Rd B n 4 dp .null c k) (.inl e) fun t c1 k1 => Rd B n 3 dp t c1 k1 (.inl e)) from pb_l h)
theorem rd0_l {B : Nat → Int32} {n dp k : Nat} {acc : Term} {c : Cur} {e : Flt} (h : Rd B n 1 dp .null c k (.inl e)) : Rd B n 0 dp acc c k (.inl e) := Rd.intro (show (pb (Rd B n 1 dp .null c k) (.inl e) fun t c1 k1 => Rd B n 2 dp t c1 k1 (.inl e)) from pb_l h)
theorem rd3_more {B : Nat → Int32} {n dp k : Nat} {acc : Term} {c : Cur} {res : PR} (e : c.1 = 42 ∨ c.1 = 47) (h : Rd3 B n (Rd B n) dp acc c k res) : Rd B n 3 dp acc c k res := Rd.intro (show (if c.1 = 42 ∨ c.1 = 47 then Rd3 B n (Rd B n) dp acc c k res else _) by rw [if_pos e]; exact h)
theorem rd3_stop {B : Nat → Int32} {n dp k : Nat} {acc : Term} {c : Cur} (e1 : ¬ c.1 = 42) (e2 : ¬ c.1 = 47) : Rd B n 3 dp acc c k (.inr (acc, c, k)) := Rd.intro (show (if c.1 = 42 ∨ c.1 = 47 then _ else _) by rw [if_neg (fun q => q.elim e1 e2)])
theorem rd2_more {B : Nat → Int32} {n dp k : Nat} {acc : Term} {c : Cur} {res : PR} (e : c.1 = 43 ∨ c.1 = 45) (h : Rd2 B n (Rd B n) dp acc c k res) : Rd B n 2 dp acc c k res := Rd.intro (show (if c.1 = 43 ∨ c.1 = 45 then Rd2 B n (Rd B n) dp acc c k res else _) by rw [if_pos e]; exact h)
theorem rd2_stop {B : Nat → Int32} {n dp k : Nat} {acc : Term} {c : Cur} (e1 : ¬ c.1 = 43) (e2 : ¬ c.1 = 45) : Rd B n 2 dp acc c k (.inr (acc, c, k)) := Rd.intro (show (if c.1 = 43 ∨ c.1 = 45 then _ else _) by rw [if_neg (fun q => q.elim e1 e2)])
set_option maxHeartbeats 4000000 in
set_option maxRecDepth 100000 in
theorem lp_Rd_product (l : Launch) (G : jm_G) (d dp : Nat) (hd : 11 + 4 * (20 - dp) ≤ d) (hdp : dp ≤ 20) (ihP : CPart l G dp) {h0 : jm_H} {r f n n0 s0 : Nat} {B : Nat → Int32} {fc fp : Int32} {nme : Int64} {k0 L0 N0 : Nat} {ST0 DT0 : Nat → Int32} {NA0 : Nat → Int64} {PL0 : Nat → Int32} {Post : jm_r → jm_H → Prop} (hn : n ≤ 2000) (hL0 : L0 ≤ 2 * k0) (hN0 : N0 ≤ k0) (m : Nat) : ∀ {h : jm_H} {c : Cur} {k L N i : Nat} {ST DT : Nat → Int32} {NA : Nat → Int64} {PL : Nat → Int32} {acc : Term}, 41 - k < m → i < k → RdS h r f n B c k L N ST DT NA PL fc fp nme → jm_fr (S_rd r f) h0 h → SegOK acc L0 N0 k0 L N k ST0 DT0 ST DT NA0 NA PL0 PL → (∀ v h9 res, jm_fr (S_rd r f) h0 h9 → Rd B n 3 dp acc c k res → OutR res v h9 r f n B k0 L0 N0 ST0 DT0 NA0 PL0 fc fp nme → Post (.inl v) h9) → jm_X l G mm_Rd_product n0 s0 (jm_zn G d n0 s0) Post 12 [(2, .int (nI i)), (0, .ref r), (1, .int (nI dp))] [] h := by
  induction m with
  | zero => intro h c k L N i ST DT NA PL acc hm; omega
  | succ m ih =>
    intro h c k L N i ST DT NA PL acc hm hik hS fr0 hg0 kP
    obtain ⟨-, -, -, -, hb, hb2, hb3, hb4⟩ := id hg0
    obtain ⟨tr, r0, r1, r2, r3, r4, r5, r6, tp, ⟨ta, f0, f1, f2, f3, f4, f5, f6, tb⟩, hB, ⟨tf, g0, g1, g2, g3, g4, g5, g6, t1, t2, t3, t4, t5⟩, hST, hDT, hNA, hPL, hdis, hcn, hcs⟩ := id hS
    refine jx_iload_n d_Rd_product_12 0 rfl ?_
    refine jx_bipush (v0 := 40) d_Rd_product_13 (by decide) ?_
    refine jx_icmp_geN (tgt := 82) (i) (40) d_Rd_product_15 rfl rfl (by omega) (by omega) (by decide) (fun c1 => ?_) (fun c1 => ?_)
    · omega
    ·
      refine jx_aload_n d_Rd_product_18 1 rfl ?_
      refine jx_get d_Rd_product_19 fF_Rd_12 tr r0 ?_
      refine jx_get d_Rd_product_22 fF_Rd_61 ta f3 ?_
      refine jx_bipush (v0 := 42) d_Rd_product_25 (by decide) ?_
      refine jx_icmp_eq (tgt := 42) d_Rd_product_27 (by decide) (fun c2 => ?_) (fun c2 => ?_)
      ·
        have hmd : c.1 = 42 ∨ c.1 = 47 := by first | exact Or.inl c2 | exact Or.inr c2 | (right; simpa using c2)
        refine jx_aload_n d_Rd_product_42 1 rfl ?_
        refine jx_get d_Rd_product_43 fF_Rd_12 tr r0 ?_
        refine jx_get d_Rd_product_46 fF_Rd_61 ta f3 ?_
        refine jx_istore_n (lv' := [(3, .int (c.1)), (2, .int (nI (i))), (0, .ref (r)), (1, .int (nI (dp)))]) d_Rd_product_49 (by decide) rfl ?_
        refine jx_aload_n d_Rd_product_50 2 rfl ?_
        obtain ⟨v3, h3, hC3, hfr3, hq3⟩ := c_Rd_passNode l G (d - 1) (by omega) (h := h) ⟨tr, r0, r1, r2, r3, r4, r5, r6, tp, ⟨ta, f0, f1, f2, f3, f4, f5, f6, tb⟩, hB, ⟨tf, g0, g1, g2, g3, g4, g5, g6, t1, t2, t3, t4, t5⟩, hST, hDT, hNA, hPL, hdis, hcn, hcs⟩ hn (by omega) (by omega) (by omega)
        cases hp3 : p_node B n c k with
        | inl e3 =>
          rw [hp3] at hq3
          obtain ⟨rfl, hF3⟩ := hq3
          refine jx_callV (M2 := mm_Rd_passNode) rfl tr lk_Rd_80 wi_Rd_passNode ws_Rd_passNode d_Rd_product_51 hC3 cd_Rd_passNode rfl rfl (Nat.le_of_ble_eq_true rfl) (jm_fok (by omega)) (jm_look (by decide) (by omega)) ?_
          refine jx_if_eq (tgt := 65) d_Rd_product_54 (by decide) (fun c4 => ?_) (fun c4 => absurd c4 (by decide))
          refine jx_iconst (v0 := 0) d_Rd_product_65 (by decide) ?_
          exact jx_zret d_Rd_product_66 rfl (by first | rfl | decide) (kP _ _ (.inl e3) (jm_fr.trans fr0 hfr3) (rd3_more hmd (sb_l hp3)) ⟨rfl, hF3⟩)
        | inr c3 =>
          rw [hp3] at hq3
          obtain ⟨rfl, hS3⟩ := hq3
          obtain ⟨tr3, r03, r13, r23, r33, r43, r53, r63, tp3, ⟨ta3, f03, f13, f23, f33, f43, f53, f63, tb3⟩, hB3, ⟨tf3, g03, g13, g23, g33, g43, g53, g63, t13, t23, t33, t43, t53⟩, hST3, hDT3, hNA3, hPL3, hdis3, hcn3, hcs3⟩ := id hS3
          refine jx_callV (M2 := mm_Rd_passNode) rfl tr lk_Rd_80 wi_Rd_passNode ws_Rd_passNode d_Rd_product_51 hC3 cd_Rd_passNode rfl rfl (Nat.le_of_ble_eq_true rfl) (jm_fok (by omega)) (jm_look (by decide) (by omega)) ?_
          have lthp3 := p_node_lt hp3
          refine jx_if_eq (tgt := 65) d_Rd_product_54 (by decide) (fun c5 => absurd c5 (by decide)) (fun c5 => ?_)
          refine jx_aload_n d_Rd_product_57 2 rfl ?_
          refine jx_iload_n d_Rd_product_58 3 rfl ?_
          obtain ⟨v6, h6, hC6, hfr6, res6, hd6, hq6⟩ := ihP (d - 1) (by omega) (h := h3) ⟨tr3, r03, r13, r23, r33, r43, r53, r63, tp3, ⟨ta3, f03, f13, f23, f33, f43, f53, f63, tb3⟩, hB3, ⟨tf3, g03, g13, g23, g33, g43, g53, g63, t13, t23, t33, t43, t53⟩, hST3, hDT3, hNA3, hPL3, hdis3, hcn3, hcs3⟩ hn (by omega) (by omega) (by omega)
          rcases res6 with e6 | ⟨t6, c6, k6⟩
          · obtain ⟨rfl, hF6⟩ := hq6
            refine jx_callV (M2 := mm_Rd_part) rfl tr3 lk_Rd_86 wi_Rd_part ws_Rd_part d_Rd_product_59 hC6 cd_Rd_part rfl rfl (Nat.le_of_ble_eq_true rfl) (jm_fok (by omega)) (jm_look (by decide) (by omega)) ?_
            refine jx_if_ne (tgt := 67) d_Rd_product_62 (by decide) (fun c7 => absurd c7 (by decide)) (fun c7 => ?_)
            refine jx_iconst (v0 := 0) d_Rd_product_65 (by decide) ?_
            exact jx_zret d_Rd_product_66 rfl (by first | rfl | decide) (kP _ _ (.inl e6) (jm_fr.trans (jm_fr.trans fr0 hfr3) hfr6) (rd3_more hmd (sb_r hp3 (pb_l hd6))) ⟨rfl, hF6⟩)
          · obtain ⟨rfl, L6, N6, ST6, DT6, NA6, PL6, hS6, hg6⟩ := hq6
            obtain ⟨-, -, -, -, hb6, hb26, hb36, hb46⟩ := id hg6
            simp only at hS6 hb6 hb26 hb36 hb46
            obtain ⟨tr6, r06, r16, r26, r36, r46, r56, r66, tp6, ⟨ta6, f06, f16, f26, f36, f46, f56, f66, tb6⟩, hB6, ⟨tf6, g06, g16, g26, g36, g46, g56, g66, t16, t26, t36, t46, t56⟩, hST6, hDT6, hNA6, hPL6, hdis6, hcn6, hcs6⟩ := id hS6
            refine jx_callV (M2 := mm_Rd_part) rfl tr3 lk_Rd_86 wi_Rd_part ws_Rd_part d_Rd_product_59 hC6 cd_Rd_part rfl rfl (Nat.le_of_ble_eq_true rfl) (jm_fok (by omega)) (jm_look (by decide) (by omega)) ?_
            refine jx_if_ne (tgt := 67) d_Rd_product_62 (by decide) (fun c8 => ?_) (fun c8 => absurd c8 (by decide))
            refine jx_aload_n d_Rd_product_67 2 rfl ?_
            refine jx_get d_Rd_product_68 fF_Rd_21 tr6 r16 ?_
            refine jx_iload_n d_Rd_product_71 0 rfl ?_
            refine jx_iconst (v0 := 0) d_Rd_product_72 (by decide) ?_
            refine jx_callV (M2 := mm_Fm_addStep) rfl tf6 lk_Rd_83 wi_Fm_addStep ws_Fm_addStep d_Rd_product_73 (c_Fm_addStep l G (d - 1) ⟨tf6, g06, g16, g26, g36, g46, g56, g66, t16, t26, t36, t46, t56⟩ (by omega)) cd_Fm_addStep rfl rfl (Nat.le_of_ble_eq_true rfl) (jm_fok (by omega)) (jm_look (by decide) (by omega)) ?_
            refine jx_iinc (v0 := nI (i + 1)) (lv' := [(2, .int (nI (i + 1))), (3, .int (c.1)), (0, .ref (r)), (1, .int (nI (dp)))]) d_Rd_product_76 1 rfl (nI_add _ 1) (by decide) rfl ?_
            refine jx_goto (tgt := 12) d_Rd_product_79 (by decide) ?_
            refine jx_lv [0, 2, 3] rfl ?_
            exact ih (acc := if c.1 = 42 then .mul acc t6 else .div acc t6) (by omega) (by omega) ⟨tr6, (jm_rd_k (by decide) (jm_rd_a (jm_ne_oa tr6 t26) (jm_rd_a (jm_ne_oa tr6 t16) r06))), (jm_rd_k (by decide) (jm_rd_a (jm_ne_oa tr6 t26) (jm_rd_a (jm_ne_oa tr6 t16) r16))), (jm_rd_a (jm_ne_oo tr6 tf6 (by decide)) (jm_rd_a (jm_ne_oa tr6 t26) (jm_rd_a (jm_ne_oa tr6 t16) r26))), (jm_rd_k (by decide) (jm_rd_a (jm_ne_oa tr6 t26) (jm_rd_a (jm_ne_oa tr6 t16) r36))), (jm_rd_k (by decide) (jm_rd_a (jm_ne_oa tr6 t26) (jm_rd_a (jm_ne_oa tr6 t16) r46))), (jm_rd_k (by decide) (jm_rd_a (jm_ne_oa tr6 t26) (jm_rd_a (jm_ne_oa tr6 t16) r56))), (jm_rd_k (by decide) (jm_rd_a (jm_ne_oa tr6 t26) (jm_rd_a (jm_ne_oa tr6 t16) r66))), tp6, ⟨ta6, (jm_rd_k (by decide) (jm_rd_a (jm_ne_oa ta6 t26) (jm_rd_a (jm_ne_oa ta6 t16) f06))), (jm_rd_k (by decide) (jm_rd_a (jm_ne_oa ta6 t26) (jm_rd_a (jm_ne_oa ta6 t16) f16))), (jm_rd_a (jm_ne_oo ta6 tf6 (by decide)) (jm_rd_a (jm_ne_oa ta6 t26) (jm_rd_a (jm_ne_oa ta6 t16) f26))), (jm_rd_k (by decide) (jm_rd_a (jm_ne_oa ta6 t26) (jm_rd_a (jm_ne_oa ta6 t16) f36))), (jm_rd_k (by decide) (jm_rd_a (jm_ne_oa ta6 t26) (jm_rd_a (jm_ne_oa ta6 t16) f46))), (jm_rd_k (by decide) (jm_rd_a (jm_ne_oa ta6 t26) (jm_rd_a (jm_ne_oa ta6 t16) f56))), (jm_rd_k (by decide) (jm_rd_a (jm_ne_oa ta6 t26) (jm_rd_a (jm_ne_oa ta6 t16) f66))), tb6⟩, (fun j hj => jm_rd_a (Ne.symm (jm_ne_oa tf6 tb6)) ((fun j hj => jm_rd_a (jm_ne_aa tb6 t26 (by decide)) ((fun j hj => jm_rd_a (jm_ne_aa tb6 t16 (by decide)) (hB6 j hj)) j hj)) j hj)), ⟨tf6, (jm_rd_k (by decide) (jm_rd_a (jm_ne_oa tf6 t26) (jm_rd_a (jm_ne_oa tf6 t16) g06))), (jm_rd_k (by decide) (jm_rd_a (jm_ne_oa tf6 t26) (jm_rd_a (jm_ne_oa tf6 t16) g16))), (jm_rd_s _ _ _ _), (jm_rd_k (by decide) (jm_rd_a (jm_ne_oa tf6 t26) (jm_rd_a (jm_ne_oa tf6 t16) g36))), (jm_rd_k (by decide) (jm_rd_a (jm_ne_oa tf6 t26) (jm_rd_a (jm_ne_oa tf6 t16) g46))), (jm_rd_k (by decide) (jm_rd_a (jm_ne_oa tf6 t26) (jm_rd_a (jm_ne_oa tf6 t16) g56))), (jm_rd_k (by decide) (jm_rd_a (jm_ne_oa tf6 t26) (jm_rd_a (jm_ne_oa tf6 t16) g66))), t16, t26, t36, t46, t56⟩, (arI.keep (arI.keep (arI.put hST6) (by omega)) (Ne.symm (jm_ne_oa tf6 t16))), (arI.keep (arI.put (arI.keep hDT6 (by omega))) (Ne.symm (jm_ne_oa tf6 t26))), (arL.keep (arL.keep (arL.keep hNA6 (jm_ne_aa t36 t16 (by decide))) (jm_ne_aa t36 t26 (by decide))) (Ne.symm (jm_ne_oa tf6 t36))), (arI.keep (arI.keep (arI.keep hPL6 (by omega)) (by omega)) (Ne.symm (jm_ne_oa tf6 tp6))), hdis6, hcn6, hcs6⟩ (jm_fr.put (jm_fr.put (jm_fr.put (jm_fr.trans (jm_fr.trans fr0 hfr3) hfr6) (by unfold S_rd; omega)) (by unfold S_rd; omega)) (by unfold S_rd; omega)) (seg_md hmd hg0 hg6) (fun v h9 res q1 q2 q3 => kP v h9 res q1 (rd3_more hmd (sb_r hp3 (pb_r hd6 q2))) q3)
      ·
        refine jx_aload_n d_Rd_product_30 1 rfl ?_
        refine jx_get d_Rd_product_31 fF_Rd_12 tr r0 ?_
        refine jx_get d_Rd_product_34 fF_Rd_61 ta f3 ?_
        refine jx_bipush (v0 := 47) d_Rd_product_37 (by decide) ?_
        refine jx_icmp_ne (tgt := 82) d_Rd_product_39 (by decide) (fun c9 => ?_) (fun c9 => ?_)
        ·
          refine jx_iconst (v0 := 1) d_Rd_product_82 (by decide) ?_
          exact jx_zret d_Rd_product_83 rfl (by first | rfl | decide) (kP _ _ (.inr (acc, c, k)) fr0 (rd3_stop c2 c9) ⟨rfl, L, N, ST, DT, NA, PL, hS, hg0⟩)
        ·
          have hmd : c.1 = 42 ∨ c.1 = 47 := by first | exact Or.inl c9 | exact Or.inr c9 | (right; simpa using c9)
          refine jx_aload_n d_Rd_product_42 1 rfl ?_
          refine jx_get d_Rd_product_43 fF_Rd_12 tr r0 ?_
          refine jx_get d_Rd_product_46 fF_Rd_61 ta f3 ?_
          refine jx_istore_n (lv' := [(3, .int (c.1)), (2, .int (nI (i))), (0, .ref (r)), (1, .int (nI (dp)))]) d_Rd_product_49 (by decide) rfl ?_
          refine jx_aload_n d_Rd_product_50 2 rfl ?_
          obtain ⟨v10, h10, hC10, hfr10, hq10⟩ := c_Rd_passNode l G (d - 1) (by omega) (h := h) ⟨tr, r0, r1, r2, r3, r4, r5, r6, tp, ⟨ta, f0, f1, f2, f3, f4, f5, f6, tb⟩, hB, ⟨tf, g0, g1, g2, g3, g4, g5, g6, t1, t2, t3, t4, t5⟩, hST, hDT, hNA, hPL, hdis, hcn, hcs⟩ hn (by omega) (by omega) (by omega)
          cases hp10 : p_node B n c k with
          | inl e10 =>
            rw [hp10] at hq10
            obtain ⟨rfl, hF10⟩ := hq10
            refine jx_callV (M2 := mm_Rd_passNode) rfl tr lk_Rd_80 wi_Rd_passNode ws_Rd_passNode d_Rd_product_51 hC10 cd_Rd_passNode rfl rfl (Nat.le_of_ble_eq_true rfl) (jm_fok (by omega)) (jm_look (by decide) (by omega)) ?_
            refine jx_if_eq (tgt := 65) d_Rd_product_54 (by decide) (fun c11 => ?_) (fun c11 => absurd c11 (by decide))
            refine jx_iconst (v0 := 0) d_Rd_product_65 (by decide) ?_
            exact jx_zret d_Rd_product_66 rfl (by first | rfl | decide) (kP _ _ (.inl e10) (jm_fr.trans fr0 hfr10) (rd3_more hmd (sb_l hp10)) ⟨rfl, hF10⟩)
          | inr c10 =>
            rw [hp10] at hq10
            obtain ⟨rfl, hS10⟩ := hq10
            obtain ⟨tr10, r010, r110, r210, r310, r410, r510, r610, tp10, ⟨ta10, f010, f110, f210, f310, f410, f510, f610, tb10⟩, hB10, ⟨tf10, g010, g110, g210, g310, g410, g510, g610, t110, t210, t310, t410, t510⟩, hST10, hDT10, hNA10, hPL10, hdis10, hcn10, hcs10⟩ := id hS10
            refine jx_callV (M2 := mm_Rd_passNode) rfl tr lk_Rd_80 wi_Rd_passNode ws_Rd_passNode d_Rd_product_51 hC10 cd_Rd_passNode rfl rfl (Nat.le_of_ble_eq_true rfl) (jm_fok (by omega)) (jm_look (by decide) (by omega)) ?_
            have lthp10 := p_node_lt hp10
            refine jx_if_eq (tgt := 65) d_Rd_product_54 (by decide) (fun c12 => absurd c12 (by decide)) (fun c12 => ?_)
            refine jx_aload_n d_Rd_product_57 2 rfl ?_
            refine jx_iload_n d_Rd_product_58 3 rfl ?_
            obtain ⟨v13, h13, hC13, hfr13, res13, hd13, hq13⟩ := ihP (d - 1) (by omega) (h := h10) ⟨tr10, r010, r110, r210, r310, r410, r510, r610, tp10, ⟨ta10, f010, f110, f210, f310, f410, f510, f610, tb10⟩, hB10, ⟨tf10, g010, g110, g210, g310, g410, g510, g610, t110, t210, t310, t410, t510⟩, hST10, hDT10, hNA10, hPL10, hdis10, hcn10, hcs10⟩ hn (by omega) (by omega) (by omega)
            rcases res13 with e13 | ⟨t13, c13, k13⟩
            · obtain ⟨rfl, hF13⟩ := hq13
              refine jx_callV (M2 := mm_Rd_part) rfl tr10 lk_Rd_86 wi_Rd_part ws_Rd_part d_Rd_product_59 hC13 cd_Rd_part rfl rfl (Nat.le_of_ble_eq_true rfl) (jm_fok (by omega)) (jm_look (by decide) (by omega)) ?_
              refine jx_if_ne (tgt := 67) d_Rd_product_62 (by decide) (fun c14 => absurd c14 (by decide)) (fun c14 => ?_)
              refine jx_iconst (v0 := 0) d_Rd_product_65 (by decide) ?_
              exact jx_zret d_Rd_product_66 rfl (by first | rfl | decide) (kP _ _ (.inl e13) (jm_fr.trans (jm_fr.trans fr0 hfr10) hfr13) (rd3_more hmd (sb_r hp10 (pb_l hd13))) ⟨rfl, hF13⟩)
            · obtain ⟨rfl, L13, N13, ST13, DT13, NA13, PL13, hS13, hg13⟩ := hq13
              obtain ⟨-, -, -, -, hb13, hb213, hb313, hb413⟩ := id hg13
              simp only at hS13 hb13 hb213 hb313 hb413
              obtain ⟨tr13, r013, r113, r213, r313, r413, r513, r613, tp13, ⟨ta13, f013, f113, f213, f313, f413, f513, f613, tb13⟩, hB13, ⟨tf13, g013, g113, g213, g313, g413, g513, g613, t113, t213, t313, t413, t513⟩, hST13, hDT13, hNA13, hPL13, hdis13, hcn13, hcs13⟩ := id hS13
              refine jx_callV (M2 := mm_Rd_part) rfl tr10 lk_Rd_86 wi_Rd_part ws_Rd_part d_Rd_product_59 hC13 cd_Rd_part rfl rfl (Nat.le_of_ble_eq_true rfl) (jm_fok (by omega)) (jm_look (by decide) (by omega)) ?_
              refine jx_if_ne (tgt := 67) d_Rd_product_62 (by decide) (fun c15 => ?_) (fun c15 => absurd c15 (by decide))
              refine jx_aload_n d_Rd_product_67 2 rfl ?_
              refine jx_get d_Rd_product_68 fF_Rd_21 tr13 r113 ?_
              refine jx_iload_n d_Rd_product_71 0 rfl ?_
              refine jx_iconst (v0 := 0) d_Rd_product_72 (by decide) ?_
              refine jx_callV (M2 := mm_Fm_addStep) rfl tf13 lk_Rd_83 wi_Fm_addStep ws_Fm_addStep d_Rd_product_73 (c_Fm_addStep l G (d - 1) ⟨tf13, g013, g113, g213, g313, g413, g513, g613, t113, t213, t313, t413, t513⟩ (by omega)) cd_Fm_addStep rfl rfl (Nat.le_of_ble_eq_true rfl) (jm_fok (by omega)) (jm_look (by decide) (by omega)) ?_
              refine jx_iinc (v0 := nI (i + 1)) (lv' := [(2, .int (nI (i + 1))), (3, .int (c.1)), (0, .ref (r)), (1, .int (nI (dp)))]) d_Rd_product_76 1 rfl (nI_add _ 1) (by decide) rfl ?_
              refine jx_goto (tgt := 12) d_Rd_product_79 (by decide) ?_
              refine jx_lv [0, 2, 3] rfl ?_
              exact ih (acc := if c.1 = 42 then .mul acc t13 else .div acc t13) (by omega) (by omega) ⟨tr13, (jm_rd_k (by decide) (jm_rd_a (jm_ne_oa tr13 t213) (jm_rd_a (jm_ne_oa tr13 t113) r013))), (jm_rd_k (by decide) (jm_rd_a (jm_ne_oa tr13 t213) (jm_rd_a (jm_ne_oa tr13 t113) r113))), (jm_rd_a (jm_ne_oo tr13 tf13 (by decide)) (jm_rd_a (jm_ne_oa tr13 t213) (jm_rd_a (jm_ne_oa tr13 t113) r213))), (jm_rd_k (by decide) (jm_rd_a (jm_ne_oa tr13 t213) (jm_rd_a (jm_ne_oa tr13 t113) r313))), (jm_rd_k (by decide) (jm_rd_a (jm_ne_oa tr13 t213) (jm_rd_a (jm_ne_oa tr13 t113) r413))), (jm_rd_k (by decide) (jm_rd_a (jm_ne_oa tr13 t213) (jm_rd_a (jm_ne_oa tr13 t113) r513))), (jm_rd_k (by decide) (jm_rd_a (jm_ne_oa tr13 t213) (jm_rd_a (jm_ne_oa tr13 t113) r613))), tp13, ⟨ta13, (jm_rd_k (by decide) (jm_rd_a (jm_ne_oa ta13 t213) (jm_rd_a (jm_ne_oa ta13 t113) f013))), (jm_rd_k (by decide) (jm_rd_a (jm_ne_oa ta13 t213) (jm_rd_a (jm_ne_oa ta13 t113) f113))), (jm_rd_a (jm_ne_oo ta13 tf13 (by decide)) (jm_rd_a (jm_ne_oa ta13 t213) (jm_rd_a (jm_ne_oa ta13 t113) f213))), (jm_rd_k (by decide) (jm_rd_a (jm_ne_oa ta13 t213) (jm_rd_a (jm_ne_oa ta13 t113) f313))), (jm_rd_k (by decide) (jm_rd_a (jm_ne_oa ta13 t213) (jm_rd_a (jm_ne_oa ta13 t113) f413))), (jm_rd_k (by decide) (jm_rd_a (jm_ne_oa ta13 t213) (jm_rd_a (jm_ne_oa ta13 t113) f513))), (jm_rd_k (by decide) (jm_rd_a (jm_ne_oa ta13 t213) (jm_rd_a (jm_ne_oa ta13 t113) f613))), tb13⟩, (fun j hj => jm_rd_a (Ne.symm (jm_ne_oa tf13 tb13)) ((fun j hj => jm_rd_a (jm_ne_aa tb13 t213 (by decide)) ((fun j hj => jm_rd_a (jm_ne_aa tb13 t113 (by decide)) (hB13 j hj)) j hj)) j hj)), ⟨tf13, (jm_rd_k (by decide) (jm_rd_a (jm_ne_oa tf13 t213) (jm_rd_a (jm_ne_oa tf13 t113) g013))), (jm_rd_k (by decide) (jm_rd_a (jm_ne_oa tf13 t213) (jm_rd_a (jm_ne_oa tf13 t113) g113))), (jm_rd_s _ _ _ _), (jm_rd_k (by decide) (jm_rd_a (jm_ne_oa tf13 t213) (jm_rd_a (jm_ne_oa tf13 t113) g313))), (jm_rd_k (by decide) (jm_rd_a (jm_ne_oa tf13 t213) (jm_rd_a (jm_ne_oa tf13 t113) g413))), (jm_rd_k (by decide) (jm_rd_a (jm_ne_oa tf13 t213) (jm_rd_a (jm_ne_oa tf13 t113) g513))), (jm_rd_k (by decide) (jm_rd_a (jm_ne_oa tf13 t213) (jm_rd_a (jm_ne_oa tf13 t113) g613))), t113, t213, t313, t413, t513⟩, (arI.keep (arI.keep (arI.put hST13) (by omega)) (Ne.symm (jm_ne_oa tf13 t113))), (arI.keep (arI.put (arI.keep hDT13 (by omega))) (Ne.symm (jm_ne_oa tf13 t213))), (arL.keep (arL.keep (arL.keep hNA13 (jm_ne_aa t313 t113 (by decide))) (jm_ne_aa t313 t213 (by decide))) (Ne.symm (jm_ne_oa tf13 t313))), (arI.keep (arI.keep (arI.keep hPL13 (by omega)) (by omega)) (Ne.symm (jm_ne_oa tf13 tp13))), hdis13, hcn13, hcs13⟩ (jm_fr.put (jm_fr.put (jm_fr.put (jm_fr.trans (jm_fr.trans fr0 hfr10) hfr13) (by unfold S_rd; omega)) (by unfold S_rd; omega)) (by unfold S_rd; omega)) (seg_md hmd hg0 hg13) (fun v h9 res q1 q2 q3 => kP v h9 res q1 (rd3_more hmd (sb_r hp10 (pb_r hd13 q2))) q3)
set_option maxHeartbeats 4000000 in
set_option maxRecDepth 100000 in
theorem c_Rd_product (l : Launch) (G : jm_G) (dp : Nat) (hdp : dp ≤ 20) (ihP : CPart l G dp) : CProd l G dp := by
  intro d hd h r f n B c k L N ST DT NA PL fc fp nme hS hn hk hL hN
  obtain ⟨tr, r0, r1, r2, r3, r4, r5, r6, tp, ⟨ta, f0, f1, f2, f3, f4, f5, f6, tb⟩, hB, ⟨tf, g0, g1, g2, g3, g4, g5, g6, t1, t2, t3, t4, t5⟩, hST, hDT, hNA, hPL, hdis, hcn, hcs⟩ := id hS
  refine jm_of (by decide) rfl (Nat.le_of_ble_eq_true rfl) ?_
  refine jx_aload_n d_Rd_product_0 0 rfl ?_
  refine jx_iload_n d_Rd_product_1 1 rfl ?_
  obtain ⟨v1, h1, hC1, hfr1, res1, hd1, hq1⟩ := ihP (d - 1) (by omega) (h := h) ⟨tr, r0, r1, r2, r3, r4, r5, r6, tp, ⟨ta, f0, f1, f2, f3, f4, f5, f6, tb⟩, hB, ⟨tf, g0, g1, g2, g3, g4, g5, g6, t1, t2, t3, t4, t5⟩, hST, hDT, hNA, hPL, hdis, hcn, hcs⟩ hn (by omega) (by omega) (by omega)
  rcases res1 with e1 | ⟨t1, c1, k1⟩
  · obtain ⟨rfl, hF1⟩ := hq1
    refine jx_callV (M2 := mm_Rd_part) rfl tr lk_Rd_86 wi_Rd_part ws_Rd_part d_Rd_product_2 hC1 cd_Rd_part rfl rfl (Nat.le_of_ble_eq_true rfl) (jm_fok (by omega)) (jm_look (by decide) (by omega)) ?_
    refine jx_if_ne (tgt := 10) d_Rd_product_5 (by decide) (fun c2 => absurd c2 (by decide)) (fun c2 => ?_)
    refine jx_iconst (v0 := 0) d_Rd_product_8 (by decide) ?_
    exact jx_zret d_Rd_product_9 rfl (by first | rfl | decide) (⟨_, rfl, (jm_fr.trans jm_fr.rf hfr1), .inl e1, rd1_l hd1, rfl, hF1⟩)
  · obtain ⟨rfl, L1, N1, ST1, DT1, NA1, PL1, hS1, hg1⟩ := hq1
    obtain ⟨-, -, -, -, hb1, hb21, hb31, hb41⟩ := id hg1
    simp only at hS1 hb1 hb21 hb31 hb41
    obtain ⟨tr1, r01, r11, r21, r31, r41, r51, r61, tp1, ⟨ta1, f01, f11, f21, f31, f41, f51, f61, tb1⟩, hB1, ⟨tf1, g01, g11, g21, g31, g41, g51, g61, t11, t21, t31, t41, t51⟩, hST1, hDT1, hNA1, hPL1, hdis1, hcn1, hcs1⟩ := id hS1
    refine jx_callV (M2 := mm_Rd_part) rfl tr lk_Rd_86 wi_Rd_part ws_Rd_part d_Rd_product_2 hC1 cd_Rd_part rfl rfl (Nat.le_of_ble_eq_true rfl) (jm_fok (by omega)) (jm_look (by decide) (by omega)) ?_
    refine jx_if_ne (tgt := 10) d_Rd_product_5 (by decide) (fun c3 => ?_) (fun c3 => absurd c3 (by decide))
    refine jx_iconst (v0 := 0) d_Rd_product_10 (by decide) ?_
    refine jx_istore_n (lv' := [(2, .int (0)), (0, .ref (r)), (1, .int (nI (dp)))]) d_Rd_product_11 (by decide) rfl ?_
    refine lp_Rd_product l G d dp hd hdp ihP hn hL hN 41 (i := 0) (by omega) (by omega) hS1 (jm_fr.trans jm_fr.rf hfr1) hg1 (fun v h9 res q1 q2 q3 => ⟨v, rfl, q1, res, Rd.intro (show pb (Rd B n 4 dp .null c k) _ _ from pb_r (K := fun t c1 k1 => Rd B n 3 dp t c1 k1 res) hd1 q2), q3⟩)
set_option maxHeartbeats 4000000 in
set_option maxRecDepth 100000 in
theorem lp_Rd_sum (l : Launch) (G : jm_G) (d dp : Nat) (hd : 12 + 4 * (20 - dp) ≤ d) (hdp : dp ≤ 20) (ihP : CProd l G dp) {h0 : jm_H} {r f n n0 s0 : Nat} {B : Nat → Int32} {fc fp : Int32} {nme : Int64} {k0 L0 N0 : Nat} {ST0 DT0 : Nat → Int32} {NA0 : Nat → Int64} {PL0 : Nat → Int32} {Post : jm_r → jm_H → Prop} (hn : n ≤ 2000) (hL0 : L0 ≤ 2 * k0) (hN0 : N0 ≤ k0) (m : Nat) : ∀ {h : jm_H} {c : Cur} {k L N i : Nat} {ST DT : Nat → Int32} {NA : Nat → Int64} {PL : Nat → Int32} {acc : Term}, 41 - k < m → i < k → RdS h r f n B c k L N ST DT NA PL fc fp nme → jm_fr (S_rd r f) h0 h → SegOK acc L0 N0 k0 L N k ST0 DT0 ST DT NA0 NA PL0 PL → (∀ v h9 res, jm_fr (S_rd r f) h0 h9 → Rd B n 2 dp acc c k res → OutR res v h9 r f n B k0 L0 N0 ST0 DT0 NA0 PL0 fc fp nme → Post (.inl v) h9) → jm_X l G mm_Rd_sum n0 s0 (jm_zn G d n0 s0) Post 12 [(2, .int (nI i)), (0, .ref r), (1, .int (nI dp))] [] h := by
  induction m with
  | zero => intro h c k L N i ST DT NA PL acc hm; omega
  | succ m ih =>
    intro h c k L N i ST DT NA PL acc hm hik hS fr0 hg0 kP
    obtain ⟨-, -, -, -, hb, hb2, hb3, hb4⟩ := id hg0
    obtain ⟨tr, r0, r1, r2, r3, r4, r5, r6, tp, ⟨ta, f0, f1, f2, f3, f4, f5, f6, tb⟩, hB, ⟨tf, g0, g1, g2, g3, g4, g5, g6, t1, t2, t3, t4, t5⟩, hST, hDT, hNA, hPL, hdis, hcn, hcs⟩ := id hS
    refine jx_iload_n d_Rd_sum_12 0 rfl ?_
    refine jx_bipush (v0 := 40) d_Rd_sum_13 (by decide) ?_
    refine jx_icmp_geN (tgt := 82) (i) (40) d_Rd_sum_15 rfl rfl (by omega) (by omega) (by decide) (fun c1 => ?_) (fun c1 => ?_)
    · omega
    ·
      refine jx_aload_n d_Rd_sum_18 1 rfl ?_
      refine jx_get d_Rd_sum_19 fF_Rd_12 tr r0 ?_
      refine jx_get d_Rd_sum_22 fF_Rd_61 ta f3 ?_
      refine jx_bipush (v0 := 43) d_Rd_sum_25 (by decide) ?_
      refine jx_icmp_eq (tgt := 42) d_Rd_sum_27 (by decide) (fun c2 => ?_) (fun c2 => ?_)
      ·
        have hmd : c.1 = 43 ∨ c.1 = 45 := by first | exact Or.inl c2 | exact Or.inr c2 | (right; simpa using c2)
        refine jx_aload_n d_Rd_sum_42 1 rfl ?_
        refine jx_get d_Rd_sum_43 fF_Rd_12 tr r0 ?_
        refine jx_get d_Rd_sum_46 fF_Rd_61 ta f3 ?_
        refine jx_istore_n (lv' := [(3, .int (c.1)), (2, .int (nI (i))), (0, .ref (r)), (1, .int (nI (dp)))]) d_Rd_sum_49 (by decide) rfl ?_
        refine jx_aload_n d_Rd_sum_50 2 rfl ?_
        obtain ⟨v3, h3, hC3, hfr3, hq3⟩ := c_Rd_passNode l G (d - 1) (by omega) (h := h) ⟨tr, r0, r1, r2, r3, r4, r5, r6, tp, ⟨ta, f0, f1, f2, f3, f4, f5, f6, tb⟩, hB, ⟨tf, g0, g1, g2, g3, g4, g5, g6, t1, t2, t3, t4, t5⟩, hST, hDT, hNA, hPL, hdis, hcn, hcs⟩ hn (by omega) (by omega) (by omega)
        cases hp3 : p_node B n c k with
        | inl e3 =>
          rw [hp3] at hq3
          obtain ⟨rfl, hF3⟩ := hq3
          refine jx_callV (M2 := mm_Rd_passNode) rfl tr lk_Rd_80 wi_Rd_passNode ws_Rd_passNode d_Rd_sum_51 hC3 cd_Rd_passNode rfl rfl (Nat.le_of_ble_eq_true rfl) (jm_fok (by omega)) (jm_look (by decide) (by omega)) ?_
          refine jx_if_eq (tgt := 65) d_Rd_sum_54 (by decide) (fun c4 => ?_) (fun c4 => absurd c4 (by decide))
          refine jx_iconst (v0 := 0) d_Rd_sum_65 (by decide) ?_
          exact jx_zret d_Rd_sum_66 rfl (by first | rfl | decide) (kP _ _ (.inl e3) (jm_fr.trans fr0 hfr3) (rd2_more hmd (sb_l hp3)) ⟨rfl, hF3⟩)
        | inr c3 =>
          rw [hp3] at hq3
          obtain ⟨rfl, hS3⟩ := hq3
          obtain ⟨tr3, r03, r13, r23, r33, r43, r53, r63, tp3, ⟨ta3, f03, f13, f23, f33, f43, f53, f63, tb3⟩, hB3, ⟨tf3, g03, g13, g23, g33, g43, g53, g63, t13, t23, t33, t43, t53⟩, hST3, hDT3, hNA3, hPL3, hdis3, hcn3, hcs3⟩ := id hS3
          refine jx_callV (M2 := mm_Rd_passNode) rfl tr lk_Rd_80 wi_Rd_passNode ws_Rd_passNode d_Rd_sum_51 hC3 cd_Rd_passNode rfl rfl (Nat.le_of_ble_eq_true rfl) (jm_fok (by omega)) (jm_look (by decide) (by omega)) ?_
          have lthp3 := p_node_lt hp3
          refine jx_if_eq (tgt := 65) d_Rd_sum_54 (by decide) (fun c5 => absurd c5 (by decide)) (fun c5 => ?_)
          refine jx_aload_n d_Rd_sum_57 2 rfl ?_
          refine jx_iload_n d_Rd_sum_58 3 rfl ?_
          obtain ⟨v6, h6, hC6, hfr6, res6, hd6, hq6⟩ := ihP (d - 1) (by omega) (h := h3) ⟨tr3, r03, r13, r23, r33, r43, r53, r63, tp3, ⟨ta3, f03, f13, f23, f33, f43, f53, f63, tb3⟩, hB3, ⟨tf3, g03, g13, g23, g33, g43, g53, g63, t13, t23, t33, t43, t53⟩, hST3, hDT3, hNA3, hPL3, hdis3, hcn3, hcs3⟩ hn (by omega) (by omega) (by omega)
          rcases res6 with e6 | ⟨t6, c6, k6⟩
          · obtain ⟨rfl, hF6⟩ := hq6
            refine jx_callV (M2 := mm_Rd_product) rfl tr3 lk_Rd_77 wi_Rd_product ws_Rd_product d_Rd_sum_59 hC6 cd_Rd_product rfl rfl (Nat.le_of_ble_eq_true rfl) (jm_fok (by omega)) (jm_look (by decide) (by omega)) ?_
            refine jx_if_ne (tgt := 67) d_Rd_sum_62 (by decide) (fun c7 => absurd c7 (by decide)) (fun c7 => ?_)
            refine jx_iconst (v0 := 0) d_Rd_sum_65 (by decide) ?_
            exact jx_zret d_Rd_sum_66 rfl (by first | rfl | decide) (kP _ _ (.inl e6) (jm_fr.trans (jm_fr.trans fr0 hfr3) hfr6) (rd2_more hmd (sb_r hp3 (pb_l hd6))) ⟨rfl, hF6⟩)
          · obtain ⟨rfl, L6, N6, ST6, DT6, NA6, PL6, hS6, hg6⟩ := hq6
            obtain ⟨-, -, -, -, hb6, hb26, hb36, hb46⟩ := id hg6
            simp only at hS6 hb6 hb26 hb36 hb46
            obtain ⟨tr6, r06, r16, r26, r36, r46, r56, r66, tp6, ⟨ta6, f06, f16, f26, f36, f46, f56, f66, tb6⟩, hB6, ⟨tf6, g06, g16, g26, g36, g46, g56, g66, t16, t26, t36, t46, t56⟩, hST6, hDT6, hNA6, hPL6, hdis6, hcn6, hcs6⟩ := id hS6
            refine jx_callV (M2 := mm_Rd_product) rfl tr3 lk_Rd_77 wi_Rd_product ws_Rd_product d_Rd_sum_59 hC6 cd_Rd_product rfl rfl (Nat.le_of_ble_eq_true rfl) (jm_fok (by omega)) (jm_look (by decide) (by omega)) ?_
            refine jx_if_ne (tgt := 67) d_Rd_sum_62 (by decide) (fun c8 => ?_) (fun c8 => absurd c8 (by decide))
            refine jx_aload_n d_Rd_sum_67 2 rfl ?_
            refine jx_get d_Rd_sum_68 fF_Rd_21 tr6 r16 ?_
            refine jx_iload_n d_Rd_sum_71 0 rfl ?_
            refine jx_iconst (v0 := 0) d_Rd_sum_72 (by decide) ?_
            refine jx_callV (M2 := mm_Fm_addStep) rfl tf6 lk_Rd_83 wi_Fm_addStep ws_Fm_addStep d_Rd_sum_73 (c_Fm_addStep l G (d - 1) ⟨tf6, g06, g16, g26, g36, g46, g56, g66, t16, t26, t36, t46, t56⟩ (by omega)) cd_Fm_addStep rfl rfl (Nat.le_of_ble_eq_true rfl) (jm_fok (by omega)) (jm_look (by decide) (by omega)) ?_
            refine jx_iinc (v0 := nI (i + 1)) (lv' := [(2, .int (nI (i + 1))), (3, .int (c.1)), (0, .ref (r)), (1, .int (nI (dp)))]) d_Rd_sum_76 1 rfl (nI_add _ 1) (by decide) rfl ?_
            refine jx_goto (tgt := 12) d_Rd_sum_79 (by decide) ?_
            refine jx_lv [0, 2, 3] rfl ?_
            exact ih (acc := if c.1 = 43 then .add acc t6 else .sub acc t6) (by omega) (by omega) ⟨tr6, (jm_rd_k (by decide) (jm_rd_a (jm_ne_oa tr6 t26) (jm_rd_a (jm_ne_oa tr6 t16) r06))), (jm_rd_k (by decide) (jm_rd_a (jm_ne_oa tr6 t26) (jm_rd_a (jm_ne_oa tr6 t16) r16))), (jm_rd_a (jm_ne_oo tr6 tf6 (by decide)) (jm_rd_a (jm_ne_oa tr6 t26) (jm_rd_a (jm_ne_oa tr6 t16) r26))), (jm_rd_k (by decide) (jm_rd_a (jm_ne_oa tr6 t26) (jm_rd_a (jm_ne_oa tr6 t16) r36))), (jm_rd_k (by decide) (jm_rd_a (jm_ne_oa tr6 t26) (jm_rd_a (jm_ne_oa tr6 t16) r46))), (jm_rd_k (by decide) (jm_rd_a (jm_ne_oa tr6 t26) (jm_rd_a (jm_ne_oa tr6 t16) r56))), (jm_rd_k (by decide) (jm_rd_a (jm_ne_oa tr6 t26) (jm_rd_a (jm_ne_oa tr6 t16) r66))), tp6, ⟨ta6, (jm_rd_k (by decide) (jm_rd_a (jm_ne_oa ta6 t26) (jm_rd_a (jm_ne_oa ta6 t16) f06))), (jm_rd_k (by decide) (jm_rd_a (jm_ne_oa ta6 t26) (jm_rd_a (jm_ne_oa ta6 t16) f16))), (jm_rd_a (jm_ne_oo ta6 tf6 (by decide)) (jm_rd_a (jm_ne_oa ta6 t26) (jm_rd_a (jm_ne_oa ta6 t16) f26))), (jm_rd_k (by decide) (jm_rd_a (jm_ne_oa ta6 t26) (jm_rd_a (jm_ne_oa ta6 t16) f36))), (jm_rd_k (by decide) (jm_rd_a (jm_ne_oa ta6 t26) (jm_rd_a (jm_ne_oa ta6 t16) f46))), (jm_rd_k (by decide) (jm_rd_a (jm_ne_oa ta6 t26) (jm_rd_a (jm_ne_oa ta6 t16) f56))), (jm_rd_k (by decide) (jm_rd_a (jm_ne_oa ta6 t26) (jm_rd_a (jm_ne_oa ta6 t16) f66))), tb6⟩, (fun j hj => jm_rd_a (Ne.symm (jm_ne_oa tf6 tb6)) ((fun j hj => jm_rd_a (jm_ne_aa tb6 t26 (by decide)) ((fun j hj => jm_rd_a (jm_ne_aa tb6 t16 (by decide)) (hB6 j hj)) j hj)) j hj)), ⟨tf6, (jm_rd_k (by decide) (jm_rd_a (jm_ne_oa tf6 t26) (jm_rd_a (jm_ne_oa tf6 t16) g06))), (jm_rd_k (by decide) (jm_rd_a (jm_ne_oa tf6 t26) (jm_rd_a (jm_ne_oa tf6 t16) g16))), (jm_rd_s _ _ _ _), (jm_rd_k (by decide) (jm_rd_a (jm_ne_oa tf6 t26) (jm_rd_a (jm_ne_oa tf6 t16) g36))), (jm_rd_k (by decide) (jm_rd_a (jm_ne_oa tf6 t26) (jm_rd_a (jm_ne_oa tf6 t16) g46))), (jm_rd_k (by decide) (jm_rd_a (jm_ne_oa tf6 t26) (jm_rd_a (jm_ne_oa tf6 t16) g56))), (jm_rd_k (by decide) (jm_rd_a (jm_ne_oa tf6 t26) (jm_rd_a (jm_ne_oa tf6 t16) g66))), t16, t26, t36, t46, t56⟩, (arI.keep (arI.keep (arI.put hST6) (by omega)) (Ne.symm (jm_ne_oa tf6 t16))), (arI.keep (arI.put (arI.keep hDT6 (by omega))) (Ne.symm (jm_ne_oa tf6 t26))), (arL.keep (arL.keep (arL.keep hNA6 (jm_ne_aa t36 t16 (by decide))) (jm_ne_aa t36 t26 (by decide))) (Ne.symm (jm_ne_oa tf6 t36))), (arI.keep (arI.keep (arI.keep hPL6 (by omega)) (by omega)) (Ne.symm (jm_ne_oa tf6 tp6))), hdis6, hcn6, hcs6⟩ (jm_fr.put (jm_fr.put (jm_fr.put (jm_fr.trans (jm_fr.trans fr0 hfr3) hfr6) (by unfold S_rd; omega)) (by unfold S_rd; omega)) (by unfold S_rd; omega)) (seg_pm hmd hg0 hg6) (fun v h9 res q1 q2 q3 => kP v h9 res q1 (rd2_more hmd (sb_r hp3 (pb_r hd6 q2))) q3)
      ·
        refine jx_aload_n d_Rd_sum_30 1 rfl ?_
        refine jx_get d_Rd_sum_31 fF_Rd_12 tr r0 ?_
        refine jx_get d_Rd_sum_34 fF_Rd_61 ta f3 ?_
        refine jx_bipush (v0 := 45) d_Rd_sum_37 (by decide) ?_
        refine jx_icmp_ne (tgt := 82) d_Rd_sum_39 (by decide) (fun c9 => ?_) (fun c9 => ?_)
        ·
          refine jx_iconst (v0 := 1) d_Rd_sum_82 (by decide) ?_
          exact jx_zret d_Rd_sum_83 rfl (by first | rfl | decide) (kP _ _ (.inr (acc, c, k)) fr0 (rd2_stop c2 c9) ⟨rfl, L, N, ST, DT, NA, PL, hS, hg0⟩)
        ·
          have hmd : c.1 = 43 ∨ c.1 = 45 := by first | exact Or.inl c9 | exact Or.inr c9 | (right; simpa using c9)
          refine jx_aload_n d_Rd_sum_42 1 rfl ?_
          refine jx_get d_Rd_sum_43 fF_Rd_12 tr r0 ?_
          refine jx_get d_Rd_sum_46 fF_Rd_61 ta f3 ?_
          refine jx_istore_n (lv' := [(3, .int (c.1)), (2, .int (nI (i))), (0, .ref (r)), (1, .int (nI (dp)))]) d_Rd_sum_49 (by decide) rfl ?_
          refine jx_aload_n d_Rd_sum_50 2 rfl ?_
          obtain ⟨v10, h10, hC10, hfr10, hq10⟩ := c_Rd_passNode l G (d - 1) (by omega) (h := h) ⟨tr, r0, r1, r2, r3, r4, r5, r6, tp, ⟨ta, f0, f1, f2, f3, f4, f5, f6, tb⟩, hB, ⟨tf, g0, g1, g2, g3, g4, g5, g6, t1, t2, t3, t4, t5⟩, hST, hDT, hNA, hPL, hdis, hcn, hcs⟩ hn (by omega) (by omega) (by omega)
          cases hp10 : p_node B n c k with
          | inl e10 =>
            rw [hp10] at hq10
            obtain ⟨rfl, hF10⟩ := hq10
            refine jx_callV (M2 := mm_Rd_passNode) rfl tr lk_Rd_80 wi_Rd_passNode ws_Rd_passNode d_Rd_sum_51 hC10 cd_Rd_passNode rfl rfl (Nat.le_of_ble_eq_true rfl) (jm_fok (by omega)) (jm_look (by decide) (by omega)) ?_
            refine jx_if_eq (tgt := 65) d_Rd_sum_54 (by decide) (fun c11 => ?_) (fun c11 => absurd c11 (by decide))
            refine jx_iconst (v0 := 0) d_Rd_sum_65 (by decide) ?_
            exact jx_zret d_Rd_sum_66 rfl (by first | rfl | decide) (kP _ _ (.inl e10) (jm_fr.trans fr0 hfr10) (rd2_more hmd (sb_l hp10)) ⟨rfl, hF10⟩)
          | inr c10 =>
            rw [hp10] at hq10
            obtain ⟨rfl, hS10⟩ := hq10
            obtain ⟨tr10, r010, r110, r210, r310, r410, r510, r610, tp10, ⟨ta10, f010, f110, f210, f310, f410, f510, f610, tb10⟩, hB10, ⟨tf10, g010, g110, g210, g310, g410, g510, g610, t110, t210, t310, t410, t510⟩, hST10, hDT10, hNA10, hPL10, hdis10, hcn10, hcs10⟩ := id hS10
            refine jx_callV (M2 := mm_Rd_passNode) rfl tr lk_Rd_80 wi_Rd_passNode ws_Rd_passNode d_Rd_sum_51 hC10 cd_Rd_passNode rfl rfl (Nat.le_of_ble_eq_true rfl) (jm_fok (by omega)) (jm_look (by decide) (by omega)) ?_
            have lthp10 := p_node_lt hp10
            refine jx_if_eq (tgt := 65) d_Rd_sum_54 (by decide) (fun c12 => absurd c12 (by decide)) (fun c12 => ?_)
            refine jx_aload_n d_Rd_sum_57 2 rfl ?_
            refine jx_iload_n d_Rd_sum_58 3 rfl ?_
            obtain ⟨v13, h13, hC13, hfr13, res13, hd13, hq13⟩ := ihP (d - 1) (by omega) (h := h10) ⟨tr10, r010, r110, r210, r310, r410, r510, r610, tp10, ⟨ta10, f010, f110, f210, f310, f410, f510, f610, tb10⟩, hB10, ⟨tf10, g010, g110, g210, g310, g410, g510, g610, t110, t210, t310, t410, t510⟩, hST10, hDT10, hNA10, hPL10, hdis10, hcn10, hcs10⟩ hn (by omega) (by omega) (by omega)
            rcases res13 with e13 | ⟨t13, c13, k13⟩
            · obtain ⟨rfl, hF13⟩ := hq13
              refine jx_callV (M2 := mm_Rd_product) rfl tr10 lk_Rd_77 wi_Rd_product ws_Rd_product d_Rd_sum_59 hC13 cd_Rd_product rfl rfl (Nat.le_of_ble_eq_true rfl) (jm_fok (by omega)) (jm_look (by decide) (by omega)) ?_
              refine jx_if_ne (tgt := 67) d_Rd_sum_62 (by decide) (fun c14 => absurd c14 (by decide)) (fun c14 => ?_)
              refine jx_iconst (v0 := 0) d_Rd_sum_65 (by decide) ?_
              exact jx_zret d_Rd_sum_66 rfl (by first | rfl | decide) (kP _ _ (.inl e13) (jm_fr.trans (jm_fr.trans fr0 hfr10) hfr13) (rd2_more hmd (sb_r hp10 (pb_l hd13))) ⟨rfl, hF13⟩)
            · obtain ⟨rfl, L13, N13, ST13, DT13, NA13, PL13, hS13, hg13⟩ := hq13
              obtain ⟨-, -, -, -, hb13, hb213, hb313, hb413⟩ := id hg13
              simp only at hS13 hb13 hb213 hb313 hb413
              obtain ⟨tr13, r013, r113, r213, r313, r413, r513, r613, tp13, ⟨ta13, f013, f113, f213, f313, f413, f513, f613, tb13⟩, hB13, ⟨tf13, g013, g113, g213, g313, g413, g513, g613, t113, t213, t313, t413, t513⟩, hST13, hDT13, hNA13, hPL13, hdis13, hcn13, hcs13⟩ := id hS13
              refine jx_callV (M2 := mm_Rd_product) rfl tr10 lk_Rd_77 wi_Rd_product ws_Rd_product d_Rd_sum_59 hC13 cd_Rd_product rfl rfl (Nat.le_of_ble_eq_true rfl) (jm_fok (by omega)) (jm_look (by decide) (by omega)) ?_
              refine jx_if_ne (tgt := 67) d_Rd_sum_62 (by decide) (fun c15 => ?_) (fun c15 => absurd c15 (by decide))
              refine jx_aload_n d_Rd_sum_67 2 rfl ?_
              refine jx_get d_Rd_sum_68 fF_Rd_21 tr13 r113 ?_
              refine jx_iload_n d_Rd_sum_71 0 rfl ?_
              refine jx_iconst (v0 := 0) d_Rd_sum_72 (by decide) ?_
              refine jx_callV (M2 := mm_Fm_addStep) rfl tf13 lk_Rd_83 wi_Fm_addStep ws_Fm_addStep d_Rd_sum_73 (c_Fm_addStep l G (d - 1) ⟨tf13, g013, g113, g213, g313, g413, g513, g613, t113, t213, t313, t413, t513⟩ (by omega)) cd_Fm_addStep rfl rfl (Nat.le_of_ble_eq_true rfl) (jm_fok (by omega)) (jm_look (by decide) (by omega)) ?_
              refine jx_iinc (v0 := nI (i + 1)) (lv' := [(2, .int (nI (i + 1))), (3, .int (c.1)), (0, .ref (r)), (1, .int (nI (dp)))]) d_Rd_sum_76 1 rfl (nI_add _ 1) (by decide) rfl ?_
              refine jx_goto (tgt := 12) d_Rd_sum_79 (by decide) ?_
              refine jx_lv [0, 2, 3] rfl ?_
              exact ih (acc := if c.1 = 43 then .add acc t13 else .sub acc t13) (by omega) (by omega) ⟨tr13, (jm_rd_k (by decide) (jm_rd_a (jm_ne_oa tr13 t213) (jm_rd_a (jm_ne_oa tr13 t113) r013))), (jm_rd_k (by decide) (jm_rd_a (jm_ne_oa tr13 t213) (jm_rd_a (jm_ne_oa tr13 t113) r113))), (jm_rd_a (jm_ne_oo tr13 tf13 (by decide)) (jm_rd_a (jm_ne_oa tr13 t213) (jm_rd_a (jm_ne_oa tr13 t113) r213))), (jm_rd_k (by decide) (jm_rd_a (jm_ne_oa tr13 t213) (jm_rd_a (jm_ne_oa tr13 t113) r313))), (jm_rd_k (by decide) (jm_rd_a (jm_ne_oa tr13 t213) (jm_rd_a (jm_ne_oa tr13 t113) r413))), (jm_rd_k (by decide) (jm_rd_a (jm_ne_oa tr13 t213) (jm_rd_a (jm_ne_oa tr13 t113) r513))), (jm_rd_k (by decide) (jm_rd_a (jm_ne_oa tr13 t213) (jm_rd_a (jm_ne_oa tr13 t113) r613))), tp13, ⟨ta13, (jm_rd_k (by decide) (jm_rd_a (jm_ne_oa ta13 t213) (jm_rd_a (jm_ne_oa ta13 t113) f013))), (jm_rd_k (by decide) (jm_rd_a (jm_ne_oa ta13 t213) (jm_rd_a (jm_ne_oa ta13 t113) f113))), (jm_rd_a (jm_ne_oo ta13 tf13 (by decide)) (jm_rd_a (jm_ne_oa ta13 t213) (jm_rd_a (jm_ne_oa ta13 t113) f213))), (jm_rd_k (by decide) (jm_rd_a (jm_ne_oa ta13 t213) (jm_rd_a (jm_ne_oa ta13 t113) f313))), (jm_rd_k (by decide) (jm_rd_a (jm_ne_oa ta13 t213) (jm_rd_a (jm_ne_oa ta13 t113) f413))), (jm_rd_k (by decide) (jm_rd_a (jm_ne_oa ta13 t213) (jm_rd_a (jm_ne_oa ta13 t113) f513))), (jm_rd_k (by decide) (jm_rd_a (jm_ne_oa ta13 t213) (jm_rd_a (jm_ne_oa ta13 t113) f613))), tb13⟩, (fun j hj => jm_rd_a (Ne.symm (jm_ne_oa tf13 tb13)) ((fun j hj => jm_rd_a (jm_ne_aa tb13 t213 (by decide)) ((fun j hj => jm_rd_a (jm_ne_aa tb13 t113 (by decide)) (hB13 j hj)) j hj)) j hj)), ⟨tf13, (jm_rd_k (by decide) (jm_rd_a (jm_ne_oa tf13 t213) (jm_rd_a (jm_ne_oa tf13 t113) g013))), (jm_rd_k (by decide) (jm_rd_a (jm_ne_oa tf13 t213) (jm_rd_a (jm_ne_oa tf13 t113) g113))), (jm_rd_s _ _ _ _), (jm_rd_k (by decide) (jm_rd_a (jm_ne_oa tf13 t213) (jm_rd_a (jm_ne_oa tf13 t113) g313))), (jm_rd_k (by decide) (jm_rd_a (jm_ne_oa tf13 t213) (jm_rd_a (jm_ne_oa tf13 t113) g413))), (jm_rd_k (by decide) (jm_rd_a (jm_ne_oa tf13 t213) (jm_rd_a (jm_ne_oa tf13 t113) g513))), (jm_rd_k (by decide) (jm_rd_a (jm_ne_oa tf13 t213) (jm_rd_a (jm_ne_oa tf13 t113) g613))), t113, t213, t313, t413, t513⟩, (arI.keep (arI.keep (arI.put hST13) (by omega)) (Ne.symm (jm_ne_oa tf13 t113))), (arI.keep (arI.put (arI.keep hDT13 (by omega))) (Ne.symm (jm_ne_oa tf13 t213))), (arL.keep (arL.keep (arL.keep hNA13 (jm_ne_aa t313 t113 (by decide))) (jm_ne_aa t313 t213 (by decide))) (Ne.symm (jm_ne_oa tf13 t313))), (arI.keep (arI.keep (arI.keep hPL13 (by omega)) (by omega)) (Ne.symm (jm_ne_oa tf13 tp13))), hdis13, hcn13, hcs13⟩ (jm_fr.put (jm_fr.put (jm_fr.put (jm_fr.trans (jm_fr.trans fr0 hfr10) hfr13) (by unfold S_rd; omega)) (by unfold S_rd; omega)) (by unfold S_rd; omega)) (seg_pm hmd hg0 hg13) (fun v h9 res q1 q2 q3 => kP v h9 res q1 (rd2_more hmd (sb_r hp10 (pb_r hd13 q2))) q3)
set_option maxHeartbeats 4000000 in
set_option maxRecDepth 100000 in
theorem c_Rd_sum (l : Launch) (G : jm_G) (dp : Nat) (hdp : dp ≤ 20) (ihP : CProd l G dp) : CSum l G dp := by
  intro d hd h r f n B c k L N ST DT NA PL fc fp nme hS hn hk hL hN
  obtain ⟨tr, r0, r1, r2, r3, r4, r5, r6, tp, ⟨ta, f0, f1, f2, f3, f4, f5, f6, tb⟩, hB, ⟨tf, g0, g1, g2, g3, g4, g5, g6, t1, t2, t3, t4, t5⟩, hST, hDT, hNA, hPL, hdis, hcn, hcs⟩ := id hS
  refine jm_of (by decide) rfl (Nat.le_of_ble_eq_true rfl) ?_
  refine jx_aload_n d_Rd_sum_0 0 rfl ?_
  refine jx_iload_n d_Rd_sum_1 1 rfl ?_
  obtain ⟨v1, h1, hC1, hfr1, res1, hd1, hq1⟩ := ihP (d - 1) (by omega) (h := h) ⟨tr, r0, r1, r2, r3, r4, r5, r6, tp, ⟨ta, f0, f1, f2, f3, f4, f5, f6, tb⟩, hB, ⟨tf, g0, g1, g2, g3, g4, g5, g6, t1, t2, t3, t4, t5⟩, hST, hDT, hNA, hPL, hdis, hcn, hcs⟩ hn (by omega) (by omega) (by omega)
  rcases res1 with e1 | ⟨t1, c1, k1⟩
  · obtain ⟨rfl, hF1⟩ := hq1
    refine jx_callV (M2 := mm_Rd_product) rfl tr lk_Rd_77 wi_Rd_product ws_Rd_product d_Rd_sum_2 hC1 cd_Rd_product rfl rfl (Nat.le_of_ble_eq_true rfl) (jm_fok (by omega)) (jm_look (by decide) (by omega)) ?_
    refine jx_if_ne (tgt := 10) d_Rd_sum_5 (by decide) (fun c2 => absurd c2 (by decide)) (fun c2 => ?_)
    refine jx_iconst (v0 := 0) d_Rd_sum_8 (by decide) ?_
    exact jx_zret d_Rd_sum_9 rfl (by first | rfl | decide) (⟨_, rfl, (jm_fr.trans jm_fr.rf hfr1), .inl e1, rd0_l hd1, rfl, hF1⟩)
  · obtain ⟨rfl, L1, N1, ST1, DT1, NA1, PL1, hS1, hg1⟩ := hq1
    obtain ⟨-, -, -, -, hb1, hb21, hb31, hb41⟩ := id hg1
    simp only at hS1 hb1 hb21 hb31 hb41
    obtain ⟨tr1, r01, r11, r21, r31, r41, r51, r61, tp1, ⟨ta1, f01, f11, f21, f31, f41, f51, f61, tb1⟩, hB1, ⟨tf1, g01, g11, g21, g31, g41, g51, g61, t11, t21, t31, t41, t51⟩, hST1, hDT1, hNA1, hPL1, hdis1, hcn1, hcs1⟩ := id hS1
    refine jx_callV (M2 := mm_Rd_product) rfl tr lk_Rd_77 wi_Rd_product ws_Rd_product d_Rd_sum_2 hC1 cd_Rd_product rfl rfl (Nat.le_of_ble_eq_true rfl) (jm_fok (by omega)) (jm_look (by decide) (by omega)) ?_
    refine jx_if_ne (tgt := 10) d_Rd_sum_5 (by decide) (fun c3 => ?_) (fun c3 => absurd c3 (by decide))
    refine jx_iconst (v0 := 0) d_Rd_sum_10 (by decide) ?_
    refine jx_istore_n (lv' := [(2, .int (0)), (0, .ref (r)), (1, .int (nI (dp)))]) d_Rd_sum_11 (by decide) rfl ?_
    refine lp_Rd_sum l G d dp hd hdp ihP hn hL hN 41 (i := 0) (by omega) (by omega) hS1 (jm_fr.trans jm_fr.rf hfr1) hg1 (fun v h9 res q1 q2 q3 => ⟨v, rfl, q1, res, Rd.intro (show pb (Rd B n 1 dp .null c k) _ _ from pb_r (K := fun t c1 k1 => Rd B n 2 dp t c1 k1 res) hd1 q2), q3⟩)
theorem rd_levels (l : Launch) (G : jm_G) (m : Nat) : ∀ dp, dp ≤ 20 → 20 - dp < m → CSum l G dp ∧ CPart l G dp := by
  induction m with
  | zero => intro dp _ h; omega
  | succ m ih =>
    intro dp hdp hm
    have hP : CPart l G dp := c_Rd_part l G dp hdp (fun q => (ih (dp + 1) (by omega) (by omega)).1) (fun q => (ih (dp + 1) (by omega) (by omega)).2)
    exact ⟨c_Rd_sum l G dp hdp (c_Rd_product l G dp hdp hP), hP⟩
theorem c_Rd_sum0 (l : Launch) (G : jm_G) : CSum l G 0 := (rd_levels l G 21 0 (by omega) (by omega)).1
