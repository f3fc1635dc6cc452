/-- a Reader between two calls: the token may lie behind the tape's end -/
def RdC (h : jm_H) (r f n : Nat) (B : Nat → Int32) (c : Cur) (k L N : Nat) (ST DT : Nat → Int32) (NA : Nat → Int64) (PL : Nat → Int32) (fc fp : Int32) (nme : Int64) : Prop :=
  h.2.2.1 r = (jm_o 1, 7) ∧ h.2.2.2 r 0 = .ref (r + 1) ∧ h.2.2.2 r 1 = .ref f ∧ h.2.2.2 r 2 = .long nme ∧ h.2.2.2 r 3 = .int fc ∧ h.2.2.2 r 4 = .int fp ∧ h.2.2.2 r 5 = .int (nI k) ∧ h.2.2.2 r 6 = .ref (r + 9) ∧ h.2.2.1 (r + 9) = (jm_a 1, 40) ∧
  TpA h (r + 1) (r + 2) n c.2.2.1 c.1 c.2.1 c.2.2.2.1 c.2.2.2.2 ∧ TpB h (r + 2) B ∧ FmA h f L N ∧ arI h (f + 1) 80 ST ∧ arI h (f + 2) 80 DT ∧ arL h (f + 3) 40 NA ∧ arI h (r + 9) 40 PL ∧ (f = r + 3 ∨ r + 10 ≤ f) ∧ c.2.1 ≤ 2000
theorem RdS.core {h : jm_H} {r f n : Nat} {B : Nat → Int32} {c : Cur} {k L N : Nat} {ST DT : Nat → Int32} {NA : Nat → Int64} {PL : Nat → Int32} {fc fp : Int32} {nme : Int64} (hS : RdS h r f n B c k L N ST DT NA PL fc fp nme) (hn : n ≤ 2000) : RdC h r f n B c k L N ST DT NA PL fc fp nme := by
  obtain ⟨tr, r0, r1, r2, r3, r4, r5, r6, tp, hT, hB, hF, hST, hDT, hNA, hPL, hdis, hcn, hcs⟩ := hS
  exact ⟨tr, r0, r1, r2, r3, r4, r5, r6, tp, hT, hB, hF, hST, hDT, hNA, hPL, hdis, by omega⟩
/-- a definition: its name and its tree, or the first fault -/
def Df (B : Nat → Int32) (n : Nat) (c0 : Cur) (nm : Int64) (res : PR) : Prop := sb (p_pass B n c0) res fun c1 => nm = c1.2.2.2.1 ∧ sb (p_exp B n 2 c1) res fun c2 => sb (p_exp B n 61 c2) res fun c3 => pb (Rd B n 0 0 .null c3 0) res fun t c4 k4 => if c4.1 = 0 then res = .inr (t, c4, k4) else res = .inl (2, c4.2.1)
def cu0 (c : Cur) : Cur := (c.1, c.2.1, 0, c.2.2.2)
def OutD (res : PR) (v : Option Value) (h : jm_H) (r f n : Nat) (B : Nat → Int32) (fp : Int32) (nme : Int64) : Prop := match res with
  | .inl e => v = some (.int 0) ∧ FO h r f n B nme e
  | .inr y => v = some (.int 1) ∧ ∃ (L N : Nat) (ST DT : Nat → Int32) (NA : Nat → Int64) (PL : Nat → Int32), RdS h r f n B y.2.1 y.2.2 L N ST DT NA PL 0 fp nme ∧ Tree y.1 ∧ Cdx ST DT NA PL y.1 0 0 L N ∧ y.2.2 ≤ 40 ∧ L ≤ 79 ∧ N ≤ y.2.2
set_option maxHeartbeats 4000000 in
set_option maxRecDepth 100000 in
theorem c_Rd_readDefinition (l : Launch) (G : jm_G) (d : Nat) (hd : 93 ≤ d) {h : jm_H} {r f n : Nat} {B : Nat → Int32} {c : Cur} {k L N : Nat} {ST DT : Nat → Int32} {NA : Nat → Int64} {PL : Nat → Int32} {fc fp : Int32} {nme : Int64} (hS : RdC h r f n B c k L N ST DT NA PL fc fp nme) (hn : n ≤ 2000) : jm_CP l G mm_Rd_readDefinition d [.ref r] h (fun v h9 => jm_fr (S_rd r f) h h9 ∧ ∃ nm res, Df B n (cu0 c) nm res ∧ OutD res v h9 r f n B fp nm) := by
  obtain ⟨tr, r0, r1, r2, r3, r4, r5, r6, tp, ⟨ta, f0, f1, f2, f3, f4, f5, f6, tb⟩, hB, ⟨tf, g0, g1, g2, g3, g4, g5, g6, t1, t2, t3, t4, t5⟩, hST, hDT, hNA, hPL, hdis, hcs⟩ := id hS
  refine jm_of (by decide) rfl (Nat.le_of_ble_eq_true rfl) ?_
  refine jx_aload_n d_Rd_readDefinition_0 0 rfl ?_
  refine jx_iconst (v0 := 0) d_Rd_readDefinition_1 (by decide) ?_
  refine jx_put (v0 := .int (0)) d_Rd_readDefinition_2 fF_Rd_29 jv_Rd ft_Rd_faultCode tr rfl rfl ?_
  refine jx_aload_n d_Rd_readDefinition_5 0 rfl ?_
  refine jx_iconst (v0 := 0) d_Rd_readDefinition_6 (by decide) ?_
  refine jx_put (v0 := .int (0)) d_Rd_readDefinition_7 fF_Rd_36 jv_Rd ft_Rd_nodes tr rfl rfl ?_
  refine jx_aload_n d_Rd_readDefinition_10 0 rfl ?_
  refine jx_get d_Rd_readDefinition_11 fF_Rd_21 tr (jm_rd_k (by decide) (jm_rd_k (by decide) r1)) ?_
  refine jx_callV (M2 := mm_Fm_clear) rfl tf lk_Rd_43 wi_Fm_clear ws_Fm_clear d_Rd_readDefinition_14 (c_Fm_clear l G (d - 1) ⟨tf, (jm_rd_k (by decide) (jm_rd_k (by decide) g0)), (jm_rd_k (by decide) (jm_rd_k (by decide) g1)), (jm_rd_k (by decide) (jm_rd_k (by decide) g2)), (jm_rd_k (by decide) (jm_rd_a (jm_ne_oo tf tr (by decide)) g3)), (jm_rd_k (by decide) (jm_rd_k (by decide) g4)), (jm_rd_a (jm_ne_oo tf tr (by decide)) (jm_rd_k (by decide) g5)), (jm_rd_k (by decide) (jm_rd_k (by decide) g6)), t1, t2, t3, t4, t5⟩) cd_Fm_clear rfl rfl (Nat.le_of_ble_eq_true rfl) (jm_fok (by omega)) (jm_look (by decide) (by omega)) ?_
  refine jx_aload_n d_Rd_readDefinition_17 0 rfl ?_
  refine jx_get d_Rd_readDefinition_18 fF_Rd_12 tr (jm_rd_k (by decide) (jm_rd_k (by decide) (jm_rd_k (by decide) (jm_rd_k (by decide) r0)))) ?_
  refine jx_callV (M2 := mm_Tp_rewind) rfl ta lk_Rd_46 wi_Tp_rewind ws_Tp_rewind d_Rd_readDefinition_21 (c_Tp_rewind l G (d - 1) ⟨ta, (jm_rd_k (by decide) (jm_rd_k (by decide) (jm_rd_k (by decide) (jm_rd_k (by decide) f0)))), (jm_rd_k (by decide) (jm_rd_k (by decide) (jm_rd_k (by decide) (jm_rd_k (by decide) f1)))), (jm_rd_k (by decide) (jm_rd_a (jm_ne_oo ta tf (by decide)) (jm_rd_k (by decide) (jm_rd_k (by decide) f2)))), (jm_rd_k (by decide) (jm_rd_k (by decide) (jm_rd_k (by decide) (jm_rd_a (jm_ne_oo ta tr (by decide)) f3)))), (jm_rd_k (by decide) (jm_rd_k (by decide) (jm_rd_k (by decide) (jm_rd_k (by decide) f4)))), (jm_rd_k (by decide) (jm_rd_k (by decide) (jm_rd_a (jm_ne_oo ta tr (by decide)) (jm_rd_k (by decide) f5)))), (jm_rd_a (jm_ne_oo ta tf (by decide)) (jm_rd_k (by decide) (jm_rd_k (by decide) (jm_rd_k (by decide) f6)))), tb⟩ (fun j hj => jm_rd_a (Ne.symm (jm_ne_oa tf tb)) ((fun j hj => jm_rd_a (Ne.symm (jm_ne_oa tf tb)) ((fun j hj => jm_rd_a (Ne.symm (jm_ne_oa tr tb)) ((fun j hj => jm_rd_a (Ne.symm (jm_ne_oa tr tb)) (hB j hj)) j hj)) j hj)) j hj))) cd_Tp_rewind rfl rfl (Nat.le_of_ble_eq_true rfl) (jm_fok (by omega)) (jm_look (by decide) (by omega)) ?_
  have hSa : RdS (jm_put (jm_put (jm_put (jm_put (jm_put h (r) 3 (.int (0))) (r) 5 (.int (0))) (f) 2 (.int (0))) (f) 6 (.int (0))) (r + 1) 2 (.int (0))) r f n B (cu0 c) 0 0 0 ST DT NA PL 0 fp nme := ⟨tr, (jm_rd_k (by decide) (jm_rd_k (by decide) (jm_rd_k (by decide) (jm_rd_k (by decide) (jm_rd_k (by decide) r0))))), (jm_rd_k (by decide) (jm_rd_k (by decide) (jm_rd_k (by decide) (jm_rd_k (by decide) (jm_rd_k (by decide) r1))))), (jm_rd_a (jm_ne_oo tr ta (by decide)) (jm_rd_k (by decide) (jm_rd_a (jm_ne_oo tr tf (by decide)) (jm_rd_k (by decide) (jm_rd_k (by decide) r2))))), (jm_rd_k (by decide) (jm_rd_k (by decide) (jm_rd_k (by decide) (jm_rd_k (by decide) (jm_rd_s _ _ _ _))))), (jm_rd_k (by decide) (jm_rd_k (by decide) (jm_rd_k (by decide) (jm_rd_k (by decide) (jm_rd_k (by decide) r4))))), (jm_rd_k (by decide) (jm_rd_k (by decide) (jm_rd_k (by decide) (jm_rd_s _ _ _ _)))), (jm_rd_k (by decide) (jm_rd_a (jm_ne_oo tr tf (by decide)) (jm_rd_k (by decide) (jm_rd_k (by decide) (jm_rd_k (by decide) r6))))), tp, ⟨ta, (jm_rd_k (by decide) (jm_rd_k (by decide) (jm_rd_k (by decide) (jm_rd_k (by decide) (jm_rd_k (by decide) f0))))), (jm_rd_k (by decide) (jm_rd_k (by decide) (jm_rd_k (by decide) (jm_rd_k (by decide) (jm_rd_k (by decide) f1))))), (jm_rd_s _ _ _ _), (jm_rd_k (by decide) (jm_rd_k (by decide) (jm_rd_k (by decide) (jm_rd_k (by decide) (jm_rd_a (jm_ne_oo ta tr (by decide)) f3))))), (jm_rd_k (by decide) (jm_rd_k (by decide) (jm_rd_k (by decide) (jm_rd_k (by decide) (jm_rd_k (by decide) f4))))), (jm_rd_k (by decide) (jm_rd_k (by decide) (jm_rd_k (by decide) (jm_rd_a (jm_ne_oo ta tr (by decide)) (jm_rd_k (by decide) f5))))), (jm_rd_k (by decide) (jm_rd_a (jm_ne_oo ta tf (by decide)) (jm_rd_k (by decide) (jm_rd_k (by decide) (jm_rd_k (by decide) f6))))), tb⟩, (fun j hj => jm_rd_a (Ne.symm (jm_ne_oa ta tb)) ((fun j hj => jm_rd_a (Ne.symm (jm_ne_oa tf tb)) ((fun j hj => jm_rd_a (Ne.symm (jm_ne_oa tf tb)) ((fun j hj => jm_rd_a (Ne.symm (jm_ne_oa tr tb)) ((fun j hj => jm_rd_a (Ne.symm (jm_ne_oa tr tb)) (hB j hj)) j hj)) j hj)) j hj)) j hj)), ⟨tf, (jm_rd_k (by decide) (jm_rd_k (by decide) (jm_rd_k (by decide) (jm_rd_k (by decide) (jm_rd_k (by decide) g0))))), (jm_rd_k (by decide) (jm_rd_k (by decide) (jm_rd_k (by decide) (jm_rd_k (by decide) (jm_rd_k (by decide) g1))))), (jm_rd_a (jm_ne_oo tf ta (by decide)) (jm_rd_k (by decide) (jm_rd_s _ _ _ _))), (jm_rd_k (by decide) (jm_rd_k (by decide) (jm_rd_k (by decide) (jm_rd_k (by decide) (jm_rd_a (jm_ne_oo tf tr (by decide)) g3))))), (jm_rd_k (by decide) (jm_rd_k (by decide) (jm_rd_k (by decide) (jm_rd_k (by decide) (jm_rd_k (by decide) g4))))), (jm_rd_k (by decide) (jm_rd_k (by decide) (jm_rd_k (by decide) (jm_rd_a (jm_ne_oo tf tr (by decide)) (jm_rd_k (by decide) g5))))), (jm_rd_k (by decide) (jm_rd_s _ _ _ _)), t1, t2, t3, t4, t5⟩, (arI.keep (arI.keep (arI.keep (arI.keep (arI.keep hST (Ne.symm (jm_ne_oa tr t1))) (Ne.symm (jm_ne_oa tr t1))) (Ne.symm (jm_ne_oa tf t1))) (Ne.symm (jm_ne_oa tf t1))) (Ne.symm (jm_ne_oa ta t1))), (arI.keep (arI.keep (arI.keep (arI.keep (arI.keep hDT (Ne.symm (jm_ne_oa tr t2))) (Ne.symm (jm_ne_oa tr t2))) (Ne.symm (jm_ne_oa tf t2))) (Ne.symm (jm_ne_oa tf t2))) (Ne.symm (jm_ne_oa ta t2))), (arL.keep (arL.keep (arL.keep (arL.keep (arL.keep hNA (Ne.symm (jm_ne_oa tr t3))) (Ne.symm (jm_ne_oa tr t3))) (Ne.symm (jm_ne_oa tf t3))) (Ne.symm (jm_ne_oa tf t3))) (Ne.symm (jm_ne_oa ta t3))), (arI.keep (arI.keep (arI.keep (arI.keep (arI.keep hPL (Ne.symm (jm_ne_oa tr tp))) (Ne.symm (jm_ne_oa tr tp))) (Ne.symm (jm_ne_oa tf tp))) (Ne.symm (jm_ne_oa tf tp))) (Ne.symm (jm_ne_oa ta tp))), hdis, Nat.zero_le _, Or.inl hcs⟩
  generalize cu0 c = ca at hSa ⊢
  obtain ⟨tra, r0a, r1a, r2a, r3a, r4a, r5a, r6a, tpa, ⟨taa, f0a, f1a, f2a, f3a, f4a, f5a, f6a, tba⟩, hBa, ⟨tfa, g0a, g1a, g2a, g3a, g4a, g5a, g6a, t1a, t2a, t3a, t4a, t5a⟩, hSTa, hDTa, hNAa, hPLa, hdisa, hcna, hcsa⟩ := id hSa
  refine jx_aload_n d_Rd_readDefinition_24 0 rfl ?_
  obtain ⟨v1, h1, hC1, hfr1, hq1⟩ := c_Rd_pass l G (d - 1) (by omega) (h := (jm_put (jm_put (jm_put (jm_put (jm_put h (r) 3 (.int (0))) (r) 5 (.int (0))) (f) 2 (.int (0))) (f) 6 (.int (0))) (r + 1) 2 (.int (0)))) ⟨tra, r0a, r1a, r2a, r3a, r4a, r5a, r6a, tpa, ⟨taa, f0a, f1a, f2a, f3a, f4a, f5a, f6a, tba⟩, hBa, ⟨tfa, g0a, g1a, g2a, g3a, g4a, g5a, g6a, t1a, t2a, t3a, t4a, t5a⟩, hSTa, hDTa, hNAa, hPLa, hdisa, hcna, hcsa⟩ hn (by omega) (by omega)
  cases hp1 : p_pass B n ca with
  | inl e1 =>
    rw [hp1] at hq1
    obtain ⟨rfl, hF1⟩ := hq1
    refine jx_callV (M2 := mm_Rd_pass) rfl tra lk_Rd_49 wi_Rd_pass ws_Rd_pass d_Rd_readDefinition_25 hC1 cd_Rd_pass rfl rfl (Nat.le_of_ble_eq_true rfl) (jm_fok (by omega)) (jm_look (by decide) (by omega)) ?_
    refine jx_if_ne (tgt := 33) d_Rd_readDefinition_28 (by decide) (fun c2 => absurd c2 (by decide)) (fun c2 => ?_)
    refine jx_iconst (v0 := 0) d_Rd_readDefinition_31 (by decide) ?_
    exact jx_zret d_Rd_readDefinition_32 rfl (by first | rfl | decide) (⟨_, rfl, (jm_fr.trans (jm_fr.put (jm_fr.put (jm_fr.put (jm_fr.put (jm_fr.put jm_fr.rf (by unfold S_rd; omega)) (by unfold S_rd; omega)) (by unfold S_rd; omega)) (by unfold S_rd; omega)) (by unfold S_rd; omega)) hfr1), nme, .inl e1, (sb_l hp1), rfl, hF1⟩)
  | inr c1 =>
    rw [hp1] at hq1
    obtain ⟨rfl, hS1⟩ := hq1
    obtain ⟨tr1, r01, r11, r21, r31, r41, r51, r61, tp1, ⟨ta1, f01, f11, f21, f31, f41, f51, f61, tb1⟩, hB1, ⟨tf1, g01, g11, g21, g31, g41, g51, g61, t11, t21, t31, t41, t51⟩, hST1, hDT1, hNA1, hPL1, hdis1, hcn1, hcs1⟩ := id hS1
    refine jx_callV (M2 := mm_Rd_pass) rfl tra lk_Rd_49 wi_Rd_pass ws_Rd_pass d_Rd_readDefinition_25 hC1 cd_Rd_pass rfl rfl (Nat.le_of_ble_eq_true rfl) (jm_fok (by omega)) (jm_look (by decide) (by omega)) ?_
    refine jx_if_ne (tgt := 33) d_Rd_readDefinition_28 (by decide) (fun c3 => ?_) (fun c3 => absurd c3 (by decide))
    refine jx_aload_n d_Rd_readDefinition_33 0 rfl ?_
    refine jx_aload_n d_Rd_readDefinition_34 0 rfl ?_
    refine jx_get d_Rd_readDefinition_35 fF_Rd_12 tr1 r01 ?_
    refine jx_get d_Rd_readDefinition_38 fF_Rd_53 ta1 f51 ?_
    refine jx_put (v0 := .long (c1.2.2.2.1)) d_Rd_readDefinition_41 fF_Rd_25 jv_Rd ft_Rd_name tr1 rfl rfl ?_
    refine jx_aload_n d_Rd_readDefinition_44 0 rfl ?_
    refine jx_iconst (v0 := 2) d_Rd_readDefinition_45 (by decide) ?_
    obtain ⟨v4, h4, hC4, hfr4, hq4⟩ := c_Rd_expect l G (d - 1) (by omega) (h := (jm_put h1 (r) 2 (.long (c1.2.2.2.1)))) (K := 2) ⟨tr1, (jm_rd_k (by decide) r01), (jm_rd_k (by decide) r11), (jm_rd_s _ _ _ _), (jm_rd_k (by decide) r31), (jm_rd_k (by decide) r41), (jm_rd_k (by decide) r51), (jm_rd_k (by decide) r61), tp1, ⟨ta1, (jm_rd_k (by decide) f01), (jm_rd_k (by decide) f11), (jm_rd_a (jm_ne_oo ta1 tr1 (by decide)) f21), (jm_rd_k (by decide) f31), (jm_rd_k (by decide) f41), (jm_rd_k (by decide) f51), (jm_rd_k (by decide) f61), tb1⟩, (fun j hj => jm_rd_a (Ne.symm (jm_ne_oa tr1 tb1)) (hB1 j hj)), ⟨tf1, (jm_rd_k (by decide) g01), (jm_rd_k (by decide) g11), (jm_rd_a (jm_ne_oo tf1 tr1 (by decide)) g21), (jm_rd_k (by decide) g31), (jm_rd_k (by decide) g41), (jm_rd_k (by decide) g51), (jm_rd_k (by decide) g61), t11, t21, t31, t41, t51⟩, (arI.keep hST1 (Ne.symm (jm_ne_oa tr1 t11))), (arI.keep hDT1 (Ne.symm (jm_ne_oa tr1 t21))), (arL.keep hNA1 (Ne.symm (jm_ne_oa tr1 t31))), (arI.keep hPL1 (Ne.symm (jm_ne_oa tr1 tp1))), hdis1, hcn1, hcs1⟩ hn (by omega) (by omega)
    cases hp4 : p_exp B n 2 c1 with
    | inl e4 =>
      rw [hp4] at hq4
      obtain ⟨rfl, hF4⟩ := hq4
      refine jx_callV (M2 := mm_Rd_expect) rfl tr1 lk_Rd_54 wi_Rd_expect ws_Rd_expect d_Rd_readDefinition_46 hC4 cd_Rd_expect rfl rfl (Nat.le_of_ble_eq_true rfl) (jm_fok (by omega)) (jm_look (by decide) (by omega)) ?_
      refine jx_if_eq (tgt := 91) d_Rd_readDefinition_49 (by decide) (fun c5 => ?_) (fun c5 => absurd c5 (by decide))
      refine jx_iconst (v0 := 0) d_Rd_readDefinition_91 (by decide) ?_
      exact jx_zret d_Rd_readDefinition_92 rfl (by first | rfl | decide) (⟨_, rfl, (jm_fr.trans (jm_fr.put (jm_fr.trans (jm_fr.put (jm_fr.put (jm_fr.put (jm_fr.put (jm_fr.put jm_fr.rf (by unfold S_rd; omega)) (by unfold S_rd; omega)) (by unfold S_rd; omega)) (by unfold S_rd; omega)) (by unfold S_rd; omega)) hfr1) (by unfold S_rd; omega)) hfr4), c1.2.2.2.1, .inl e4, (sb_r hp1 ⟨rfl, (sb_l hp4)⟩), rfl, hF4⟩)
    | inr c4 =>
      rw [hp4] at hq4
      obtain ⟨rfl, hS4⟩ := hq4
      obtain ⟨tr4, r04, r14, r24, r34, r44, r54, r64, tp4, ⟨ta4, f04, f14, f24, f34, f44, f54, f64, tb4⟩, hB4, ⟨tf4, g04, g14, g24, g34, g44, g54, g64, t14, t24, t34, t44, t54⟩, hST4, hDT4, hNA4, hPL4, hdis4, hcn4, hcs4⟩ := id hS4
      refine jx_callV (M2 := mm_Rd_expect) rfl tr1 lk_Rd_54 wi_Rd_expect ws_Rd_expect d_Rd_readDefinition_46 hC4 cd_Rd_expect rfl rfl (Nat.le_of_ble_eq_true rfl) (jm_fok (by omega)) (jm_look (by decide) (by omega)) ?_
      refine jx_if_eq (tgt := 91) d_Rd_readDefinition_49 (by decide) (fun c6 => absurd c6 (by decide)) (fun c6 => ?_)
      refine jx_aload_n d_Rd_readDefinition_52 0 rfl ?_
      refine jx_bipush (v0 := 61) d_Rd_readDefinition_53 (by decide) ?_
      obtain ⟨v7, h7, hC7, hfr7, hq7⟩ := c_Rd_expect l G (d - 1) (by omega) (h := h4) (K := 61) ⟨tr4, r04, r14, r24, r34, r44, r54, r64, tp4, ⟨ta4, f04, f14, f24, f34, f44, f54, f64, tb4⟩, hB4, ⟨tf4, g04, g14, g24, g34, g44, g54, g64, t14, t24, t34, t44, t54⟩, hST4, hDT4, hNA4, hPL4, hdis4, hcn4, hcs4⟩ hn (by omega) (by omega)
      cases hp7 : p_exp B n 61 c4 with
      | inl e7 =>
        rw [hp7] at hq7
        obtain ⟨rfl, hF7⟩ := hq7
        refine jx_callV (M2 := mm_Rd_expect) rfl tr4 lk_Rd_54 wi_Rd_expect ws_Rd_expect d_Rd_readDefinition_55 hC7 cd_Rd_expect rfl rfl (Nat.le_of_ble_eq_true rfl) (jm_fok (by omega)) (jm_look (by decide) (by omega)) ?_
        refine jx_if_eq (tgt := 91) d_Rd_readDefinition_58 (by decide) (fun c8 => ?_) (fun c8 => absurd c8 (by decide))
        refine jx_iconst (v0 := 0) d_Rd_readDefinition_91 (by decide) ?_
        exact jx_zret d_Rd_readDefinition_92 rfl (by first | rfl | decide) (⟨_, rfl, (jm_fr.trans (jm_fr.trans (jm_fr.put (jm_fr.trans (jm_fr.put (jm_fr.put (jm_fr.put (jm_fr.put (jm_fr.put jm_fr.rf (by unfold S_rd; omega)) (by unfold S_rd; omega)) (by unfold S_rd; omega)) (by unfold S_rd; omega)) (by unfold S_rd; omega)) hfr1) (by unfold S_rd; omega)) hfr4) hfr7), c1.2.2.2.1, .inl e7, (sb_r hp1 ⟨rfl, (sb_r hp4 (sb_l hp7))⟩), rfl, hF7⟩)
      | inr c7 =>
        rw [hp7] at hq7
        obtain ⟨rfl, hS7⟩ := hq7
        obtain ⟨tr7, r07, r17, r27, r37, r47, r57, r67, tp7, ⟨ta7, f07, f17, f27, f37, f47, f57, f67, tb7⟩, hB7, ⟨tf7, g07, g17, g27, g37, g47, g57, g67, t17, t27, t37, t47, t57⟩, hST7, hDT7, hNA7, hPL7, hdis7, hcn7, hcs7⟩ := id hS7
        refine jx_callV (M2 := mm_Rd_expect) rfl tr4 lk_Rd_54 wi_Rd_expect ws_Rd_expect d_Rd_readDefinition_55 hC7 cd_Rd_expect rfl rfl (Nat.le_of_ble_eq_true rfl) (jm_fok (by omega)) (jm_look (by decide) (by omega)) ?_
        refine jx_if_eq (tgt := 91) d_Rd_readDefinition_58 (by decide) (fun c9 => absurd c9 (by decide)) (fun c9 => ?_)
        refine jx_aload_n d_Rd_readDefinition_61 0 rfl ?_
        refine jx_iconst (v0 := 0) d_Rd_readDefinition_62 (by decide) ?_
        obtain ⟨v10, h10, hC10, hfr10, res10, hd10, hq10⟩ := c_Rd_sum0 l G (d - 1) (by omega) (h := h7) ⟨tr7, r07, r17, r27, r37, r47, r57, r67, tp7, ⟨ta7, f07, f17, f27, f37, f47, f57, f67, tb7⟩, hB7, ⟨tf7, g07, g17, g27, g37, g47, g57, g67, t17, t27, t37, t47, t57⟩, hST7, hDT7, hNA7, hPL7, hdis7, hcn7, hcs7⟩ hn (by omega) (by omega) (by omega)
        rcases res10 with e10 | ⟨t10, c10, k10⟩
        · obtain ⟨rfl, hF10⟩ := hq10
          refine jx_callV (M2 := mm_Rd_sum) rfl tr7 lk_Rd_58 wi_Rd_sum ws_Rd_sum d_Rd_readDefinition_63 hC10 cd_Rd_sum rfl rfl (Nat.le_of_ble_eq_true rfl) (jm_fok (by omega)) (jm_look (by decide) (by omega)) ?_
          refine jx_if_eq (tgt := 91) d_Rd_readDefinition_66 (by decide) (fun c11 => ?_) (fun c11 => absurd c11 (by decide))
          refine jx_iconst (v0 := 0) d_Rd_readDefinition_91 (by decide) ?_
          exact jx_zret d_Rd_readDefinition_92 rfl (by first | rfl | decide) (⟨_, rfl, (jm_fr.trans (jm_fr.trans (jm_fr.trans (jm_fr.put (jm_fr.trans (jm_fr.put (jm_fr.put (jm_fr.put (jm_fr.put (jm_fr.put jm_fr.rf (by unfold S_rd; omega)) (by unfold S_rd; omega)) (by unfold S_rd; omega)) (by unfold S_rd; omega)) (by unfold S_rd; omega)) hfr1) (by unfold S_rd; omega)) hfr4) hfr7) hfr10), c1.2.2.2.1, .inl e10, (sb_r hp1 ⟨rfl, (sb_r hp4 (sb_r hp7 (pb_l hd10)))⟩), rfl, hF10⟩)
        · obtain ⟨rfl, L10, N10, ST10, DT10, NA10, PL10, hS10, hg10⟩ := hq10
          obtain ⟨-, -, -, -, hb10, hb210, hb310, hb410⟩ := id hg10
          simp only at hS10 hb10 hb210 hb310 hb410
          obtain ⟨tr10, r010, r110, r210, r310, r410, r510, r610, tp10, ⟨ta10, f010, f110, f210, f310, f410, f510, f610, tb10⟩, hB10, ⟨tf10, g010, g110, g210, g310, g410, g510, g610, t110, t210, t310, t410, t510⟩, hST10, hDT10, hNA10, hPL10, hdis10, hcn10, hcs10⟩ := id hS10
          refine jx_callV (M2 := mm_Rd_sum) rfl tr7 lk_Rd_58 wi_Rd_sum ws_Rd_sum d_Rd_readDefinition_63 hC10 cd_Rd_sum rfl rfl (Nat.le_of_ble_eq_true rfl) (jm_fok (by omega)) (jm_look (by decide) (by omega)) ?_
          refine jx_if_eq (tgt := 91) d_Rd_readDefinition_66 (by decide) (fun c12 => absurd c12 (by decide)) (fun c12 => ?_)
          refine jx_aload_n d_Rd_readDefinition_69 0 rfl ?_
          refine jx_get d_Rd_readDefinition_70 fF_Rd_12 tr10 r010 ?_
          refine jx_get d_Rd_readDefinition_73 fF_Rd_61 ta10 f310 ?_
          refine jx_if_eq (tgt := 87) d_Rd_readDefinition_76 (by decide) (fun c13 => ?_) (fun c13 => ?_)
          ·
            refine jx_iconst (v0 := 1) d_Rd_readDefinition_87 (by decide) ?_
            refine jx_goto (tgt := 92) d_Rd_readDefinition_88 (by decide) ?_
            exact jx_zret d_Rd_readDefinition_92 rfl (by first | rfl | decide) (⟨_, rfl, (jm_fr.trans (jm_fr.trans (jm_fr.trans (jm_fr.put (jm_fr.trans (jm_fr.put (jm_fr.put (jm_fr.put (jm_fr.put (jm_fr.put jm_fr.rf (by unfold S_rd; omega)) (by unfold S_rd; omega)) (by unfold S_rd; omega)) (by unfold S_rd; omega)) (by unfold S_rd; omega)) hfr1) (by unfold S_rd; omega)) hfr4) hfr7) hfr10), c1.2.2.2.1, .inr (t10, c10, k10), (sb_r hp1 ⟨rfl, (sb_r hp4 (sb_r hp7 (pb_r hd10 (by rw [if_pos c13]))))⟩), rfl, L10, N10, ST10, DT10, NA10, PL10, hS10, hg10.1, hg10.2.1, by show k10 ≤ 40; omega, by show L10 ≤ 79; omega, by show N10 ≤ k10; omega⟩)
          ·
            refine jx_aload_n d_Rd_readDefinition_79 0 rfl ?_
            refine jx_iconst (v0 := 2) d_Rd_readDefinition_80 (by decide) ?_
            refine jx_callV (M2 := mm_Rd_refuse) rfl tr10 lk_Rd_64 wi_Rd_refuse ws_Rd_refuse d_Rd_readDefinition_81 (c_Rd_refuse l G (d - 1) (by omega) ⟨tr10, r010, r110, r210, r310, r410, r510, r610, tp10, ⟨ta10, f010, f110, f210, f310, f410, f510, f610, tb10⟩, hB10, ⟨tf10, g010, g110, g210, g310, g410, g510, g610, t110, t210, t310, t410, t510⟩, hST10, hDT10, hNA10, hPL10, hdis10, hcn10, hcs10⟩) cd_Rd_refuse rfl rfl (Nat.le_of_ble_eq_true rfl) (jm_fok (by omega)) (jm_look (by decide) (by omega)) ?_
            refine jx_if_eq (tgt := 91) d_Rd_readDefinition_84 (by decide) (fun c14 => ?_) (fun c14 => absurd c14 (by decide))
            refine jx_iconst (v0 := 0) d_Rd_readDefinition_91 (by decide) ?_
            exact jx_zret d_Rd_readDefinition_92 rfl (by first | rfl | decide) (⟨_, rfl, (jm_fr.put (jm_fr.put (jm_fr.trans (jm_fr.trans (jm_fr.trans (jm_fr.put (jm_fr.trans (jm_fr.put (jm_fr.put (jm_fr.put (jm_fr.put (jm_fr.put jm_fr.rf (by unfold S_rd; omega)) (by unfold S_rd; omega)) (by unfold S_rd; omega)) (by unfold S_rd; omega)) (by unfold S_rd; omega)) hfr1) (by unfold S_rd; omega)) hfr4) hfr7) hfr10) (by unfold S_rd; omega)) (by unfold S_rd; omega)), c1.2.2.2.1, .inl (2, c10.2.1), (sb_r hp1 ⟨rfl, (sb_r hp4 (sb_r hp7 (pb_r hd10 (by rw [if_neg c13]))))⟩), rfl, _, _, _, _, _, _, _, _, ⟨tr10, (jm_rd_k (by decide) (jm_rd_k (by decide) r010)), (jm_rd_k (by decide) (jm_rd_k (by decide) r110)), (jm_rd_k (by decide) (jm_rd_k (by decide) r210)), (jm_rd_k (by decide) (jm_rd_s _ _ _ _)), (jm_rd_s _ _ _ _), (jm_rd_k (by decide) (jm_rd_k (by decide) r510)), (jm_rd_k (by decide) (jm_rd_k (by decide) r610)), tp10, ⟨ta10, (jm_rd_k (by decide) (jm_rd_k (by decide) f010)), (jm_rd_k (by decide) (jm_rd_k (by decide) f110)), (jm_rd_k (by decide) (jm_rd_k (by decide) f210)), (jm_rd_k (by decide) (jm_rd_a (jm_ne_oo ta10 tr10 (by decide)) f310)), (jm_rd_a (jm_ne_oo ta10 tr10 (by decide)) (jm_rd_k (by decide) f410)), (jm_rd_k (by decide) (jm_rd_k (by decide) f510)), (jm_rd_k (by decide) (jm_rd_k (by decide) f610)), tb10⟩, (fun j hj => jm_rd_a (Ne.symm (jm_ne_oa tr10 tb10)) ((fun j hj => jm_rd_a (Ne.symm (jm_ne_oa tr10 tb10)) (hB10 j hj)) j hj)), ⟨tf10, (jm_rd_k (by decide) (jm_rd_k (by decide) g010)), (jm_rd_k (by decide) (jm_rd_k (by decide) g110)), (jm_rd_k (by decide) (jm_rd_k (by decide) g210)), (jm_rd_k (by decide) (jm_rd_a (jm_ne_oo tf10 tr10 (by decide)) g310)), (jm_rd_a (jm_ne_oo tf10 tr10 (by decide)) (jm_rd_k (by decide) g410)), (jm_rd_k (by decide) (jm_rd_k (by decide) g510)), (jm_rd_k (by decide) (jm_rd_k (by decide) g610)), t110, t210, t310, t410, t510⟩, (arI.keep (arI.keep hST10 (Ne.symm (jm_ne_oa tr10 t110))) (Ne.symm (jm_ne_oa tr10 t110))), (arI.keep (arI.keep hDT10 (Ne.symm (jm_ne_oa tr10 t210))) (Ne.symm (jm_ne_oa tr10 t210))), (arL.keep (arL.keep hNA10 (Ne.symm (jm_ne_oa tr10 t310))) (Ne.symm (jm_ne_oa tr10 t310))), (arI.keep (arI.keep hPL10 (Ne.symm (jm_ne_oa tr10 tp10))) (Ne.symm (jm_ne_oa tr10 tp10))), hdis10, hcn10, hcs10⟩, by omega, by omega⟩)
set_option maxHeartbeats 4000000 in
set_option maxRecDepth 100000 in
theorem c_Rd_placeOfName (l : Launch) (G : jm_G) (d : Nat) {h : jm_H} {r f n : Nat} {B : Nat → Int32} {c : Cur} {k L N : Nat} {ST DT : Nat → Int32} {NA : Nat → Int64} {PL : Nat → Int32} {fc fp : Int32} {nme : Int64} {i : Nat} (hS : RdS h r f n B c k L N ST DT NA PL fc fp nme) (hi : i < 40) : jm_C l G mm_Rd_placeOfName d [.ref r, .int (nI i)] h (some (.int (PL i))) h := by
  obtain ⟨tr, r0, r1, r2, r3, r4, r5, r6, tp, ⟨ta, f0, f1, f2, f3, f4, f5, f6, tb⟩, hB, ⟨tf, g0, g1, g2, g3, g4, g5, g6, t1, t2, t3, t4, t5⟩, hST, hDT, hNA, hPL, hdis, hcn, hcs⟩ := id hS
  refine jm_ofE (by decide) rfl (Nat.le_of_ble_eq_true rfl) ?_
  refine jx_iload_n d_Rd_placeOfName_0 1 rfl ?_
  refine jx_if_ltN (tgt := 22) (i) d_Rd_placeOfName_1 rfl (by omega) (by decide) (fun c1 => ?_) (fun c1 => ?_)
  · omega
  ·
    refine jx_iload_n d_Rd_placeOfName_4 1 rfl ?_
    refine jx_aload_n d_Rd_placeOfName_5 0 rfl ?_
    refine jx_get d_Rd_placeOfName_6 fF_Rd_39 tr r6 ?_
    refine jx_alen (v0 := 40) d_Rd_placeOfName_9 tp (by decide) ?_
    refine jx_icmp_geN (tgt := 22) (i) (40) d_Rd_placeOfName_10 rfl rfl (by omega) (by omega) (by decide) (fun c2 => ?_) (fun c2 => ?_)
    · omega
    ·
      refine jx_aload_n d_Rd_placeOfName_13 0 rfl ?_
      refine jx_get d_Rd_placeOfName_14 fF_Rd_39 tr r6 ?_
      refine jx_iload_n d_Rd_placeOfName_17 1 rfl ?_
      refine jx_iald d_Rd_placeOfName_18 tp rfl (jm_vinN (by omega) (by decide)) (jm_atN (by omega) (hPL _ (by omega))) ?_
      refine jx_goto (tgt := 23) d_Rd_placeOfName_19 (by decide) ?_
      exact jx_iret d_Rd_placeOfName_23 rfl (⟨rfl, rfl⟩)
set_option maxHeartbeats 4000000 in
set_option maxRecDepth 100000 in
theorem c_Rd_exchangeFormula (l : Launch) (G : jm_G) (d : Nat) {h : jm_H} {r f g : Nat} (tr : h.2.2.1 r = (jm_o 1, 7)) (r1 : h.2.2.2 r 1 = .ref f) : jm_C l G mm_Rd_exchangeFormula d [.ref r, .ref g] h (some (.ref f)) (jm_put h r 1 (.ref g)) := by
  refine jm_ofE (by decide) rfl (Nat.le_of_ble_eq_true rfl) ?_
  refine jx_aload_n d_Rd_exchangeFormula_0 0 rfl ?_
  refine jx_get d_Rd_exchangeFormula_1 fF_Rd_21 tr r1 ?_
  refine jx_astore_n (lv' := [(2, .ref (f)), (0, .ref (r)), (1, .ref (g))]) d_Rd_exchangeFormula_4 (by decide) rfl ?_
  refine jx_aload_n d_Rd_exchangeFormula_5 1 rfl ?_
  refine jx_aload_n d_Rd_exchangeFormula_6 2 rfl ?_
  refine jx_put (v0 := .ref (g)) d_Rd_exchangeFormula_7 fF_Rd_21 jv_Rd ft_Rd_formula tr rfl rfl ?_
  refine jx_aload_n d_Rd_exchangeFormula_10 0 rfl ?_
  exact jx_aret d_Rd_exchangeFormula_11 rfl (Or.inl ⟨_, rfl⟩) (Or.inr ⟨_, rfl⟩) (⟨rfl, rfl⟩)
