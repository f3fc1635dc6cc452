theorem jm_fok {G : jm_G} {D n0 s0 d : Nat} (h : d + 1 ≤ D) : d + 1 ≤ (jm_zn G D n0 s0).1 := h
theorem jm_look {G : jm_G} {D n0 s0 d m : Nat} (hm : m ≤ 45) (h : d + 1 ≤ D) : 19 + m + jm_lo d ≤ (jm_zn G D n0 s0).2.1 := by
  show 19 + m + jm_lo d ≤ jm_lo D
  unfold jm_lo
  omega
/-- only cells of S have changed, none was made -/
def jm_fr (S : Nat → Prop) (h h' : jm_H) : Prop := h'.1 = h.1 ∧ h'.2.1 = h.2.1 ∧ h'.2.2.1 = h.2.2.1 ∧ ∀ b, ¬ S b → ∀ j, h'.2.2.2 b j = h.2.2.2 b j
theorem jm_fr.rf {S : Nat → Prop} {h : jm_H} : jm_fr S h h := ⟨rfl, rfl, rfl, fun _ _ _ => rfl⟩
theorem jm_fr.trans {S : Nat → Prop} {h h1 h2 : jm_H} (a : jm_fr S h h1) (b : jm_fr S h1 h2) : jm_fr S h h2 := ⟨b.1.trans a.1, b.2.1.trans a.2.1, b.2.2.1.trans a.2.2.1, fun x hx j => (b.2.2.2 x hx j).trans (a.2.2.2 x hx j)⟩
theorem jm_fr.put {S : Nat → Prop} {h h1 : jm_H} {a k : Nat} {v : Value} (p : jm_fr S h h1) (ha : S a) : jm_fr S h (jm_put h1 a k v) := ⟨p.1, p.2.1, p.2.2.1, fun x hx j => by
  rw [jm_put_ne h1 k v (fun e => hx (by rw [e]; exact ha))]
  exact p.2.2.2 x hx j⟩
theorem jm_fr.weak {S S' : Nat → Prop} {h h1 : jm_H} (p : jm_fr S h h1) (hS : ∀ b, S b → S' b) : jm_fr S' h h1 := ⟨p.1, p.2.1, p.2.2.1, fun x hx j => p.2.2.2 x (fun q => hx (hS x q)) j⟩
def S_rd (r f b : Nat) : Prop := b = r ∨ b = r + 1 ∨ b = r + 9 ∨ (f ≤ b ∧ b ≤ f + 3)
/-- a Reader at r (its Tape at r + 1, the bytes at r + 2, places at r + 9), its Formula at f: the token, nodes, steps, names, the latest fault -/
def RdS (h : jm_H) (r f n : Nat) (B : Nat → Int32) (c : Cur) (k L N : Nat) (ST DT : Nat → Int32) (NA : Nat → Int64) (PL : Nat → Int32) (fc fp : Int32) (nme : Int64) : Prop :=
  h.2.2.1 r = (jm_o 1, 7) ∧ h.2.2.2 r 0 = .ref (r + 1) ∧ h.2.2.2 r 1 = .ref f ∧ h.2.2.2 r 2 = .long nme ∧ h.2.2.2 r 3 = .int fc ∧ h.2.2.2 r 4 = .int fp ∧ h.2.2.2 r 5 = .int (nI k) ∧ h.2.2.2 r 6 = .ref (r + 9) ∧ h.2.2.1 (r + 9) = (jm_a 1, 40) ∧
  TpA h (r + 1) (r + 2) n c.2.2.1 c.1 c.2.1 c.2.2.2.1 c.2.2.2.2 ∧ TpB h (r + 2) B ∧ FmA h f L N ∧ arI h (f + 1) 80 ST ∧ arI h (f + 2) 80 DT ∧ arL h (f + 3) 40 NA ∧ arI h (r + 9) 40 PL ∧ (f = r + 3 ∨ r + 10 ≤ f) ∧ c.2.2.1 ≤ n ∧ (c.2.1 ≤ 2000 ∨ c.2.1 ≤ n)
theorem jm_fr.tok {r f n p : Nat} {h : jm_H} {B : Nat → Int32} {nm : Int64} {nu : Int32} : jm_fr (S_rd r f) h (tp_tok h (r + 1) n B p nm nu) := by
  have hs : S_rd r f (r + 1) := Or.inr (Or.inl rfl)
  exact ((((jm_fr.rf.put hs).put hs).put hs).put hs).put hs
theorem RdS.tok {h : jm_H} {r f n : Nat} {B : Nat → Int32} {c : Cur} {k L N : Nat} {ST DT : Nat → Int32} {NA : Nat → Int64} {PL : Nat → Int32} {fc fp : Int32} {nme : Int64} (hS : RdS h r f n B c k L N ST DT NA PL fc fp nme) : RdS (tp_tok h (r + 1) n B c.2.2.1 c.2.2.2.1 c.2.2.2.2) r f n B (cu_adv B n c) k L N ST DT NA PL fc fp nme := by
  obtain ⟨tr, r0, r1, r2, r3, r4, r5, r6, tp, hT, hB, hF, hST, hDT, hNA, hPL, hdis, hcn, hcs⟩ := hS
  obtain ⟨tf, g0, g1, g2, g3, g4, g5, g6, t1, t2, t3, t4, t5⟩ := id hF
  have ta := hT.1
  have n1 : r ≠ r + 1 := by omega
  have n2 : f ≠ r + 1 := jm_ne_oo tf ta (by decide)
  have n3 : f + 1 ≠ r + 1 := by omega
  have n4 : f + 2 ≠ r + 1 := by omega
  have n5 : f + 3 ≠ r + 1 := by omega
  have n6 : r + 9 ≠ r + 1 := by omega
  have hq := q_skip_le B n c.2.2.1 hcn
  have hq2 := q_tok_le B n (q_skip B n c.2.2.1) c.2.2.2.1 c.2.2.2.2 hq.2
  refine ⟨tr, ?_, ?_, ?_, ?_, ?_, ?_, ?_, tp, hT.tok, TpB.tok hT hB, ⟨tf, ?_, ?_, ?_, ?_, ?_, ?_, ?_, t1, t2, t3, t4, t5⟩, fun j hj => ?_, fun j hj => ?_, fun j hj => ?_, fun j hj => ?_, hdis, hq2.2, Or.inr hq.2⟩
  · simp [tp_tok, tp_set, jm_put, r0]
  · simp [tp_tok, tp_set, jm_put, r1]
  · simp [tp_tok, tp_set, jm_put, r2]
  · simp [tp_tok, tp_set, jm_put, r3]
  · simp [tp_tok, tp_set, jm_put, r4]
  · simp [tp_tok, tp_set, jm_put, r5]
  · simp [tp_tok, tp_set, jm_put, r6]
  · simp [tp_tok, tp_set, jm_put, n2, g0]
  · simp [tp_tok, tp_set, jm_put, n2, g1]
  · simp [tp_tok, tp_set, jm_put, n2, g2]
  · simp [tp_tok, tp_set, jm_put, n2, g3]
  · simp [tp_tok, tp_set, jm_put, n2, g4]
  · simp [tp_tok, tp_set, jm_put, n2, g5]
  · simp [tp_tok, tp_set, jm_put, n2, g6]
  · have := hST j hj
    simp only [tp_tok, tp_set, jm_put, n3, false_and, if_false]
    exact this
  · have := hDT j hj
    simp only [tp_tok, tp_set, jm_put, n4, false_and, if_false]
    exact this
  · have := hNA j hj
    simp only [tp_tok, tp_set, jm_put, n5, false_and, if_false]
    exact this
  · have := hPL j hj
    simp only [tp_tok, tp_set, jm_put, n6, false_and, if_false]
    exact this
/-- behind a fault: its code and place are noted, the rest is whatever it is -/
def FO (h : jm_H) (r f n : Nat) (B : Nat → Int32) (nme : Int64) (e : Flt) : Prop := ∃ (c : Cur) (k L N : Nat) (ST DT : Nat → Int32) (NA : Nat → Int64) (PL : Nat → Int32), RdS h r f n B c k L N ST DT NA PL e.1 (nI e.2) nme ∧ L < 2 ^ 31 ∧ N < 2 ^ 31
/-- a token was passed, or not -/
def OutX (x : Flt ⊕ Cur) (v : Option Value) (h : jm_H) (r f n : Nat) (B : Nat → Int32) (k L N : Nat) (ST DT : Nat → Int32) (NA : Nat → Int64) (PL : Nat → Int32) (fc fp : Int32) (nme : Int64) : Prop := match x with
  | .inl e => v = some (.int 0) ∧ FO h r f n B nme e
  | .inr c => v = some (.int 1) ∧ RdS h r f n B c k L N ST DT NA PL fc fp nme
def SegOK (t : Term) (L N k L1 N1 k1 : Nat) (ST DT ST1 DT1 : Nat → Int32) (NA NA1 : Nat → Int64) (PL PL1 : Nat → Int32) : Prop := Tree t ∧ Cdx ST1 DT1 NA1 PL1 t L N L1 N1 ∧ (∀ j, j < L → ST1 j = ST j ∧ DT1 j = DT j) ∧ (∀ j, j < N → NA1 j = NA j ∧ PL1 j = PL j) ∧ L1 + 2 * k + 1 ≤ L + 2 * k1 ∧ N1 + k ≤ N + k1 ∧ k < k1 ∧ k1 ≤ 40
/-- a tree was read, or there is a fault -/
def OutR (res : PR) (v : Option Value) (h : jm_H) (r f n : Nat) (B : Nat → Int32) (k L N : Nat) (ST DT : Nat → Int32) (NA : Nat → Int64) (PL : Nat → Int32) (fc fp : Int32) (nme : Int64) : Prop := match res with
  | .inl e => v = some (.int 0) ∧ FO h r f n B nme e
  | .inr y => v = some (.int 1) ∧ ∃ (L1 N1 : Nat) (ST1 DT1 : Nat → Int32) (NA1 : Nat → Int64) (PL1 : Nat → Int32), RdS h r f n B y.2.1 y.2.2 L1 N1 ST1 DT1 NA1 PL1 fc fp nme ∧ SegOK y.1 L N k L1 N1 y.2.2 ST DT ST1 DT1 NA NA1 PL PL1
set_option maxHeartbeats 4000000 in
set_option maxRecDepth 100000 in
theorem c_Rd_refuseAt (l : Launch) (G : jm_G) (d : Nat) {h : jm_H} {r f n : Nat} {B : Nat → Int32} {c : Cur} {k L N : Nat} {ST DT : Nat → Int32} {NA : Nat → Int64} {PL : Nat → Int32} {fc fp : Int32} {nme : Int64} {q p : Int32} (hS : RdS h r f n B c k L N ST DT NA PL fc fp nme) : jm_C l G mm_Rd_refuseAt d [.ref r, .int q, .int p] h none (jm_put (jm_put h r 3 (.int q)) r 4 (.int p)) := by
  obtain ⟨tr, r0, r1, r2, r3, r4, r5, r6, tp, ⟨ta, f0, f1, f2, f3, f4, f5, f6, tb⟩, hB, ⟨tf, g0, g1, g2, g3, g4, g5, g6, t1, t2, t3, t4, t5⟩, hST, hDT, hNA, hPL, hdis, hcn, hcs⟩ := id hS
  refine jm_ofE (by decide) rfl (Nat.le_of_ble_eq_true rfl) ?_
  refine jx_aload_n d_Rd_refuseAt_0 0 rfl ?_
  refine jx_iload_n d_Rd_refuseAt_1 1 rfl ?_
  refine jx_put (v0 := .int (q)) d_Rd_refuseAt_2 fF_Rd_29 jv_Rd ft_Rd_faultCode tr rfl rfl ?_
  refine jx_aload_n d_Rd_refuseAt_5 0 rfl ?_
  refine jx_iload_n d_Rd_refuseAt_6 2 rfl ?_
  refine jx_put (v0 := .int (p)) d_Rd_refuseAt_7 fF_Rd_33 jv_Rd ft_Rd_faultPlace tr rfl rfl ?_
  exact jx_vret d_Rd_refuseAt_10 rfl (⟨rfl, rfl⟩)
set_option maxHeartbeats 4000000 in
set_option maxRecDepth 100000 in
theorem c_Rd_refuse (l : Launch) (G : jm_G) (d : Nat) (hd : 1 ≤ d) {h : jm_H} {r f n : Nat} {B : Nat → Int32} {c : Cur} {k L N : Nat} {ST DT : Nat → Int32} {NA : Nat → Int64} {PL : Nat → Int32} {fc fp : Int32} {nme : Int64} {q : Int32} (hS : RdS h r f n B c k L N ST DT NA PL fc fp nme) : jm_C l G mm_Rd_refuse d [.ref r, .int q] h (some (.int 0)) (jm_put (jm_put h r 3 (.int q)) r 4 (.int (nI c.2.1))) := by
  obtain ⟨tr, r0, r1, r2, r3, r4, r5, r6, tp, ⟨ta, f0, f1, f2, f3, f4, f5, f6, tb⟩, hB, ⟨tf, g0, g1, g2, g3, g4, g5, g6, t1, t2, t3, t4, t5⟩, hST, hDT, hNA, hPL, hdis, hcn, hcs⟩ := id hS
  refine jm_ofE (by decide) rfl (Nat.le_of_ble_eq_true rfl) ?_
  refine jx_aload_n d_Rd_refuse_0 0 rfl ?_
  refine jx_iload_n d_Rd_refuse_1 1 rfl ?_
  refine jx_aload_n d_Rd_refuse_2 0 rfl ?_
  refine jx_get d_Rd_refuse_3 fF_Rd_12 tr r0 ?_
  refine jx_get d_Rd_refuse_6 fF_Rd_67 ta f4 ?_
  refine jx_callV (M2 := mm_Rd_refuseAt) rfl tr lk_Rd_70 wi_Rd_refuseAt ws_Rd_refuseAt d_Rd_refuse_9 (c_Rd_refuseAt l G (d - 1) ⟨tr, r0, r1, r2, r3, r4, r5, r6, tp, ⟨ta, f0, f1, f2, f3, f4, f5, f6, tb⟩, hB, ⟨tf, g0, g1, g2, g3, g4, g5, g6, t1, t2, t3, t4, t5⟩, hST, hDT, hNA, hPL, hdis, hcn, hcs⟩) cd_Rd_refuseAt rfl rfl (Nat.le_of_ble_eq_true rfl) (jm_fok (by omega)) (jm_look (by decide) (by omega)) ?_
  refine jx_iconst (v0 := 0) d_Rd_refuse_12 (by decide) ?_
  exact jx_zret d_Rd_refuse_13 rfl (by first | rfl | decide) (⟨rfl, rfl⟩)
set_option maxHeartbeats 4000000 in
set_option maxRecDepth 100000 in
theorem c_Rd_pass (l : Launch) (G : jm_G) (d : Nat) (hd : 3 ≤ d) {h : jm_H} {r f n : Nat} {B : Nat → Int32} {c : Cur} {k L N : Nat} {ST DT : Nat → Int32} {NA : Nat → Int64} {PL : Nat → Int32} {fc fp : Int32} {nme : Int64} (hS : RdS h r f n B c k L N ST DT NA PL fc fp nme) (hn : n ≤ 2000) (hLb : L < 2 ^ 31) (hNb : N < 2 ^ 31) : jm_CP l G mm_Rd_pass d [.ref r] h (fun v h9 => jm_fr (S_rd r f) h h9 ∧ OutX (p_pass B n c) v h9 r f n B k L N ST DT NA PL fc fp nme) := by
  obtain ⟨tr, r0, r1, r2, r3, r4, r5, r6, tp, ⟨ta, f0, f1, f2, f3, f4, f5, f6, tb⟩, hB, ⟨tf, g0, g1, g2, g3, g4, g5, g6, t1, t2, t3, t4, t5⟩, hST, hDT, hNA, hPL, hdis, hcn, hcs⟩ := id hS
  refine jm_of (by decide) rfl (Nat.le_of_ble_eq_true rfl) ?_
  refine jx_aload_n d_Rd_pass_0 0 rfl ?_
  refine jx_get d_Rd_pass_1 fF_Rd_12 tr r0 ?_
  have hS1 := hS.tok
  obtain ⟨tr1, r01, r11, r21, r31, r41, r51, r61, tp1, ⟨ta1, f01, f11, f21, f31, f41, f51, f61, tb1⟩, hB1, ⟨tf1, g01, g11, g21, g31, g41, g51, g61, t11, t21, t31, t41, t51⟩, hST1, hDT1, hNA1, hPL1, hdis1, hcn1, hcs1⟩ := id hS1
  refine jx_callV (M2 := mm_Tp_readToken) rfl ta lk_Rd_74 wi_Tp_readToken ws_Tp_readToken d_Rd_pass_4 (c_Tp_readToken l G (d - 3) ⟨ta, f0, f1, f2, f3, f4, f5, f6, tb⟩ hB hn hcn) cd_Tp_readToken rfl rfl (Nat.le_of_ble_eq_true rfl) (jm_fok (by omega)) (jm_look (by decide) (by omega)) ?_
  refine jx_aload_n d_Rd_pass_7 0 rfl ?_
  refine jx_get d_Rd_pass_8 fF_Rd_12 tr1 r01 ?_
  refine jx_get d_Rd_pass_11 fF_Rd_61 ta1 f31 ?_
  refine jx_iconst (v0 := 1) d_Rd_pass_14 (by decide) ?_
  refine jx_icmp_ne (tgt := 26) d_Rd_pass_15 (by decide) (fun c1 => ?_) (fun c1 => ?_)
  ·
    refine jx_iconst (v0 := 1) d_Rd_pass_26 (by decide) ?_
    refine jx_goto (tgt := 31) d_Rd_pass_27 (by decide) ?_
    exact jx_zret d_Rd_pass_31 rfl (by first | rfl | decide) (⟨_, rfl, jm_fr.tok, by rw [p_pass, if_neg c1]; exact ⟨rfl, ⟨tr1, r01, r11, r21, r31, r41, r51, r61, tp1, ⟨ta1, f01, f11, f21, f31, f41, f51, f61, tb1⟩, hB1, ⟨tf1, g01, g11, g21, g31, g41, g51, g61, t11, t21, t31, t41, t51⟩, hST1, hDT1, hNA1, hPL1, hdis1, hcn1, hcs1⟩⟩⟩)
  ·
    refine jx_aload_n d_Rd_pass_18 0 rfl ?_
    refine jx_iconst (v0 := 1) d_Rd_pass_19 (by decide) ?_
    refine jx_callV (M2 := mm_Rd_refuse) rfl tr1 lk_Rd_64 wi_Rd_refuse ws_Rd_refuse d_Rd_pass_20 (c_Rd_refuse l G (d - 1) (by omega) ⟨tr1, r01, r11, r21, r31, r41, r51, r61, tp1, ⟨ta1, f01, f11, f21, f31, f41, f51, f61, tb1⟩, hB1, ⟨tf1, g01, g11, g21, g31, g41, g51, g61, t11, t21, t31, t41, t51⟩, hST1, hDT1, hNA1, hPL1, hdis1, hcn1, hcs1⟩) cd_Rd_refuse rfl rfl (Nat.le_of_ble_eq_true rfl) (jm_fok (by omega)) (jm_look (by decide) (by omega)) ?_
    refine jx_if_eq (tgt := 30) d_Rd_pass_23 (by decide) (fun c2 => ?_) (fun c2 => absurd c2 (by decide))
    refine jx_iconst (v0 := 0) d_Rd_pass_30 (by decide) ?_
    exact jx_zret d_Rd_pass_31 rfl (by first | rfl | decide) (⟨_, rfl, (jm_fr.put (jm_fr.put jm_fr.tok (by unfold S_rd; omega)) (by unfold S_rd; omega)), by rw [p_pass, if_pos c1]; exact ⟨rfl, _, _, _, _, _, _, _, _, ⟨tr1, (jm_rd_k (by decide) (jm_rd_k (by decide) r01)), (jm_rd_k (by decide) (jm_rd_k (by decide) r11)), (jm_rd_k (by decide) (jm_rd_k (by decide) r21)), (jm_rd_k (by decide) (jm_rd_s _ _ _ _)), (jm_rd_s _ _ _ _), (jm_rd_k (by decide) (jm_rd_k (by decide) r51)), (jm_rd_k (by decide) (jm_rd_k (by decide) r61)), tp1, ⟨ta1, (jm_rd_k (by decide) (jm_rd_k (by decide) f01)), (jm_rd_k (by decide) (jm_rd_k (by decide) f11)), (jm_rd_k (by decide) (jm_rd_k (by decide) f21)), (jm_rd_k (by decide) (jm_rd_a (jm_ne_oo ta1 tr1 (by decide)) f31)), (jm_rd_a (jm_ne_oo ta1 tr1 (by decide)) (jm_rd_k (by decide) f41)), (jm_rd_k (by decide) (jm_rd_k (by decide) f51)), (jm_rd_k (by decide) (jm_rd_k (by decide) f61)), tb1⟩, (fun j hj => jm_rd_a (Ne.symm (jm_ne_oa tr1 tb1)) ((fun j hj => jm_rd_a (Ne.symm (jm_ne_oa tr1 tb1)) (hB1 j hj)) j hj)), ⟨tf1, (jm_rd_k (by decide) (jm_rd_k (by decide) g01)), (jm_rd_k (by decide) (jm_rd_k (by decide) g11)), (jm_rd_k (by decide) (jm_rd_k (by decide) g21)), (jm_rd_k (by decide) (jm_rd_a (jm_ne_oo tf1 tr1 (by decide)) g31)), (jm_rd_a (jm_ne_oo tf1 tr1 (by decide)) (jm_rd_k (by decide) g41)), (jm_rd_k (by decide) (jm_rd_k (by decide) g51)), (jm_rd_k (by decide) (jm_rd_k (by decide) g61)), t11, t21, t31, t41, t51⟩, (arI.keep (arI.keep hST1 (Ne.symm (jm_ne_oa tr1 t11))) (Ne.symm (jm_ne_oa tr1 t11))), (arI.keep (arI.keep hDT1 (Ne.symm (jm_ne_oa tr1 t21))) (Ne.symm (jm_ne_oa tr1 t21))), (arL.keep (arL.keep hNA1 (Ne.symm (jm_ne_oa tr1 t31))) (Ne.symm (jm_ne_oa tr1 t31))), (arI.keep (arI.keep hPL1 (Ne.symm (jm_ne_oa tr1 tp1))) (Ne.symm (jm_ne_oa tr1 tp1))), hdis1, hcn1, hcs1⟩, hLb, hNb⟩⟩)
set_option maxHeartbeats 4000000 in
set_option maxRecDepth 100000 in
theorem c_Rd_expect (l : Launch) (G : jm_G) (d : Nat) (hd : 4 ≤ d) {h : jm_H} {r f n : Nat} {B : Nat → Int32} {c : Cur} {k L N : Nat} {ST DT : Nat → Int32} {NA : Nat → Int64} {PL : Nat → Int32} {fc fp : Int32} {nme : Int64} {K : Int32} (hS : RdS h r f n B c k L N ST DT NA PL fc fp nme) (hn : n ≤ 2000) (hLb : L < 2 ^ 31) (hNb : N < 2 ^ 31) : jm_CP l G mm_Rd_expect d [.ref r, .int K] h (fun v h9 => jm_fr (S_rd r f) h h9 ∧ OutX (p_exp B n K c) v h9 r f n B k L N ST DT NA PL fc fp nme) := by
  obtain ⟨tr, r0, r1, r2, r3, r4, r5, r6, tp, ⟨ta, f0, f1, f2, f3, f4, f5, f6, tb⟩, hB, ⟨tf, g0, g1, g2, g3, g4, g5, g6, t1, t2, t3, t4, t5⟩, hST, hDT, hNA, hPL, hdis, hcn, hcs⟩ := id hS
  refine jm_of (by decide) rfl (Nat.le_of_ble_eq_true rfl) ?_
  refine jx_aload_n d_Rd_expect_0 0 rfl ?_
  refine jx_get d_Rd_expect_1 fF_Rd_12 tr r0 ?_
  refine jx_get d_Rd_expect_4 fF_Rd_61 ta f3 ?_
  refine jx_iload_n d_Rd_expect_7 1 rfl ?_
  refine jx_icmp_ne (tgt := 18) d_Rd_expect_8 (by decide) (fun c1 => ?_) (fun c1 => ?_)
  ·
    refine jx_aload_n d_Rd_expect_18 0 rfl ?_
    refine jx_iconst (v0 := 2) d_Rd_expect_19 (by decide) ?_
    refine jx_callV (M2 := mm_Rd_refuse) rfl tr lk_Rd_64 wi_Rd_refuse ws_Rd_refuse d_Rd_expect_20 (c_Rd_refuse l G (d - 1) (by omega) ⟨tr, r0, r1, r2, r3, r4, r5, r6, tp, ⟨ta, f0, f1, f2, f3, f4, f5, f6, tb⟩, hB, ⟨tf, g0, g1, g2, g3, g4, g5, g6, t1, t2, t3, t4, t5⟩, hST, hDT, hNA, hPL, hdis, hcn, hcs⟩) cd_Rd_refuse rfl rfl (Nat.le_of_ble_eq_true rfl) (jm_fok (by omega)) (jm_look (by decide) (by omega)) ?_
    exact jx_zret d_Rd_expect_23 rfl (by first | rfl | decide) (⟨_, rfl, (jm_fr.put (jm_fr.put jm_fr.rf (by unfold S_rd; omega)) (by unfold S_rd; omega)), by rw [p_exp, if_neg c1]; exact ⟨rfl, _, _, _, _, _, _, _, _, ⟨tr, (jm_rd_k (by decide) (jm_rd_k (by decide) r0)), (jm_rd_k (by decide) (jm_rd_k (by decide) r1)), (jm_rd_k (by decide) (jm_rd_k (by decide) r2)), (jm_rd_k (by decide) (jm_rd_s _ _ _ _)), (jm_rd_s _ _ _ _), (jm_rd_k (by decide) (jm_rd_k (by decide) r5)), (jm_rd_k (by decide) (jm_rd_k (by decide) r6)), tp, ⟨ta, (jm_rd_k (by decide) (jm_rd_k (by decide) f0)), (jm_rd_k (by decide) (jm_rd_k (by decide) f1)), (jm_rd_k (by decide) (jm_rd_k (by decide) f2)), (jm_rd_k (by decide) (jm_rd_a (jm_ne_oo ta tr (by decide)) f3)), (jm_rd_a (jm_ne_oo ta tr (by decide)) (jm_rd_k (by decide) f4)), (jm_rd_k (by decide) (jm_rd_k (by decide) f5)), (jm_rd_k (by decide) (jm_rd_k (by decide) f6)), tb⟩, (fun j hj => jm_rd_a (Ne.symm (jm_ne_oa tr tb)) ((fun j hj => jm_rd_a (Ne.symm (jm_ne_oa tr tb)) (hB j hj)) j hj)), ⟨tf, (jm_rd_k (by decide) (jm_rd_k (by decide) g0)), (jm_rd_k (by decide) (jm_rd_k (by decide) g1)), (jm_rd_k (by decide) (jm_rd_k (by decide) g2)), (jm_rd_k (by decide) (jm_rd_a (jm_ne_oo tf tr (by decide)) g3)), (jm_rd_a (jm_ne_oo tf tr (by decide)) (jm_rd_k (by decide) g4)), (jm_rd_k (by decide) (jm_rd_k (by decide) g5)), (jm_rd_k (by decide) (jm_rd_k (by decide) g6)), t1, t2, t3, t4, t5⟩, (arI.keep (arI.keep hST (Ne.symm (jm_ne_oa tr t1))) (Ne.symm (jm_ne_oa tr t1))), (arI.keep (arI.keep hDT (Ne.symm (jm_ne_oa tr t2))) (Ne.symm (jm_ne_oa tr t2))), (arL.keep (arL.keep hNA (Ne.symm (jm_ne_oa tr t3))) (Ne.symm (jm_ne_oa tr t3))), (arI.keep (arI.keep hPL (Ne.symm (jm_ne_oa tr tp))) (Ne.symm (jm_ne_oa tr tp))), hdis, hcn, hcs⟩, hLb, hNb⟩⟩)
  ·
    refine jx_aload_n d_Rd_expect_11 0 rfl ?_
    obtain ⟨v2, h2, hC2, hfr2, hq2⟩ := c_Rd_pass l G (d - 1) (by omega) (h := h) ⟨tr, r0, r1, r2, r3, r4, r5, r6, tp, ⟨ta, f0, f1, f2, f3, f4, f5, f6, tb⟩, hB, ⟨tf, g0, g1, g2, g3, g4, g5, g6, t1, t2, t3, t4, t5⟩, hST, hDT, hNA, hPL, hdis, hcn, hcs⟩ hn (by omega) (by omega)
    cases hp2 : p_pass B n c with
    | inl e2 =>
      rw [hp2] at hq2
      obtain ⟨rfl, hF2⟩ := hq2
      refine jx_callV (M2 := mm_Rd_pass) rfl tr lk_Rd_49 wi_Rd_pass ws_Rd_pass d_Rd_expect_12 hC2 cd_Rd_pass rfl rfl (Nat.le_of_ble_eq_true rfl) (jm_fok (by omega)) (jm_look (by decide) (by omega)) ?_
      refine jx_goto (tgt := 23) d_Rd_expect_15 (by decide) ?_
      exact jx_zret d_Rd_expect_23 rfl (by first | rfl | decide) (⟨_, rfl, (jm_fr.trans jm_fr.rf hfr2), by rw [p_exp, if_pos c1, hp2]; exact ⟨rfl, hF2⟩⟩)
    | inr c2 =>
      rw [hp2] at hq2
      obtain ⟨rfl, hS2⟩ := hq2
      obtain ⟨tr2, r02, r12, r22, r32, r42, r52, r62, tp2, ⟨ta2, f02, f12, f22, f32, f42, f52, f62, tb2⟩, hB2, ⟨tf2, g02, g12, g22, g32, g42, g52, g62, t12, t22, t32, t42, t52⟩, hST2, hDT2, hNA2, hPL2, hdis2, hcn2, hcs2⟩ := id hS2
      refine jx_callV (M2 := mm_Rd_pass) rfl tr lk_Rd_49 wi_Rd_pass ws_Rd_pass d_Rd_expect_12 hC2 cd_Rd_pass rfl rfl (Nat.le_of_ble_eq_true rfl) (jm_fok (by omega)) (jm_look (by decide) (by omega)) ?_
      refine jx_goto (tgt := 23) d_Rd_expect_15 (by decide) ?_
      exact jx_zret d_Rd_expect_23 rfl (by first | rfl | decide) (⟨_, rfl, (jm_fr.trans jm_fr.rf hfr2), by rw [p_exp, if_pos c1, hp2]; exact ⟨rfl, hS2⟩⟩)
set_option maxHeartbeats 4000000 in
set_option maxRecDepth 100000 in
theorem c_Rd_passNode (l : Launch) (G : jm_G) (d : Nat) (hd : 4 ≤ d) {h : jm_H} {r f n : Nat} {B : Nat → Int32} {c : Cur} {k L N : Nat} {ST DT : Nat → Int32} {NA : Nat → Int64} {PL : Nat → Int32} {fc fp : Int32} {nme : Int64} (hS : RdS h r f n B c k L N ST DT NA PL fc fp nme) (hn : n ≤ 2000) (hk : k ≤ 40) (hLb : L < 2 ^ 31) (hNb : N < 2 ^ 31) : jm_CP l G mm_Rd_passNode d [.ref r] h (fun v h9 => jm_fr (S_rd r f) h h9 ∧ OutX (p_node B n c k) v h9 r f n B (k + 1) L N ST DT NA PL fc fp nme) := by
  obtain ⟨tr, r0, r1, r2, r3, r4, r5, r6, tp, ⟨ta, f0, f1, f2, f3, f4, f5, f6, tb⟩, hB, ⟨tf, g0, g1, g2, g3, g4, g5, g6, t1, t2, t3, t4, t5⟩, hST, hDT, hNA, hPL, hdis, hcn, hcs⟩ := id hS
  refine jm_of (by decide) rfl (Nat.le_of_ble_eq_true rfl) ?_
  refine jx_aload_n d_Rd_passNode_0 0 rfl ?_
  refine jx_get d_Rd_passNode_1 fF_Rd_36 tr r5 ?_
  refine jx_bipush (v0 := 40) d_Rd_passNode_4 (by decide) ?_
  refine jx_icmp_ltN (tgt := 15) (k) (40) d_Rd_passNode_6 rfl rfl (by omega) (by omega) (by decide) (fun c1 => ?_) (fun c1 => ?_)
  ·
    refine jx_aload_n d_Rd_passNode_15 0 rfl ?_
    refine jx_dup d_Rd_passNode_16 rfl ?_
    refine jx_get d_Rd_passNode_17 fF_Rd_36 tr r5 ?_
    refine jx_iconst (v0 := 1) d_Rd_passNode_20 (by decide) ?_
    refine jx_iadd d_Rd_passNode_21 ?_
    refine jx_ati (nI_add (k) (1)) ?_
    refine jx_put (v0 := .int (nI ((k) + (1)))) d_Rd_passNode_22 fF_Rd_36 jv_Rd ft_Rd_nodes tr rfl rfl ?_
    refine jx_aload_n d_Rd_passNode_25 0 rfl ?_
    obtain ⟨v2, h2, hC2, hfr2, hq2⟩ := c_Rd_pass l G (d - 1) (by omega) (h := (jm_put h (r) 5 (.int (nI ((k) + (1)))))) ⟨tr, (jm_rd_k (by decide) r0), (jm_rd_k (by decide) r1), (jm_rd_k (by decide) r2), (jm_rd_k (by decide) r3), (jm_rd_k (by decide) r4), (jm_rd_s _ _ _ _), (jm_rd_k (by decide) r6), tp, ⟨ta, (jm_rd_k (by decide) f0), (jm_rd_k (by decide) f1), (jm_rd_k (by decide) f2), (jm_rd_k (by decide) f3), (jm_rd_k (by decide) f4), (jm_rd_a (jm_ne_oo ta tr (by decide)) f5), (jm_rd_k (by decide) f6), tb⟩, (fun j hj => jm_rd_a (Ne.symm (jm_ne_oa tr tb)) (hB j hj)), ⟨tf, (jm_rd_k (by decide) g0), (jm_rd_k (by decide) g1), (jm_rd_k (by decide) g2), (jm_rd_k (by decide) g3), (jm_rd_k (by decide) g4), (jm_rd_a (jm_ne_oo tf tr (by decide)) g5), (jm_rd_k (by decide) g6), t1, t2, t3, t4, t5⟩, (arI.keep hST (Ne.symm (jm_ne_oa tr t1))), (arI.keep hDT (Ne.symm (jm_ne_oa tr t2))), (arL.keep hNA (Ne.symm (jm_ne_oa tr t3))), (arI.keep hPL (Ne.symm (jm_ne_oa tr tp))), hdis, hcn, hcs⟩ hn (by omega) (by omega)
    cases hp2 : p_pass B n c with
    | inl e2 =>
      rw [hp2] at hq2
      obtain ⟨rfl, hF2⟩ := hq2
      refine jx_callV (M2 := mm_Rd_pass) rfl tr lk_Rd_49 wi_Rd_pass ws_Rd_pass d_Rd_passNode_26 hC2 cd_Rd_pass rfl rfl (Nat.le_of_ble_eq_true rfl) (jm_fok (by omega)) (jm_look (by decide) (by omega)) ?_
      exact jx_zret d_Rd_passNode_29 rfl (by first | rfl | decide) (⟨_, rfl, (jm_fr.trans (jm_fr.put jm_fr.rf (by unfold S_rd; omega)) hfr2), by rw [p_node, if_pos (by omega), hp2]; exact ⟨rfl, hF2⟩⟩)
    | inr c2 =>
      rw [hp2] at hq2
      obtain ⟨rfl, hS2⟩ := hq2
      obtain ⟨tr2, r02, r12, r22, r32, r42, r52, r62, tp2, ⟨ta2, f02, f12, f22, f32, f42, f52, f62, tb2⟩, hB2, ⟨tf2, g02, g12, g22, g32, g42, g52, g62, t12, t22, t32, t42, t52⟩, hST2, hDT2, hNA2, hPL2, hdis2, hcn2, hcs2⟩ := id hS2
      refine jx_callV (M2 := mm_Rd_pass) rfl tr lk_Rd_49 wi_Rd_pass ws_Rd_pass d_Rd_passNode_26 hC2 cd_Rd_pass rfl rfl (Nat.le_of_ble_eq_true rfl) (jm_fok (by omega)) (jm_look (by decide) (by omega)) ?_
      exact jx_zret d_Rd_passNode_29 rfl (by first | rfl | decide) (⟨_, rfl, (jm_fr.trans (jm_fr.put jm_fr.rf (by unfold S_rd; omega)) hfr2), by rw [p_node, if_pos (by omega), hp2]; exact ⟨rfl, hS2⟩⟩)
  ·
    refine jx_aload_n d_Rd_passNode_9 0 rfl ?_
    refine jx_iconst (v0 := 3) d_Rd_passNode_10 (by decide) ?_
    refine jx_callV (M2 := mm_Rd_refuse) rfl tr lk_Rd_64 wi_Rd_refuse ws_Rd_refuse d_Rd_passNode_11 (c_Rd_refuse l G (d - 1) (by omega) ⟨tr, r0, r1, r2, r3, r4, r5, r6, tp, ⟨ta, f0, f1, f2, f3, f4, f5, f6, tb⟩, hB, ⟨tf, g0, g1, g2, g3, g4, g5, g6, t1, t2, t3, t4, t5⟩, hST, hDT, hNA, hPL, hdis, hcn, hcs⟩) cd_Rd_refuse rfl rfl (Nat.le_of_ble_eq_true rfl) (jm_fok (by omega)) (jm_look (by decide) (by omega)) ?_
    exact jx_zret d_Rd_passNode_14 rfl (by first | rfl | decide) (⟨_, rfl, (jm_fr.put (jm_fr.put jm_fr.rf (by unfold S_rd; omega)) (by unfold S_rd; omega)), by rw [p_node, if_neg (by omega)]; exact ⟨rfl, _, _, _, _, _, _, _, _, ⟨tr, (jm_rd_k (by decide) (jm_rd_k (by decide) r0)), (jm_rd_k (by decide) (jm_rd_k (by decide) r1)), (jm_rd_k (by decide) (jm_rd_k (by decide) r2)), (jm_rd_k (by decide) (jm_rd_s _ _ _ _)), (jm_rd_s _ _ _ _), (jm_rd_k (by decide) (jm_rd_k (by decide) r5)), (jm_rd_k (by decide) (jm_rd_k (by decide) r6)), tp, ⟨ta, (jm_rd_k (by decide) (jm_rd_k (by decide) f0)), (jm_rd_k (by decide) (jm_rd_k (by decide) f1)), (jm_rd_k (by decide) (jm_rd_k (by decide) f2)), (jm_rd_k (by decide) (jm_rd_a (jm_ne_oo ta tr (by decide)) f3)), (jm_rd_a (jm_ne_oo ta tr (by decide)) (jm_rd_k (by decide) f4)), (jm_rd_k (by decide) (jm_rd_k (by decide) f5)), (jm_rd_k (by decide) (jm_rd_k (by decide) f6)), tb⟩, (fun j hj => jm_rd_a (Ne.symm (jm_ne_oa tr tb)) ((fun j hj => jm_rd_a (Ne.symm (jm_ne_oa tr tb)) (hB j hj)) j hj)), ⟨tf, (jm_rd_k (by decide) (jm_rd_k (by decide) g0)), (jm_rd_k (by decide) (jm_rd_k (by decide) g1)), (jm_rd_k (by decide) (jm_rd_k (by decide) g2)), (jm_rd_k (by decide) (jm_rd_a (jm_ne_oo tf tr (by decide)) g3)), (jm_rd_a (jm_ne_oo tf tr (by decide)) (jm_rd_k (by decide) g4)), (jm_rd_k (by decide) (jm_rd_k (by decide) g5)), (jm_rd_k (by decide) (jm_rd_k (by decide) g6)), t1, t2, t3, t4, t5⟩, (arI.keep (arI.keep hST (Ne.symm (jm_ne_oa tr t1))) (Ne.symm (jm_ne_oa tr t1))), (arI.keep (arI.keep hDT (Ne.symm (jm_ne_oa tr t2))) (Ne.symm (jm_ne_oa tr t2))), (arL.keep (arL.keep hNA (Ne.symm (jm_ne_oa tr t3))) (Ne.symm (jm_ne_oa tr t3))), (arI.keep (arI.keep hPL (Ne.symm (jm_ne_oa tr tp))) (Ne.symm (jm_ne_oa tr tp))), hdis, hcn, hcs⟩, hLb, hNb⟩⟩)
set_option maxHeartbeats 4000000 in
set_option maxRecDepth 100000 in
theorem c_Rd_passOpening (l : Launch) (G : jm_G) (d : Nat) (hd : 4 ≤ d) {h : jm_H} {r f n : Nat} {B : Nat → Int32} {c : Cur} {k L N : Nat} {ST DT : Nat → Int32} {NA : Nat → Int64} {PL : Nat → Int32} {fc fp : Int32} {nme : Int64} {dp : Nat} (hS : RdS h r f n B c k L N ST DT NA PL fc fp nme) (hn : n ≤ 2000) (hdp : dp ≤ 20) (hLb : L < 2 ^ 31) (hNb : N < 2 ^ 31) : jm_CP l G mm_Rd_passOpening d [.ref r, .int (nI dp)] h (fun v h9 => jm_fr (S_rd r f) h h9 ∧ OutX (p_open B n dp c) v h9 r f n B k L N ST DT NA PL fc fp nme) := by
  obtain ⟨tr, r0, r1, r2, r3, r4, r5, r6, tp, ⟨ta, f0, f1, f2, f3, f4, f5, f6, tb⟩, hB, ⟨tf, g0, g1, g2, g3, g4, g5, g6, t1, t2, t3, t4, t5⟩, hST, hDT, hNA, hPL, hdis, hcn, hcs⟩ := id hS
  refine jm_of (by decide) rfl (Nat.le_of_ble_eq_true rfl) ?_
  refine jx_aload_n d_Rd_passOpening_0 0 rfl ?_
  refine jx_get d_Rd_passOpening_1 fF_Rd_12 tr r0 ?_
  refine jx_get d_Rd_passOpening_4 fF_Rd_61 ta f3 ?_
  refine jx_bipush (v0 := 40) d_Rd_passOpening_7 (by decide) ?_
  refine jx_icmp_eq (tgt := 18) d_Rd_passOpening_9 (by decide) (fun c1 => ?_) (fun c1 => ?_)
  ·
    refine jx_iload_n d_Rd_passOpening_18 1 rfl ?_
    refine jx_bipush (v0 := 20) d_Rd_passOpening_19 (by decide) ?_
    refine jx_icmp_geN (tgt := 31) (dp) (20) d_Rd_passOpening_21 rfl rfl (by omega) (by omega) (by decide) (fun c2 => ?_) (fun c2 => ?_)
    ·
      refine jx_aload_n d_Rd_passOpening_31 0 rfl ?_
      refine jx_iconst (v0 := 3) d_Rd_passOpening_32 (by decide) ?_
      refine jx_callV (M2 := mm_Rd_refuse) rfl tr lk_Rd_64 wi_Rd_refuse ws_Rd_refuse d_Rd_passOpening_33 (c_Rd_refuse l G (d - 1) (by omega) ⟨tr, r0, r1, r2, r3, r4, r5, r6, tp, ⟨ta, f0, f1, f2, f3, f4, f5, f6, tb⟩, hB, ⟨tf, g0, g1, g2, g3, g4, g5, g6, t1, t2, t3, t4, t5⟩, hST, hDT, hNA, hPL, hdis, hcn, hcs⟩) cd_Rd_refuse rfl rfl (Nat.le_of_ble_eq_true rfl) (jm_fok (by omega)) (jm_look (by decide) (by omega)) ?_
      exact jx_zret d_Rd_passOpening_36 rfl (by first | rfl | decide) (⟨_, rfl, (jm_fr.put (jm_fr.put jm_fr.rf (by unfold S_rd; omega)) (by unfold S_rd; omega)), by rw [p_open, if_pos c1, if_neg (by omega)]; exact ⟨rfl, _, _, _, _, _, _, _, _, ⟨tr, (jm_rd_k (by decide) (jm_rd_k (by decide) r0)), (jm_rd_k (by decide) (jm_rd_k (by decide) r1)), (jm_rd_k (by decide) (jm_rd_k (by decide) r2)), (jm_rd_k (by decide) (jm_rd_s _ _ _ _)), (jm_rd_s _ _ _ _), (jm_rd_k (by decide) (jm_rd_k (by decide) r5)), (jm_rd_k (by decide) (jm_rd_k (by decide) r6)), tp, ⟨ta, (jm_rd_k (by decide) (jm_rd_k (by decide) f0)), (jm_rd_k (by decide) (jm_rd_k (by decide) f1)), (jm_rd_k (by decide) (jm_rd_k (by decide) f2)), (jm_rd_k (by decide) (jm_rd_a (jm_ne_oo ta tr (by decide)) f3)), (jm_rd_a (jm_ne_oo ta tr (by decide)) (jm_rd_k (by decide) f4)), (jm_rd_k (by decide) (jm_rd_k (by decide) f5)), (jm_rd_k (by decide) (jm_rd_k (by decide) f6)), tb⟩, (fun j hj => jm_rd_a (Ne.symm (jm_ne_oa tr tb)) ((fun j hj => jm_rd_a (Ne.symm (jm_ne_oa tr tb)) (hB j hj)) j hj)), ⟨tf, (jm_rd_k (by decide) (jm_rd_k (by decide) g0)), (jm_rd_k (by decide) (jm_rd_k (by decide) g1)), (jm_rd_k (by decide) (jm_rd_k (by decide) g2)), (jm_rd_k (by decide) (jm_rd_a (jm_ne_oo tf tr (by decide)) g3)), (jm_rd_a (jm_ne_oo tf tr (by decide)) (jm_rd_k (by decide) g4)), (jm_rd_k (by decide) (jm_rd_k (by decide) g5)), (jm_rd_k (by decide) (jm_rd_k (by decide) g6)), t1, t2, t3, t4, t5⟩, (arI.keep (arI.keep hST (Ne.symm (jm_ne_oa tr t1))) (Ne.symm (jm_ne_oa tr t1))), (arI.keep (arI.keep hDT (Ne.symm (jm_ne_oa tr t2))) (Ne.symm (jm_ne_oa tr t2))), (arL.keep (arL.keep hNA (Ne.symm (jm_ne_oa tr t3))) (Ne.symm (jm_ne_oa tr t3))), (arI.keep (arI.keep hPL (Ne.symm (jm_ne_oa tr tp))) (Ne.symm (jm_ne_oa tr tp))), hdis, hcn, hcs⟩, hLb, hNb⟩⟩)
    ·
      refine jx_aload_n d_Rd_passOpening_24 0 rfl ?_
      obtain ⟨v3, h3, hC3, hfr3, hq3⟩ := c_Rd_pass l G (d - 1) (by omega) (h := h) ⟨tr, r0, r1, r2, r3, r4, r5, r6, tp, ⟨ta, f0, f1, f2, f3, f4, f5, f6, tb⟩, hB, ⟨tf, g0, g1, g2, g3, g4, g5, g6, t1, t2, t3, t4, t5⟩, hST, hDT, hNA, hPL, hdis, hcn, hcs⟩ hn (by omega) (by omega)
      cases hp3 : p_pass B n c with
      | inl e3 =>
        rw [hp3] at hq3
        obtain ⟨rfl, hF3⟩ := hq3
        refine jx_callV (M2 := mm_Rd_pass) rfl tr lk_Rd_49 wi_Rd_pass ws_Rd_pass d_Rd_passOpening_25 hC3 cd_Rd_pass rfl rfl (Nat.le_of_ble_eq_true rfl) (jm_fok (by omega)) (jm_look (by decide) (by omega)) ?_
        refine jx_goto (tgt := 36) d_Rd_passOpening_28 (by decide) ?_
        exact jx_zret d_Rd_passOpening_36 rfl (by first | rfl | decide) (⟨_, rfl, (jm_fr.trans jm_fr.rf hfr3), by rw [p_open, if_pos c1, if_pos (by omega), hp3]; exact ⟨rfl, hF3⟩⟩)
      | inr c3 =>
        rw [hp3] at hq3
        obtain ⟨rfl, hS3⟩ := hq3
        obtain ⟨tr3, r03, r13, r23, r33, r43, r53, r63, tp3, ⟨ta3, f03, f13, f23, f33, f43, f53, f63, tb3⟩, hB3, ⟨tf3, g03, g13, g23, g33, g43, g53, g63, t13, t23, t33, t43, t53⟩, hST3, hDT3, hNA3, hPL3, hdis3, hcn3, hcs3⟩ := id hS3
        refine jx_callV (M2 := mm_Rd_pass) rfl tr lk_Rd_49 wi_Rd_pass ws_Rd_pass d_Rd_passOpening_25 hC3 cd_Rd_pass rfl rfl (Nat.le_of_ble_eq_true rfl) (jm_fok (by omega)) (jm_look (by decide) (by omega)) ?_
        refine jx_goto (tgt := 36) d_Rd_passOpening_28 (by decide) ?_
        exact jx_zret d_Rd_passOpening_36 rfl (by first | rfl | decide) (⟨_, rfl, (jm_fr.trans jm_fr.rf hfr3), by rw [p_open, if_pos c1, if_pos (by omega), hp3]; exact ⟨rfl, hS3⟩⟩)
  ·
    refine jx_aload_n d_Rd_passOpening_12 0 rfl ?_
    refine jx_iconst (v0 := 2) d_Rd_passOpening_13 (by decide) ?_
    refine jx_callV (M2 := mm_Rd_refuse) rfl tr lk_Rd_64 wi_Rd_refuse ws_Rd_refuse d_Rd_passOpening_14 (c_Rd_refuse l G (d - 1) (by omega) ⟨tr, r0, r1, r2, r3, r4, r5, r6, tp, ⟨ta, f0, f1, f2, f3, f4, f5, f6, tb⟩, hB, ⟨tf, g0, g1, g2, g3, g4, g5, g6, t1, t2, t3, t4, t5⟩, hST, hDT, hNA, hPL, hdis, hcn, hcs⟩) cd_Rd_refuse rfl rfl (Nat.le_of_ble_eq_true rfl) (jm_fok (by omega)) (jm_look (by decide) (by omega)) ?_
    exact jx_zret d_Rd_passOpening_17 rfl (by first | rfl | decide) (⟨_, rfl, (jm_fr.put (jm_fr.put jm_fr.rf (by unfold S_rd; omega)) (by unfold S_rd; omega)), by rw [p_open, if_neg c1]; exact ⟨rfl, _, _, _, _, _, _, _, _, ⟨tr, (jm_rd_k (by decide) (jm_rd_k (by decide) r0)), (jm_rd_k (by decide) (jm_rd_k (by decide) r1)), (jm_rd_k (by decide) (jm_rd_k (by decide) r2)), (jm_rd_k (by decide) (jm_rd_s _ _ _ _)), (jm_rd_s _ _ _ _), (jm_rd_k (by decide) (jm_rd_k (by decide) r5)), (jm_rd_k (by decide) (jm_rd_k (by decide) r6)), tp, ⟨ta, (jm_rd_k (by decide) (jm_rd_k (by decide) f0)), (jm_rd_k (by decide) (jm_rd_k (by decide) f1)), (jm_rd_k (by decide) (jm_rd_k (by decide) f2)), (jm_rd_k (by decide) (jm_rd_a (jm_ne_oo ta tr (by decide)) f3)), (jm_rd_a (jm_ne_oo ta tr (by decide)) (jm_rd_k (by decide) f4)), (jm_rd_k (by decide) (jm_rd_k (by decide) f5)), (jm_rd_k (by decide) (jm_rd_k (by decide) f6)), tb⟩, (fun j hj => jm_rd_a (Ne.symm (jm_ne_oa tr tb)) ((fun j hj => jm_rd_a (Ne.symm (jm_ne_oa tr tb)) (hB j hj)) j hj)), ⟨tf, (jm_rd_k (by decide) (jm_rd_k (by decide) g0)), (jm_rd_k (by decide) (jm_rd_k (by decide) g1)), (jm_rd_k (by decide) (jm_rd_k (by decide) g2)), (jm_rd_k (by decide) (jm_rd_a (jm_ne_oo tf tr (by decide)) g3)), (jm_rd_a (jm_ne_oo tf tr (by decide)) (jm_rd_k (by decide) g4)), (jm_rd_k (by decide) (jm_rd_k (by decide) g5)), (jm_rd_k (by decide) (jm_rd_k (by decide) g6)), t1, t2, t3, t4, t5⟩, (arI.keep (arI.keep hST (Ne.symm (jm_ne_oa tr t1))) (Ne.symm (jm_ne_oa tr t1))), (arI.keep (arI.keep hDT (Ne.symm (jm_ne_oa tr t2))) (Ne.symm (jm_ne_oa tr t2))), (arL.keep (arL.keep hNA (Ne.symm (jm_ne_oa tr t3))) (Ne.symm (jm_ne_oa tr t3))), (arI.keep (arI.keep hPL (Ne.symm (jm_ne_oa tr tp))) (Ne.symm (jm_ne_oa tr tp))), hdis, hcn, hcs⟩, hLb, hNb⟩⟩)
set_option maxHeartbeats 4000000 in
set_option maxRecDepth 100000 in
theorem c_Rd_noteName_ok (l : Launch) (G : jm_G) (d : Nat) (hd : 3 ≤ d) {h : jm_H} {r f n : Nat} {B : Nat → Int32} {c : Cur} {k L N : Nat} {ST DT : Nat → Int32} {NA : Nat → Int64} {PL : Nat → Int32} {fc fp : Int32} {nme : Int64} (hS : RdS h r f n B c k L N ST DT NA PL fc fp nme) (hL : L < 80) (hN : N < 40) (hn : n ≤ 2000) : jm_CP l G mm_Rd_noteName d [.ref r] h (fun v h9 => v = none ∧ jm_fr (S_rd r f) h h9 ∧ RdS h9 r f n B c k (L + 1) (N + 1) (jm_up ST L 2) (jm_up DT L (nI N)) (jm_up NA N c.2.2.2.1) (jm_up PL N (nI c.2.1)) fc fp nme) := by
  obtain ⟨tr, r0, r1, r2, r3, r4, r5, r6, tp, ⟨ta, f0, f1, f2, f3, f4, f5, f6, tb⟩, hB, ⟨tf, g0, g1, g2, g3, g4, g5, g6, t1, t2, t3, t4, t5⟩, hST, hDT, hNA, hPL, hdis, hcn, hcs⟩ := id hS
  refine jm_of (by decide) rfl (Nat.le_of_ble_eq_true rfl) ?_
  refine jx_aload_n d_Rd_noteName_0 0 rfl ?_
  refine jx_get d_Rd_noteName_1 fF_Rd_21 tr r1 ?_
  refine jx_get d_Rd_noteName_4 fF_Rd_107 tf g6 ?_
  refine jx_istore_n (lv' := [(1, .int (nI (N))), (0, .ref (r))]) d_Rd_noteName_7 (by decide) rfl ?_
  refine jx_iload_n d_Rd_noteName_8 0 rfl ?_
  refine jx_if_ltN (tgt := 34) (N) d_Rd_noteName_9 rfl (by omega) (by decide) (fun c1 => ?_) (fun c1 => ?_)
  · omega
  ·
    refine jx_iload_n d_Rd_noteName_12 0 rfl ?_
    refine jx_aload_n d_Rd_noteName_13 1 rfl ?_
    refine jx_get d_Rd_noteName_14 fF_Rd_39 tr r6 ?_
    refine jx_alen (v0 := 40) d_Rd_noteName_17 tp (by decide) ?_
    refine jx_icmp_geN (tgt := 34) (N) (40) d_Rd_noteName_18 rfl rfl (by omega) (by omega) (by decide) (fun c2 => ?_) (fun c2 => ?_)
    · omega
    ·
      refine jx_aload_n d_Rd_noteName_21 1 rfl ?_
      refine jx_get d_Rd_noteName_22 fF_Rd_39 tr r6 ?_
      refine jx_iload_n d_Rd_noteName_25 0 rfl ?_
      refine jx_aload_n d_Rd_noteName_26 1 rfl ?_
      refine jx_get d_Rd_noteName_27 fF_Rd_12 tr r0 ?_
      refine jx_get d_Rd_noteName_30 fF_Rd_67 ta f4 ?_
      refine jx_iast d_Rd_noteName_33 tp rfl (jm_vinN (by omega) (by decide)) ?_
      rw [jm_putN (by omega)]
      refine jx_aload_n d_Rd_noteName_34 1 rfl ?_
      refine jx_get d_Rd_noteName_35 fF_Rd_21 tr (jm_rd_a (jm_ne_oa tr tp) r1) ?_
      refine jx_aload_n d_Rd_noteName_38 1 rfl ?_
      refine jx_get d_Rd_noteName_39 fF_Rd_12 tr (jm_rd_a (jm_ne_oa tr tp) r0) ?_
      refine jx_get d_Rd_noteName_42 fF_Rd_53 ta (jm_rd_a (jm_ne_oa ta tp) f5) ?_
      refine jx_callV (M2 := mm_Fm_addName) rfl tf lk_Rd_110 wi_Fm_addName ws_Fm_addName d_Rd_noteName_45 (c_Fm_addName l G (d - 2) ⟨tf, (jm_rd_a (jm_ne_oa tf tp) g0), (jm_rd_a (jm_ne_oa tf tp) g1), (jm_rd_a (jm_ne_oa tf tp) g2), (jm_rd_a (jm_ne_oa tf tp) g3), (jm_rd_a (jm_ne_oa tf tp) g4), (jm_rd_a (jm_ne_oa tf tp) g5), (jm_rd_a (jm_ne_oa tf tp) g6), t1, t2, t3, t4, t5⟩ (by omega) (by omega)) cd_Fm_addName rfl rfl (Nat.le_of_ble_eq_true rfl) (jm_fok (by omega)) (jm_look (by decide) (by omega)) ?_
      exact jx_vret d_Rd_noteName_48 rfl (⟨_, rfl, rfl, (jm_fr.put (jm_fr.put (jm_fr.put (jm_fr.put (jm_fr.put (jm_fr.put jm_fr.rf (by unfold S_rd; omega)) (by unfold S_rd; omega)) (by unfold S_rd; omega)) (by unfold S_rd; omega)) (by unfold S_rd; omega)) (by unfold S_rd; omega)), ⟨tr, (jm_rd_k (by decide) (jm_rd_k (by decide) (jm_rd_a (jm_ne_oa tr t2) (jm_rd_a (jm_ne_oa tr t1) (jm_rd_a (jm_ne_oa tr t3) (jm_rd_a (jm_ne_oa tr tp) r0)))))), (jm_rd_k (by decide) (jm_rd_k (by decide) (jm_rd_a (jm_ne_oa tr t2) (jm_rd_a (jm_ne_oa tr t1) (jm_rd_a (jm_ne_oa tr t3) (jm_rd_a (jm_ne_oa tr tp) r1)))))), (jm_rd_k (by decide) (jm_rd_a (jm_ne_oo tr tf (by decide)) (jm_rd_a (jm_ne_oa tr t2) (jm_rd_a (jm_ne_oa tr t1) (jm_rd_a (jm_ne_oa tr t3) (jm_rd_a (jm_ne_oa tr tp) r2)))))), (jm_rd_k (by decide) (jm_rd_k (by decide) (jm_rd_a (jm_ne_oa tr t2) (jm_rd_a (jm_ne_oa tr t1) (jm_rd_a (jm_ne_oa tr t3) (jm_rd_a (jm_ne_oa tr tp) r3)))))), (jm_rd_k (by decide) (jm_rd_k (by decide) (jm_rd_a (jm_ne_oa tr t2) (jm_rd_a (jm_ne_oa tr t1) (jm_rd_a (jm_ne_oa tr t3) (jm_rd_a (jm_ne_oa tr tp) r4)))))), (jm_rd_k (by decide) (jm_rd_k (by decide) (jm_rd_a (jm_ne_oa tr t2) (jm_rd_a (jm_ne_oa tr t1) (jm_rd_a (jm_ne_oa tr t3) (jm_rd_a (jm_ne_oa tr tp) r5)))))), (jm_rd_a (jm_ne_oo tr tf (by decide)) (jm_rd_k (by decide) (jm_rd_a (jm_ne_oa tr t2) (jm_rd_a (jm_ne_oa tr t1) (jm_rd_a (jm_ne_oa tr t3) (jm_rd_a (jm_ne_oa tr tp) r6)))))), tp, ⟨ta, (jm_rd_k (by decide) (jm_rd_k (by decide) (jm_rd_a (jm_ne_oa ta t2) (jm_rd_a (jm_ne_oa ta t1) (jm_rd_a (jm_ne_oa ta t3) (jm_rd_a (jm_ne_oa ta tp) f0)))))), (jm_rd_k (by decide) (jm_rd_k (by decide) (jm_rd_a (jm_ne_oa ta t2) (jm_rd_a (jm_ne_oa ta t1) (jm_rd_a (jm_ne_oa ta t3) (jm_rd_a (jm_ne_oa ta tp) f1)))))), (jm_rd_k (by decide) (jm_rd_a (jm_ne_oo ta tf (by decide)) (jm_rd_a (jm_ne_oa ta t2) (jm_rd_a (jm_ne_oa ta t1) (jm_rd_a (jm_ne_oa ta t3) (jm_rd_a (jm_ne_oa ta tp) f2)))))), (jm_rd_k (by decide) (jm_rd_k (by decide) (jm_rd_a (jm_ne_oa ta t2) (jm_rd_a (jm_ne_oa ta t1) (jm_rd_a (jm_ne_oa ta t3) (jm_rd_a (jm_ne_oa ta tp) f3)))))), (jm_rd_k (by decide) (jm_rd_k (by decide) (jm_rd_a (jm_ne_oa ta t2) (jm_rd_a (jm_ne_oa ta t1) (jm_rd_a (jm_ne_oa ta t3) (jm_rd_a (jm_ne_oa ta tp) f4)))))), (jm_rd_k (by decide) (jm_rd_k (by decide) (jm_rd_a (jm_ne_oa ta t2) (jm_rd_a (jm_ne_oa ta t1) (jm_rd_a (jm_ne_oa ta t3) (jm_rd_a (jm_ne_oa ta tp) f5)))))), (jm_rd_a (jm_ne_oo ta tf (by decide)) (jm_rd_k (by decide) (jm_rd_a (jm_ne_oa ta t2) (jm_rd_a (jm_ne_oa ta t1) (jm_rd_a (jm_ne_oa ta t3) (jm_rd_a (jm_ne_oa ta tp) f6)))))), tb⟩, (fun j hj => jm_rd_a (Ne.symm (jm_ne_oa tf tb)) ((fun j hj => jm_rd_a (Ne.symm (jm_ne_oa tf tb)) ((fun j hj => jm_rd_a (jm_ne_aa tb t2 (by decide)) ((fun j hj => jm_rd_a (jm_ne_aa tb t1 (by decide)) ((fun j hj => jm_rd_a (jm_ne_aa tb t3 (by decide)) ((fun j hj => jm_rd_a (jm_ne_aa tb tp (by decide)) (hB j hj)) j hj)) j hj)) j hj)) j hj)) j hj)), ⟨tf, (jm_rd_k (by decide) (jm_rd_k (by decide) (jm_rd_a (jm_ne_oa tf t2) (jm_rd_a (jm_ne_oa tf t1) (jm_rd_a (jm_ne_oa tf t3) (jm_rd_a (jm_ne_oa tf tp) g0)))))), (jm_rd_k (by decide) (jm_rd_k (by decide) (jm_rd_a (jm_ne_oa tf t2) (jm_rd_a (jm_ne_oa tf t1) (jm_rd_a (jm_ne_oa tf t3) (jm_rd_a (jm_ne_oa tf tp) g1)))))), (jm_rd_k (by decide) (jm_rd_s _ _ _ _)), (jm_rd_k (by decide) (jm_rd_k (by decide) (jm_rd_a (jm_ne_oa tf t2) (jm_rd_a (jm_ne_oa tf t1) (jm_rd_a (jm_ne_oa tf t3) (jm_rd_a (jm_ne_oa tf tp) g3)))))), (jm_rd_k (by decide) (jm_rd_k (by decide) (jm_rd_a (jm_ne_oa tf t2) (jm_rd_a (jm_ne_oa tf t1) (jm_rd_a (jm_ne_oa tf t3) (jm_rd_a (jm_ne_oa tf tp) g4)))))), (jm_rd_k (by decide) (jm_rd_k (by decide) (jm_rd_a (jm_ne_oa tf t2) (jm_rd_a (jm_ne_oa tf t1) (jm_rd_a (jm_ne_oa tf t3) (jm_rd_a (jm_ne_oa tf tp) g5)))))), (jm_rd_s _ _ _ _), t1, t2, t3, t4, t5⟩, (arI.keep (arI.keep (arI.keep (arI.put (arI.keep (arI.keep hST (by omega)) (jm_ne_aa t1 t3 (by decide)))) (by omega)) (Ne.symm (jm_ne_oa tf t1))) (Ne.symm (jm_ne_oa tf t1))), (arI.keep (arI.keep (arI.put (arI.keep (arI.keep (arI.keep hDT (by omega)) (jm_ne_aa t2 t3 (by decide))) (by omega))) (Ne.symm (jm_ne_oa tf t2))) (Ne.symm (jm_ne_oa tf t2))), (arL.keep (arL.keep (arL.keep (arL.keep (arL.put (arL.keep hNA (jm_ne_aa t3 tp (by decide)))) (jm_ne_aa t3 t1 (by decide))) (jm_ne_aa t3 t2 (by decide))) (Ne.symm (jm_ne_oa tf t3))) (Ne.symm (jm_ne_oa tf t3))), (arI.keep (arI.keep (arI.keep (arI.keep (arI.keep (arI.put hPL) (jm_ne_aa tp t3 (by decide))) (by omega)) (by omega)) (Ne.symm (jm_ne_oa tf tp))) (Ne.symm (jm_ne_oa tf tp))), hdis, hcn, hcs⟩⟩)
set_option maxHeartbeats 4000000 in
set_option maxRecDepth 100000 in
theorem c_Rd_noteName_fullN (l : Launch) (G : jm_G) (d : Nat) (hd : 3 ≤ d) {h : jm_H} {r f n : Nat} {B : Nat → Int32} {c : Cur} {k L N : Nat} {ST DT : Nat → Int32} {NA : Nat → Int64} {PL : Nat → Int32} {fc fp : Int32} {nme : Int64} (hS : RdS h r f n B c k L N ST DT NA PL fc fp nme) (hN : 40 ≤ N) (hN2 : N < 2 ^ 31) (hn : n ≤ 2000) : jm_CP l G mm_Rd_noteName d [.ref r] h (fun v h9 => v = none ∧ jm_fr (S_rd r f) h h9 ∧ RdS h9 r f n B c k L N ST DT NA PL fc fp nme) := by
  obtain ⟨tr, r0, r1, r2, r3, r4, r5, r6, tp, ⟨ta, f0, f1, f2, f3, f4, f5, f6, tb⟩, hB, ⟨tf, g0, g1, g2, g3, g4, g5, g6, t1, t2, t3, t4, t5⟩, hST, hDT, hNA, hPL, hdis, hcn, hcs⟩ := id hS
  refine jm_of (by decide) rfl (Nat.le_of_ble_eq_true rfl) ?_
  refine jx_aload_n d_Rd_noteName_0 0 rfl ?_
  refine jx_get d_Rd_noteName_1 fF_Rd_21 tr r1 ?_
  refine jx_get d_Rd_noteName_4 fF_Rd_107 tf g6 ?_
  refine jx_istore_n (lv' := [(1, .int (nI (N))), (0, .ref (r))]) d_Rd_noteName_7 (by decide) rfl ?_
  refine jx_iload_n d_Rd_noteName_8 0 rfl ?_
  refine jx_if_ltN (tgt := 34) (N) d_Rd_noteName_9 rfl (by omega) (by decide) (fun c1 => ?_) (fun c1 => ?_)
  · omega
  ·
    refine jx_iload_n d_Rd_noteName_12 0 rfl ?_
    refine jx_aload_n d_Rd_noteName_13 1 rfl ?_
    refine jx_get d_Rd_noteName_14 fF_Rd_39 tr r6 ?_
    refine jx_alen (v0 := 40) d_Rd_noteName_17 tp (by decide) ?_
    refine jx_icmp_geN (tgt := 34) (N) (40) d_Rd_noteName_18 rfl rfl (by omega) (by omega) (by decide) (fun c2 => ?_) (fun c2 => ?_)
    ·
      refine jx_aload_n d_Rd_noteName_34 1 rfl ?_
      refine jx_get d_Rd_noteName_35 fF_Rd_21 tr r1 ?_
      refine jx_aload_n d_Rd_noteName_38 1 rfl ?_
      refine jx_get d_Rd_noteName_39 fF_Rd_12 tr r0 ?_
      refine jx_get d_Rd_noteName_42 fF_Rd_53 ta f5 ?_
      refine jx_callV (M2 := mm_Fm_addName) rfl tf lk_Rd_110 wi_Fm_addName ws_Fm_addName d_Rd_noteName_45 (c_Fm_addName_full l G (d - 1) ⟨tf, g0, g1, g2, g3, g4, g5, g6, t1, t2, t3, t4, t5⟩ (by omega) (by omega)) cd_Fm_addName rfl rfl (Nat.le_of_ble_eq_true rfl) (jm_fok (by omega)) (jm_look (by decide) (by omega)) ?_
      exact jx_vret d_Rd_noteName_48 rfl (⟨_, rfl, rfl, jm_fr.rf, ⟨tr, r0, r1, r2, r3, r4, r5, r6, tp, ⟨ta, f0, f1, f2, f3, f4, f5, f6, tb⟩, hB, ⟨tf, g0, g1, g2, g3, g4, g5, g6, t1, t2, t3, t4, t5⟩, hST, hDT, hNA, hPL, hdis, hcn, hcs⟩⟩)
    · omega
set_option maxHeartbeats 4000000 in
set_option maxRecDepth 100000 in
theorem c_Rd_noteName_fullS (l : Launch) (G : jm_G) (d : Nat) (hd : 3 ≤ d) {h : jm_H} {r f n : Nat} {B : Nat → Int32} {c : Cur} {k L N : Nat} {ST DT : Nat → Int32} {NA : Nat → Int64} {PL : Nat → Int32} {fc fp : Int32} {nme : Int64} (hS : RdS h r f n B c k L N ST DT NA PL fc fp nme) (hL : 80 ≤ L) (hL2 : L < 2 ^ 31) (hN : N < 40) (hn : n ≤ 2000) : jm_CP l G mm_Rd_noteName d [.ref r] h (fun v h9 => v = none ∧ jm_fr (S_rd r f) h h9 ∧ ∃ NA9 PL9, RdS h9 r f n B c k L (N + 1) ST DT NA9 PL9 fc fp nme) := by
  obtain ⟨tr, r0, r1, r2, r3, r4, r5, r6, tp, ⟨ta, f0, f1, f2, f3, f4, f5, f6, tb⟩, hB, ⟨tf, g0, g1, g2, g3, g4, g5, g6, t1, t2, t3, t4, t5⟩, hST, hDT, hNA, hPL, hdis, hcn, hcs⟩ := id hS
  refine jm_of (by decide) rfl (Nat.le_of_ble_eq_true rfl) ?_
  refine jx_aload_n d_Rd_noteName_0 0 rfl ?_
  refine jx_get d_Rd_noteName_1 fF_Rd_21 tr r1 ?_
  refine jx_get d_Rd_noteName_4 fF_Rd_107 tf g6 ?_
  refine jx_istore_n (lv' := [(1, .int (nI (N))), (0, .ref (r))]) d_Rd_noteName_7 (by decide) rfl ?_
  refine jx_iload_n d_Rd_noteName_8 0 rfl ?_
  refine jx_if_ltN (tgt := 34) (N) d_Rd_noteName_9 rfl (by omega) (by decide) (fun c1 => ?_) (fun c1 => ?_)
  · omega
  ·
    refine jx_iload_n d_Rd_noteName_12 0 rfl ?_
    refine jx_aload_n d_Rd_noteName_13 1 rfl ?_
    refine jx_get d_Rd_noteName_14 fF_Rd_39 tr r6 ?_
    refine jx_alen (v0 := 40) d_Rd_noteName_17 tp (by decide) ?_
    refine jx_icmp_geN (tgt := 34) (N) (40) d_Rd_noteName_18 rfl rfl (by omega) (by omega) (by decide) (fun c2 => ?_) (fun c2 => ?_)
    · omega
    ·
      refine jx_aload_n d_Rd_noteName_21 1 rfl ?_
      refine jx_get d_Rd_noteName_22 fF_Rd_39 tr r6 ?_
      refine jx_iload_n d_Rd_noteName_25 0 rfl ?_
      refine jx_aload_n d_Rd_noteName_26 1 rfl ?_
      refine jx_get d_Rd_noteName_27 fF_Rd_12 tr r0 ?_
      refine jx_get d_Rd_noteName_30 fF_Rd_67 ta f4 ?_
      refine jx_iast d_Rd_noteName_33 tp rfl (jm_vinN (by omega) (by decide)) ?_
      rw [jm_putN (by omega)]
      refine jx_aload_n d_Rd_noteName_34 1 rfl ?_
      refine jx_get d_Rd_noteName_35 fF_Rd_21 tr (jm_rd_a (jm_ne_oa tr tp) r1) ?_
      refine jx_aload_n d_Rd_noteName_38 1 rfl ?_
      refine jx_get d_Rd_noteName_39 fF_Rd_12 tr (jm_rd_a (jm_ne_oa tr tp) r0) ?_
      refine jx_get d_Rd_noteName_42 fF_Rd_53 ta (jm_rd_a (jm_ne_oa ta tp) f5) ?_
      refine jx_callV (M2 := mm_Fm_addName) rfl tf lk_Rd_110 wi_Fm_addName ws_Fm_addName d_Rd_noteName_45 (c_Fm_addName_fullS l G (d - 2) ⟨tf, (jm_rd_a (jm_ne_oa tf tp) g0), (jm_rd_a (jm_ne_oa tf tp) g1), (jm_rd_a (jm_ne_oa tf tp) g2), (jm_rd_a (jm_ne_oa tf tp) g3), (jm_rd_a (jm_ne_oa tf tp) g4), (jm_rd_a (jm_ne_oa tf tp) g5), (jm_rd_a (jm_ne_oa tf tp) g6), t1, t2, t3, t4, t5⟩ (by omega) (by omega) (by omega)) cd_Fm_addName rfl rfl (Nat.le_of_ble_eq_true rfl) (jm_fok (by omega)) (jm_look (by decide) (by omega)) ?_
      exact jx_vret d_Rd_noteName_48 rfl (⟨_, rfl, rfl, (jm_fr.put (jm_fr.put (jm_fr.put jm_fr.rf (by unfold S_rd; omega)) (by unfold S_rd; omega)) (by unfold S_rd; omega)), _, _, tr, (jm_rd_k (by decide) (jm_rd_a (jm_ne_oa tr t3) (jm_rd_a (jm_ne_oa tr tp) r0))), (jm_rd_k (by decide) (jm_rd_a (jm_ne_oa tr t3) (jm_rd_a (jm_ne_oa tr tp) r1))), (jm_rd_k (by decide) (jm_rd_a (jm_ne_oa tr t3) (jm_rd_a (jm_ne_oa tr tp) r2))), (jm_rd_k (by decide) (jm_rd_a (jm_ne_oa tr t3) (jm_rd_a (jm_ne_oa tr tp) r3))), (jm_rd_k (by decide) (jm_rd_a (jm_ne_oa tr t3) (jm_rd_a (jm_ne_oa tr tp) r4))), (jm_rd_k (by decide) (jm_rd_a (jm_ne_oa tr t3) (jm_rd_a (jm_ne_oa tr tp) r5))), (jm_rd_a (jm_ne_oo tr tf (by decide)) (jm_rd_a (jm_ne_oa tr t3) (jm_rd_a (jm_ne_oa tr tp) r6))), tp, ⟨ta, (jm_rd_k (by decide) (jm_rd_a (jm_ne_oa ta t3) (jm_rd_a (jm_ne_oa ta tp) f0))), (jm_rd_k (by decide) (jm_rd_a (jm_ne_oa ta t3) (jm_rd_a (jm_ne_oa ta tp) f1))), (jm_rd_k (by decide) (jm_rd_a (jm_ne_oa ta t3) (jm_rd_a (jm_ne_oa ta tp) f2))), (jm_rd_k (by decide) (jm_rd_a (jm_ne_oa ta t3) (jm_rd_a (jm_ne_oa ta tp) f3))), (jm_rd_k (by decide) (jm_rd_a (jm_ne_oa ta t3) (jm_rd_a (jm_ne_oa ta tp) f4))), (jm_rd_k (by decide) (jm_rd_a (jm_ne_oa ta t3) (jm_rd_a (jm_ne_oa ta tp) f5))), (jm_rd_a (jm_ne_oo ta tf (by decide)) (jm_rd_a (jm_ne_oa ta t3) (jm_rd_a (jm_ne_oa ta tp) f6))), tb⟩, (fun j hj => jm_rd_a (Ne.symm (jm_ne_oa tf tb)) ((fun j hj => jm_rd_a (jm_ne_aa tb t3 (by decide)) ((fun j hj => jm_rd_a (jm_ne_aa tb tp (by decide)) (hB j hj)) j hj)) j hj)), ⟨tf, (jm_rd_k (by decide) (jm_rd_a (jm_ne_oa tf t3) (jm_rd_a (jm_ne_oa tf tp) g0))), (jm_rd_k (by decide) (jm_rd_a (jm_ne_oa tf t3) (jm_rd_a (jm_ne_oa tf tp) g1))), (jm_rd_k (by decide) (jm_rd_a (jm_ne_oa tf t3) (jm_rd_a (jm_ne_oa tf tp) g2))), (jm_rd_k (by decide) (jm_rd_a (jm_ne_oa tf t3) (jm_rd_a (jm_ne_oa tf tp) g3))), (jm_rd_k (by decide) (jm_rd_a (jm_ne_oa tf t3) (jm_rd_a (jm_ne_oa tf tp) g4))), (jm_rd_k (by decide) (jm_rd_a (jm_ne_oa tf t3) (jm_rd_a (jm_ne_oa tf tp) g5))), (jm_rd_s _ _ _ _), t1, t2, t3, t4, t5⟩, (arI.keep (arI.keep (arI.keep hST (by omega)) (jm_ne_aa t1 t3 (by decide))) (Ne.symm (jm_ne_oa tf t1))), (arI.keep (arI.keep (arI.keep hDT (by omega)) (jm_ne_aa t2 t3 (by decide))) (Ne.symm (jm_ne_oa tf t2))), (arL.keep (arL.put (arL.keep hNA (jm_ne_aa t3 tp (by decide)))) (Ne.symm (jm_ne_oa tf t3))), (arI.keep (arI.keep (arI.put hPL) (jm_ne_aa tp t3 (by decide))) (Ne.symm (jm_ne_oa tf tp))), hdis, hcn, hcs⟩)
