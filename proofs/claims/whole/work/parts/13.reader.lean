theorem jm_fok {G : jm_G} {D n0 s0 d : Nat} (h : d + 1 ≤ D) : d + 1 ≤ (jm_zn G D n0 s0).1 := h
theorem jm_look {G : jm_G} {D n0 s0 d m : Nat} (hm : m ≤ 45) (h : d + 1 ≤ D) : 19 + m + jm_lo d ≤ (jm_zn G D n0 s0).2.1 := by
  show 19 + m + jm_lo d ≤ jm_lo D
  unfold jm_lo
  omega
/-- only cells of S have changed, none was made -/
def jm_fr (S : Nat → Prop) (h h' : jm_H) : Prop := h'.1 = h.1 ∧ h'.2.1 = h.2.1 ∧ h'.2.2.1 = h.2.2.1 ∧ ∀ b, ¬ S b → ∀ j, h'.2.2.2 b j = h.2.2.2 b j
theorem jm_fr.rf {S : Nat → Prop} {h : jm_H} : jm_fr S h h := ⟨rfl, rfl, rfl, fun _ _ _ => rfl⟩
theorem jm_fr.trans {S : Nat → Prop} {h h1 h2 : jm_H} (a : jm_fr S h h1) (b : jm_fr S h1 h2) : jm_fr S h h2 := ⟨b.1.trans a.1, b.2.1.trans a.2.1, b.2.2.1.trans a.2.2.1, fun x hx j => (b.2.2.2 x hx j).trans (a.2.2.2 x hx j)⟩
theorem jm_fr.put {S : Nat → Prop} {h h1 : jm_H} {a k : Nat} {v : Value} (p : jm_fr S h h1) (ha : S a) : jm_fr S h (jm_put h1 a k v) := ⟨p.1, p.2.1, p.2.2.1, fun x hx j => by
  rw [jm_put_ne h1 k v (fun e => hx (by rw [e]; exact ha))]
  exact p.2.2.2 x hx j⟩
theorem jm_fr.weak {S S' : Nat → Prop} {h h1 : jm_H} (p : jm_fr S h h1) (hS : ∀ b, S b → S' b) : jm_fr S' h h1 := ⟨p.1, p.2.1, p.2.2.1, fun x hx j => p.2.2.2 x (fun q => hx (hS x q)) j⟩
def S_rd (r f b : Nat) : Prop := b = r ∨ b = r + 1 ∨ b = r + 9 ∨ (f ≤ b ∧ b ≤ f + 5)
/-- a Reader at r (its Tape at r + 1, the bytes at r + 2, places at r + 9), its Formula at f: the token, nodes, steps, names, the latest fault -/
def RdS (h : jm_H) (r f n : Nat) (B : Nat → Int32) (c : Cur) (k L N : Nat) (ST DT : Nat → Int32) (NA : Nat → Int64) (PL : Nat → Int32) (fc fp : Int32) (nme : Int64) : Prop :=
  h.2.2.1 r = (jm_o 1, 7) ∧ h.2.2.2 r 0 = .ref (r + 1) ∧ h.2.2.2 r 1 = .ref f ∧ h.2.2.2 r 2 = .long nme ∧ h.2.2.2 r 3 = .int fc ∧ h.2.2.2 r 4 = .int fp ∧ h.2.2.2 r 5 = .int (nI k) ∧ h.2.2.2 r 6 = .ref (r + 9) ∧ h.2.2.1 (r + 9) = (jm_a 1, 40) ∧
  TpA h (r + 1) (r + 2) n c.2.2.1 c.1 c.2.1 c.2.2.2.1 c.2.2.2.2 ∧ TpB h (r + 2) B ∧ FmA h f L N ∧ arI h (f + 1) 80 ST ∧ arI h (f + 2) 80 DT ∧ arL h (f + 3) 40 NA ∧ arI h (r + 9) 40 PL ∧ (f = r + 3 ∨ r + 10 ≤ f) ∧ c.2.2.1 ≤ n ∧ c.2.1 ≤ n
theorem jm_fr.tok {r f n p : Nat} {h : jm_H} {B : Nat → Int32} {nm : Int64} {nu : Int32} : jm_fr (S_rd r f) h (tp_tok h (r + 1) n B p nm nu) := by
  have hs : S_rd r f (r + 1) := Or.inr (Or.inl rfl)
  exact ((((jm_fr.rf.put hs).put hs).put hs).put hs).put hs
theorem RdS.tok {h : jm_H} {r f n : Nat} {B : Nat → Int32} {c : Cur} {k L N : Nat} {ST DT : Nat → Int32} {NA : Nat → Int64} {PL : Nat → Int32} {fc fp : Int32} {nme : Int64} (hS : RdS h r f n B c k L N ST DT NA PL fc fp nme) : RdS (tp_tok h (r + 1) n B c.2.2.1 c.2.2.2.1 c.2.2.2.2) r f n B (cu_adv B n c) k L N ST DT NA PL fc fp nme := by
  obtain ⟨tr, r0, r1, r2, r3, r4, r5, r6, tp, hT, hB, hF, hST, hDT, hNA, hPL, hdis, hcn, hcs⟩ := hS
  obtain ⟨tf, g0, g1, g2, g3, g4, g5, g6, t1, t2, t3, t4, t5⟩ := id hF
  have ta := hT.1
  have n1 : r ≠ r + 1 := by omega
  have n2 : f ≠ r + 1 := jm_ne_oo tf ta (by decide)
  have n3 : f + 1 ≠ r + 1 := by omega
  have n4 : f + 2 ≠ r + 1 := by omega
  have n5 : f + 3 ≠ r + 1 := by omega
  have n6 : r + 9 ≠ r + 1 := by omega
  have hq := q_skip_le B n c.2.2.1 hcn
  have hq2 := q_tok_le B n (q_skip B n c.2.2.1) c.2.2.2.1 c.2.2.2.2 hq.2
  refine ⟨tr, ?_, ?_, ?_, ?_, ?_, ?_, ?_, tp, hT.tok, TpB.tok hT hB, ⟨tf, ?_, ?_, ?_, ?_, ?_, ?_, ?_, t1, t2, t3, t4, t5⟩, fun j hj => ?_, fun j hj => ?_, fun j hj => ?_, fun j hj => ?_, hdis, hq2.2, hq.2⟩
  · simp [tp_tok, tp_set, jm_put, r0]
  · simp [tp_tok, tp_set, jm_put, r1]
  · simp [tp_tok, tp_set, jm_put, r2]
  · simp [tp_tok, tp_set, jm_put, r3]
  · simp [tp_tok, tp_set, jm_put, r4]
  · simp [tp_tok, tp_set, jm_put, r5]
  · simp [tp_tok, tp_set, jm_put, r6]
  · simp [tp_tok, tp_set, jm_put, n2, g0]
  · simp [tp_tok, tp_set, jm_put, n2, g1]
  · simp [tp_tok, tp_set, jm_put, n2, g2]
  · simp [tp_tok, tp_set, jm_put, n2, g3]
  · simp [tp_tok, tp_set, jm_put, n2, g4]
  · simp [tp_tok, tp_set, jm_put, n2, g5]
  · simp [tp_tok, tp_set, jm_put, n2, g6]
  · have := hST j hj
    simp only [tp_tok, tp_set, jm_put, n3, false_and, if_false]
    exact this
  · have := hDT j hj
    simp only [tp_tok, tp_set, jm_put, n4, false_and, if_false]
    exact this
  · have := hNA j hj
    simp only [tp_tok, tp_set, jm_put, n5, false_and, if_false]
    exact this
  · have := hPL j hj
    simp only [tp_tok, tp_set, jm_put, n6, false_and, if_false]
    exact this
/-- behind a fault: its code and place are noted, the rest is whatever it is -/
def FO (h : jm_H) (r f n : Nat) (B : Nat → Int32) (nme : Int64) (e : Flt) : Prop := ∃ (c : Cur) (k L N : Nat) (ST DT : Nat → Int32) (NA : Nat → Int64) (PL : Nat → Int32), RdS h r f n B c k L N ST DT NA PL e.1 (nI e.2) nme ∧ L < 2 ^ 31 ∧ N < 2 ^ 31
/-- a token was passed, or not -/
def OutX (x : Flt ⊕ Cur) (v : Option Value) (h : jm_H) (r f n : Nat) (B : Nat → Int32) (k L N : Nat) (ST DT : Nat → Int32) (NA : Nat → Int64) (PL : Nat → Int32) (fc fp : Int32) (nme : Int64) : Prop := match x with
  | .inl e => v = some (.int 0) ∧ FO h r f n B nme e
  | .inr c => v = some (.int 1) ∧ RdS h r f n B c k L N ST DT NA PL fc fp nme
def SegOK (t : Term) (L N k L1 N1 k1 : Nat) (ST DT ST1 DT1 : Nat → Int32) (NA NA1 : Nat → Int64) (PL PL1 : Nat → Int32) : Prop := Tree t ∧ Code ST1 DT1 NA1 PL1 t L N L1 N1 ∧ (∀ j, j < L → ST1 j = ST j ∧ DT1 j = DT j) ∧ (∀ j, j < N → NA1 j = NA j ∧ PL1 j = PL j) ∧ L1 + 2 * k + 1 ≤ L + 2 * k1 ∧ N1 + k ≤ N + k1 ∧ k < k1 ∧ k1 ≤ 40
/-- a tree was read, or there is a fault -/
def OutR (res : PR) (v : Option Value) (h : jm_H) (r f n : Nat) (B : Nat → Int32) (k L N : Nat) (ST DT : Nat → Int32) (NA : Nat → Int64) (PL : Nat → Int32) (fc fp : Int32) (nme : Int64) : Prop := match res with
  | .inl e => v = some (.int 0) ∧ FO h r f n B nme e
  | .inr y => v = some (.int 1) ∧ ∃ (L1 N1 : Nat) (ST1 DT1 : Nat → Int32) (NA1 : Nat → Int64) (PL1 : Nat → Int32), RdS h r f n B y.2.1 y.2.2 L1 N1 ST1 DT1 NA1 PL1 fc fp nme ∧ SegOK y.1 L N k L1 N1 y.2.2 ST DT ST1 DT1 NA NA1 PL PL1
set_option maxHeartbeats 4000000 in
set_option maxRecDepth 100000 in
theorem c_Rd_refuseAt (l : Launch) (G : jm_G) (d : Nat) {h : jm_H} {r f n : Nat} {B : Nat → Int32} {c : Cur} {k L N : Nat} {ST DT : Nat → Int32} {NA : Nat → Int64} {PL : Nat → Int32} {fc fp : Int32} {nme : Int64} {q p : Int32} (hS : RdS h r f n B c k L N ST DT NA PL fc fp nme) : jm_C l G mm_Rd_refuseAt d [.ref r, .int q, .int p] h none (jm_put (jm_put h r 3 (.int q)) r 4 (.int p)) := by
  obtain ⟨tr, r0, r1, r2, r3, r4, r5, r6, tp, ⟨ta, f0, f1, f2, f3, f4, f5, f6, tb⟩, hB, ⟨tf, g0, g1, g2, g3, g4, g5, g6, t1, t2, t3, t4, t5⟩, hST, hDT, hNA, hPL, hdis, hcn, hcs⟩ := id hS
  refine jm_ofE (by decide) rfl (Nat.le_of_ble_eq_true rfl) ?_
  refine jx_aload_n d_Rd_refuseAt_0 0 rfl ?_
  refine jx_iload_n d_Rd_refuseAt_1 1 rfl ?_
  refine jx_put (v0 := .int (q)) d_Rd_refuseAt_2 fF_Rd_29 jv_Rd ft_Rd_faultCode tr rfl rfl ?_
  refine jx_aload_n d_Rd_refuseAt_5 0 rfl ?_
  refine jx_iload_n d_Rd_refuseAt_6 2 rfl ?_
  refine jx_put (v0 := .int (p)) d_Rd_refuseAt_7 fF_Rd_33 jv_Rd ft_Rd_faultPlace tr rfl rfl ?_
  exact jx_vret d_Rd_refuseAt_10 rfl (⟨rfl, rfl⟩)
set_option maxHeartbeats 4000000 in
set_option maxRecDepth 100000 in
theorem c_Rd_refuse (l : Launch) (G : jm_G) (d : Nat) (hd : 1 ≤ d) {h : jm_H} {r f n : Nat} {B : Nat → Int32} {c : Cur} {k L N : Nat} {ST DT : Nat → Int32} {NA : Nat → Int64} {PL : Nat → Int32} {fc fp : Int32} {nme : Int64} {q : Int32} (hS : RdS h r f n B c k L N ST DT NA PL fc fp nme) : jm_C l G mm_Rd_refuse d [.ref r, .int q] h (some (.int 0)) (jm_put (jm_put h r 3 (.int q)) r 4 (.int (nI c.2.1))) := by
  obtain ⟨tr, r0, r1, r2, r3, r4, r5, r6, tp, ⟨ta, f0, f1, f2, f3, f4, f5, f6, tb⟩, hB, ⟨tf, g0, g1, g2, g3, g4, g5, g6, t1, t2, t3, t4, t5⟩, hST, hDT, hNA, hPL, hdis, hcn, hcs⟩ := id hS
  refine jm_ofE (by decide) rfl (Nat.le_of_ble_eq_true rfl) ?_
  refine jx_aload_n d_Rd_refuse_0 0 rfl ?_
  refine jx_iload_n d_Rd_refuse_1 1 rfl ?_
  refine jx_aload_n d_Rd_refuse_2 0 rfl ?_
  refine jx_get d_Rd_refuse_3 fF_Rd_12 tr r0 ?_
  refine jx_get d_Rd_refuse_6 fF_Rd_67 ta f4 ?_
  refine jx_callV (M2 := mm_Rd_refuseAt) rfl tr lk_Rd_70 wi_Rd_refuseAt ws_Rd_refuseAt d_Rd_refuse_9 (c_Rd_refuseAt l G (d - 1) ⟨tr, r0, r1, r2, r3, r4, r5, r6, tp, ⟨ta, f0, f1, f2, f3, f4, f5, f6, tb⟩, hB, ⟨tf, g0, g1, g2, g3, g4, g5, g6, t1, t2, t3, t4, t5⟩, hST, hDT, hNA, hPL, hdis, hcn, hcs⟩) cd_Rd_refuseAt rfl rfl (Nat.le_of_ble_eq_true rfl) (jm_fok (by omega)) (jm_look (by decide) (by omega)) ?_
  refine jx_iconst (v0 := 0) d_Rd_refuse_12 (by decide) ?_
  exact jx_zret d_Rd_refuse_13 rfl (by first | rfl | decide) (⟨rfl, rfl⟩)
set_option maxHeartbeats 4000000 in
set_option maxRecDepth 100000 in
theorem c_Rd_pass (l : Launch) (G : jm_G) (d : Nat) (hd : 3 ≤ d) {h : jm_H} {r f n : Nat} {B : Nat → Int32} {c : Cur} {k L N : Nat} {ST DT : Nat → Int32} {NA : Nat → Int64} {PL : Nat → Int32} {fc fp : Int32} {nme : Int64} (hS : RdS h r f n B c k L N ST DT NA PL fc fp nme) (hn : n ≤ 2000) (hLb : L < 2 ^ 31) (hNb : N < 2 ^ 31) : jm_CP l G mm_Rd_pass d [.ref r] h (fun v h9 => jm_fr (S_rd r f) h h9 ∧ OutX (p_pass B n c) v h9 r f n B k L N ST DT NA PL fc fp nme) := by
  obtain ⟨tr, r0, r1, r2, r3, r4, r5, r6, tp, ⟨ta, f0, f1, f2, f3, f4, f5, f6, tb⟩, hB, ⟨tf, g0, g1, g2, g3, g4, g5, g6, t1, t2, t3, t4, t5⟩, hST, hDT, hNA, hPL, hdis, hcn, hcs⟩ := id hS
  refine jm_of (by decide) rfl (Nat.le_of_ble_eq_true rfl) ?_
  refine jx_aload_n d_Rd_pass_0 0 rfl ?_
  refine jx_get d_Rd_pass_1 fF_Rd_12 tr r0 ?_
  have hS1 := hS.tok
  obtain ⟨tr1, r01, r11, r21, r31, r41, r51, r61, tp1, ⟨ta1, f01, f11, f21, f31, f41, f51, f61, tb1⟩, hB1, ⟨tf1, g01, g11, g21, g31, g41, g51, g61, t11, t21, t31, t41, t51⟩, hST1, hDT1, hNA1, hPL1, hdis1, hcn1, hcs1⟩ := id hS1
  refine jx_callV (M2 := mm_Tp_readToken) rfl ta lk_Rd_74 wi_Tp_readToken ws_Tp_readToken d_Rd_pass_4 (c_Tp_readToken l G (d - 3) ⟨ta, f0, f1, f2, f3, f4, f5, f6, tb⟩ hB hn hcn) cd_Tp_readToken rfl rfl (Nat.le_of_ble_eq_true rfl) (jm_fok (by omega)) (jm_look (by decide) (by omega)) ?_
  refine jx_aload_n d_Rd_pass_7 0 rfl ?_
  refine jx_get d_Rd_pass_8 fF_Rd_12 tr1 r01 ?_
  refine jx_get d_Rd_pass_11 fF_Rd_61 ta1 f31 ?_
  refine jx_iconst (v0 := 1) d_Rd_pass_14 (by decide) ?_
  refine jx_icmp_ne (tgt := 26) d_Rd_pass_15 (by decide) (fun c1 => ?_) (fun c1 => ?_)
  ·
    refine jx_iconst (v0 := 1) d_Rd_pass_26 (by decide) ?_
    refine jx_goto (tgt := 31) d_Rd_pass_27 (by decide) ?_
    exact jx_zret d_Rd_pass_31 rfl (by first | rfl | decide) (⟨_, rfl, jm_fr.tok, by rw [p_pass, if_neg c1]; exact ⟨rfl, ⟨tr1, r01, r11, r21, r31, r41, r51, r61, tp1, ⟨ta1, f01, f11, f21, f31, f41, f51, f61, tb1⟩, hB1, ⟨tf1, g01, g11, g21, g31, g41, g51, g61, t11, t21, t31, t41, t51⟩, hST1, hDT1, hNA1, hPL1, hdis1, hcn1, hcs1⟩⟩⟩)
  ·
    refine jx_aload_n d_Rd_pass_18 0 rfl ?_
    refine jx_iconst (v0 := 1) d_Rd_pass_19 (by decide) ?_
    refine jx_callV (M2 := mm_Rd_refuse) rfl tr1 lk_Rd_64 wi_Rd_refuse ws_Rd_refuse d_Rd_pass_20 (c_Rd_refuse l G (d - 1) (by omega) ⟨tr1, r01, r11, r21, r31, r41, r51, r61, tp1, ⟨ta1, f01, f11, f21, f31, f41, f51, f61, tb1⟩, hB1, ⟨tf1, g01, g11, g21, g31, g41, g51, g61, t11, t21, t31, t41, t51⟩, hST1, hDT1, hNA1, hPL1, hdis1, hcn1, hcs1⟩) cd_Rd_refuse rfl rfl (Nat.le_of_ble_eq_true rfl) (jm_fok (by omega)) (jm_look (by decide) (by omega)) ?_
    refine jx_if_eq (tgt := 30) d_Rd_pass_23 (by decide) (fun c2 => ?_) (fun c2 => absurd c2 (by decide))
    refine jx_iconst (v0 := 0) d_Rd_pass_30 (by decide) ?_
    exact jx_zret d_Rd_pass_31 rfl (by first | rfl | decide) (⟨_, rfl, (jm_fr.put (jm_fr.put jm_fr.tok (by unfold S_rd; omega)) (by unfold S_rd; omega)), by rw [p_pass, if_pos c1]; exact ⟨rfl, _, _, _, _, _, _, _, _, ⟨tr1, (jm_rd_k (by decide) (jm_rd_k (by decide) r01)), (jm_rd_k (by decide) (jm_rd_k (by decide) r11)), (jm_rd_k (by decide) (jm_rd_k (by decide) r21)), (jm_rd_k (by decide) (jm_rd_s _ _ _ _)), (jm_rd_s _ _ _ _), (jm_rd_k (by decide) (jm_rd_k (by decide) r51)), (jm_rd_k (by decide) (jm_rd_k (by decide) r61)), tp1, ⟨ta1, (jm_rd_k (by decide) (jm_rd_k (by decide) f01)), (jm_rd_k (by decide) (jm_rd_k (by decide) f11)), (jm_rd_k (by decide) (jm_rd_k (by decide) f21)), (jm_rd_k (by decide) (jm_rd_a (jm_ne_oo ta1 tr1 (by decide)) f31)), (jm_rd_a (jm_ne_oo ta1 tr1 (by decide)) (jm_rd_k (by decide) f41)), (jm_rd_k (by decide) (jm_rd_k (by decide) f51)), (jm_rd_k (by decide) (jm_rd_k (by decide) f61)), tb1⟩, (fun j hj => jm_rd_a (Ne.symm (jm_ne_oa tr1 tb1)) ((fun j hj => jm_rd_a (Ne.symm (jm_ne_oa tr1 tb1)) (hB1 j hj)) j hj)), ⟨tf1, (jm_rd_k (by decide) (jm_rd_k (by decide) g01)), (jm_rd_k (by decide) (jm_rd_k (by decide) g11)), (jm_rd_k (by decide) (jm_rd_k (by decide) g21)), (jm_rd_k (by decide) (jm_rd_a (jm_ne_oo tf1 tr1 (by decide)) g31)), (jm_rd_a (jm_ne_oo tf1 tr1 (by decide)) (jm_rd_k (by decide) g41)), (jm_rd_k (by decide) (jm_rd_k (by decide) g51)), (jm_rd_k (by decide) (jm_rd_k (by decide) g61)), t11, t21, t31, t41, t51⟩, (arI.keep (arI.keep hST1 (Ne.symm (jm_ne_oa tr1 t11))) (Ne.symm (jm_ne_oa tr1 t11))), (arI.keep (arI.keep hDT1 (Ne.symm (jm_ne_oa tr1 t21))) (Ne.symm (jm_ne_oa tr1 t21))), (arL.keep (arL.keep hNA1 (Ne.symm (jm_ne_oa tr1 t31))) (Ne.symm (jm_ne_oa tr1 t31))), (arI.keep (arI.keep hPL1 (Ne.symm (jm_ne_oa tr1 tp1))) (Ne.symm (jm_ne_oa tr1 tp1))), hdis1, hcn1, hcs1⟩, hLb, hNb⟩⟩)
