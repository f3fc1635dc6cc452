theorem p_node_lt {B : Nat → Int32} {n k : Nat} {c c1 : Cur} (h : p_node B n c k = .inr c1) : k < 40 := by
  unfold p_node at h
  split at h
  · assumption
  · cases h
theorem p_open_lt {B : Nat → Int32} {n dp : Nat} {c c1 : Cur} (h : p_open B n dp c = .inr c1) : dp < 20 := by
  unfold p_open at h
  split at h
  · split at h
    · assumption
    · cases h
  · cases h
theorem jm_up_lt {α : Type} {F : Nat → α} {k j : Nat} {v : α} (h : j < k) : jm_up F k v j = F j := if_neg (by omega)
theorem jm_up_ne {α : Type} {F : Nat → α} {k j : Nat} {v : α} (h : j ≠ k) : jm_up F k v j = F j := if_neg h
theorem jm_up_eq {α : Type} {F : Nat → α} {k : Nat} {v : α} : jm_up F k v k = v := if_pos rfl
theorem SegOK.num {L N k : Nat} {ST DT : Nat → Int32} {NA : Nat → Int64} {PL : Nat → Int32} {v : Int32} (hk : k < 40) : SegOK (.long v.toInt64) L N k (L + 1) N (k + 1) ST DT (jm_up ST L 3) (jm_up DT L v) NA NA PL PL :=
  ⟨trivial, ⟨jm_up_eq, by rw [jm_up_eq], rfl, rfl⟩, fun j hj => ⟨jm_up_lt hj, jm_up_lt hj⟩, fun j hj => ⟨rfl, rfl⟩, by omega, by omega, by omega, by omega⟩
theorem SegOK.nam {L N k p : Nat} {ST DT : Nat → Int32} {NA : Nat → Int64} {PL : Nat → Int32} {u : Int64} (hk : k < 40) : SegOK (.elem (.long u) (.index p)) L N k (L + 1) (N + 1) (k + 1) ST DT (jm_up ST L 2) (jm_up DT L (nI N)) NA (jm_up NA N u) PL (jm_up PL N (nI p)) :=
  ⟨trivial, ⟨jm_up_eq, jm_up_eq, jm_up_eq, jm_up_eq, rfl, rfl⟩, fun j hj => ⟨jm_up_lt hj, jm_up_lt hj⟩, fun j hj => ⟨jm_up_lt hj, jm_up_lt hj⟩, by omega, by omega, by omega, by omega⟩
theorem SegOK.neg {t : Term} {L N k L1 N1 k1 : Nat} {ST DT ST1 DT1 : Nat → Int32} {NA NA1 : Nat → Int64} {PL PL1 : Nat → Int32} (h : SegOK t L N (k + 1) L1 N1 k1 ST DT ST1 DT1 NA NA1 PL PL1) : SegOK (.length t) L N k (L1 + 1) N1 k1 ST DT (jm_up ST1 L1 7) (jm_up DT1 L1 0) NA NA1 PL PL1 := by
  obtain ⟨ht, hc, h1, h2, h3, h4, h5, h6⟩ := h
  have hl := Code.le ht hc
  refine ⟨ht, ⟨L1, Code.same ht hc (fun j a b => ⟨jm_up_lt b, jm_up_lt b⟩) (fun j a b => ⟨rfl, rfl⟩), jm_up_eq, rfl⟩, fun j hj => ?_, h2, by omega, by omega, by omega, h6⟩
  rw [jm_up_lt (by omega), jm_up_lt (by omega)]
  exact h1 j hj
theorem SegOK.bin {a b t : Term} {L N k ka L1 N1 k1 kb L2 N2 k2 : Nat} {ST DT ST1 DT1 ST2 DT2 : Nat → Int32} {NA NA1 NA2 : Nat → Int64} {PL PL1 PL2 : Nat → Int32} (u : Int32)
    (hmk : ∀ ST DT NA PL L N L' N', (∃ L1 N1 L2, Code ST DT NA PL a L N L1 N1 ∧ Code ST DT NA PL b L1 N1 L2 N' ∧ ST L2 = u ∧ L' = L2 + 1) → Code ST DT NA PL t L N L' N') (htr : Tree a → Tree b → Tree t)
    (ha : SegOK a L N ka L1 N1 k1 ST DT ST1 DT1 NA NA1 PL PL1) (hb : SegOK b L1 N1 kb L2 N2 k2 ST1 DT1 ST2 DT2 NA1 NA2 PL1 PL2) (e1 : k ≤ ka) (e2 : k1 ≤ kb) (e3 : k1 + k + 1 ≤ kb + ka) :
    SegOK t L N k (L2 + 1) N2 k2 ST DT (jm_up ST2 L2 u) (jm_up DT2 L2 0) NA NA2 PL PL2 := by
  obtain ⟨ta, ca, a1, a2, a3, a4, a5, a6⟩ := ha
  obtain ⟨tb, cb, b1, b2, b3, b4, b5, b6⟩ := hb
  have la := Code.le ta ca
  have lb := Code.le tb cb
  refine ⟨htr ta tb, hmk _ _ _ _ _ _ _ _ ⟨L1, N1, L2, Code.same ta ca (fun j q1 q2 => ?_) (fun j q1 q2 => ?_), Code.same tb cb (fun j q1 q2 => ⟨jm_up_lt q2, jm_up_lt q2⟩) (fun j q1 q2 => ⟨rfl, rfl⟩), jm_up_eq, rfl⟩, fun j hj => ?_, fun j hj => ?_, by omega, by omega, by omega, b6⟩
  · rw [jm_up_lt (by omega), jm_up_lt (by omega)]
    exact b1 j (by omega)
  · exact b2 j (by omega)
  · rw [jm_up_lt (by omega), jm_up_lt (by omega)]
    exact ⟨(b1 j (by omega)).1.trans (a1 j hj).1, (b1 j (by omega)).2.trans (a1 j hj).2⟩
  · exact ⟨(b2 j (by omega)).1.trans (a2 j hj).1, (b2 j (by omega)).2.trans (a2 j hj).2⟩
theorem SegOK.ite {a b c : Term} {L N k L1 N1 k1 L2 N2 k2 L3 N3 k3 : Nat} {ST DT ST1 DT1 ST2 DT2 ST3 DT3 : Nat → Int32} {NA NA1 NA2 NA3 : Nat → Int64} {PL PL1 PL2 PL3 : Nat → Int32}
    (ha : SegOK a L N (k + 1) L1 N1 k1 ST DT ST1 DT1 NA NA1 PL PL1) (hb : SegOK b (L1 + 1) N1 k1 L2 N2 k2 (jm_up ST1 L1 8) (jm_up DT1 L1 0) ST2 DT2 NA1 NA2 PL1 PL2)
    (hc : SegOK c (L2 + 1) N2 k2 L3 N3 k3 (jm_up ST2 L2 9) (jm_up (jm_up DT2 L2 0) L1 (nI (L2 + 1))) ST3 DT3 NA2 NA3 PL2 PL3) :
    SegOK (.old (.add a (.add b c))) L N k L3 N3 k3 ST DT ST3 (jm_up DT3 L2 (nI L3)) NA NA3 PL PL3 := by
  obtain ⟨ta, ca, a1, a2, a3, a4, a5, a6⟩ := ha
  obtain ⟨tb, cb, b1, b2, b3, b4, b5, b6⟩ := hb
  obtain ⟨tc, cc, c1, c2, c3, c4, c5, c6⟩ := hc
  have la := Code.le ta ca
  have lb := Code.le tb cb
  have lc := Code.le tc cc
  have s3 : ∀ j, j < L2 → j ≠ L1 → ST3 j = ST2 j ∧ jm_up DT3 L2 (nI L3) j = DT2 j := fun j q1 q2 => by
    have := c1 j (by omega)
    rw [jm_up_lt q1, jm_up_ne q2, jm_up_lt q1] at this
    rw [jm_up_lt q1]
    exact this
  have t1 := c1 L1 (by omega)
  rw [jm_up_eq, jm_up_lt (by omega)] at t1
  have t2 := c1 L2 (by omega)
  rw [jm_up_eq] at t2
  have u1 := b1 L1 (by omega)
  rw [jm_up_eq] at u1
  refine ⟨⟨ta, tb, tc⟩, ⟨L1, N1, L2, N2, Code.same ta ca (fun j q1 q2 => ?_) (fun j q1 q2 => ?_), ?_, ?_, Code.same tb cb (fun j q1 q2 => s3 j q2 (by omega)) (fun j q1 q2 => c2 j (by omega)), t2.1, jm_up_eq, Code.same tc cc (fun j q1 q2 => ⟨rfl, jm_up_ne (by omega)⟩) (fun j q1 q2 => ⟨rfl, rfl⟩)⟩, fun j hj => ?_, fun j hj => ?_, by omega, by omega, by omega, c6⟩
  · have e1 := s3 j (by omega) (by omega)
    have e2 := b1 j (by omega)
    rw [jm_up_lt q2, jm_up_lt q2] at e2
    exact ⟨e1.1.trans e2.1, e1.2.trans e2.2⟩
  · exact ⟨(c2 j (by omega)).1.trans (b2 j (by omega)).1, (c2 j (by omega)).2.trans (b2 j (by omega)).2⟩
  · rw [t1.1, u1.1]
  · rw [jm_up_lt (by omega), t1.2]
  · have e1 := s3 j (by omega) (by omega)
    have e2 := b1 j (by omega)
    rw [jm_up_lt (by omega), jm_up_lt (by omega)] at e2
    have e3 := a1 j hj
    exact ⟨e1.1.trans (e2.1.trans e3.1), e1.2.trans (e2.2.trans e3.2)⟩
  · exact ⟨(c2 j (by omega)).1.trans ((b2 j (by omega)).1.trans (a2 j hj).1), (c2 j (by omega)).2.trans ((b2 j (by omega)).2.trans (a2 j hj).2)⟩
def CSum (l : Launch) (G : jm_G) (dp : Nat) : Prop := ∀ (d : Nat), 12 + 4 * (20 - dp) ≤ d → ∀ {h : jm_H} {r f n : Nat} {B : Nat → Int32} {c : Cur} {k L N : Nat} {ST DT : Nat → Int32} {NA : Nat → Int64} {PL : Nat → Int32} {fc fp : Int32} {nme : Int64}, RdS h r f n B c k L N ST DT NA PL fc fp nme → n ≤ 2000 → k ≤ 40 → L ≤ 2 * k → N ≤ k → jm_CP l G mm_Rd_sum d [.ref r, .int (nI dp)] h (fun v h9 => jm_fr (S_rd r f) h h9 ∧ ∃ res, Rd B n 0 dp .null c k res ∧ OutR res v h9 r f n B k L N ST DT NA PL fc fp nme)
def CProd (l : Launch) (G : jm_G) (dp : Nat) : Prop := ∀ (d : Nat), 11 + 4 * (20 - dp) ≤ d → ∀ {h : jm_H} {r f n : Nat} {B : Nat → Int32} {c : Cur} {k L N : Nat} {ST DT : Nat → Int32} {NA : Nat → Int64} {PL : Nat → Int32} {fc fp : Int32} {nme : Int64}, RdS h r f n B c k L N ST DT NA PL fc fp nme → n ≤ 2000 → k ≤ 40 → L ≤ 2 * k → N ≤ k → jm_CP l G mm_Rd_product d [.ref r, .int (nI dp)] h (fun v h9 => jm_fr (S_rd r f) h h9 ∧ ∃ res, Rd B n 1 dp .null c k res ∧ OutR res v h9 r f n B k L N ST DT NA PL fc fp nme)
def CPart (l : Launch) (G : jm_G) (dp : Nat) : Prop := ∀ (d : Nat), 10 + 4 * (20 - dp) ≤ d → ∀ {h : jm_H} {r f n : Nat} {B : Nat → Int32} {c : Cur} {k L N : Nat} {ST DT : Nat → Int32} {NA : Nat → Int64} {PL : Nat → Int32} {fc fp : Int32} {nme : Int64}, RdS h r f n B c k L N ST DT NA PL fc fp nme → n ≤ 2000 → k ≤ 40 → L ≤ 2 * k → N ≤ k → jm_CP l G mm_Rd_part d [.ref r, .int (nI dp)] h (fun v h9 => jm_fr (S_rd r f) h h9 ∧ ∃ res, Rd B n 4 dp .null c k res ∧ OutR res v h9 r f n B k L N ST DT NA PL fc fp nme)
set_option maxHeartbeats 4000000 in
set_option maxRecDepth 100000 in
theorem c_Rd_negated (l : Launch) (G : jm_G) (d dp : Nat) (hd : 9 + 4 * (20 - dp) ≤ d) (hdp : dp ≤ 20) (ih : CPart l G (dp + 1)) {h : jm_H} {r f n : Nat} {B : Nat → Int32} {c : Cur} {k L N : Nat} {ST DT : Nat → Int32} {NA : Nat → Int64} {PL : Nat → Int32} {fc fp : Int32} {nme : Int64} (hS : RdS h r f n B c k L N ST DT NA PL fc fp nme) (hn : n ≤ 2000) (hk : k ≤ 40) (hL : L ≤ 2 * k) (hN : N ≤ k) : jm_CP l G mm_Rd_negated d [.ref r, .int (nI dp)] h (fun v h9 => jm_fr (S_rd r f) h h9 ∧ ∃ res, (if dp < 20 then Rdn B n (Rd B n) dp c k res else res = .inl (3, c.2.1)) ∧ OutR res v h9 r f n B k L N ST DT NA PL fc fp nme) := by
  obtain ⟨tr, r0, r1, r2, r3, r4, r5, r6, tp, ⟨ta, f0, f1, f2, f3, f4, f5, f6, tb⟩, hB, ⟨tf, g0, g1, g2, g3, g4, g5, g6, t1, t2, t3, t4, t5⟩, hST, hDT, hNA, hPL, hdis, hcn, hcs⟩ := id hS
  refine jm_of (by decide) rfl (Nat.le_of_ble_eq_true rfl) ?_
  refine jx_iload_n d_Rd_negated_0 1 rfl ?_
  refine jx_bipush (v0 := 20) d_Rd_negated_1 (by decide) ?_
  refine jx_icmp_ltN (tgt := 12) (dp) (20) d_Rd_negated_3 rfl rfl (by omega) (by omega) (by decide) (fun c1 => ?_) (fun c1 => ?_)
  ·
    refine jx_aload_n d_Rd_negated_12 0 rfl ?_
    obtain ⟨v2, h2, hC2, hfr2, hq2⟩ := c_Rd_passNode l G (d - 1) (by omega) (h := h) ⟨tr, r0, r1, r2, r3, r4, r5, r6, tp, ⟨ta, f0, f1, f2, f3, f4, f5, f6, tb⟩, hB, ⟨tf, g0, g1, g2, g3, g4, g5, g6, t1, t2, t3, t4, t5⟩, hST, hDT, hNA, hPL, hdis, hcn, hcs⟩ hn (by omega) (by omega) (by omega)
    cases hp2 : p_node B n c k with
    | inl e2 =>
      rw [hp2] at hq2
      obtain ⟨rfl, hF2⟩ := hq2
      refine jx_callV (M2 := mm_Rd_passNode) rfl tr lk_Rd_80 wi_Rd_passNode ws_Rd_passNode d_Rd_negated_13 hC2 cd_Rd_passNode rfl rfl (Nat.le_of_ble_eq_true rfl) (jm_fok (by omega)) (jm_look (by decide) (by omega)) ?_
      refine jx_if_eq (tgt := 29) d_Rd_negated_16 (by decide) (fun c3 => ?_) (fun c3 => absurd c3 (by decide))
      refine jx_iconst (v0 := 0) d_Rd_negated_29 (by decide) ?_
      exact jx_zret d_Rd_negated_30 rfl (by first | rfl | decide) (⟨_, rfl, (jm_fr.trans jm_fr.rf hfr2), .inl e2, by rw [if_pos (by omega)]; exact (sb_l hp2), rfl, hF2⟩)
    | inr c2 =>
      rw [hp2] at hq2
      obtain ⟨rfl, hS2⟩ := hq2
      obtain ⟨tr2, r02, r12, r22, r32, r42, r52, r62, tp2, ⟨ta2, f02, f12, f22, f32, f42, f52, f62, tb2⟩, hB2, ⟨tf2, g02, g12, g22, g32, g42, g52, g62, t12, t22, t32, t42, t52⟩, hST2, hDT2, hNA2, hPL2, hdis2, hcn2, hcs2⟩ := id hS2
      refine jx_callV (M2 := mm_Rd_passNode) rfl tr lk_Rd_80 wi_Rd_passNode ws_Rd_passNode d_Rd_negated_13 hC2 cd_Rd_passNode rfl rfl (Nat.le_of_ble_eq_true rfl) (jm_fok (by omega)) (jm_look (by decide) (by omega)) ?_
      have lthp2 := p_node_lt hp2
      refine jx_if_eq (tgt := 29) d_Rd_negated_16 (by decide) (fun c4 => absurd c4 (by decide)) (fun c4 => ?_)
      refine jx_aload_n d_Rd_negated_19 0 rfl ?_
      refine jx_iload_n d_Rd_negated_20 1 rfl ?_
      refine jx_iconst (v0 := 1) d_Rd_negated_21 (by decide) ?_
      refine jx_iadd d_Rd_negated_22 ?_
      refine jx_ati (nI_add (dp) (1)) ?_
      obtain ⟨v5, h5, hC5, hfr5, res5, hd5, hq5⟩ := ih (d - 1) (by omega) (h := h2) ⟨tr2, r02, r12, r22, r32, r42, r52, r62, tp2, ⟨ta2, f02, f12, f22, f32, f42, f52, f62, tb2⟩, hB2, ⟨tf2, g02, g12, g22, g32, g42, g52, g62, t12, t22, t32, t42, t52⟩, hST2, hDT2, hNA2, hPL2, hdis2, hcn2, hcs2⟩ hn (by omega) (by omega) (by omega)
      rcases res5 with e5 | ⟨t5, c5, k5⟩
      · obtain ⟨rfl, hF5⟩ := hq5
        refine jx_callV (M2 := mm_Rd_part) rfl tr2 lk_Rd_86 wi_Rd_part ws_Rd_part d_Rd_negated_23 hC5 cd_Rd_part rfl rfl (Nat.le_of_ble_eq_true rfl) (jm_fok (by omega)) (jm_look (by decide) (by omega)) ?_
        refine jx_if_ne (tgt := 31) d_Rd_negated_26 (by decide) (fun c6 => absurd c6 (by decide)) (fun c6 => ?_)
        refine jx_iconst (v0 := 0) d_Rd_negated_29 (by decide) ?_
        exact jx_zret d_Rd_negated_30 rfl (by first | rfl | decide) (⟨_, rfl, (jm_fr.trans (jm_fr.trans jm_fr.rf hfr2) hfr5), .inl e5, by rw [if_pos (by omega)]; exact (sb_r hp2 (pb_l hd5)), rfl, hF5⟩)
      · obtain ⟨rfl, L5, N5, ST5, DT5, NA5, PL5, hS5, hg5⟩ := hq5
        obtain ⟨-, -, -, -, hb5, hb25, hb35, hb45⟩ := id hg5
        simp only at hS5 hb5 hb25 hb35 hb45
        obtain ⟨tr5, r05, r15, r25, r35, r45, r55, r65, tp5, ⟨ta5, f05, f15, f25, f35, f45, f55, f65, tb5⟩, hB5, ⟨tf5, g05, g15, g25, g35, g45, g55, g65, t15, t25, t35, t45, t55⟩, hST5, hDT5, hNA5, hPL5, hdis5, hcn5, hcs5⟩ := id hS5
        refine jx_callV (M2 := mm_Rd_part) rfl tr2 lk_Rd_86 wi_Rd_part ws_Rd_part d_Rd_negated_23 hC5 cd_Rd_part rfl rfl (Nat.le_of_ble_eq_true rfl) (jm_fok (by omega)) (jm_look (by decide) (by omega)) ?_
        refine jx_if_ne (tgt := 31) d_Rd_negated_26 (by decide) (fun c7 => ?_) (fun c7 => absurd c7 (by decide))
        refine jx_aload_n d_Rd_negated_31 0 rfl ?_
        refine jx_get d_Rd_negated_32 fF_Rd_21 tr5 r15 ?_
        refine jx_bipush (v0 := 7) d_Rd_negated_35 (by decide) ?_
        refine jx_iconst (v0 := 0) d_Rd_negated_37 (by decide) ?_
        refine jx_callV (M2 := mm_Fm_addStep) rfl tf5 lk_Rd_83 wi_Fm_addStep ws_Fm_addStep d_Rd_negated_38 (c_Fm_addStep l G (d - 1) ⟨tf5, g05, g15, g25, g35, g45, g55, g65, t15, t25, t35, t45, t55⟩ (by omega)) cd_Fm_addStep rfl rfl (Nat.le_of_ble_eq_true rfl) (jm_fok (by omega)) (jm_look (by decide) (by omega)) ?_
        refine jx_iconst (v0 := 1) d_Rd_negated_41 (by decide) ?_
        exact jx_zret d_Rd_negated_42 rfl (by first | rfl | decide) (⟨_, rfl, (jm_fr.put (jm_fr.put (jm_fr.put (jm_fr.trans (jm_fr.trans jm_fr.rf hfr2) hfr5) (by unfold S_rd; omega)) (by unfold S_rd; omega)) (by unfold S_rd; omega)), .inr (.length t5, c5, k5), by rw [if_pos (by omega)]; exact (sb_r hp2 (pb_r hd5 rfl)), rfl, _, _, _, _, _, _, ⟨tr5, (jm_rd_k (by decide) (jm_rd_a (jm_ne_oa tr5 t25) (jm_rd_a (jm_ne_oa tr5 t15) r05))), (jm_rd_k (by decide) (jm_rd_a (jm_ne_oa tr5 t25) (jm_rd_a (jm_ne_oa tr5 t15) r15))), (jm_rd_a (jm_ne_oo tr5 tf5 (by decide)) (jm_rd_a (jm_ne_oa tr5 t25) (jm_rd_a (jm_ne_oa tr5 t15) r25))), (jm_rd_k (by decide) (jm_rd_a (jm_ne_oa tr5 t25) (jm_rd_a (jm_ne_oa tr5 t15) r35))), (jm_rd_k (by decide) (jm_rd_a (jm_ne_oa tr5 t25) (jm_rd_a (jm_ne_oa tr5 t15) r45))), (jm_rd_k (by decide) (jm_rd_a (jm_ne_oa tr5 t25) (jm_rd_a (jm_ne_oa tr5 t15) r55))), (jm_rd_k (by decide) (jm_rd_a (jm_ne_oa tr5 t25) (jm_rd_a (jm_ne_oa tr5 t15) r65))), tp5, ⟨ta5, (jm_rd_k (by decide) (jm_rd_a (jm_ne_oa ta5 t25) (jm_rd_a (jm_ne_oa ta5 t15) f05))), (jm_rd_k (by decide) (jm_rd_a (jm_ne_oa ta5 t25) (jm_rd_a (jm_ne_oa ta5 t15) f15))), (jm_rd_a (jm_ne_oo ta5 tf5 (by decide)) (jm_rd_a (jm_ne_oa ta5 t25) (jm_rd_a (jm_ne_oa ta5 t15) f25))), (jm_rd_k (by decide) (jm_rd_a (jm_ne_oa ta5 t25) (jm_rd_a (jm_ne_oa ta5 t15) f35))), (jm_rd_k (by decide) (jm_rd_a (jm_ne_oa ta5 t25) (jm_rd_a (jm_ne_oa ta5 t15) f45))), (jm_rd_k (by decide) (jm_rd_a (jm_ne_oa ta5 t25) (jm_rd_a (jm_ne_oa ta5 t15) f55))), (jm_rd_k (by decide) (jm_rd_a (jm_ne_oa ta5 t25) (jm_rd_a (jm_ne_oa ta5 t15) f65))), tb5⟩, (fun j hj => jm_rd_a (Ne.symm (jm_ne_oa tf5 tb5)) ((fun j hj => jm_rd_a (jm_ne_aa tb5 t25 (by decide)) ((fun j hj => jm_rd_a (jm_ne_aa tb5 t15 (by decide)) (hB5 j hj)) j hj)) j hj)), ⟨tf5, (jm_rd_k (by decide) (jm_rd_a (jm_ne_oa tf5 t25) (jm_rd_a (jm_ne_oa tf5 t15) g05))), (jm_rd_k (by decide) (jm_rd_a (jm_ne_oa tf5 t25) (jm_rd_a (jm_ne_oa tf5 t15) g15))), (jm_rd_s _ _ _ _), (jm_rd_k (by decide) (jm_rd_a (jm_ne_oa tf5 t25) (jm_rd_a (jm_ne_oa tf5 t15) g35))), (jm_rd_k (by decide) (jm_rd_a (jm_ne_oa tf5 t25) (jm_rd_a (jm_ne_oa tf5 t15) g45))), (jm_rd_k (by decide) (jm_rd_a (jm_ne_oa tf5 t25) (jm_rd_a (jm_ne_oa tf5 t15) g55))), (jm_rd_k (by decide) (jm_rd_a (jm_ne_oa tf5 t25) (jm_rd_a (jm_ne_oa tf5 t15) g65))), t15, t25, t35, t45, t55⟩, (arI.keep (arI.keep (arI.put hST5) (by omega)) (Ne.symm (jm_ne_oa tf5 t15))), (arI.keep (arI.put (arI.keep hDT5 (by omega))) (Ne.symm (jm_ne_oa tf5 t25))), (arL.keep (arL.keep (arL.keep hNA5 (jm_ne_aa t35 t15 (by decide))) (jm_ne_aa t35 t25 (by decide))) (Ne.symm (jm_ne_oa tf5 t35))), (arI.keep (arI.keep (arI.keep hPL5 (by omega)) (by omega)) (Ne.symm (jm_ne_oa tf5 tp5))), hdis5, hcn5, hcs5⟩, SegOK.neg hg5⟩)
  ·
    refine jx_aload_n d_Rd_negated_6 0 rfl ?_
    refine jx_iconst (v0 := 3) d_Rd_negated_7 (by decide) ?_
    refine jx_callV (M2 := mm_Rd_refuse) rfl tr lk_Rd_64 wi_Rd_refuse ws_Rd_refuse d_Rd_negated_8 (c_Rd_refuse l G (d - 1) (by omega) ⟨tr, r0, r1, r2, r3, r4, r5, r6, tp, ⟨ta, f0, f1, f2, f3, f4, f5, f6, tb⟩, hB, ⟨tf, g0, g1, g2, g3, g4, g5, g6, t1, t2, t3, t4, t5⟩, hST, hDT, hNA, hPL, hdis, hcn, hcs⟩) cd_Rd_refuse rfl rfl (Nat.le_of_ble_eq_true rfl) (jm_fok (by omega)) (jm_look (by decide) (by omega)) ?_
    exact jx_zret d_Rd_negated_11 rfl (by first | rfl | decide) (⟨_, rfl, (jm_fr.put (jm_fr.put jm_fr.rf (by unfold S_rd; omega)) (by unfold S_rd; omega)), .inl (3, c.2.1), by rw [if_neg (by omega)], rfl, _, _, _, _, _, _, _, _, ⟨tr, (jm_rd_k (by decide) (jm_rd_k (by decide) r0)), (jm_rd_k (by decide) (jm_rd_k (by decide) r1)), (jm_rd_k (by decide) (jm_rd_k (by decide) r2)), (jm_rd_k (by decide) (jm_rd_s _ _ _ _)), (jm_rd_s _ _ _ _), (jm_rd_k (by decide) (jm_rd_k (by decide) r5)), (jm_rd_k (by decide) (jm_rd_k (by decide) r6)), tp, ⟨ta, (jm_rd_k (by decide) (jm_rd_k (by decide) f0)), (jm_rd_k (by decide) (jm_rd_k (by decide) f1)), (jm_rd_k (by decide) (jm_rd_k (by decide) f2)), (jm_rd_k (by decide) (jm_rd_a (jm_ne_oo ta tr (by decide)) f3)), (jm_rd_a (jm_ne_oo ta tr (by decide)) (jm_rd_k (by decide) f4)), (jm_rd_k (by decide) (jm_rd_k (by decide) f5)), (jm_rd_k (by decide) (jm_rd_k (by decide) f6)), tb⟩, (fun j hj => jm_rd_a (Ne.symm (jm_ne_oa tr tb)) ((fun j hj => jm_rd_a (Ne.symm (jm_ne_oa tr tb)) (hB j hj)) j hj)), ⟨tf, (jm_rd_k (by decide) (jm_rd_k (by decide) g0)), (jm_rd_k (by decide) (jm_rd_k (by decide) g1)), (jm_rd_k (by decide) (jm_rd_k (by decide) g2)), (jm_rd_k (by decide) (jm_rd_a (jm_ne_oo tf tr (by decide)) g3)), (jm_rd_a (jm_ne_oo tf tr (by decide)) (jm_rd_k (by decide) g4)), (jm_rd_k (by decide) (jm_rd_k (by decide) g5)), (jm_rd_k (by decide) (jm_rd_k (by decide) g6)), t1, t2, t3, t4, t5⟩, (arI.keep (arI.keep hST (Ne.symm (jm_ne_oa tr t1))) (Ne.symm (jm_ne_oa tr t1))), (arI.keep (arI.keep hDT (Ne.symm (jm_ne_oa tr t2))) (Ne.symm (jm_ne_oa tr t2))), (arL.keep (arL.keep hNA (Ne.symm (jm_ne_oa tr t3))) (Ne.symm (jm_ne_oa tr t3))), (arI.keep (arI.keep hPL (Ne.symm (jm_ne_oa tr tp))) (Ne.symm (jm_ne_oa tr tp))), hdis, hcn, hcs⟩, by omega, by omega⟩)
