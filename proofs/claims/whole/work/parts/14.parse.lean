theorem p_node_lt {B : Nat → Int32} {n k : Nat} {c c1 : Cur} (h : p_node B n c k = .inr c1) : k < 40 := by
  unfold p_node at h
  split at h
  · assumption
  · cases h
theorem p_open_lt {B : Nat → Int32} {n dp : Nat} {c c1 : Cur} (h : p_open B n dp c = .inr c1) : dp < 20 := by
  unfold p_open at h
  split at h
  · split at h
    · assumption
    · cases h
  · cases h
theorem jm_up_lt {α : Type} {F : Nat → α} {k j : Nat} {v : α} (h : j < k) : jm_up F k v j = F j := if_neg (by omega)
theorem jm_up_ne {α : Type} {F : Nat → α} {k j : Nat} {v : α} (h : j ≠ k) : jm_up F k v j = F j := if_neg h
theorem jm_up_eq {α : Type} {F : Nat → α} {k : Nat} {v : α} : jm_up F k v k = v := if_pos rfl
theorem SegOK.num {L N k : Nat} {ST DT : Nat → Int32} {NA : Nat → Int64} {PL : Nat → Int32} {v : Int32} (hk : k < 40) : SegOK (.long v.toInt64) L N k (L + 1) N (k + 1) ST DT (jm_up ST L 3) (jm_up DT L v) NA NA PL PL :=
  ⟨trivial, ⟨jm_up_eq, by rw [jm_up_eq], rfl, rfl⟩, fun j hj => ⟨jm_up_lt hj, jm_up_lt hj⟩, fun j hj => ⟨rfl, rfl⟩, by omega, by omega, by omega, by omega⟩
theorem SegOK.nam {L N k p : Nat} {ST DT : Nat → Int32} {NA : Nat → Int64} {PL : Nat → Int32} {u : Int64} (hk : k < 40) : SegOK (.elem (.long u) (.index p)) L N k (L + 1) (N + 1) (k + 1) ST DT (jm_up ST L 2) (jm_up DT L (nI N)) NA (jm_up NA N u) PL (jm_up PL N (nI p)) :=
  ⟨trivial, ⟨jm_up_eq, jm_up_eq, jm_up_eq, jm_up_eq, rfl, rfl⟩, fun j hj => ⟨jm_up_lt hj, jm_up_lt hj⟩, fun j hj => ⟨jm_up_lt hj, jm_up_lt hj⟩, by omega, by omega, by omega, by omega⟩
theorem SegOK.neg {t : Term} {L N k L1 N1 k1 : Nat} {ST DT ST1 DT1 : Nat → Int32} {NA NA1 : Nat → Int64} {PL PL1 : Nat → Int32} (h : SegOK t L N (k + 1) L1 N1 k1 ST DT ST1 DT1 NA NA1 PL PL1) : SegOK (.length t) L N k (L1 + 1) N1 k1 ST DT (jm_up ST1 L1 7) (jm_up DT1 L1 0) NA NA1 PL PL1 := by
  obtain ⟨ht, hc, h1, h2, h3, h4, h5, h6⟩ := h
  have hl := Cdx.le ht hc
  refine ⟨ht, ⟨L1, Cdx.same ht hc (fun j a b => ⟨jm_up_lt b, jm_up_lt b⟩) (fun j a b => ⟨rfl, rfl⟩), jm_up_eq, rfl⟩, fun j hj => ?_, h2, by omega, by omega, by omega, h6⟩
  rw [jm_up_lt (by omega), jm_up_lt (by omega)]
  exact h1 j hj
theorem SegOK.bin {a b t : Term} {L N k ka L1 N1 k1 kb L2 N2 k2 : Nat} {ST DT ST1 DT1 ST2 DT2 : Nat → Int32} {NA NA1 NA2 : Nat → Int64} {PL PL1 PL2 : Nat → Int32} (u : Int32)
    (hmk : ∀ ST DT NA PL L N L' N', (∃ L1 N1 L2, Cdx ST DT NA PL a L N L1 N1 ∧ Cdx ST DT NA PL b L1 N1 L2 N' ∧ ST L2 = u ∧ L' = L2 + 1) → Cdx ST DT NA PL t L N L' N') (htr : Tree a → Tree b → Tree t)
    (ha : SegOK a L N ka L1 N1 k1 ST DT ST1 DT1 NA NA1 PL PL1) (hb : SegOK b L1 N1 kb L2 N2 k2 ST1 DT1 ST2 DT2 NA1 NA2 PL1 PL2) (e1 : k ≤ ka) (e2 : k1 ≤ kb) (e3 : k1 + k + 1 ≤ kb + ka) :
    SegOK t L N k (L2 + 1) N2 k2 ST DT (jm_up ST2 L2 u) (jm_up DT2 L2 0) NA NA2 PL PL2 := by
  obtain ⟨ta, ca, a1, a2, a3, a4, a5, a6⟩ := ha
  obtain ⟨tb, cb, b1, b2, b3, b4, b5, b6⟩ := hb
  have la := Cdx.le ta ca
  have lb := Cdx.le tb cb
  refine ⟨htr ta tb, hmk _ _ _ _ _ _ _ _ ⟨L1, N1, L2, Cdx.same ta ca (fun j q1 q2 => ?_) (fun j q1 q2 => ?_), Cdx.same tb cb (fun j q1 q2 => ⟨jm_up_lt q2, jm_up_lt q2⟩) (fun j q1 q2 => ⟨rfl, rfl⟩), jm_up_eq, rfl⟩, fun j hj => ?_, fun j hj => ?_, by omega, by omega, by omega, b6⟩
  · rw [jm_up_lt (by omega), jm_up_lt (by omega)]
    exact b1 j (by omega)
  · exact b2 j (by omega)
  · rw [jm_up_lt (by omega), jm_up_lt (by omega)]
    exact ⟨(b1 j (by omega)).1.trans (a1 j hj).1, (b1 j (by omega)).2.trans (a1 j hj).2⟩
  · exact ⟨(b2 j (by omega)).1.trans (a2 j hj).1, (b2 j (by omega)).2.trans (a2 j hj).2⟩
theorem SegOK.ite {a b c : Term} {L N k L1 N1 k1 L2 N2 k2 L3 N3 k3 : Nat} {ST DT ST1 DT1 ST2 DT2 ST3 DT3 : Nat → Int32} {NA NA1 NA2 NA3 : Nat → Int64} {PL PL1 PL2 PL3 : Nat → Int32}
    (ha : SegOK a L N (k + 1) L1 N1 k1 ST DT ST1 DT1 NA NA1 PL PL1) (hb : SegOK b (L1 + 1) N1 k1 L2 N2 k2 (jm_up ST1 L1 8) (jm_up DT1 L1 0) ST2 DT2 NA1 NA2 PL1 PL2)
    (hc : SegOK c (L2 + 1) N2 k2 L3 N3 k3 (jm_up ST2 L2 9) (jm_up (jm_up DT2 L2 0) L1 (nI (L2 + 1))) ST3 DT3 NA2 NA3 PL2 PL3) :
    SegOK (.old (.add a (.add b c))) L N k L3 N3 k3 ST DT ST3 (jm_up DT3 L2 (nI L3)) NA NA3 PL PL3 := by
  obtain ⟨ta, ca, a1, a2, a3, a4, a5, a6⟩ := ha
  obtain ⟨tb, cb, b1, b2, b3, b4, b5, b6⟩ := hb
  obtain ⟨tc, cc, c1, c2, c3, c4, c5, c6⟩ := hc
  have la := Cdx.le ta ca
  have lb := Cdx.le tb cb
  have lc := Cdx.le tc cc
  have s3 : ∀ j, j < L2 → j ≠ L1 → ST3 j = ST2 j ∧ jm_up DT3 L2 (nI L3) j = DT2 j := fun j q1 q2 => by
    have := c1 j (by omega)
    rw [jm_up_lt q1, jm_up_ne q2, jm_up_lt q1] at this
    rw [jm_up_lt q1]
    exact this
  have t1 := c1 L1 (by omega)
  rw [jm_up_eq, jm_up_lt (by omega)] at t1
  have t2 := c1 L2 (by omega)
  rw [jm_up_eq] at t2
  have u1 := b1 L1 (by omega)
  rw [jm_up_eq] at u1
  refine ⟨⟨ta, tb, tc⟩, ⟨L1, N1, L2, N2, Cdx.same ta ca (fun j q1 q2 => ?_) (fun j q1 q2 => ?_), ?_, ?_, Cdx.same tb cb (fun j q1 q2 => s3 j q2 (by omega)) (fun j q1 q2 => c2 j (by omega)), t2.1, jm_up_eq, Cdx.same tc cc (fun j q1 q2 => ⟨rfl, jm_up_ne (by omega)⟩) (fun j q1 q2 => ⟨rfl, rfl⟩)⟩, fun j hj => ?_, fun j hj => ?_, by omega, by omega, by omega, c6⟩
  · have e1 := s3 j (by omega) (by omega)
    have e2 := b1 j (by omega)
    rw [jm_up_lt q2, jm_up_lt q2] at e2
    exact ⟨e1.1.trans e2.1, e1.2.trans e2.2⟩
  · exact ⟨(c2 j (by omega)).1.trans (b2 j (by omega)).1, (c2 j (by omega)).2.trans (b2 j (by omega)).2⟩
  · rw [t1.1, u1.1]
  · rw [jm_up_lt (by omega), t1.2]
  · have e1 := s3 j (by omega) (by omega)
    have e2 := b1 j (by omega)
    rw [jm_up_lt (by omega), jm_up_lt (by omega)] at e2
    have e3 := a1 j hj
    exact ⟨e1.1.trans (e2.1.trans e3.1), e1.2.trans (e2.2.trans e3.2)⟩
  · exact ⟨(c2 j (by omega)).1.trans ((b2 j (by omega)).1.trans (a2 j hj).1), (c2 j (by omega)).2.trans ((b2 j (by omega)).2.trans (a2 j hj).2)⟩
def CSum (l : Launch) (G : jm_G) (dp : Nat) : Prop := ∀ (d : Nat), 12 + 4 * (20 - dp) ≤ d → ∀ {h : jm_H} {r f n : Nat} {B : Nat → Int32} {c : Cur} {k L N : Nat} {ST DT : Nat → Int32} {NA : Nat → Int64} {PL : Nat → Int32} {fc fp : Int32} {nme : Int64}, RdS h r f n B c k L N ST DT NA PL fc fp nme → n ≤ 2000 → k ≤ 40 → L ≤ 2 * k → N ≤ k → jm_CP l G mm_Rd_sum d [.ref r, .int (nI dp)] h (fun v h9 => jm_fr (S_rd r f) h h9 ∧ ∃ res, Rd B n 0 dp .null c k res ∧ OutR res v h9 r f n B k L N ST DT NA PL fc fp nme)
def CProd (l : Launch) (G : jm_G) (dp : Nat) : Prop := ∀ (d : Nat), 11 + 4 * (20 - dp) ≤ d → ∀ {h : jm_H} {r f n : Nat} {B : Nat → Int32} {c : Cur} {k L N : Nat} {ST DT : Nat → Int32} {NA : Nat → Int64} {PL : Nat → Int32} {fc fp : Int32} {nme : Int64}, RdS h r f n B c k L N ST DT NA PL fc fp nme → n ≤ 2000 → k ≤ 40 → L ≤ 2 * k → N ≤ k → jm_CP l G mm_Rd_product d [.ref r, .int (nI dp)] h (fun v h9 => jm_fr (S_rd r f) h h9 ∧ ∃ res, Rd B n 1 dp .null c k res ∧ OutR res v h9 r f n B k L N ST DT NA PL fc fp nme)
def CPart (l : Launch) (G : jm_G) (dp : Nat) : Prop := ∀ (d : Nat), 10 + 4 * (20 - dp) ≤ d → ∀ {h : jm_H} {r f n : Nat} {B : Nat → Int32} {c : Cur} {k L N : Nat} {ST DT : Nat → Int32} {NA : Nat → Int64} {PL : Nat → Int32} {fc fp : Int32} {nme : Int64}, RdS h r f n B c k L N ST DT NA PL fc fp nme → n ≤ 2000 → k ≤ 40 → L ≤ 2 * k → N ≤ k → jm_CP l G mm_Rd_part d [.ref r, .int (nI dp)] h (fun v h9 => jm_fr (S_rd r f) h h9 ∧ ∃ res, Rd B n 4 dp .null c k res ∧ OutR res v h9 r f n B k L N ST DT NA PL fc fp nme)
set_option maxHeartbeats 4000000 in
set_option maxRecDepth 100000 in
theorem c_Rd_negated (l : Launch) (G : jm_G) (d dp : Nat) (hd : 9 + 4 * (20 - dp) ≤ d) (hdp : dp ≤ 20) (ih : dp < 20 → CPart l G (dp + 1)) {h : jm_H} {r f n : Nat} {B : Nat → Int32} {c : Cur} {k L N : Nat} {ST DT : Nat → Int32} {NA : Nat → Int64} {PL : Nat → Int32} {fc fp : Int32} {nme : Int64} (hS : RdS h r f n B c k L N ST DT NA PL fc fp nme) (hn : n ≤ 2000) (hk : k ≤ 40) (hL : L ≤ 2 * k) (hN : N ≤ k) : jm_CP l G mm_Rd_negated d [.ref r, .int (nI dp)] h (fun v h9 => jm_fr (S_rd r f) h h9 ∧ ∃ res, (if dp < 20 then Rdn B n (Rd B n) dp c k res else res = .inl (3, c.2.1)) ∧ OutR res v h9 r f n B k L N ST DT NA PL fc fp nme) := by
  obtain ⟨tr, r0, r1, r2, r3, r4, r5, r6, tp, ⟨ta, f0, f1, f2, f3, f4, f5, f6, tb⟩, hB, ⟨tf, g0, g1, g2, g3, g4, g5, g6, t1, t2, t3, t4, t5⟩, hST, hDT, hNA, hPL, hdis, hcn, hcs⟩ := id hS
  refine jm_of (by decide) rfl (Nat.le_of_ble_eq_true rfl) ?_
  refine jx_iload_n d_Rd_negated_0 1 rfl ?_
  refine jx_bipush (v0 := 20) d_Rd_negated_1 (by decide) ?_
  refine jx_icmp_ltN (tgt := 12) (dp) (20) d_Rd_negated_3 rfl rfl (by omega) (by omega) (by decide) (fun c1 => ?_) (fun c1 => ?_)
  ·
    refine jx_aload_n d_Rd_negated_12 0 rfl ?_
    obtain ⟨v2, h2, hC2, hfr2, hq2⟩ := c_Rd_passNode l G (d - 1) (by omega) (h := h) ⟨tr, r0, r1, r2, r3, r4, r5, r6, tp, ⟨ta, f0, f1, f2, f3, f4, f5, f6, tb⟩, hB, ⟨tf, g0, g1, g2, g3, g4, g5, g6, t1, t2, t3, t4, t5⟩, hST, hDT, hNA, hPL, hdis, hcn, hcs⟩ hn (by omega) (by omega) (by omega)
    cases hp2 : p_node B n c k with
    | inl e2 =>
      rw [hp2] at hq2
      obtain ⟨rfl, hF2⟩ := hq2
      refine jx_callV (M2 := mm_Rd_passNode) rfl tr lk_Rd_80 wi_Rd_passNode ws_Rd_passNode d_Rd_negated_13 hC2 cd_Rd_passNode rfl rfl (Nat.le_of_ble_eq_true rfl) (jm_fok (by omega)) (jm_look (by decide) (by omega)) ?_
      refine jx_if_eq (tgt := 29) d_Rd_negated_16 (by decide) (fun c3 => ?_) (fun c3 => absurd c3 (by decide))
      refine jx_iconst (v0 := 0) d_Rd_negated_29 (by decide) ?_
      exact jx_zret d_Rd_negated_30 rfl (by first | rfl | decide) (⟨_, rfl, (jm_fr.trans jm_fr.rf hfr2), .inl e2, by rw [if_pos (by omega)]; exact (sb_l hp2), rfl, hF2⟩)
    | inr c2 =>
      rw [hp2] at hq2
      obtain ⟨rfl, hS2⟩ := hq2
      obtain ⟨tr2, r02, r12, r22, r32, r42, r52, r62, tp2, ⟨ta2, f02, f12, f22, f32, f42, f52, f62, tb2⟩, hB2, ⟨tf2, g02, g12, g22, g32, g42, g52, g62, t12, t22, t32, t42, t52⟩, hST2, hDT2, hNA2, hPL2, hdis2, hcn2, hcs2⟩ := id hS2
      refine jx_callV (M2 := mm_Rd_passNode) rfl tr lk_Rd_80 wi_Rd_passNode ws_Rd_passNode d_Rd_negated_13 hC2 cd_Rd_passNode rfl rfl (Nat.le_of_ble_eq_true rfl) (jm_fok (by omega)) (jm_look (by decide) (by omega)) ?_
      have lthp2 := p_node_lt hp2
      refine jx_if_eq (tgt := 29) d_Rd_negated_16 (by decide) (fun c4 => absurd c4 (by decide)) (fun c4 => ?_)
      refine jx_aload_n d_Rd_negated_19 0 rfl ?_
      refine jx_iload_n d_Rd_negated_20 1 rfl ?_
      refine jx_iconst (v0 := 1) d_Rd_negated_21 (by decide) ?_
      refine jx_iadd d_Rd_negated_22 ?_
      refine jx_ati (nI_add (dp) (1)) ?_
      obtain ⟨v5, h5, hC5, hfr5, res5, hd5, hq5⟩ := (ih (by omega)) (d - 1) (by omega) (h := h2) ⟨tr2, r02, r12, r22, r32, r42, r52, r62, tp2, ⟨ta2, f02, f12, f22, f32, f42, f52, f62, tb2⟩, hB2, ⟨tf2, g02, g12, g22, g32, g42, g52, g62, t12, t22, t32, t42, t52⟩, hST2, hDT2, hNA2, hPL2, hdis2, hcn2, hcs2⟩ hn (by omega) (by omega) (by omega)
      rcases res5 with e5 | ⟨t5, c5, k5⟩
      · obtain ⟨rfl, hF5⟩ := hq5
        refine jx_callV (M2 := mm_Rd_part) rfl tr2 lk_Rd_86 wi_Rd_part ws_Rd_part d_Rd_negated_23 hC5 cd_Rd_part rfl rfl (Nat.le_of_ble_eq_true rfl) (jm_fok (by omega)) (jm_look (by decide) (by omega)) ?_
        refine jx_if_ne (tgt := 31) d_Rd_negated_26 (by decide) (fun c6 => absurd c6 (by decide)) (fun c6 => ?_)
        refine jx_iconst (v0 := 0) d_Rd_negated_29 (by decide) ?_
        exact jx_zret d_Rd_negated_30 rfl (by first | rfl | decide) (⟨_, rfl, (jm_fr.trans (jm_fr.trans jm_fr.rf hfr2) hfr5), .inl e5, by rw [if_pos (by omega)]; exact (sb_r hp2 (pb_l hd5)), rfl, hF5⟩)
      · obtain ⟨rfl, L5, N5, ST5, DT5, NA5, PL5, hS5, hg5⟩ := hq5
        obtain ⟨-, -, -, -, hb5, hb25, hb35, hb45⟩ := id hg5
        simp only at hS5 hb5 hb25 hb35 hb45
        obtain ⟨tr5, r05, r15, r25, r35, r45, r55, r65, tp5, ⟨ta5, f05, f15, f25, f35, f45, f55, f65, tb5⟩, hB5, ⟨tf5, g05, g15, g25, g35, g45, g55, g65, t15, t25, t35, t45, t55⟩, hST5, hDT5, hNA5, hPL5, hdis5, hcn5, hcs5⟩ := id hS5
        refine jx_callV (M2 := mm_Rd_part) rfl tr2 lk_Rd_86 wi_Rd_part ws_Rd_part d_Rd_negated_23 hC5 cd_Rd_part rfl rfl (Nat.le_of_ble_eq_true rfl) (jm_fok (by omega)) (jm_look (by decide) (by omega)) ?_
        refine jx_if_ne (tgt := 31) d_Rd_negated_26 (by decide) (fun c7 => ?_) (fun c7 => absurd c7 (by decide))
        refine jx_aload_n d_Rd_negated_31 0 rfl ?_
        refine jx_get d_Rd_negated_32 fF_Rd_21 tr5 r15 ?_
        refine jx_bipush (v0 := 7) d_Rd_negated_35 (by decide) ?_
        refine jx_iconst (v0 := 0) d_Rd_negated_37 (by decide) ?_
        refine jx_callV (M2 := mm_Fm_addStep) rfl tf5 lk_Rd_83 wi_Fm_addStep ws_Fm_addStep d_Rd_negated_38 (c_Fm_addStep l G (d - 1) ⟨tf5, g05, g15, g25, g35, g45, g55, g65, t15, t25, t35, t45, t55⟩ (by omega)) cd_Fm_addStep rfl rfl (Nat.le_of_ble_eq_true rfl) (jm_fok (by omega)) (jm_look (by decide) (by omega)) ?_
        refine jx_iconst (v0 := 1) d_Rd_negated_41 (by decide) ?_
        exact jx_zret d_Rd_negated_42 rfl (by first | rfl | decide) (⟨_, rfl, (jm_fr.put (jm_fr.put (jm_fr.put (jm_fr.trans (jm_fr.trans jm_fr.rf hfr2) hfr5) (by unfold S_rd; omega)) (by unfold S_rd; omega)) (by unfold S_rd; omega)), .inr (.length t5, c5, k5), by rw [if_pos (by omega)]; exact (sb_r hp2 (pb_r hd5 rfl)), rfl, _, _, _, _, _, _, ⟨tr5, (jm_rd_k (by decide) (jm_rd_a (jm_ne_oa tr5 t25) (jm_rd_a (jm_ne_oa tr5 t15) r05))), (jm_rd_k (by decide) (jm_rd_a (jm_ne_oa tr5 t25) (jm_rd_a (jm_ne_oa tr5 t15) r15))), (jm_rd_a (jm_ne_oo tr5 tf5 (by decide)) (jm_rd_a (jm_ne_oa tr5 t25) (jm_rd_a (jm_ne_oa tr5 t15) r25))), (jm_rd_k (by decide) (jm_rd_a (jm_ne_oa tr5 t25) (jm_rd_a (jm_ne_oa tr5 t15) r35))), (jm_rd_k (by decide) (jm_rd_a (jm_ne_oa tr5 t25) (jm_rd_a (jm_ne_oa tr5 t15) r45))), (jm_rd_k (by decide) (jm_rd_a (jm_ne_oa tr5 t25) (jm_rd_a (jm_ne_oa tr5 t15) r55))), (jm_rd_k (by decide) (jm_rd_a (jm_ne_oa tr5 t25) (jm_rd_a (jm_ne_oa tr5 t15) r65))), tp5, ⟨ta5, (jm_rd_k (by decide) (jm_rd_a (jm_ne_oa ta5 t25) (jm_rd_a (jm_ne_oa ta5 t15) f05))), (jm_rd_k (by decide) (jm_rd_a (jm_ne_oa ta5 t25) (jm_rd_a (jm_ne_oa ta5 t15) f15))), (jm_rd_a (jm_ne_oo ta5 tf5 (by decide)) (jm_rd_a (jm_ne_oa ta5 t25) (jm_rd_a (jm_ne_oa ta5 t15) f25))), (jm_rd_k (by decide) (jm_rd_a (jm_ne_oa ta5 t25) (jm_rd_a (jm_ne_oa ta5 t15) f35))), (jm_rd_k (by decide) (jm_rd_a (jm_ne_oa ta5 t25) (jm_rd_a (jm_ne_oa ta5 t15) f45))), (jm_rd_k (by decide) (jm_rd_a (jm_ne_oa ta5 t25) (jm_rd_a (jm_ne_oa ta5 t15) f55))), (jm_rd_k (by decide) (jm_rd_a (jm_ne_oa ta5 t25) (jm_rd_a (jm_ne_oa ta5 t15) f65))), tb5⟩, (fun j hj => jm_rd_a (Ne.symm (jm_ne_oa tf5 tb5)) ((fun j hj => jm_rd_a (jm_ne_aa tb5 t25 (by decide)) ((fun j hj => jm_rd_a (jm_ne_aa tb5 t15 (by decide)) (hB5 j hj)) j hj)) j hj)), ⟨tf5, (jm_rd_k (by decide) (jm_rd_a (jm_ne_oa tf5 t25) (jm_rd_a (jm_ne_oa tf5 t15) g05))), (jm_rd_k (by decide) (jm_rd_a (jm_ne_oa tf5 t25) (jm_rd_a (jm_ne_oa tf5 t15) g15))), (jm_rd_s _ _ _ _), (jm_rd_k (by decide) (jm_rd_a (jm_ne_oa tf5 t25) (jm_rd_a (jm_ne_oa tf5 t15) g35))), (jm_rd_k (by decide) (jm_rd_a (jm_ne_oa tf5 t25) (jm_rd_a (jm_ne_oa tf5 t15) g45))), (jm_rd_k (by decide) (jm_rd_a (jm_ne_oa tf5 t25) (jm_rd_a (jm_ne_oa tf5 t15) g55))), (jm_rd_k (by decide) (jm_rd_a (jm_ne_oa tf5 t25) (jm_rd_a (jm_ne_oa tf5 t15) g65))), t15, t25, t35, t45, t55⟩, (arI.keep (arI.keep (arI.put hST5) (by omega)) (Ne.symm (jm_ne_oa tf5 t15))), (arI.keep (arI.put (arI.keep hDT5 (by omega))) (Ne.symm (jm_ne_oa tf5 t25))), (arL.keep (arL.keep (arL.keep hNA5 (jm_ne_aa t35 t15 (by decide))) (jm_ne_aa t35 t25 (by decide))) (Ne.symm (jm_ne_oa tf5 t35))), (arI.keep (arI.keep (arI.keep hPL5 (by omega)) (by omega)) (Ne.symm (jm_ne_oa tf5 tp5))), hdis5, hcn5, hcs5⟩, SegOK.neg hg5⟩)
  ·
    refine jx_aload_n d_Rd_negated_6 0 rfl ?_
    refine jx_iconst (v0 := 3) d_Rd_negated_7 (by decide) ?_
    refine jx_callV (M2 := mm_Rd_refuse) rfl tr lk_Rd_64 wi_Rd_refuse ws_Rd_refuse d_Rd_negated_8 (c_Rd_refuse l G (d - 1) (by omega) ⟨tr, r0, r1, r2, r3, r4, r5, r6, tp, ⟨ta, f0, f1, f2, f3, f4, f5, f6, tb⟩, hB, ⟨tf, g0, g1, g2, g3, g4, g5, g6, t1, t2, t3, t4, t5⟩, hST, hDT, hNA, hPL, hdis, hcn, hcs⟩) cd_Rd_refuse rfl rfl (Nat.le_of_ble_eq_true rfl) (jm_fok (by omega)) (jm_look (by decide) (by omega)) ?_
    exact jx_zret d_Rd_negated_11 rfl (by first | rfl | decide) (⟨_, rfl, (jm_fr.put (jm_fr.put jm_fr.rf (by unfold S_rd; omega)) (by unfold S_rd; omega)), .inl (3, c.2.1), by rw [if_neg (by omega)], rfl, _, _, _, _, _, _, _, _, ⟨tr, (jm_rd_k (by decide) (jm_rd_k (by decide) r0)), (jm_rd_k (by decide) (jm_rd_k (by decide) r1)), (jm_rd_k (by decide) (jm_rd_k (by decide) r2)), (jm_rd_k (by decide) (jm_rd_s _ _ _ _)), (jm_rd_s _ _ _ _), (jm_rd_k (by decide) (jm_rd_k (by decide) r5)), (jm_rd_k (by decide) (jm_rd_k (by decide) r6)), tp, ⟨ta, (jm_rd_k (by decide) (jm_rd_k (by decide) f0)), (jm_rd_k (by decide) (jm_rd_k (by decide) f1)), (jm_rd_k (by decide) (jm_rd_k (by decide) f2)), (jm_rd_k (by decide) (jm_rd_a (jm_ne_oo ta tr (by decide)) f3)), (jm_rd_a (jm_ne_oo ta tr (by decide)) (jm_rd_k (by decide) f4)), (jm_rd_k (by decide) (jm_rd_k (by decide) f5)), (jm_rd_k (by decide) (jm_rd_k (by decide) f6)), tb⟩, (fun j hj => jm_rd_a (Ne.symm (jm_ne_oa tr tb)) ((fun j hj => jm_rd_a (Ne.symm (jm_ne_oa tr tb)) (hB j hj)) j hj)), ⟨tf, (jm_rd_k (by decide) (jm_rd_k (by decide) g0)), (jm_rd_k (by decide) (jm_rd_k (by decide) g1)), (jm_rd_k (by decide) (jm_rd_k (by decide) g2)), (jm_rd_k (by decide) (jm_rd_a (jm_ne_oo tf tr (by decide)) g3)), (jm_rd_a (jm_ne_oo tf tr (by decide)) (jm_rd_k (by decide) g4)), (jm_rd_k (by decide) (jm_rd_k (by decide) g5)), (jm_rd_k (by decide) (jm_rd_k (by decide) g6)), t1, t2, t3, t4, t5⟩, (arI.keep (arI.keep hST (Ne.symm (jm_ne_oa tr t1))) (Ne.symm (jm_ne_oa tr t1))), (arI.keep (arI.keep hDT (Ne.symm (jm_ne_oa tr t2))) (Ne.symm (jm_ne_oa tr t2))), (arL.keep (arL.keep hNA (Ne.symm (jm_ne_oa tr t3))) (Ne.symm (jm_ne_oa tr t3))), (arI.keep (arI.keep hPL (Ne.symm (jm_ne_oa tr tp))) (Ne.symm (jm_ne_oa tr tp))), hdis, hcn, hcs⟩, by omega, by omega⟩)
theorem seg_mm {u : Int32} {a b : Term} {L N k L1 N1 k1 L2 N2 k2 : Nat} {ST DT ST1 DT1 ST2 DT2 : Nat → Int32} {NA NA1 NA2 : Nat → Int64} {PL PL1 PL2 : Nat → Int32} (hu : u = 4 ∨ u = 5) (ha : SegOK a L N (k + 1) L1 N1 k1 ST DT ST1 DT1 NA NA1 PL PL1) (hb : SegOK b L1 N1 k1 L2 N2 k2 ST1 DT1 ST2 DT2 NA1 NA2 PL1 PL2) : SegOK (if u = 4 then .rem a b else .op2 .iand a b) L N k (L2 + 1) N2 k2 ST DT (jm_up ST2 L2 u) (jm_up DT2 L2 0) NA NA2 PL PL2 := by
  rcases hu with rfl | rfl
  · rw [if_pos rfl]
    exact SegOK.bin 4 (fun _ _ _ _ _ _ _ _ h => h) (fun h1 h2 => ⟨h1, h2⟩) ha hb (by omega) (by omega) (by omega)
  · rw [if_neg (by decide)]
    exact SegOK.bin 5 (fun _ _ _ _ _ _ _ _ h => h) (fun h1 h2 => ⟨h1, h2⟩) ha hb (by omega) (by omega) (by omega)
theorem seg_pm {u : Int32} {a b : Term} {L N k L1 N1 k1 L2 N2 k2 : Nat} {ST DT ST1 DT1 ST2 DT2 : Nat → Int32} {NA NA1 NA2 : Nat → Int64} {PL PL1 PL2 : Nat → Int32} (hu : u = 43 ∨ u = 45) (ha : SegOK a L N k L1 N1 k1 ST DT ST1 DT1 NA NA1 PL PL1) (hb : SegOK b L1 N1 (k1 + 1) L2 N2 k2 ST1 DT1 ST2 DT2 NA1 NA2 PL1 PL2) : SegOK (if u = 43 then .add a b else .sub a b) L N k (L2 + 1) N2 k2 ST DT (jm_up ST2 L2 u) (jm_up DT2 L2 0) NA NA2 PL PL2 := by
  rcases hu with rfl | rfl
  · rw [if_pos rfl]
    exact SegOK.bin 43 (fun _ _ _ _ _ _ _ _ h => h) (fun h1 h2 => ⟨h1, h2⟩) ha hb (by omega) (by omega) (by omega)
  · rw [if_neg (by decide)]
    exact SegOK.bin 45 (fun _ _ _ _ _ _ _ _ h => h) (fun h1 h2 => ⟨h1, h2⟩) ha hb (by omega) (by omega) (by omega)
theorem seg_md {u : Int32} {a b : Term} {L N k L1 N1 k1 L2 N2 k2 : Nat} {ST DT ST1 DT1 ST2 DT2 : Nat → Int32} {NA NA1 NA2 : Nat → Int64} {PL PL1 PL2 : Nat → Int32} (hu : u = 42 ∨ u = 47) (ha : SegOK a L N k L1 N1 k1 ST DT ST1 DT1 NA NA1 PL PL1) (hb : SegOK b L1 N1 (k1 + 1) L2 N2 k2 ST1 DT1 ST2 DT2 NA1 NA2 PL1 PL2) : SegOK (if u = 42 then .mul a b else .div a b) L N k (L2 + 1) N2 k2 ST DT (jm_up ST2 L2 u) (jm_up DT2 L2 0) NA NA2 PL PL2 := by
  rcases hu with rfl | rfl
  · rw [if_pos rfl]
    exact SegOK.bin 42 (fun _ _ _ _ _ _ _ _ h => h) (fun h1 h2 => ⟨h1, h2⟩) ha hb (by omega) (by omega) (by omega)
  · rw [if_neg (by decide)]
    exact SegOK.bin 47 (fun _ _ _ _ _ _ _ _ h => h) (fun h1 h2 => ⟨h1, h2⟩) ha hb (by omega) (by omega) (by omega)
set_option maxHeartbeats 4000000 in
set_option maxRecDepth 100000 in
theorem c_Rd_lesserOrGreater (l : Launch) (G : jm_G) (d dp : Nat) (hd : 9 + 4 * (20 - dp) ≤ d) (hdp : dp ≤ 20) (ih : dp < 20 → CSum l G (dp + 1)) {h : jm_H} {r f n : Nat} {B : Nat → Int32} {c : Cur} {k L N : Nat} {ST DT : Nat → Int32} {NA : Nat → Int64} {PL : Nat → Int32} {fc fp : Int32} {nme : Int64} (hS : RdS h r f n B c k L N ST DT NA PL fc fp nme) (hn : n ≤ 2000) (hk : k ≤ 40) (hL : L ≤ 2 * k) (hN : N ≤ k) (hc45 : c.1 = 4 ∨ c.1 = 5) : jm_CP l G mm_Rd_lesserOrGreater d [.ref r, .int (nI dp)] h (fun v h9 => jm_fr (S_rd r f) h h9 ∧ ∃ res, Rdm B n (Rd B n) dp c k res ∧ OutR res v h9 r f n B k L N ST DT NA PL fc fp nme) := by
  obtain ⟨tr, r0, r1, r2, r3, r4, r5, r6, tp, ⟨ta, f0, f1, f2, f3, f4, f5, f6, tb⟩, hB, ⟨tf, g0, g1, g2, g3, g4, g5, g6, t1, t2, t3, t4, t5⟩, hST, hDT, hNA, hPL, hdis, hcn, hcs⟩ := id hS
  refine jm_of (by decide) rfl (Nat.le_of_ble_eq_true rfl) ?_
  refine jx_aload_n d_Rd_lesserOrGreater_0 0 rfl ?_
  refine jx_get d_Rd_lesserOrGreater_1 fF_Rd_12 tr r0 ?_
  refine jx_get d_Rd_lesserOrGreater_4 fF_Rd_61 ta f3 ?_
  refine jx_istore_n (lv' := [(2, .int (c.1)), (0, .ref (r)), (1, .int (nI (dp)))]) d_Rd_lesserOrGreater_7 (by decide) rfl ?_
  refine jx_aload_n d_Rd_lesserOrGreater_8 1 rfl ?_
  obtain ⟨v1, h1, hC1, hfr1, hq1⟩ := c_Rd_passNode l G (d - 1) (by omega) (h := h) ⟨tr, r0, r1, r2, r3, r4, r5, r6, tp, ⟨ta, f0, f1, f2, f3, f4, f5, f6, tb⟩, hB, ⟨tf, g0, g1, g2, g3, g4, g5, g6, t1, t2, t3, t4, t5⟩, hST, hDT, hNA, hPL, hdis, hcn, hcs⟩ hn (by omega) (by omega) (by omega)
  cases hp1 : p_node B n c k with
  | inl e1 =>
    rw [hp1] at hq1
    obtain ⟨rfl, hF1⟩ := hq1
    refine jx_callV (M2 := mm_Rd_passNode) rfl tr lk_Rd_80 wi_Rd_passNode ws_Rd_passNode d_Rd_lesserOrGreater_9 hC1 cd_Rd_passNode rfl rfl (Nat.le_of_ble_eq_true rfl) (jm_fok (by omega)) (jm_look (by decide) (by omega)) ?_
    refine jx_if_eq (tgt := 52) d_Rd_lesserOrGreater_12 (by decide) (fun c2 => ?_) (fun c2 => absurd c2 (by decide))
    refine jx_iconst (v0 := 0) d_Rd_lesserOrGreater_52 (by decide) ?_
    exact jx_zret d_Rd_lesserOrGreater_53 rfl (by first | rfl | decide) (⟨_, rfl, (jm_fr.trans jm_fr.rf hfr1), .inl e1, (sb_l hp1), rfl, hF1⟩)
  | inr c1 =>
    rw [hp1] at hq1
    obtain ⟨rfl, hS1⟩ := hq1
    obtain ⟨tr1, r01, r11, r21, r31, r41, r51, r61, tp1, ⟨ta1, f01, f11, f21, f31, f41, f51, f61, tb1⟩, hB1, ⟨tf1, g01, g11, g21, g31, g41, g51, g61, t11, t21, t31, t41, t51⟩, hST1, hDT1, hNA1, hPL1, hdis1, hcn1, hcs1⟩ := id hS1
    refine jx_callV (M2 := mm_Rd_passNode) rfl tr lk_Rd_80 wi_Rd_passNode ws_Rd_passNode d_Rd_lesserOrGreater_9 hC1 cd_Rd_passNode rfl rfl (Nat.le_of_ble_eq_true rfl) (jm_fok (by omega)) (jm_look (by decide) (by omega)) ?_
    have lthp1 := p_node_lt hp1
    refine jx_if_eq (tgt := 52) d_Rd_lesserOrGreater_12 (by decide) (fun c3 => absurd c3 (by decide)) (fun c3 => ?_)
    refine jx_aload_n d_Rd_lesserOrGreater_15 1 rfl ?_
    refine jx_iload_n d_Rd_lesserOrGreater_16 2 rfl ?_
    obtain ⟨v4, h4, hC4, hfr4, hq4⟩ := c_Rd_passOpening l G (d - 1) (by omega) (h := h1) ⟨tr1, r01, r11, r21, r31, r41, r51, r61, tp1, ⟨ta1, f01, f11, f21, f31, f41, f51, f61, tb1⟩, hB1, ⟨tf1, g01, g11, g21, g31, g41, g51, g61, t11, t21, t31, t41, t51⟩, hST1, hDT1, hNA1, hPL1, hdis1, hcn1, hcs1⟩ hn (by omega) (by omega) (by omega)
    cases hp4 : p_open B n dp c1 with
    | inl e4 =>
      rw [hp4] at hq4
      obtain ⟨rfl, hF4⟩ := hq4
      refine jx_callV (M2 := mm_Rd_passOpening) rfl tr1 lk_Rd_98 wi_Rd_passOpening ws_Rd_passOpening d_Rd_lesserOrGreater_17 hC4 cd_Rd_passOpening rfl rfl (Nat.le_of_ble_eq_true rfl) (jm_fok (by omega)) (jm_look (by decide) (by omega)) ?_
      refine jx_if_eq (tgt := 52) d_Rd_lesserOrGreater_20 (by decide) (fun c5 => ?_) (fun c5 => absurd c5 (by decide))
      refine jx_iconst (v0 := 0) d_Rd_lesserOrGreater_52 (by decide) ?_
      exact jx_zret d_Rd_lesserOrGreater_53 rfl (by first | rfl | decide) (⟨_, rfl, (jm_fr.trans (jm_fr.trans jm_fr.rf hfr1) hfr4), .inl e4, (sb_r hp1 (sb_l hp4)), rfl, hF4⟩)
    | inr c4 =>
      rw [hp4] at hq4
      obtain ⟨rfl, hS4⟩ := hq4
      obtain ⟨tr4, r04, r14, r24, r34, r44, r54, r64, tp4, ⟨ta4, f04, f14, f24, f34, f44, f54, f64, tb4⟩, hB4, ⟨tf4, g04, g14, g24, g34, g44, g54, g64, t14, t24, t34, t44, t54⟩, hST4, hDT4, hNA4, hPL4, hdis4, hcn4, hcs4⟩ := id hS4
      refine jx_callV (M2 := mm_Rd_passOpening) rfl tr1 lk_Rd_98 wi_Rd_passOpening ws_Rd_passOpening d_Rd_lesserOrGreater_17 hC4 cd_Rd_passOpening rfl rfl (Nat.le_of_ble_eq_true rfl) (jm_fok (by omega)) (jm_look (by decide) (by omega)) ?_
      have lthp4 := p_open_lt hp4
      refine jx_if_eq (tgt := 52) d_Rd_lesserOrGreater_20 (by decide) (fun c6 => absurd c6 (by decide)) (fun c6 => ?_)
      refine jx_aload_n d_Rd_lesserOrGreater_23 1 rfl ?_
      refine jx_iload_n d_Rd_lesserOrGreater_24 2 rfl ?_
      refine jx_iconst (v0 := 1) d_Rd_lesserOrGreater_25 (by decide) ?_
      refine jx_iadd d_Rd_lesserOrGreater_26 ?_
      refine jx_ati (nI_add (dp) (1)) ?_
      obtain ⟨v7, h7, hC7, hfr7, res7, hd7, hq7⟩ := (ih (by omega)) (d - 1) (by omega) (h := h4) ⟨tr4, r04, r14, r24, r34, r44, r54, r64, tp4, ⟨ta4, f04, f14, f24, f34, f44, f54, f64, tb4⟩, hB4, ⟨tf4, g04, g14, g24, g34, g44, g54, g64, t14, t24, t34, t44, t54⟩, hST4, hDT4, hNA4, hPL4, hdis4, hcn4, hcs4⟩ hn (by omega) (by omega) (by omega)
      rcases res7 with e7 | ⟨t7, c7, k7⟩
      · obtain ⟨rfl, hF7⟩ := hq7
        refine jx_callV (M2 := mm_Rd_sum) rfl tr4 lk_Rd_58 wi_Rd_sum ws_Rd_sum d_Rd_lesserOrGreater_27 hC7 cd_Rd_sum rfl rfl (Nat.le_of_ble_eq_true rfl) (jm_fok (by omega)) (jm_look (by decide) (by omega)) ?_
        refine jx_if_eq (tgt := 52) d_Rd_lesserOrGreater_30 (by decide) (fun c8 => ?_) (fun c8 => absurd c8 (by decide))
        refine jx_iconst (v0 := 0) d_Rd_lesserOrGreater_52 (by decide) ?_
        exact jx_zret d_Rd_lesserOrGreater_53 rfl (by first | rfl | decide) (⟨_, rfl, (jm_fr.trans (jm_fr.trans (jm_fr.trans jm_fr.rf hfr1) hfr4) hfr7), .inl e7, (sb_r hp1 (sb_r hp4 (pb_l hd7))), rfl, hF7⟩)
      · obtain ⟨rfl, L7, N7, ST7, DT7, NA7, PL7, hS7, hg7⟩ := hq7
        obtain ⟨-, -, -, -, hb7, hb27, hb37, hb47⟩ := id hg7
        simp only at hS7 hb7 hb27 hb37 hb47
        obtain ⟨tr7, r07, r17, r27, r37, r47, r57, r67, tp7, ⟨ta7, f07, f17, f27, f37, f47, f57, f67, tb7⟩, hB7, ⟨tf7, g07, g17, g27, g37, g47, g57, g67, t17, t27, t37, t47, t57⟩, hST7, hDT7, hNA7, hPL7, hdis7, hcn7, hcs7⟩ := id hS7
        refine jx_callV (M2 := mm_Rd_sum) rfl tr4 lk_Rd_58 wi_Rd_sum ws_Rd_sum d_Rd_lesserOrGreater_27 hC7 cd_Rd_sum rfl rfl (Nat.le_of_ble_eq_true rfl) (jm_fok (by omega)) (jm_look (by decide) (by omega)) ?_
        refine jx_if_eq (tgt := 52) d_Rd_lesserOrGreater_30 (by decide) (fun c9 => absurd c9 (by decide)) (fun c9 => ?_)
        refine jx_aload_n d_Rd_lesserOrGreater_33 1 rfl ?_
        refine jx_bipush (v0 := 44) d_Rd_lesserOrGreater_34 (by decide) ?_
        obtain ⟨v10, h10, hC10, hfr10, hq10⟩ := c_Rd_expect l G (d - 1) (by omega) (h := h7) (K := 44) ⟨tr7, r07, r17, r27, r37, r47, r57, r67, tp7, ⟨ta7, f07, f17, f27, f37, f47, f57, f67, tb7⟩, hB7, ⟨tf7, g07, g17, g27, g37, g47, g57, g67, t17, t27, t37, t47, t57⟩, hST7, hDT7, hNA7, hPL7, hdis7, hcn7, hcs7⟩ hn (by omega) (by omega)
        cases hp10 : p_exp B n 44 c7 with
        | inl e10 =>
          rw [hp10] at hq10
          obtain ⟨rfl, hF10⟩ := hq10
          refine jx_callV (M2 := mm_Rd_expect) rfl tr7 lk_Rd_54 wi_Rd_expect ws_Rd_expect d_Rd_lesserOrGreater_36 hC10 cd_Rd_expect rfl rfl (Nat.le_of_ble_eq_true rfl) (jm_fok (by omega)) (jm_look (by decide) (by omega)) ?_
          refine jx_if_eq (tgt := 52) d_Rd_lesserOrGreater_39 (by decide) (fun c11 => ?_) (fun c11 => absurd c11 (by decide))
          refine jx_iconst (v0 := 0) d_Rd_lesserOrGreater_52 (by decide) ?_
          exact jx_zret d_Rd_lesserOrGreater_53 rfl (by first | rfl | decide) (⟨_, rfl, (jm_fr.trans (jm_fr.trans (jm_fr.trans (jm_fr.trans jm_fr.rf hfr1) hfr4) hfr7) hfr10), .inl e10, (sb_r hp1 (sb_r hp4 (pb_r hd7 (sb_l hp10)))), rfl, hF10⟩)
        | inr c10 =>
          rw [hp10] at hq10
          obtain ⟨rfl, hS10⟩ := hq10
          obtain ⟨tr10, r010, r110, r210, r310, r410, r510, r610, tp10, ⟨ta10, f010, f110, f210, f310, f410, f510, f610, tb10⟩, hB10, ⟨tf10, g010, g110, g210, g310, g410, g510, g610, t110, t210, t310, t410, t510⟩, hST10, hDT10, hNA10, hPL10, hdis10, hcn10, hcs10⟩ := id hS10
          refine jx_callV (M2 := mm_Rd_expect) rfl tr7 lk_Rd_54 wi_Rd_expect ws_Rd_expect d_Rd_lesserOrGreater_36 hC10 cd_Rd_expect rfl rfl (Nat.le_of_ble_eq_true rfl) (jm_fok (by omega)) (jm_look (by decide) (by omega)) ?_
          refine jx_if_eq (tgt := 52) d_Rd_lesserOrGreater_39 (by decide) (fun c12 => absurd c12 (by decide)) (fun c12 => ?_)
          refine jx_aload_n d_Rd_lesserOrGreater_42 1 rfl ?_
          refine jx_iload_n d_Rd_lesserOrGreater_43 2 rfl ?_
          refine jx_iconst (v0 := 1) d_Rd_lesserOrGreater_44 (by decide) ?_
          refine jx_iadd d_Rd_lesserOrGreater_45 ?_
          refine jx_ati (nI_add (dp) (1)) ?_
          obtain ⟨v13, h13, hC13, hfr13, res13, hd13, hq13⟩ := (ih (by omega)) (d - 1) (by omega) (h := h10) ⟨tr10, r010, r110, r210, r310, r410, r510, r610, tp10, ⟨ta10, f010, f110, f210, f310, f410, f510, f610, tb10⟩, hB10, ⟨tf10, g010, g110, g210, g310, g410, g510, g610, t110, t210, t310, t410, t510⟩, hST10, hDT10, hNA10, hPL10, hdis10, hcn10, hcs10⟩ hn (by omega) (by omega) (by omega)
          rcases res13 with e13 | ⟨t13, c13, k13⟩
          · obtain ⟨rfl, hF13⟩ := hq13
            refine jx_callV (M2 := mm_Rd_sum) rfl tr10 lk_Rd_58 wi_Rd_sum ws_Rd_sum d_Rd_lesserOrGreater_46 hC13 cd_Rd_sum rfl rfl (Nat.le_of_ble_eq_true rfl) (jm_fok (by omega)) (jm_look (by decide) (by omega)) ?_
            refine jx_if_ne (tgt := 54) d_Rd_lesserOrGreater_49 (by decide) (fun c14 => absurd c14 (by decide)) (fun c14 => ?_)
            refine jx_iconst (v0 := 0) d_Rd_lesserOrGreater_52 (by decide) ?_
            exact jx_zret d_Rd_lesserOrGreater_53 rfl (by first | rfl | decide) (⟨_, rfl, (jm_fr.trans (jm_fr.trans (jm_fr.trans (jm_fr.trans (jm_fr.trans jm_fr.rf hfr1) hfr4) hfr7) hfr10) hfr13), .inl e13, (sb_r hp1 (sb_r hp4 (pb_r hd7 (sb_r hp10 (pb_l hd13))))), rfl, hF13⟩)
          · obtain ⟨rfl, L13, N13, ST13, DT13, NA13, PL13, hS13, hg13⟩ := hq13
            obtain ⟨-, -, -, -, hb13, hb213, hb313, hb413⟩ := id hg13
            simp only at hS13 hb13 hb213 hb313 hb413
            obtain ⟨tr13, r013, r113, r213, r313, r413, r513, r613, tp13, ⟨ta13, f013, f113, f213, f313, f413, f513, f613, tb13⟩, hB13, ⟨tf13, g013, g113, g213, g313, g413, g513, g613, t113, t213, t313, t413, t513⟩, hST13, hDT13, hNA13, hPL13, hdis13, hcn13, hcs13⟩ := id hS13
            refine jx_callV (M2 := mm_Rd_sum) rfl tr10 lk_Rd_58 wi_Rd_sum ws_Rd_sum d_Rd_lesserOrGreater_46 hC13 cd_Rd_sum rfl rfl (Nat.le_of_ble_eq_true rfl) (jm_fok (by omega)) (jm_look (by decide) (by omega)) ?_
            refine jx_if_ne (tgt := 54) d_Rd_lesserOrGreater_49 (by decide) (fun c15 => ?_) (fun c15 => absurd c15 (by decide))
            refine jx_aload_n d_Rd_lesserOrGreater_54 1 rfl ?_
            refine jx_get d_Rd_lesserOrGreater_55 fF_Rd_21 tr13 r113 ?_
            refine jx_iload_n d_Rd_lesserOrGreater_58 0 rfl ?_
            refine jx_iconst (v0 := 0) d_Rd_lesserOrGreater_59 (by decide) ?_
            refine jx_callV (M2 := mm_Fm_addStep) rfl tf13 lk_Rd_83 wi_Fm_addStep ws_Fm_addStep d_Rd_lesserOrGreater_60 (c_Fm_addStep l G (d - 1) ⟨tf13, g013, g113, g213, g313, g413, g513, g613, t113, t213, t313, t413, t513⟩ (by omega)) cd_Fm_addStep rfl rfl (Nat.le_of_ble_eq_true rfl) (jm_fok (by omega)) (jm_look (by decide) (by omega)) ?_
            refine jx_aload_n d_Rd_lesserOrGreater_63 1 rfl ?_
            refine jx_bipush (v0 := 41) d_Rd_lesserOrGreater_64 (by decide) ?_
            obtain ⟨v16, h16, hC16, hfr16, hq16⟩ := c_Rd_expect l G (d - 1) (by omega) (h := (jm_put (jm_put (jm_put h13 (f + 1) L13 (.int (c.1))) (f + 2) L13 (.int (0))) (f) 2 (.int (nI (L13 + 1))))) (K := 41) ⟨tr13, (jm_rd_k (by decide) (jm_rd_a (jm_ne_oa tr13 t213) (jm_rd_a (jm_ne_oa tr13 t113) r013))), (jm_rd_k (by decide) (jm_rd_a (jm_ne_oa tr13 t213) (jm_rd_a (jm_ne_oa tr13 t113) r113))), (jm_rd_a (jm_ne_oo tr13 tf13 (by decide)) (jm_rd_a (jm_ne_oa tr13 t213) (jm_rd_a (jm_ne_oa tr13 t113) r213))), (jm_rd_k (by decide) (jm_rd_a (jm_ne_oa tr13 t213) (jm_rd_a (jm_ne_oa tr13 t113) r313))), (jm_rd_k (by decide) (jm_rd_a (jm_ne_oa tr13 t213) (jm_rd_a (jm_ne_oa tr13 t113) r413))), (jm_rd_k (by decide) (jm_rd_a (jm_ne_oa tr13 t213) (jm_rd_a (jm_ne_oa tr13 t113) r513))), (jm_rd_k (by decide) (jm_rd_a (jm_ne_oa tr13 t213) (jm_rd_a (jm_ne_oa tr13 t113) r613))), tp13, ⟨ta13, (jm_rd_k (by decide) (jm_rd_a (jm_ne_oa ta13 t213) (jm_rd_a (jm_ne_oa ta13 t113) f013))), (jm_rd_k (by decide) (jm_rd_a (jm_ne_oa ta13 t213) (jm_rd_a (jm_ne_oa ta13 t113) f113))), (jm_rd_a (jm_ne_oo ta13 tf13 (by decide)) (jm_rd_a (jm_ne_oa ta13 t213) (jm_rd_a (jm_ne_oa ta13 t113) f213))), (jm_rd_k (by decide) (jm_rd_a (jm_ne_oa ta13 t213) (jm_rd_a (jm_ne_oa ta13 t113) f313))), (jm_rd_k (by decide) (jm_rd_a (jm_ne_oa ta13 t213) (jm_rd_a (jm_ne_oa ta13 t113) f413))), (jm_rd_k (by decide) (jm_rd_a (jm_ne_oa ta13 t213) (jm_rd_a (jm_ne_oa ta13 t113) f513))), (jm_rd_k (by decide) (jm_rd_a (jm_ne_oa ta13 t213) (jm_rd_a (jm_ne_oa ta13 t113) f613))), tb13⟩, (fun j hj => jm_rd_a (Ne.symm (jm_ne_oa tf13 tb13)) ((fun j hj => jm_rd_a (jm_ne_aa tb13 t213 (by decide)) ((fun j hj => jm_rd_a (jm_ne_aa tb13 t113 (by decide)) (hB13 j hj)) j hj)) j hj)), ⟨tf13, (jm_rd_k (by decide) (jm_rd_a (jm_ne_oa tf13 t213) (jm_rd_a (jm_ne_oa tf13 t113) g013))), (jm_rd_k (by decide) (jm_rd_a (jm_ne_oa tf13 t213) (jm_rd_a (jm_ne_oa tf13 t113) g113))), (jm_rd_s _ _ _ _), (jm_rd_k (by decide) (jm_rd_a (jm_ne_oa tf13 t213) (jm_rd_a (jm_ne_oa tf13 t113) g313))), (jm_rd_k (by decide) (jm_rd_a (jm_ne_oa tf13 t213) (jm_rd_a (jm_ne_oa tf13 t113) g413))), (jm_rd_k (by decide) (jm_rd_a (jm_ne_oa tf13 t213) (jm_rd_a (jm_ne_oa tf13 t113) g513))), (jm_rd_k (by decide) (jm_rd_a (jm_ne_oa tf13 t213) (jm_rd_a (jm_ne_oa tf13 t113) g613))), t113, t213, t313, t413, t513⟩, (arI.keep (arI.keep (arI.put hST13) (by omega)) (Ne.symm (jm_ne_oa tf13 t113))), (arI.keep (arI.put (arI.keep hDT13 (by omega))) (Ne.symm (jm_ne_oa tf13 t213))), (arL.keep (arL.keep (arL.keep hNA13 (jm_ne_aa t313 t113 (by decide))) (jm_ne_aa t313 t213 (by decide))) (Ne.symm (jm_ne_oa tf13 t313))), (arI.keep (arI.keep (arI.keep hPL13 (by omega)) (by omega)) (Ne.symm (jm_ne_oa tf13 tp13))), hdis13, hcn13, hcs13⟩ hn (by omega) (by omega)
            cases hp16 : p_exp B n 41 c13 with
            | inl e16 =>
              rw [hp16] at hq16
              obtain ⟨rfl, hF16⟩ := hq16
              refine jx_callV (M2 := mm_Rd_expect) rfl tr13 lk_Rd_54 wi_Rd_expect ws_Rd_expect d_Rd_lesserOrGreater_66 hC16 cd_Rd_expect rfl rfl (Nat.le_of_ble_eq_true rfl) (jm_fok (by omega)) (jm_look (by decide) (by omega)) ?_
              exact jx_zret d_Rd_lesserOrGreater_69 rfl (by first | rfl | decide) (⟨_, rfl, (jm_fr.trans (jm_fr.put (jm_fr.put (jm_fr.put (jm_fr.trans (jm_fr.trans (jm_fr.trans (jm_fr.trans (jm_fr.trans jm_fr.rf hfr1) hfr4) hfr7) hfr10) hfr13) (by unfold S_rd; omega)) (by unfold S_rd; omega)) (by unfold S_rd; omega)) hfr16), .inl e16, (sb_r hp1 (sb_r hp4 (pb_r hd7 (sb_r hp10 (pb_r hd13 (sb_l hp16)))))), rfl, hF16⟩)
            | inr c16 =>
              rw [hp16] at hq16
              obtain ⟨rfl, hS16⟩ := hq16
              obtain ⟨tr16, r016, r116, r216, r316, r416, r516, r616, tp16, ⟨ta16, f016, f116, f216, f316, f416, f516, f616, tb16⟩, hB16, ⟨tf16, g016, g116, g216, g316, g416, g516, g616, t116, t216, t316, t416, t516⟩, hST16, hDT16, hNA16, hPL16, hdis16, hcn16, hcs16⟩ := id hS16
              refine jx_callV (M2 := mm_Rd_expect) rfl tr13 lk_Rd_54 wi_Rd_expect ws_Rd_expect d_Rd_lesserOrGreater_66 hC16 cd_Rd_expect rfl rfl (Nat.le_of_ble_eq_true rfl) (jm_fok (by omega)) (jm_look (by decide) (by omega)) ?_
              exact jx_zret d_Rd_lesserOrGreater_69 rfl (by first | rfl | decide) (⟨_, rfl, (jm_fr.trans (jm_fr.put (jm_fr.put (jm_fr.put (jm_fr.trans (jm_fr.trans (jm_fr.trans (jm_fr.trans (jm_fr.trans jm_fr.rf hfr1) hfr4) hfr7) hfr10) hfr13) (by unfold S_rd; omega)) (by unfold S_rd; omega)) (by unfold S_rd; omega)) hfr16), .inr (if c.1 = 4 then .rem t7 t13 else .op2 .iand t7 t13, c16, k13), (sb_r hp1 (sb_r hp4 (pb_r hd7 (sb_r hp10 (pb_r hd13 (sb_r hp16 rfl)))))), rfl, _, _, _, _, _, _, ⟨tr16, r016, r116, r216, r316, r416, r516, r616, tp16, ⟨ta16, f016, f116, f216, f316, f416, f516, f616, tb16⟩, hB16, ⟨tf16, g016, g116, g216, g316, g416, g516, g616, t116, t216, t316, t416, t516⟩, hST16, hDT16, hNA16, hPL16, hdis16, hcn16, hcs16⟩, seg_mm hc45 hg7 hg13⟩)
set_option maxHeartbeats 4000000 in
set_option maxRecDepth 100000 in
theorem c_Rd_choice (l : Launch) (G : jm_G) (d dp : Nat) (hd : 9 + 4 * (20 - dp) ≤ d) (hdp : dp ≤ 20) (ih : dp < 20 → CSum l G (dp + 1)) {h : jm_H} {r f n : Nat} {B : Nat → Int32} {c : Cur} {k L N : Nat} {ST DT : Nat → Int32} {NA : Nat → Int64} {PL : Nat → Int32} {fc fp : Int32} {nme : Int64} (hS : RdS h r f n B c k L N ST DT NA PL fc fp nme) (hn : n ≤ 2000) (hk : k ≤ 40) (hL : L ≤ 2 * k) (hN : N ≤ k) : jm_CP l G mm_Rd_choice d [.ref r, .int (nI dp)] h (fun v h9 => jm_fr (S_rd r f) h h9 ∧ ∃ res, Rdi B n (Rd B n) dp c k res ∧ OutR res v h9 r f n B k L N ST DT NA PL fc fp nme) := by
  obtain ⟨tr, r0, r1, r2, r3, r4, r5, r6, tp, ⟨ta, f0, f1, f2, f3, f4, f5, f6, tb⟩, hB, ⟨tf, g0, g1, g2, g3, g4, g5, g6, t1, t2, t3, t4, t5⟩, hST, hDT, hNA, hPL, hdis, hcn, hcs⟩ := id hS
  refine jm_of (by decide) rfl (Nat.le_of_ble_eq_true rfl) ?_
  refine jx_aload_n d_Rd_choice_0 0 rfl ?_
  obtain ⟨v1, h1, hC1, hfr1, hq1⟩ := c_Rd_passNode l G (d - 1) (by omega) (h := h) ⟨tr, r0, r1, r2, r3, r4, r5, r6, tp, ⟨ta, f0, f1, f2, f3, f4, f5, f6, tb⟩, hB, ⟨tf, g0, g1, g2, g3, g4, g5, g6, t1, t2, t3, t4, t5⟩, hST, hDT, hNA, hPL, hdis, hcn, hcs⟩ hn (by omega) (by omega) (by omega)
  cases hp1 : p_node B n c k with
  | inl e1 =>
    rw [hp1] at hq1
    obtain ⟨rfl, hF1⟩ := hq1
    refine jx_callV (M2 := mm_Rd_passNode) rfl tr lk_Rd_80 wi_Rd_passNode ws_Rd_passNode d_Rd_choice_1 hC1 cd_Rd_passNode rfl rfl (Nat.le_of_ble_eq_true rfl) (jm_fok (by omega)) (jm_look (by decide) (by omega)) ?_
    refine jx_if_eq (tgt := 34) d_Rd_choice_4 (by decide) (fun c2 => ?_) (fun c2 => absurd c2 (by decide))
    refine jx_iconst (v0 := 0) d_Rd_choice_34 (by decide) ?_
    exact jx_zret d_Rd_choice_35 rfl (by first | rfl | decide) (⟨_, rfl, (jm_fr.trans jm_fr.rf hfr1), .inl e1, (sb_l hp1), rfl, hF1⟩)
  | inr c1 =>
    rw [hp1] at hq1
    obtain ⟨rfl, hS1⟩ := hq1
    obtain ⟨tr1, r01, r11, r21, r31, r41, r51, r61, tp1, ⟨ta1, f01, f11, f21, f31, f41, f51, f61, tb1⟩, hB1, ⟨tf1, g01, g11, g21, g31, g41, g51, g61, t11, t21, t31, t41, t51⟩, hST1, hDT1, hNA1, hPL1, hdis1, hcn1, hcs1⟩ := id hS1
    refine jx_callV (M2 := mm_Rd_passNode) rfl tr lk_Rd_80 wi_Rd_passNode ws_Rd_passNode d_Rd_choice_1 hC1 cd_Rd_passNode rfl rfl (Nat.le_of_ble_eq_true rfl) (jm_fok (by omega)) (jm_look (by decide) (by omega)) ?_
    have lthp1 := p_node_lt hp1
    refine jx_if_eq (tgt := 34) d_Rd_choice_4 (by decide) (fun c3 => absurd c3 (by decide)) (fun c3 => ?_)
    refine jx_aload_n d_Rd_choice_7 0 rfl ?_
    refine jx_iload_n d_Rd_choice_8 1 rfl ?_
    obtain ⟨v4, h4, hC4, hfr4, hq4⟩ := c_Rd_passOpening l G (d - 1) (by omega) (h := h1) ⟨tr1, r01, r11, r21, r31, r41, r51, r61, tp1, ⟨ta1, f01, f11, f21, f31, f41, f51, f61, tb1⟩, hB1, ⟨tf1, g01, g11, g21, g31, g41, g51, g61, t11, t21, t31, t41, t51⟩, hST1, hDT1, hNA1, hPL1, hdis1, hcn1, hcs1⟩ hn (by omega) (by omega) (by omega)
    cases hp4 : p_open B n dp c1 with
    | inl e4 =>
      rw [hp4] at hq4
      obtain ⟨rfl, hF4⟩ := hq4
      refine jx_callV (M2 := mm_Rd_passOpening) rfl tr1 lk_Rd_98 wi_Rd_passOpening ws_Rd_passOpening d_Rd_choice_9 hC4 cd_Rd_passOpening rfl rfl (Nat.le_of_ble_eq_true rfl) (jm_fok (by omega)) (jm_look (by decide) (by omega)) ?_
      refine jx_if_eq (tgt := 34) d_Rd_choice_12 (by decide) (fun c5 => ?_) (fun c5 => absurd c5 (by decide))
      refine jx_iconst (v0 := 0) d_Rd_choice_34 (by decide) ?_
      exact jx_zret d_Rd_choice_35 rfl (by first | rfl | decide) (⟨_, rfl, (jm_fr.trans (jm_fr.trans jm_fr.rf hfr1) hfr4), .inl e4, (sb_r hp1 (sb_l hp4)), rfl, hF4⟩)
    | inr c4 =>
      rw [hp4] at hq4
      obtain ⟨rfl, hS4⟩ := hq4
      obtain ⟨tr4, r04, r14, r24, r34, r44, r54, r64, tp4, ⟨ta4, f04, f14, f24, f34, f44, f54, f64, tb4⟩, hB4, ⟨tf4, g04, g14, g24, g34, g44, g54, g64, t14, t24, t34, t44, t54⟩, hST4, hDT4, hNA4, hPL4, hdis4, hcn4, hcs4⟩ := id hS4
      refine jx_callV (M2 := mm_Rd_passOpening) rfl tr1 lk_Rd_98 wi_Rd_passOpening ws_Rd_passOpening d_Rd_choice_9 hC4 cd_Rd_passOpening rfl rfl (Nat.le_of_ble_eq_true rfl) (jm_fok (by omega)) (jm_look (by decide) (by omega)) ?_
      have lthp4 := p_open_lt hp4
      refine jx_if_eq (tgt := 34) d_Rd_choice_12 (by decide) (fun c6 => absurd c6 (by decide)) (fun c6 => ?_)
      refine jx_aload_n d_Rd_choice_15 0 rfl ?_
      refine jx_iload_n d_Rd_choice_16 1 rfl ?_
      refine jx_iconst (v0 := 1) d_Rd_choice_17 (by decide) ?_
      refine jx_iadd d_Rd_choice_18 ?_
      refine jx_ati (nI_add (dp) (1)) ?_
      obtain ⟨v7, h7, hC7, hfr7, res7, hd7, hq7⟩ := (ih (by omega)) (d - 1) (by omega) (h := h4) ⟨tr4, r04, r14, r24, r34, r44, r54, r64, tp4, ⟨ta4, f04, f14, f24, f34, f44, f54, f64, tb4⟩, hB4, ⟨tf4, g04, g14, g24, g34, g44, g54, g64, t14, t24, t34, t44, t54⟩, hST4, hDT4, hNA4, hPL4, hdis4, hcn4, hcs4⟩ hn (by omega) (by omega) (by omega)
      rcases res7 with e7 | ⟨t7, c7, k7⟩
      · obtain ⟨rfl, hF7⟩ := hq7
        refine jx_callV (M2 := mm_Rd_sum) rfl tr4 lk_Rd_58 wi_Rd_sum ws_Rd_sum d_Rd_choice_19 hC7 cd_Rd_sum rfl rfl (Nat.le_of_ble_eq_true rfl) (jm_fok (by omega)) (jm_look (by decide) (by omega)) ?_
        refine jx_if_eq (tgt := 34) d_Rd_choice_22 (by decide) (fun c8 => ?_) (fun c8 => absurd c8 (by decide))
        refine jx_iconst (v0 := 0) d_Rd_choice_34 (by decide) ?_
        exact jx_zret d_Rd_choice_35 rfl (by first | rfl | decide) (⟨_, rfl, (jm_fr.trans (jm_fr.trans (jm_fr.trans jm_fr.rf hfr1) hfr4) hfr7), .inl e7, (sb_r hp1 (sb_r hp4 (pb_l hd7))), rfl, hF7⟩)
      · obtain ⟨rfl, L7, N7, ST7, DT7, NA7, PL7, hS7, hg7⟩ := hq7
        obtain ⟨-, -, -, -, hb7, hb27, hb37, hb47⟩ := id hg7
        simp only at hS7 hb7 hb27 hb37 hb47
        obtain ⟨tr7, r07, r17, r27, r37, r47, r57, r67, tp7, ⟨ta7, f07, f17, f27, f37, f47, f57, f67, tb7⟩, hB7, ⟨tf7, g07, g17, g27, g37, g47, g57, g67, t17, t27, t37, t47, t57⟩, hST7, hDT7, hNA7, hPL7, hdis7, hcn7, hcs7⟩ := id hS7
        refine jx_callV (M2 := mm_Rd_sum) rfl tr4 lk_Rd_58 wi_Rd_sum ws_Rd_sum d_Rd_choice_19 hC7 cd_Rd_sum rfl rfl (Nat.le_of_ble_eq_true rfl) (jm_fok (by omega)) (jm_look (by decide) (by omega)) ?_
        refine jx_if_eq (tgt := 34) d_Rd_choice_22 (by decide) (fun c9 => absurd c9 (by decide)) (fun c9 => ?_)
        refine jx_aload_n d_Rd_choice_25 0 rfl ?_
        refine jx_bipush (v0 := 44) d_Rd_choice_26 (by decide) ?_
        obtain ⟨v10, h10, hC10, hfr10, hq10⟩ := c_Rd_expect l G (d - 1) (by omega) (h := h7) (K := 44) ⟨tr7, r07, r17, r27, r37, r47, r57, r67, tp7, ⟨ta7, f07, f17, f27, f37, f47, f57, f67, tb7⟩, hB7, ⟨tf7, g07, g17, g27, g37, g47, g57, g67, t17, t27, t37, t47, t57⟩, hST7, hDT7, hNA7, hPL7, hdis7, hcn7, hcs7⟩ hn (by omega) (by omega)
        cases hp10 : p_exp B n 44 c7 with
        | inl e10 =>
          rw [hp10] at hq10
          obtain ⟨rfl, hF10⟩ := hq10
          refine jx_callV (M2 := mm_Rd_expect) rfl tr7 lk_Rd_54 wi_Rd_expect ws_Rd_expect d_Rd_choice_28 hC10 cd_Rd_expect rfl rfl (Nat.le_of_ble_eq_true rfl) (jm_fok (by omega)) (jm_look (by decide) (by omega)) ?_
          refine jx_if_ne (tgt := 36) d_Rd_choice_31 (by decide) (fun c11 => absurd c11 (by decide)) (fun c11 => ?_)
          refine jx_iconst (v0 := 0) d_Rd_choice_34 (by decide) ?_
          exact jx_zret d_Rd_choice_35 rfl (by first | rfl | decide) (⟨_, rfl, (jm_fr.trans (jm_fr.trans (jm_fr.trans (jm_fr.trans jm_fr.rf hfr1) hfr4) hfr7) hfr10), .inl e10, (sb_r hp1 (sb_r hp4 (pb_r hd7 (sb_l hp10)))), rfl, hF10⟩)
        | inr c10 =>
          rw [hp10] at hq10
          obtain ⟨rfl, hS10⟩ := hq10
          obtain ⟨tr10, r010, r110, r210, r310, r410, r510, r610, tp10, ⟨ta10, f010, f110, f210, f310, f410, f510, f610, tb10⟩, hB10, ⟨tf10, g010, g110, g210, g310, g410, g510, g610, t110, t210, t310, t410, t510⟩, hST10, hDT10, hNA10, hPL10, hdis10, hcn10, hcs10⟩ := id hS10
          refine jx_callV (M2 := mm_Rd_expect) rfl tr7 lk_Rd_54 wi_Rd_expect ws_Rd_expect d_Rd_choice_28 hC10 cd_Rd_expect rfl rfl (Nat.le_of_ble_eq_true rfl) (jm_fok (by omega)) (jm_look (by decide) (by omega)) ?_
          refine jx_if_ne (tgt := 36) d_Rd_choice_31 (by decide) (fun c12 => ?_) (fun c12 => absurd c12 (by decide))
          refine jx_aload_n d_Rd_choice_36 0 rfl ?_
          refine jx_get d_Rd_choice_37 fF_Rd_21 tr10 r110 ?_
          refine jx_get d_Rd_choice_40 fF_Rd_114 tf10 g210 ?_
          refine jx_istore_n (lv' := [(2, .int (nI (L7))), (0, .ref (r)), (1, .int (nI (dp)))]) d_Rd_choice_43 (by decide) rfl ?_
          refine jx_aload_n d_Rd_choice_44 1 rfl ?_
          refine jx_get d_Rd_choice_45 fF_Rd_21 tr10 r110 ?_
          refine jx_bipush (v0 := 8) d_Rd_choice_48 (by decide) ?_
          refine jx_iconst (v0 := 0) d_Rd_choice_50 (by decide) ?_
          refine jx_callV (M2 := mm_Fm_addStep) rfl tf10 lk_Rd_83 wi_Fm_addStep ws_Fm_addStep d_Rd_choice_51 (c_Fm_addStep l G (d - 1) ⟨tf10, g010, g110, g210, g310, g410, g510, g610, t110, t210, t310, t410, t510⟩ (by omega)) cd_Fm_addStep rfl rfl (Nat.le_of_ble_eq_true rfl) (jm_fok (by omega)) (jm_look (by decide) (by omega)) ?_
          refine jx_aload_n d_Rd_choice_54 1 rfl ?_
          refine jx_iload_n d_Rd_choice_55 2 rfl ?_
          refine jx_iconst (v0 := 1) d_Rd_choice_56 (by decide) ?_
          refine jx_iadd d_Rd_choice_57 ?_
          refine jx_ati (nI_add (dp) (1)) ?_
          obtain ⟨v13, h13, hC13, hfr13, res13, hd13, hq13⟩ := (ih (by omega)) (d - 1) (by omega) (h := (jm_put (jm_put (jm_put h10 (f + 1) L7 (.int (8))) (f + 2) L7 (.int (0))) (f) 2 (.int (nI (L7 + 1))))) ⟨tr10, (jm_rd_k (by decide) (jm_rd_a (jm_ne_oa tr10 t210) (jm_rd_a (jm_ne_oa tr10 t110) r010))), (jm_rd_k (by decide) (jm_rd_a (jm_ne_oa tr10 t210) (jm_rd_a (jm_ne_oa tr10 t110) r110))), (jm_rd_a (jm_ne_oo tr10 tf10 (by decide)) (jm_rd_a (jm_ne_oa tr10 t210) (jm_rd_a (jm_ne_oa tr10 t110) r210))), (jm_rd_k (by decide) (jm_rd_a (jm_ne_oa tr10 t210) (jm_rd_a (jm_ne_oa tr10 t110) r310))), (jm_rd_k (by decide) (jm_rd_a (jm_ne_oa tr10 t210) (jm_rd_a (jm_ne_oa tr10 t110) r410))), (jm_rd_k (by decide) (jm_rd_a (jm_ne_oa tr10 t210) (jm_rd_a (jm_ne_oa tr10 t110) r510))), (jm_rd_k (by decide) (jm_rd_a (jm_ne_oa tr10 t210) (jm_rd_a (jm_ne_oa tr10 t110) r610))), tp10, ⟨ta10, (jm_rd_k (by decide) (jm_rd_a (jm_ne_oa ta10 t210) (jm_rd_a (jm_ne_oa ta10 t110) f010))), (jm_rd_k (by decide) (jm_rd_a (jm_ne_oa ta10 t210) (jm_rd_a (jm_ne_oa ta10 t110) f110))), (jm_rd_a (jm_ne_oo ta10 tf10 (by decide)) (jm_rd_a (jm_ne_oa ta10 t210) (jm_rd_a (jm_ne_oa ta10 t110) f210))), (jm_rd_k (by decide) (jm_rd_a (jm_ne_oa ta10 t210) (jm_rd_a (jm_ne_oa ta10 t110) f310))), (jm_rd_k (by decide) (jm_rd_a (jm_ne_oa ta10 t210) (jm_rd_a (jm_ne_oa ta10 t110) f410))), (jm_rd_k (by decide) (jm_rd_a (jm_ne_oa ta10 t210) (jm_rd_a (jm_ne_oa ta10 t110) f510))), (jm_rd_k (by decide) (jm_rd_a (jm_ne_oa ta10 t210) (jm_rd_a (jm_ne_oa ta10 t110) f610))), tb10⟩, (fun j hj => jm_rd_a (Ne.symm (jm_ne_oa tf10 tb10)) ((fun j hj => jm_rd_a (jm_ne_aa tb10 t210 (by decide)) ((fun j hj => jm_rd_a (jm_ne_aa tb10 t110 (by decide)) (hB10 j hj)) j hj)) j hj)), ⟨tf10, (jm_rd_k (by decide) (jm_rd_a (jm_ne_oa tf10 t210) (jm_rd_a (jm_ne_oa tf10 t110) g010))), (jm_rd_k (by decide) (jm_rd_a (jm_ne_oa tf10 t210) (jm_rd_a (jm_ne_oa tf10 t110) g110))), (jm_rd_s _ _ _ _), (jm_rd_k (by decide) (jm_rd_a (jm_ne_oa tf10 t210) (jm_rd_a (jm_ne_oa tf10 t110) g310))), (jm_rd_k (by decide) (jm_rd_a (jm_ne_oa tf10 t210) (jm_rd_a (jm_ne_oa tf10 t110) g410))), (jm_rd_k (by decide) (jm_rd_a (jm_ne_oa tf10 t210) (jm_rd_a (jm_ne_oa tf10 t110) g510))), (jm_rd_k (by decide) (jm_rd_a (jm_ne_oa tf10 t210) (jm_rd_a (jm_ne_oa tf10 t110) g610))), t110, t210, t310, t410, t510⟩, (arI.keep (arI.keep (arI.put hST10) (by omega)) (Ne.symm (jm_ne_oa tf10 t110))), (arI.keep (arI.put (arI.keep hDT10 (by omega))) (Ne.symm (jm_ne_oa tf10 t210))), (arL.keep (arL.keep (arL.keep hNA10 (jm_ne_aa t310 t110 (by decide))) (jm_ne_aa t310 t210 (by decide))) (Ne.symm (jm_ne_oa tf10 t310))), (arI.keep (arI.keep (arI.keep hPL10 (by omega)) (by omega)) (Ne.symm (jm_ne_oa tf10 tp10))), hdis10, hcn10, hcs10⟩ hn (by omega) (by omega) (by omega)
          rcases res13 with e13 | ⟨t13, c13, k13⟩
          · obtain ⟨rfl, hF13⟩ := hq13
            refine jx_callV (M2 := mm_Rd_sum) rfl tr10 lk_Rd_58 wi_Rd_sum ws_Rd_sum d_Rd_choice_58 hC13 cd_Rd_sum rfl rfl (Nat.le_of_ble_eq_true rfl) (jm_fok (by omega)) (jm_look (by decide) (by omega)) ?_
            refine jx_if_eq (tgt := 73) d_Rd_choice_61 (by decide) (fun c14 => ?_) (fun c14 => absurd c14 (by decide))
            refine jx_iconst (v0 := 0) d_Rd_choice_73 (by decide) ?_
            exact jx_zret d_Rd_choice_74 rfl (by first | rfl | decide) (⟨_, rfl, (jm_fr.trans (jm_fr.put (jm_fr.put (jm_fr.put (jm_fr.trans (jm_fr.trans (jm_fr.trans (jm_fr.trans jm_fr.rf hfr1) hfr4) hfr7) hfr10) (by unfold S_rd; omega)) (by unfold S_rd; omega)) (by unfold S_rd; omega)) hfr13), .inl e13, (sb_r hp1 (sb_r hp4 (pb_r hd7 (sb_r hp10 (pb_l hd13))))), rfl, hF13⟩)
          · obtain ⟨rfl, L13, N13, ST13, DT13, NA13, PL13, hS13, hg13⟩ := hq13
            obtain ⟨-, -, -, -, hb13, hb213, hb313, hb413⟩ := id hg13
            simp only at hS13 hb13 hb213 hb313 hb413
            obtain ⟨tr13, r013, r113, r213, r313, r413, r513, r613, tp13, ⟨ta13, f013, f113, f213, f313, f413, f513, f613, tb13⟩, hB13, ⟨tf13, g013, g113, g213, g313, g413, g513, g613, t113, t213, t313, t413, t513⟩, hST13, hDT13, hNA13, hPL13, hdis13, hcn13, hcs13⟩ := id hS13
            refine jx_callV (M2 := mm_Rd_sum) rfl tr10 lk_Rd_58 wi_Rd_sum ws_Rd_sum d_Rd_choice_58 hC13 cd_Rd_sum rfl rfl (Nat.le_of_ble_eq_true rfl) (jm_fok (by omega)) (jm_look (by decide) (by omega)) ?_
            refine jx_if_eq (tgt := 73) d_Rd_choice_61 (by decide) (fun c15 => absurd c15 (by decide)) (fun c15 => ?_)
            refine jx_aload_n d_Rd_choice_64 1 rfl ?_
            refine jx_bipush (v0 := 44) d_Rd_choice_65 (by decide) ?_
            obtain ⟨v16, h16, hC16, hfr16, hq16⟩ := c_Rd_expect l G (d - 1) (by omega) (h := h13) (K := 44) ⟨tr13, r013, r113, r213, r313, r413, r513, r613, tp13, ⟨ta13, f013, f113, f213, f313, f413, f513, f613, tb13⟩, hB13, ⟨tf13, g013, g113, g213, g313, g413, g513, g613, t113, t213, t313, t413, t513⟩, hST13, hDT13, hNA13, hPL13, hdis13, hcn13, hcs13⟩ hn (by omega) (by omega)
            cases hp16 : p_exp B n 44 c13 with
            | inl e16 =>
              rw [hp16] at hq16
              obtain ⟨rfl, hF16⟩ := hq16
              refine jx_callV (M2 := mm_Rd_expect) rfl tr13 lk_Rd_54 wi_Rd_expect ws_Rd_expect d_Rd_choice_67 hC16 cd_Rd_expect rfl rfl (Nat.le_of_ble_eq_true rfl) (jm_fok (by omega)) (jm_look (by decide) (by omega)) ?_
              refine jx_if_ne (tgt := 75) d_Rd_choice_70 (by decide) (fun c17 => absurd c17 (by decide)) (fun c17 => ?_)
              refine jx_iconst (v0 := 0) d_Rd_choice_73 (by decide) ?_
              exact jx_zret d_Rd_choice_74 rfl (by first | rfl | decide) (⟨_, rfl, (jm_fr.trans (jm_fr.trans (jm_fr.put (jm_fr.put (jm_fr.put (jm_fr.trans (jm_fr.trans (jm_fr.trans (jm_fr.trans jm_fr.rf hfr1) hfr4) hfr7) hfr10) (by unfold S_rd; omega)) (by unfold S_rd; omega)) (by unfold S_rd; omega)) hfr13) hfr16), .inl e16, (sb_r hp1 (sb_r hp4 (pb_r hd7 (sb_r hp10 (pb_r hd13 (sb_l hp16)))))), rfl, hF16⟩)
            | inr c16 =>
              rw [hp16] at hq16
              obtain ⟨rfl, hS16⟩ := hq16
              obtain ⟨tr16, r016, r116, r216, r316, r416, r516, r616, tp16, ⟨ta16, f016, f116, f216, f316, f416, f516, f616, tb16⟩, hB16, ⟨tf16, g016, g116, g216, g316, g416, g516, g616, t116, t216, t316, t416, t516⟩, hST16, hDT16, hNA16, hPL16, hdis16, hcn16, hcs16⟩ := id hS16
              refine jx_callV (M2 := mm_Rd_expect) rfl tr13 lk_Rd_54 wi_Rd_expect ws_Rd_expect d_Rd_choice_67 hC16 cd_Rd_expect rfl rfl (Nat.le_of_ble_eq_true rfl) (jm_fok (by omega)) (jm_look (by decide) (by omega)) ?_
              refine jx_if_ne (tgt := 75) d_Rd_choice_70 (by decide) (fun c18 => ?_) (fun c18 => absurd c18 (by decide))
              refine jx_aload_n d_Rd_choice_75 1 rfl ?_
              refine jx_get d_Rd_choice_76 fF_Rd_21 tr16 r116 ?_
              refine jx_get d_Rd_choice_79 fF_Rd_114 tf16 g216 ?_
              refine jx_istore_n (lv' := [(3, .int (nI (L13))), (2, .int (nI (L7))), (0, .ref (r)), (1, .int (nI (dp)))]) d_Rd_choice_82 (by decide) rfl ?_
              have ll7 := Cdx.le hg7.1 hg7.2.1
              have ll13 := Cdx.le hg13.1 hg13.2.1
              refine jx_aload_n d_Rd_choice_83 2 rfl ?_
              refine jx_get d_Rd_choice_84 fF_Rd_21 tr16 r116 ?_
              refine jx_bipush (v0 := 9) d_Rd_choice_87 (by decide) ?_
              refine jx_iconst (v0 := 0) d_Rd_choice_89 (by decide) ?_
              refine jx_callV (M2 := mm_Fm_addStep) rfl tf16 lk_Rd_83 wi_Fm_addStep ws_Fm_addStep d_Rd_choice_90 (c_Fm_addStep l G (d - 1) ⟨tf16, g016, g116, g216, g316, g416, g516, g616, t116, t216, t316, t416, t516⟩ (by omega)) cd_Fm_addStep rfl rfl (Nat.le_of_ble_eq_true rfl) (jm_fok (by omega)) (jm_look (by decide) (by omega)) ?_
              refine jx_aload_n d_Rd_choice_93 2 rfl ?_
              refine jx_get d_Rd_choice_94 fF_Rd_21 tr16 (jm_rd_k (by decide) (jm_rd_a (jm_ne_oa tr16 t216) (jm_rd_a (jm_ne_oa tr16 t116) r116))) ?_
              refine jx_iload_n d_Rd_choice_97 1 rfl ?_
              refine jx_callV (M2 := mm_Fm_aimHere) rfl tf16 lk_Rd_117 wi_Fm_aimHere ws_Fm_aimHere d_Rd_choice_98 (c_Fm_aimHere l G (d - 1) ⟨tf16, (jm_rd_k (by decide) (jm_rd_a (jm_ne_oa tf16 t216) (jm_rd_a (jm_ne_oa tf16 t116) g016))), (jm_rd_k (by decide) (jm_rd_a (jm_ne_oa tf16 t216) (jm_rd_a (jm_ne_oa tf16 t116) g116))), (jm_rd_s _ _ _ _), (jm_rd_k (by decide) (jm_rd_a (jm_ne_oa tf16 t216) (jm_rd_a (jm_ne_oa tf16 t116) g316))), (jm_rd_k (by decide) (jm_rd_a (jm_ne_oa tf16 t216) (jm_rd_a (jm_ne_oa tf16 t116) g416))), (jm_rd_k (by decide) (jm_rd_a (jm_ne_oa tf16 t216) (jm_rd_a (jm_ne_oa tf16 t116) g516))), (jm_rd_k (by decide) (jm_rd_a (jm_ne_oa tf16 t216) (jm_rd_a (jm_ne_oa tf16 t116) g616))), t116, t216, t316, t416, t516⟩ (by omega) (by omega)) cd_Fm_aimHere rfl rfl (Nat.le_of_ble_eq_true rfl) (jm_fok (by omega)) (jm_look (by decide) (by omega)) ?_
              refine jx_aload_n d_Rd_choice_101 2 rfl ?_
              refine jx_iload_n d_Rd_choice_102 3 rfl ?_
              refine jx_iconst (v0 := 1) d_Rd_choice_103 (by decide) ?_
              refine jx_iadd d_Rd_choice_104 ?_
              refine jx_ati (nI_add (dp) (1)) ?_
              obtain ⟨v19, h19, hC19, hfr19, res19, hd19, hq19⟩ := (ih (by omega)) (d - 1) (by omega) (h := (jm_put (jm_put (jm_put (jm_put h16 (f + 1) L13 (.int (9))) (f + 2) L13 (.int (0))) (f) 2 (.int (nI (L13 + 1)))) (f + 2) L7 (.int (nI (L13 + 1))))) ⟨tr16, (jm_rd_a (jm_ne_oa tr16 t216) (jm_rd_k (by decide) (jm_rd_a (jm_ne_oa tr16 t216) (jm_rd_a (jm_ne_oa tr16 t116) r016)))), (jm_rd_a (jm_ne_oa tr16 t216) (jm_rd_k (by decide) (jm_rd_a (jm_ne_oa tr16 t216) (jm_rd_a (jm_ne_oa tr16 t116) r116)))), (jm_rd_a (jm_ne_oa tr16 t216) (jm_rd_a (jm_ne_oo tr16 tf16 (by decide)) (jm_rd_a (jm_ne_oa tr16 t216) (jm_rd_a (jm_ne_oa tr16 t116) r216)))), (jm_rd_a (jm_ne_oa tr16 t216) (jm_rd_k (by decide) (jm_rd_a (jm_ne_oa tr16 t216) (jm_rd_a (jm_ne_oa tr16 t116) r316)))), (jm_rd_a (jm_ne_oa tr16 t216) (jm_rd_k (by decide) (jm_rd_a (jm_ne_oa tr16 t216) (jm_rd_a (jm_ne_oa tr16 t116) r416)))), (jm_rd_a (jm_ne_oa tr16 t216) (jm_rd_k (by decide) (jm_rd_a (jm_ne_oa tr16 t216) (jm_rd_a (jm_ne_oa tr16 t116) r516)))), (jm_rd_a (jm_ne_oa tr16 t216) (jm_rd_k (by decide) (jm_rd_a (jm_ne_oa tr16 t216) (jm_rd_a (jm_ne_oa tr16 t116) r616)))), tp16, ⟨ta16, (jm_rd_a (jm_ne_oa ta16 t216) (jm_rd_k (by decide) (jm_rd_a (jm_ne_oa ta16 t216) (jm_rd_a (jm_ne_oa ta16 t116) f016)))), (jm_rd_a (jm_ne_oa ta16 t216) (jm_rd_k (by decide) (jm_rd_a (jm_ne_oa ta16 t216) (jm_rd_a (jm_ne_oa ta16 t116) f116)))), (jm_rd_a (jm_ne_oa ta16 t216) (jm_rd_a (jm_ne_oo ta16 tf16 (by decide)) (jm_rd_a (jm_ne_oa ta16 t216) (jm_rd_a (jm_ne_oa ta16 t116) f216)))), (jm_rd_a (jm_ne_oa ta16 t216) (jm_rd_k (by decide) (jm_rd_a (jm_ne_oa ta16 t216) (jm_rd_a (jm_ne_oa ta16 t116) f316)))), (jm_rd_a (jm_ne_oa ta16 t216) (jm_rd_k (by decide) (jm_rd_a (jm_ne_oa ta16 t216) (jm_rd_a (jm_ne_oa ta16 t116) f416)))), (jm_rd_a (jm_ne_oa ta16 t216) (jm_rd_k (by decide) (jm_rd_a (jm_ne_oa ta16 t216) (jm_rd_a (jm_ne_oa ta16 t116) f516)))), (jm_rd_a (jm_ne_oa ta16 t216) (jm_rd_k (by decide) (jm_rd_a (jm_ne_oa ta16 t216) (jm_rd_a (jm_ne_oa ta16 t116) f616)))), tb16⟩, (fun j hj => jm_rd_a (jm_ne_aa tb16 t216 (by decide)) ((fun j hj => jm_rd_a (Ne.symm (jm_ne_oa tf16 tb16)) ((fun j hj => jm_rd_a (jm_ne_aa tb16 t216 (by decide)) ((fun j hj => jm_rd_a (jm_ne_aa tb16 t116 (by decide)) (hB16 j hj)) j hj)) j hj)) j hj)), ⟨tf16, (jm_rd_a (jm_ne_oa tf16 t216) (jm_rd_k (by decide) (jm_rd_a (jm_ne_oa tf16 t216) (jm_rd_a (jm_ne_oa tf16 t116) g016)))), (jm_rd_a (jm_ne_oa tf16 t216) (jm_rd_k (by decide) (jm_rd_a (jm_ne_oa tf16 t216) (jm_rd_a (jm_ne_oa tf16 t116) g116)))), (jm_rd_a (jm_ne_oa tf16 t216) (jm_rd_s _ _ _ _)), (jm_rd_a (jm_ne_oa tf16 t216) (jm_rd_k (by decide) (jm_rd_a (jm_ne_oa tf16 t216) (jm_rd_a (jm_ne_oa tf16 t116) g316)))), (jm_rd_a (jm_ne_oa tf16 t216) (jm_rd_k (by decide) (jm_rd_a (jm_ne_oa tf16 t216) (jm_rd_a (jm_ne_oa tf16 t116) g416)))), (jm_rd_a (jm_ne_oa tf16 t216) (jm_rd_k (by decide) (jm_rd_a (jm_ne_oa tf16 t216) (jm_rd_a (jm_ne_oa tf16 t116) g516)))), (jm_rd_a (jm_ne_oa tf16 t216) (jm_rd_k (by decide) (jm_rd_a (jm_ne_oa tf16 t216) (jm_rd_a (jm_ne_oa tf16 t116) g616)))), t116, t216, t316, t416, t516⟩, (arI.keep (arI.keep (arI.keep (arI.put hST16) (by omega)) (Ne.symm (jm_ne_oa tf16 t116))) (by omega)), (arI.put (arI.keep (arI.put (arI.keep hDT16 (by omega))) (Ne.symm (jm_ne_oa tf16 t216)))), (arL.keep (arL.keep (arL.keep (arL.keep hNA16 (jm_ne_aa t316 t116 (by decide))) (jm_ne_aa t316 t216 (by decide))) (Ne.symm (jm_ne_oa tf16 t316))) (jm_ne_aa t316 t216 (by decide))), (arI.keep (arI.keep (arI.keep (arI.keep hPL16 (by omega)) (by omega)) (Ne.symm (jm_ne_oa tf16 tp16))) (by omega)), hdis16, hcn16, hcs16⟩ hn (by omega) (by omega) (by omega)
              rcases res19 with e19 | ⟨t19, c19, k19⟩
              · obtain ⟨rfl, hF19⟩ := hq19
                refine jx_callV (M2 := mm_Rd_sum) rfl tr16 lk_Rd_58 wi_Rd_sum ws_Rd_sum d_Rd_choice_105 hC19 cd_Rd_sum rfl rfl (Nat.le_of_ble_eq_true rfl) (jm_fok (by omega)) (jm_look (by decide) (by omega)) ?_
                refine jx_if_ne (tgt := 113) d_Rd_choice_108 (by decide) (fun c20 => absurd c20 (by decide)) (fun c20 => ?_)
                refine jx_iconst (v0 := 0) d_Rd_choice_111 (by decide) ?_
                exact jx_zret d_Rd_choice_112 rfl (by first | rfl | decide) (⟨_, rfl, (jm_fr.trans (jm_fr.put (jm_fr.put (jm_fr.put (jm_fr.put (jm_fr.trans (jm_fr.trans (jm_fr.put (jm_fr.put (jm_fr.put (jm_fr.trans (jm_fr.trans (jm_fr.trans (jm_fr.trans jm_fr.rf hfr1) hfr4) hfr7) hfr10) (by unfold S_rd; omega)) (by unfold S_rd; omega)) (by unfold S_rd; omega)) hfr13) hfr16) (by unfold S_rd; omega)) (by unfold S_rd; omega)) (by unfold S_rd; omega)) (by unfold S_rd; omega)) hfr19), .inl e19, (sb_r hp1 (sb_r hp4 (pb_r hd7 (sb_r hp10 (pb_r hd13 (sb_r hp16 (pb_l hd19))))))), rfl, hF19⟩)
              · obtain ⟨rfl, L19, N19, ST19, DT19, NA19, PL19, hS19, hg19⟩ := hq19
                obtain ⟨-, -, -, -, hb19, hb219, hb319, hb419⟩ := id hg19
                simp only at hS19 hb19 hb219 hb319 hb419
                obtain ⟨tr19, r019, r119, r219, r319, r419, r519, r619, tp19, ⟨ta19, f019, f119, f219, f319, f419, f519, f619, tb19⟩, hB19, ⟨tf19, g019, g119, g219, g319, g419, g519, g619, t119, t219, t319, t419, t519⟩, hST19, hDT19, hNA19, hPL19, hdis19, hcn19, hcs19⟩ := id hS19
                refine jx_callV (M2 := mm_Rd_sum) rfl tr16 lk_Rd_58 wi_Rd_sum ws_Rd_sum d_Rd_choice_105 hC19 cd_Rd_sum rfl rfl (Nat.le_of_ble_eq_true rfl) (jm_fok (by omega)) (jm_look (by decide) (by omega)) ?_
                refine jx_if_ne (tgt := 113) d_Rd_choice_108 (by decide) (fun c21 => ?_) (fun c21 => absurd c21 (by decide))
                have ll7 := Cdx.le hg7.1 hg7.2.1
                have ll13 := Cdx.le hg13.1 hg13.2.1
                have ll19 := Cdx.le hg19.1 hg19.2.1
                refine jx_aload_n d_Rd_choice_113 2 rfl ?_
                refine jx_get d_Rd_choice_114 fF_Rd_21 tr19 r119 ?_
                refine jx_iload_n d_Rd_choice_117 0 rfl ?_
                refine jx_callV (M2 := mm_Fm_aimHere) rfl tf19 lk_Rd_117 wi_Fm_aimHere ws_Fm_aimHere d_Rd_choice_118 (c_Fm_aimHere l G (d - 1) ⟨tf19, g019, g119, g219, g319, g419, g519, g619, t119, t219, t319, t419, t519⟩ (by omega) (by omega)) cd_Fm_aimHere rfl rfl (Nat.le_of_ble_eq_true rfl) (jm_fok (by omega)) (jm_look (by decide) (by omega)) ?_
                refine jx_aload_n d_Rd_choice_121 2 rfl ?_
                refine jx_bipush (v0 := 41) d_Rd_choice_122 (by decide) ?_
                obtain ⟨v22, h22, hC22, hfr22, hq22⟩ := c_Rd_expect l G (d - 1) (by omega) (h := (jm_put h19 (f + 2) L13 (.int (nI (L19))))) (K := 41) ⟨tr19, (jm_rd_a (jm_ne_oa tr19 t219) r019), (jm_rd_a (jm_ne_oa tr19 t219) r119), (jm_rd_a (jm_ne_oa tr19 t219) r219), (jm_rd_a (jm_ne_oa tr19 t219) r319), (jm_rd_a (jm_ne_oa tr19 t219) r419), (jm_rd_a (jm_ne_oa tr19 t219) r519), (jm_rd_a (jm_ne_oa tr19 t219) r619), tp19, ⟨ta19, (jm_rd_a (jm_ne_oa ta19 t219) f019), (jm_rd_a (jm_ne_oa ta19 t219) f119), (jm_rd_a (jm_ne_oa ta19 t219) f219), (jm_rd_a (jm_ne_oa ta19 t219) f319), (jm_rd_a (jm_ne_oa ta19 t219) f419), (jm_rd_a (jm_ne_oa ta19 t219) f519), (jm_rd_a (jm_ne_oa ta19 t219) f619), tb19⟩, (fun j hj => jm_rd_a (jm_ne_aa tb19 t219 (by decide)) (hB19 j hj)), ⟨tf19, (jm_rd_a (jm_ne_oa tf19 t219) g019), (jm_rd_a (jm_ne_oa tf19 t219) g119), (jm_rd_a (jm_ne_oa tf19 t219) g219), (jm_rd_a (jm_ne_oa tf19 t219) g319), (jm_rd_a (jm_ne_oa tf19 t219) g419), (jm_rd_a (jm_ne_oa tf19 t219) g519), (jm_rd_a (jm_ne_oa tf19 t219) g619), t119, t219, t319, t419, t519⟩, (arI.keep hST19 (by omega)), (arI.put hDT19), (arL.keep hNA19 (jm_ne_aa t319 t219 (by decide))), (arI.keep hPL19 (by omega)), hdis19, hcn19, hcs19⟩ hn (by omega) (by omega)
                cases hp22 : p_exp B n 41 c19 with
                | inl e22 =>
                  rw [hp22] at hq22
                  obtain ⟨rfl, hF22⟩ := hq22
                  refine jx_callV (M2 := mm_Rd_expect) rfl tr19 lk_Rd_54 wi_Rd_expect ws_Rd_expect d_Rd_choice_124 hC22 cd_Rd_expect rfl rfl (Nat.le_of_ble_eq_true rfl) (jm_fok (by omega)) (jm_look (by decide) (by omega)) ?_
                  exact jx_zret d_Rd_choice_127 rfl (by first | rfl | decide) (⟨_, rfl, (jm_fr.trans (jm_fr.put (jm_fr.trans (jm_fr.put (jm_fr.put (jm_fr.put (jm_fr.put (jm_fr.trans (jm_fr.trans (jm_fr.put (jm_fr.put (jm_fr.put (jm_fr.trans (jm_fr.trans (jm_fr.trans (jm_fr.trans jm_fr.rf hfr1) hfr4) hfr7) hfr10) (by unfold S_rd; omega)) (by unfold S_rd; omega)) (by unfold S_rd; omega)) hfr13) hfr16) (by unfold S_rd; omega)) (by unfold S_rd; omega)) (by unfold S_rd; omega)) (by unfold S_rd; omega)) hfr19) (by unfold S_rd; omega)) hfr22), .inl e22, (sb_r hp1 (sb_r hp4 (pb_r hd7 (sb_r hp10 (pb_r hd13 (sb_r hp16 (pb_r hd19 (sb_l hp22)))))))), rfl, hF22⟩)
                | inr c22 =>
                  rw [hp22] at hq22
                  obtain ⟨rfl, hS22⟩ := hq22
                  obtain ⟨tr22, r022, r122, r222, r322, r422, r522, r622, tp22, ⟨ta22, f022, f122, f222, f322, f422, f522, f622, tb22⟩, hB22, ⟨tf22, g022, g122, g222, g322, g422, g522, g622, t122, t222, t322, t422, t522⟩, hST22, hDT22, hNA22, hPL22, hdis22, hcn22, hcs22⟩ := id hS22
                  refine jx_callV (M2 := mm_Rd_expect) rfl tr19 lk_Rd_54 wi_Rd_expect ws_Rd_expect d_Rd_choice_124 hC22 cd_Rd_expect rfl rfl (Nat.le_of_ble_eq_true rfl) (jm_fok (by omega)) (jm_look (by decide) (by omega)) ?_
                  exact jx_zret d_Rd_choice_127 rfl (by first | rfl | decide) (⟨_, rfl, (jm_fr.trans (jm_fr.put (jm_fr.trans (jm_fr.put (jm_fr.put (jm_fr.put (jm_fr.put (jm_fr.trans (jm_fr.trans (jm_fr.put (jm_fr.put (jm_fr.put (jm_fr.trans (jm_fr.trans (jm_fr.trans (jm_fr.trans jm_fr.rf hfr1) hfr4) hfr7) hfr10) (by unfold S_rd; omega)) (by unfold S_rd; omega)) (by unfold S_rd; omega)) hfr13) hfr16) (by unfold S_rd; omega)) (by unfold S_rd; omega)) (by unfold S_rd; omega)) (by unfold S_rd; omega)) hfr19) (by unfold S_rd; omega)) hfr22), .inr (.old (.add t7 (.add t13 t19)), c22, k19), (sb_r hp1 (sb_r hp4 (pb_r hd7 (sb_r hp10 (pb_r hd13 (sb_r hp16 (pb_r hd19 (sb_r hp22 rfl)))))))), rfl, _, _, _, _, _, _, ⟨tr22, r022, r122, r222, r322, r422, r522, r622, tp22, ⟨ta22, f022, f122, f222, f322, f422, f522, f622, tb22⟩, hB22, ⟨tf22, g022, g122, g222, g322, g422, g522, g622, t122, t222, t322, t422, t522⟩, hST22, hDT22, hNA22, hPL22, hdis22, hcn22, hcs22⟩, SegOK.ite hg7 hg13 hg19⟩)
theorem rd4_of {B : Nat → Int32} {n dp k : Nat} {acc : Term} {c : Cur} {res : PR} (h : Rd4 B n (Rd B n) dp c k res) : Rd B n 4 dp acc c k res := Rd.intro h
theorem rd4_num {B : Nat → Int32} {n dp k : Nat} {c : Cur} {res : PR} (e : c.1 = 3) (h : Rdl B n (.long c.2.2.2.2.toInt64) c k res) : Rd4 B n (Rd B n) dp c k res := by unfold Rd4; rw [if_pos e]; exact h
theorem rd4_nam {B : Nat → Int32} {n dp k : Nat} {c : Cur} {res : PR} (e : c.1 = 2) (h : Rdl B n (.elem (.long c.2.2.2.1) (.index c.2.1)) c k res) : Rd4 B n (Rd B n) dp c k res := by unfold Rd4; rw [if_neg (by rw [e]; decide), if_pos e]; exact h
theorem rd4_neg {B : Nat → Int32} {n dp k : Nat} {c : Cur} {res : PR} (e : c.1 = 45) (h : if dp < 20 then Rdn B n (Rd B n) dp c k res else res = .inl (3, c.2.1)) : Rd4 B n (Rd B n) dp c k res := by unfold Rd4; rw [if_neg (by rw [e]; decide), if_neg (by rw [e]; decide), if_pos e]; exact h
theorem rd4_par {B : Nat → Int32} {n dp k : Nat} {c : Cur} {res : PR} (e : c.1 = 40) (h : Rdp B n (Rd B n) dp c k res) : Rd4 B n (Rd B n) dp c k res := by unfold Rd4; rw [if_neg (by rw [e]; decide), if_neg (by rw [e]; decide), if_neg (by rw [e]; decide), if_pos e]; exact h
theorem rd4_mm {B : Nat → Int32} {n dp k : Nat} {c : Cur} {res : PR} (e : c.1 = 4 ∨ c.1 = 5) (h : Rdm B n (Rd B n) dp c k res) : Rd4 B n (Rd B n) dp c k res := by
  unfold Rd4
  have e' : c.1 = 4 ∨ c.1 = 5 := e
  rw [if_neg (by rcases e with e | e <;> rw [e] <;> decide), if_neg (by rcases e with e | e <;> rw [e] <;> decide), if_neg (by rcases e with e | e <;> rw [e] <;> decide), if_neg (by rcases e with e | e <;> rw [e] <;> decide), if_pos e']
  exact h
theorem rd4_ite {B : Nat → Int32} {n dp k : Nat} {c : Cur} {res : PR} (e : c.1 = 6) (h : Rdi B n (Rd B n) dp c k res) : Rd4 B n (Rd B n) dp c k res := by unfold Rd4; rw [if_neg (by rw [e]; decide), if_neg (by rw [e]; decide), if_neg (by rw [e]; decide), if_neg (by rw [e]; decide), if_neg (by rw [e]; decide), if_pos e]; exact h
theorem rd4_oth {B : Nat → Int32} {n dp k : Nat} {c : Cur} {res : PR} (e3 : ¬ c.1 = 3) (e2 : ¬ c.1 = 2) (e45 : ¬ c.1 = 45) (e40 : ¬ c.1 = 40) (e4 : ¬ c.1 = 4) (e5 : ¬ c.1 = 5) (e6 : ¬ c.1 = 6) (h : res = .inl (2, c.2.1)) : Rd4 B n (Rd B n) dp c k res := by unfold Rd4; rw [if_neg e3, if_neg e2, if_neg e45, if_neg e40, if_neg (fun q => q.elim e4 e5), if_neg e6]; exact h
set_option maxHeartbeats 4000000 in
set_option maxRecDepth 100000 in
theorem c_Rd_part (l : Launch) (G : jm_G) (dp : Nat) (hdp : dp ≤ 20) (ihS : dp < 20 → CSum l G (dp + 1)) (ihP : dp < 20 → CPart l G (dp + 1)) : CPart l G dp := by
  intro d hd h r f n B c k L N ST DT NA PL fc fp nme hS hn hk hL hN
  obtain ⟨tr, r0, r1, r2, r3, r4, r5, r6, tp, ⟨ta, f0, f1, f2, f3, f4, f5, f6, tb⟩, hB, ⟨tf, g0, g1, g2, g3, g4, g5, g6, t1, t2, t3, t4, t5⟩, hST, hDT, hNA, hPL, hdis, hcn, hcs⟩ := id hS
  refine jm_of (by decide) rfl (Nat.le_of_ble_eq_true rfl) ?_
  refine jx_aload_n d_Rd_part_0 0 rfl ?_
  refine jx_get d_Rd_part_1 fF_Rd_12 tr r0 ?_
  refine jx_get d_Rd_part_4 fF_Rd_61 ta f3 ?_
  by_cases k2 : c.1 = 2
  · refine jx_lookup (off := 85) (tgt := 92) d_Rd_part_7 (by decide) (by rw [k2]; decide) (by decide) ?_
    refine jx_aload_n d_Rd_part_92 0 rfl ?_
    rcases Nat.lt_or_ge N 40 with hN40 | hN40
    · rcases Nat.lt_or_ge L 80 with hL80 | hL80
      · obtain ⟨v8, h8, hC8, rfl, hfr8, hS8⟩ := c_Rd_noteName_ok l G (d - 1) (by omega) hS hL80 hN40 hn
        obtain ⟨tr8, r08, r18, r28, r38, r48, r58, r68, tp8, ⟨ta8, f08, f18, f28, f38, f48, f58, f68, tb8⟩, hB8, ⟨tf8, g08, g18, g28, g38, g48, g58, g68, t18, t28, t38, t48, t58⟩, hST8, hDT8, hNA8, hPL8, hdis8, hcn8, hcs8⟩ := id hS8
        refine jx_callV (M2 := mm_Rd_noteName) rfl tr lk_Rd_92 wi_Rd_noteName ws_Rd_noteName d_Rd_part_93 hC8 cd_Rd_noteName rfl rfl (Nat.le_of_ble_eq_true rfl) (jm_fok (by omega)) (jm_look (by decide) (by omega)) ?_
        refine jx_aload_n d_Rd_part_96 0 rfl ?_
        obtain ⟨v1, h1, hC1, hfr1, hq1⟩ := c_Rd_passNode l G (d - 1) (by omega) (h := h8) ⟨tr8, r08, r18, r28, r38, r48, r58, r68, tp8, ⟨ta8, f08, f18, f28, f38, f48, f58, f68, tb8⟩, hB8, ⟨tf8, g08, g18, g28, g38, g48, g58, g68, t18, t28, t38, t48, t58⟩, hST8, hDT8, hNA8, hPL8, hdis8, hcn8, hcs8⟩ hn (by omega) (by omega) (by omega)
        cases hp1 : p_node B n c k with
        | inl e1 =>
          rw [hp1] at hq1
          obtain ⟨rfl, hF1⟩ := hq1
          refine jx_callV (M2 := mm_Rd_passNode) rfl tr8 lk_Rd_80 wi_Rd_passNode ws_Rd_passNode d_Rd_part_97 hC1 cd_Rd_passNode rfl rfl (Nat.le_of_ble_eq_true rfl) (jm_fok (by omega)) (jm_look (by decide) (by omega)) ?_
          exact jx_zret d_Rd_part_100 rfl (by first | rfl | decide) (⟨_, rfl, (jm_fr.trans (jm_fr.trans jm_fr.rf hfr8) hfr1), .inl e1, rd4_of (rd4_nam k2 (sb_l hp1)), rfl, hF1⟩)
        | inr c1 =>
          rw [hp1] at hq1
          obtain ⟨rfl, hS1⟩ := hq1
          obtain ⟨tr1, r01, r11, r21, r31, r41, r51, r61, tp1, ⟨ta1, f01, f11, f21, f31, f41, f51, f61, tb1⟩, hB1, ⟨tf1, g01, g11, g21, g31, g41, g51, g61, t11, t21, t31, t41, t51⟩, hST1, hDT1, hNA1, hPL1, hdis1, hcn1, hcs1⟩ := id hS1
          refine jx_callV (M2 := mm_Rd_passNode) rfl tr8 lk_Rd_80 wi_Rd_passNode ws_Rd_passNode d_Rd_part_97 hC1 cd_Rd_passNode rfl rfl (Nat.le_of_ble_eq_true rfl) (jm_fok (by omega)) (jm_look (by decide) (by omega)) ?_
          have lthp1 := p_node_lt hp1
          exact jx_zret d_Rd_part_100 rfl (by first | rfl | decide) (⟨_, rfl, (jm_fr.trans (jm_fr.trans jm_fr.rf hfr8) hfr1), .inr (.elem (.long c.2.2.2.1) (.index c.2.1), c1, k + 1), rd4_of (rd4_nam k2 (sb_r hp1 rfl)), rfl, _, _, _, _, _, _, ⟨tr1, r01, r11, r21, r31, r41, r51, r61, tp1, ⟨ta1, f01, f11, f21, f31, f41, f51, f61, tb1⟩, hB1, ⟨tf1, g01, g11, g21, g31, g41, g51, g61, t11, t21, t31, t41, t51⟩, hST1, hDT1, hNA1, hPL1, hdis1, hcn1, hcs1⟩, SegOK.nam lthp1⟩)
      · obtain ⟨v8, h8, hC8, rfl, hfr8, NA8, PL8, hS8⟩ := c_Rd_noteName_fullS l G (d - 1) (by omega) hS hL80 (by omega) hN40 hn
        obtain ⟨tr8, r08, r18, r28, r38, r48, r58, r68, tp8, ⟨ta8, f08, f18, f28, f38, f48, f58, f68, tb8⟩, hB8, ⟨tf8, g08, g18, g28, g38, g48, g58, g68, t18, t28, t38, t48, t58⟩, hST8, hDT8, hNA8, hPL8, hdis8, hcn8, hcs8⟩ := id hS8
        refine jx_callV (M2 := mm_Rd_noteName) rfl tr lk_Rd_92 wi_Rd_noteName ws_Rd_noteName d_Rd_part_93 hC8 cd_Rd_noteName rfl rfl (Nat.le_of_ble_eq_true rfl) (jm_fok (by omega)) (jm_look (by decide) (by omega)) ?_
        refine jx_aload_n d_Rd_part_96 0 rfl ?_
        obtain ⟨v2, h2, hC2, hfr2, hq2⟩ := c_Rd_passNode l G (d - 1) (by omega) (h := h8) ⟨tr8, r08, r18, r28, r38, r48, r58, r68, tp8, ⟨ta8, f08, f18, f28, f38, f48, f58, f68, tb8⟩, hB8, ⟨tf8, g08, g18, g28, g38, g48, g58, g68, t18, t28, t38, t48, t58⟩, hST8, hDT8, hNA8, hPL8, hdis8, hcn8, hcs8⟩ hn (by omega) (by omega) (by omega)
        cases hp2 : p_node B n c k with
        | inl e2 =>
          rw [hp2] at hq2
          obtain ⟨rfl, hF2⟩ := hq2
          refine jx_callV (M2 := mm_Rd_passNode) rfl tr8 lk_Rd_80 wi_Rd_passNode ws_Rd_passNode d_Rd_part_97 hC2 cd_Rd_passNode rfl rfl (Nat.le_of_ble_eq_true rfl) (jm_fok (by omega)) (jm_look (by decide) (by omega)) ?_
          exact jx_zret d_Rd_part_100 rfl (by first | rfl | decide) (⟨_, rfl, (jm_fr.trans (jm_fr.trans jm_fr.rf hfr8) hfr2), .inl e2, rd4_of (rd4_nam k2 (sb_l hp2)), rfl, hF2⟩)
        | inr c2 =>
          rw [hp2] at hq2
          obtain ⟨rfl, hS2⟩ := hq2
          obtain ⟨tr2, r02, r12, r22, r32, r42, r52, r62, tp2, ⟨ta2, f02, f12, f22, f32, f42, f52, f62, tb2⟩, hB2, ⟨tf2, g02, g12, g22, g32, g42, g52, g62, t12, t22, t32, t42, t52⟩, hST2, hDT2, hNA2, hPL2, hdis2, hcn2, hcs2⟩ := id hS2
          refine jx_callV (M2 := mm_Rd_passNode) rfl tr8 lk_Rd_80 wi_Rd_passNode ws_Rd_passNode d_Rd_part_97 hC2 cd_Rd_passNode rfl rfl (Nat.le_of_ble_eq_true rfl) (jm_fok (by omega)) (jm_look (by decide) (by omega)) ?_
          have lthp2 := p_node_lt hp2
          exact jx_zret d_Rd_part_100 rfl (by first | rfl | decide) (absurd lthp2 (by omega))
    · obtain ⟨v8, h8, hC8, rfl, hfr8, hS8⟩ := c_Rd_noteName_fullN l G (d - 1) (by omega) hS hN40 (by omega) hn
      obtain ⟨tr8, r08, r18, r28, r38, r48, r58, r68, tp8, ⟨ta8, f08, f18, f28, f38, f48, f58, f68, tb8⟩, hB8, ⟨tf8, g08, g18, g28, g38, g48, g58, g68, t18, t28, t38, t48, t58⟩, hST8, hDT8, hNA8, hPL8, hdis8, hcn8, hcs8⟩ := id hS8
      refine jx_callV (M2 := mm_Rd_noteName) rfl tr lk_Rd_92 wi_Rd_noteName ws_Rd_noteName d_Rd_part_93 hC8 cd_Rd_noteName rfl rfl (Nat.le_of_ble_eq_true rfl) (jm_fok (by omega)) (jm_look (by decide) (by omega)) ?_
      refine jx_aload_n d_Rd_part_96 0 rfl ?_
      obtain ⟨v3, h3, hC3, hfr3, hq3⟩ := c_Rd_passNode l G (d - 1) (by omega) (h := h8) ⟨tr8, r08, r18, r28, r38, r48, r58, r68, tp8, ⟨ta8, f08, f18, f28, f38, f48, f58, f68, tb8⟩, hB8, ⟨tf8, g08, g18, g28, g38, g48, g58, g68, t18, t28, t38, t48, t58⟩, hST8, hDT8, hNA8, hPL8, hdis8, hcn8, hcs8⟩ hn (by omega) (by omega) (by omega)
      cases hp3 : p_node B n c k with
      | inl e3 =>
        rw [hp3] at hq3
        obtain ⟨rfl, hF3⟩ := hq3
        refine jx_callV (M2 := mm_Rd_passNode) rfl tr8 lk_Rd_80 wi_Rd_passNode ws_Rd_passNode d_Rd_part_97 hC3 cd_Rd_passNode rfl rfl (Nat.le_of_ble_eq_true rfl) (jm_fok (by omega)) (jm_look (by decide) (by omega)) ?_
        exact jx_zret d_Rd_part_100 rfl (by first | rfl | decide) (⟨_, rfl, (jm_fr.trans (jm_fr.trans jm_fr.rf hfr8) hfr3), .inl e3, rd4_of (rd4_nam k2 (sb_l hp3)), rfl, hF3⟩)
      | inr c3 =>
        rw [hp3] at hq3
        obtain ⟨rfl, hS3⟩ := hq3
        obtain ⟨tr3, r03, r13, r23, r33, r43, r53, r63, tp3, ⟨ta3, f03, f13, f23, f33, f43, f53, f63, tb3⟩, hB3, ⟨tf3, g03, g13, g23, g33, g43, g53, g63, t13, t23, t33, t43, t53⟩, hST3, hDT3, hNA3, hPL3, hdis3, hcn3, hcs3⟩ := id hS3
        refine jx_callV (M2 := mm_Rd_passNode) rfl tr8 lk_Rd_80 wi_Rd_passNode ws_Rd_passNode d_Rd_part_97 hC3 cd_Rd_passNode rfl rfl (Nat.le_of_ble_eq_true rfl) (jm_fok (by omega)) (jm_look (by decide) (by omega)) ?_
        have lthp3 := p_node_lt hp3
        exact jx_zret d_Rd_part_100 rfl (by first | rfl | decide) (absurd lthp3 (by omega))
  ·
    by_cases k3 : c.1 = 3
    · refine jx_lookup (off := 65) (tgt := 72) d_Rd_part_7 (by decide) (by rw [k3]; decide) (by decide) ?_
      refine jx_aload_n d_Rd_part_72 0 rfl ?_
      refine jx_get d_Rd_part_73 fF_Rd_21 tr r1 ?_
      refine jx_iconst (v0 := 3) d_Rd_part_76 (by decide) ?_
      refine jx_aload_n d_Rd_part_77 0 rfl ?_
      refine jx_get d_Rd_part_78 fF_Rd_12 tr r0 ?_
      refine jx_get d_Rd_part_81 fF_Rd_89 ta f6 ?_
      rcases Nat.lt_or_ge L 80 with hL80 | hL80
      ·
        refine jx_callV (M2 := mm_Fm_addStep) rfl tf lk_Rd_83 wi_Fm_addStep ws_Fm_addStep d_Rd_part_84 (c_Fm_addStep l G (d - 1) ⟨tf, g0, g1, g2, g3, g4, g5, g6, t1, t2, t3, t4, t5⟩ hL80) cd_Fm_addStep rfl rfl (Nat.le_of_ble_eq_true rfl) (jm_fok (by omega)) (jm_look (by decide) (by omega)) ?_
        refine jx_aload_n d_Rd_part_87 0 rfl ?_
        obtain ⟨v4, h4, hC4, hfr4, hq4⟩ := c_Rd_passNode l G (d - 1) (by omega) (h := (jm_put (jm_put (jm_put h (f + 1) L (.int (3))) (f + 2) L (.int (c.2.2.2.2))) (f) 2 (.int (nI (L + 1))))) ⟨tr, (jm_rd_k (by decide) (jm_rd_a (jm_ne_oa tr t2) (jm_rd_a (jm_ne_oa tr t1) r0))), (jm_rd_k (by decide) (jm_rd_a (jm_ne_oa tr t2) (jm_rd_a (jm_ne_oa tr t1) r1))), (jm_rd_a (jm_ne_oo tr tf (by decide)) (jm_rd_a (jm_ne_oa tr t2) (jm_rd_a (jm_ne_oa tr t1) r2))), (jm_rd_k (by decide) (jm_rd_a (jm_ne_oa tr t2) (jm_rd_a (jm_ne_oa tr t1) r3))), (jm_rd_k (by decide) (jm_rd_a (jm_ne_oa tr t2) (jm_rd_a (jm_ne_oa tr t1) r4))), (jm_rd_k (by decide) (jm_rd_a (jm_ne_oa tr t2) (jm_rd_a (jm_ne_oa tr t1) r5))), (jm_rd_k (by decide) (jm_rd_a (jm_ne_oa tr t2) (jm_rd_a (jm_ne_oa tr t1) r6))), tp, ⟨ta, (jm_rd_k (by decide) (jm_rd_a (jm_ne_oa ta t2) (jm_rd_a (jm_ne_oa ta t1) f0))), (jm_rd_k (by decide) (jm_rd_a (jm_ne_oa ta t2) (jm_rd_a (jm_ne_oa ta t1) f1))), (jm_rd_a (jm_ne_oo ta tf (by decide)) (jm_rd_a (jm_ne_oa ta t2) (jm_rd_a (jm_ne_oa ta t1) f2))), (jm_rd_k (by decide) (jm_rd_a (jm_ne_oa ta t2) (jm_rd_a (jm_ne_oa ta t1) f3))), (jm_rd_k (by decide) (jm_rd_a (jm_ne_oa ta t2) (jm_rd_a (jm_ne_oa ta t1) f4))), (jm_rd_k (by decide) (jm_rd_a (jm_ne_oa ta t2) (jm_rd_a (jm_ne_oa ta t1) f5))), (jm_rd_k (by decide) (jm_rd_a (jm_ne_oa ta t2) (jm_rd_a (jm_ne_oa ta t1) f6))), tb⟩, (fun j hj => jm_rd_a (Ne.symm (jm_ne_oa tf tb)) ((fun j hj => jm_rd_a (jm_ne_aa tb t2 (by decide)) ((fun j hj => jm_rd_a (jm_ne_aa tb t1 (by decide)) (hB j hj)) j hj)) j hj)), ⟨tf, (jm_rd_k (by decide) (jm_rd_a (jm_ne_oa tf t2) (jm_rd_a (jm_ne_oa tf t1) g0))), (jm_rd_k (by decide) (jm_rd_a (jm_ne_oa tf t2) (jm_rd_a (jm_ne_oa tf t1) g1))), (jm_rd_s _ _ _ _), (jm_rd_k (by decide) (jm_rd_a (jm_ne_oa tf t2) (jm_rd_a (jm_ne_oa tf t1) g3))), (jm_rd_k (by decide) (jm_rd_a (jm_ne_oa tf t2) (jm_rd_a (jm_ne_oa tf t1) g4))), (jm_rd_k (by decide) (jm_rd_a (jm_ne_oa tf t2) (jm_rd_a (jm_ne_oa tf t1) g5))), (jm_rd_k (by decide) (jm_rd_a (jm_ne_oa tf t2) (jm_rd_a (jm_ne_oa tf t1) g6))), t1, t2, t3, t4, t5⟩, (arI.keep (arI.keep (arI.put hST) (by omega)) (Ne.symm (jm_ne_oa tf t1))), (arI.keep (arI.put (arI.keep hDT (by omega))) (Ne.symm (jm_ne_oa tf t2))), (arL.keep (arL.keep (arL.keep hNA (jm_ne_aa t3 t1 (by decide))) (jm_ne_aa t3 t2 (by decide))) (Ne.symm (jm_ne_oa tf t3))), (arI.keep (arI.keep (arI.keep hPL (by omega)) (by omega)) (Ne.symm (jm_ne_oa tf tp))), hdis, hcn, hcs⟩ hn (by omega) (by omega) (by omega)
        cases hp4 : p_node B n c k with
        | inl e4 =>
          rw [hp4] at hq4
          obtain ⟨rfl, hF4⟩ := hq4
          refine jx_callV (M2 := mm_Rd_passNode) rfl tr lk_Rd_80 wi_Rd_passNode ws_Rd_passNode d_Rd_part_88 hC4 cd_Rd_passNode rfl rfl (Nat.le_of_ble_eq_true rfl) (jm_fok (by omega)) (jm_look (by decide) (by omega)) ?_
          exact jx_zret d_Rd_part_91 rfl (by first | rfl | decide) (⟨_, rfl, (jm_fr.trans (jm_fr.put (jm_fr.put (jm_fr.put jm_fr.rf (by unfold S_rd; omega)) (by unfold S_rd; omega)) (by unfold S_rd; omega)) hfr4), .inl e4, rd4_of (rd4_num k3 (sb_l hp4)), rfl, hF4⟩)
        | inr c4 =>
          rw [hp4] at hq4
          obtain ⟨rfl, hS4⟩ := hq4
          obtain ⟨tr4, r04, r14, r24, r34, r44, r54, r64, tp4, ⟨ta4, f04, f14, f24, f34, f44, f54, f64, tb4⟩, hB4, ⟨tf4, g04, g14, g24, g34, g44, g54, g64, t14, t24, t34, t44, t54⟩, hST4, hDT4, hNA4, hPL4, hdis4, hcn4, hcs4⟩ := id hS4
          refine jx_callV (M2 := mm_Rd_passNode) rfl tr lk_Rd_80 wi_Rd_passNode ws_Rd_passNode d_Rd_part_88 hC4 cd_Rd_passNode rfl rfl (Nat.le_of_ble_eq_true rfl) (jm_fok (by omega)) (jm_look (by decide) (by omega)) ?_
          have lthp4 := p_node_lt hp4
          exact jx_zret d_Rd_part_91 rfl (by first | rfl | decide) (⟨_, rfl, (jm_fr.trans (jm_fr.put (jm_fr.put (jm_fr.put jm_fr.rf (by unfold S_rd; omega)) (by unfold S_rd; omega)) (by unfold S_rd; omega)) hfr4), .inr (.long c.2.2.2.2.toInt64, c4, k + 1), rd4_of (rd4_num k3 (sb_r hp4 rfl)), rfl, _, _, _, _, _, _, ⟨tr4, r04, r14, r24, r34, r44, r54, r64, tp4, ⟨ta4, f04, f14, f24, f34, f44, f54, f64, tb4⟩, hB4, ⟨tf4, g04, g14, g24, g34, g44, g54, g64, t14, t24, t34, t44, t54⟩, hST4, hDT4, hNA4, hPL4, hdis4, hcn4, hcs4⟩, SegOK.num lthp4⟩)
      ·
        refine jx_callV (M2 := mm_Fm_addStep) rfl tf lk_Rd_83 wi_Fm_addStep ws_Fm_addStep d_Rd_part_84 (c_Fm_addStep_full l G (d - 1) ⟨tf, g0, g1, g2, g3, g4, g5, g6, t1, t2, t3, t4, t5⟩ hL80 (by omega)) cd_Fm_addStep rfl rfl (Nat.le_of_ble_eq_true rfl) (jm_fok (by omega)) (jm_look (by decide) (by omega)) ?_
        refine jx_aload_n d_Rd_part_87 0 rfl ?_
        obtain ⟨v5, h5, hC5, hfr5, hq5⟩ := c_Rd_passNode l G (d - 1) (by omega) (h := h) ⟨tr, r0, r1, r2, r3, r4, r5, r6, tp, ⟨ta, f0, f1, f2, f3, f4, f5, f6, tb⟩, hB, ⟨tf, g0, g1, g2, g3, g4, g5, g6, t1, t2, t3, t4, t5⟩, hST, hDT, hNA, hPL, hdis, hcn, hcs⟩ hn (by omega) (by omega) (by omega)
        cases hp5 : p_node B n c k with
        | inl e5 =>
          rw [hp5] at hq5
          obtain ⟨rfl, hF5⟩ := hq5
          refine jx_callV (M2 := mm_Rd_passNode) rfl tr lk_Rd_80 wi_Rd_passNode ws_Rd_passNode d_Rd_part_88 hC5 cd_Rd_passNode rfl rfl (Nat.le_of_ble_eq_true rfl) (jm_fok (by omega)) (jm_look (by decide) (by omega)) ?_
          exact jx_zret d_Rd_part_91 rfl (by first | rfl | decide) (⟨_, rfl, (jm_fr.trans jm_fr.rf hfr5), .inl e5, rd4_of (rd4_num k3 (sb_l hp5)), rfl, hF5⟩)
        | inr c5 =>
          rw [hp5] at hq5
          obtain ⟨rfl, hS5⟩ := hq5
          obtain ⟨tr5, r05, r15, r25, r35, r45, r55, r65, tp5, ⟨ta5, f05, f15, f25, f35, f45, f55, f65, tb5⟩, hB5, ⟨tf5, g05, g15, g25, g35, g45, g55, g65, t15, t25, t35, t45, t55⟩, hST5, hDT5, hNA5, hPL5, hdis5, hcn5, hcs5⟩ := id hS5
          refine jx_callV (M2 := mm_Rd_passNode) rfl tr lk_Rd_80 wi_Rd_passNode ws_Rd_passNode d_Rd_part_88 hC5 cd_Rd_passNode rfl rfl (Nat.le_of_ble_eq_true rfl) (jm_fok (by omega)) (jm_look (by decide) (by omega)) ?_
          have lthp5 := p_node_lt hp5
          exact jx_zret d_Rd_part_91 rfl (by first | rfl | decide) (absurd lthp5 (by omega))
    ·
      by_cases k4 : c.1 = 4
      · refine jx_lookup (off := 133) (tgt := 140) d_Rd_part_7 (by decide) (by rw [k4]; decide) (by decide) ?_
        refine jx_aload_n d_Rd_part_140 0 rfl ?_
        refine jx_iload_n d_Rd_part_141 1 rfl ?_
        obtain ⟨v6, h6, hC6, hfr6, res6, hd6, hq6⟩ := c_Rd_lesserOrGreater l G (d - 1) dp (by omega) hdp ihS hS hn hk hL hN (Or.inl k4)
        rcases res6 with e6 | y6
        · obtain ⟨rfl, hF6⟩ := hq6
          refine jx_callV (M2 := mm_Rd_lesserOrGreater) rfl tr lk_Rd_101 wi_Rd_lesserOrGreater ws_Rd_lesserOrGreater d_Rd_part_142 hC6 cd_Rd_lesserOrGreater rfl rfl (Nat.le_of_ble_eq_true rfl) (jm_fok (by omega)) (jm_look (by decide) (by omega)) ?_
          exact jx_zret d_Rd_part_145 rfl (by first | rfl | decide) (⟨_, rfl, (jm_fr.trans jm_fr.rf hfr6), .inl e6, rd4_of (rd4_mm (Or.inl k4) hd6), rfl, hF6⟩)
        · obtain ⟨rfl, hF6⟩ := hq6
          refine jx_callV (M2 := mm_Rd_lesserOrGreater) rfl tr lk_Rd_101 wi_Rd_lesserOrGreater ws_Rd_lesserOrGreater d_Rd_part_142 hC6 cd_Rd_lesserOrGreater rfl rfl (Nat.le_of_ble_eq_true rfl) (jm_fok (by omega)) (jm_look (by decide) (by omega)) ?_
          exact jx_zret d_Rd_part_145 rfl (by first | rfl | decide) (⟨_, rfl, (jm_fr.trans jm_fr.rf hfr6), .inr y6, rd4_of (rd4_mm (Or.inl k4) hd6), rfl, hF6⟩)
      ·
        by_cases k5 : c.1 = 5
        · refine jx_lookup (off := 133) (tgt := 140) d_Rd_part_7 (by decide) (by rw [k5]; decide) (by decide) ?_
          refine jx_aload_n d_Rd_part_140 0 rfl ?_
          refine jx_iload_n d_Rd_part_141 1 rfl ?_
          obtain ⟨v7, h7, hC7, hfr7, res7, hd7, hq7⟩ := c_Rd_lesserOrGreater l G (d - 1) dp (by omega) hdp ihS hS hn hk hL hN (Or.inr k5)
          rcases res7 with e7 | y7
          · obtain ⟨rfl, hF7⟩ := hq7
            refine jx_callV (M2 := mm_Rd_lesserOrGreater) rfl tr lk_Rd_101 wi_Rd_lesserOrGreater ws_Rd_lesserOrGreater d_Rd_part_142 hC7 cd_Rd_lesserOrGreater rfl rfl (Nat.le_of_ble_eq_true rfl) (jm_fok (by omega)) (jm_look (by decide) (by omega)) ?_
            exact jx_zret d_Rd_part_145 rfl (by first | rfl | decide) (⟨_, rfl, (jm_fr.trans jm_fr.rf hfr7), .inl e7, rd4_of (rd4_mm (Or.inr k5) hd7), rfl, hF7⟩)
          · obtain ⟨rfl, hF7⟩ := hq7
            refine jx_callV (M2 := mm_Rd_lesserOrGreater) rfl tr lk_Rd_101 wi_Rd_lesserOrGreater ws_Rd_lesserOrGreater d_Rd_part_142 hC7 cd_Rd_lesserOrGreater rfl rfl (Nat.le_of_ble_eq_true rfl) (jm_fok (by omega)) (jm_look (by decide) (by omega)) ?_
            exact jx_zret d_Rd_part_145 rfl (by first | rfl | decide) (⟨_, rfl, (jm_fr.trans jm_fr.rf hfr7), .inr y7, rd4_of (rd4_mm (Or.inr k5) hd7), rfl, hF7⟩)
        ·
          by_cases k6 : c.1 = 6
          · refine jx_lookup (off := 139) (tgt := 146) d_Rd_part_7 (by decide) (by rw [k6]; decide) (by decide) ?_
            refine jx_aload_n d_Rd_part_146 0 rfl ?_
            refine jx_iload_n d_Rd_part_147 1 rfl ?_
            obtain ⟨v8, h8, hC8, hfr8, res8, hd8, hq8⟩ := c_Rd_choice l G (d - 1) dp (by omega) hdp ihS hS hn hk hL hN
            rcases res8 with e8 | y8
            · obtain ⟨rfl, hF8⟩ := hq8
              refine jx_callV (M2 := mm_Rd_choice) rfl tr lk_Rd_104 wi_Rd_choice ws_Rd_choice d_Rd_part_148 hC8 cd_Rd_choice rfl rfl (Nat.le_of_ble_eq_true rfl) (jm_fok (by omega)) (jm_look (by decide) (by omega)) ?_
              exact jx_zret d_Rd_part_151 rfl (by first | rfl | decide) (⟨_, rfl, (jm_fr.trans jm_fr.rf hfr8), .inl e8, rd4_of (rd4_ite k6 hd8), rfl, hF8⟩)
            · obtain ⟨rfl, hF8⟩ := hq8
              refine jx_callV (M2 := mm_Rd_choice) rfl tr lk_Rd_104 wi_Rd_choice ws_Rd_choice d_Rd_part_148 hC8 cd_Rd_choice rfl rfl (Nat.le_of_ble_eq_true rfl) (jm_fok (by omega)) (jm_look (by decide) (by omega)) ?_
              exact jx_zret d_Rd_part_151 rfl (by first | rfl | decide) (⟨_, rfl, (jm_fr.trans jm_fr.rf hfr8), .inr y8, rd4_of (rd4_ite k6 hd8), rfl, hF8⟩)
          ·
            by_cases k40 : c.1 = 40
            · refine jx_lookup (off := 100) (tgt := 107) d_Rd_part_7 (by decide) (by rw [k40]; decide) (by decide) ?_
              refine jx_aload_n d_Rd_part_107 0 rfl ?_
              refine jx_iload_n d_Rd_part_108 1 rfl ?_
              obtain ⟨v9, h9, hC9, hfr9, hq9⟩ := c_Rd_passOpening l G (d - 1) (by omega) (h := h) ⟨tr, r0, r1, r2, r3, r4, r5, r6, tp, ⟨ta, f0, f1, f2, f3, f4, f5, f6, tb⟩, hB, ⟨tf, g0, g1, g2, g3, g4, g5, g6, t1, t2, t3, t4, t5⟩, hST, hDT, hNA, hPL, hdis, hcn, hcs⟩ hn (by omega) (by omega) (by omega)
              cases hp9 : p_open B n dp c with
              | inl e9 =>
                rw [hp9] at hq9
                obtain ⟨rfl, hF9⟩ := hq9
                refine jx_callV (M2 := mm_Rd_passOpening) rfl tr lk_Rd_98 wi_Rd_passOpening ws_Rd_passOpening d_Rd_part_109 hC9 cd_Rd_passOpening rfl rfl (Nat.le_of_ble_eq_true rfl) (jm_fok (by omega)) (jm_look (by decide) (by omega)) ?_
                refine jx_if_eq (tgt := 138) d_Rd_part_112 (by decide) (fun c10 => ?_) (fun c10 => absurd c10 (by decide))
                refine jx_iconst (v0 := 0) d_Rd_part_138 (by decide) ?_
                exact jx_zret d_Rd_part_139 rfl (by first | rfl | decide) (⟨_, rfl, (jm_fr.trans jm_fr.rf hfr9), .inl e9, rd4_of (rd4_par k40 (sb_l hp9)), rfl, hF9⟩)
              | inr c9 =>
                rw [hp9] at hq9
                obtain ⟨rfl, hS9⟩ := hq9
                obtain ⟨tr9, r09, r19, r29, r39, r49, r59, r69, tp9, ⟨ta9, f09, f19, f29, f39, f49, f59, f69, tb9⟩, hB9, ⟨tf9, g09, g19, g29, g39, g49, g59, g69, t19, t29, t39, t49, t59⟩, hST9, hDT9, hNA9, hPL9, hdis9, hcn9, hcs9⟩ := id hS9
                refine jx_callV (M2 := mm_Rd_passOpening) rfl tr lk_Rd_98 wi_Rd_passOpening ws_Rd_passOpening d_Rd_part_109 hC9 cd_Rd_passOpening rfl rfl (Nat.le_of_ble_eq_true rfl) (jm_fok (by omega)) (jm_look (by decide) (by omega)) ?_
                have lthp9 := p_open_lt hp9
                refine jx_if_eq (tgt := 138) d_Rd_part_112 (by decide) (fun c11 => absurd c11 (by decide)) (fun c11 => ?_)
                refine jx_aload_n d_Rd_part_115 0 rfl ?_
                refine jx_iload_n d_Rd_part_116 1 rfl ?_
                refine jx_iconst (v0 := 1) d_Rd_part_117 (by decide) ?_
                refine jx_iadd d_Rd_part_118 ?_
                refine jx_ati (nI_add (dp) (1)) ?_
                obtain ⟨v12, h12, hC12, hfr12, res12, hd12, hq12⟩ := (ihS (by omega)) (d - 1) (by omega) (h := h9) ⟨tr9, r09, r19, r29, r39, r49, r59, r69, tp9, ⟨ta9, f09, f19, f29, f39, f49, f59, f69, tb9⟩, hB9, ⟨tf9, g09, g19, g29, g39, g49, g59, g69, t19, t29, t39, t49, t59⟩, hST9, hDT9, hNA9, hPL9, hdis9, hcn9, hcs9⟩ hn (by omega) (by omega) (by omega)
                rcases res12 with e12 | ⟨t12, c12, k12⟩
                · obtain ⟨rfl, hF12⟩ := hq12
                  refine jx_callV (M2 := mm_Rd_sum) rfl tr9 lk_Rd_58 wi_Rd_sum ws_Rd_sum d_Rd_part_119 hC12 cd_Rd_sum rfl rfl (Nat.le_of_ble_eq_true rfl) (jm_fok (by omega)) (jm_look (by decide) (by omega)) ?_
                  refine jx_if_eq (tgt := 138) d_Rd_part_122 (by decide) (fun c13 => ?_) (fun c13 => absurd c13 (by decide))
                  refine jx_iconst (v0 := 0) d_Rd_part_138 (by decide) ?_
                  exact jx_zret d_Rd_part_139 rfl (by first | rfl | decide) (⟨_, rfl, (jm_fr.trans (jm_fr.trans jm_fr.rf hfr9) hfr12), .inl e12, rd4_of (rd4_par k40 (sb_r hp9 (pb_l hd12))), rfl, hF12⟩)
                · obtain ⟨rfl, L12, N12, ST12, DT12, NA12, PL12, hS12, hg12⟩ := hq12
                  obtain ⟨-, -, -, -, hb12, hb212, hb312, hb412⟩ := id hg12
                  simp only at hS12 hb12 hb212 hb312 hb412
                  obtain ⟨tr12, r012, r112, r212, r312, r412, r512, r612, tp12, ⟨ta12, f012, f112, f212, f312, f412, f512, f612, tb12⟩, hB12, ⟨tf12, g012, g112, g212, g312, g412, g512, g612, t112, t212, t312, t412, t512⟩, hST12, hDT12, hNA12, hPL12, hdis12, hcn12, hcs12⟩ := id hS12
                  refine jx_callV (M2 := mm_Rd_sum) rfl tr9 lk_Rd_58 wi_Rd_sum ws_Rd_sum d_Rd_part_119 hC12 cd_Rd_sum rfl rfl (Nat.le_of_ble_eq_true rfl) (jm_fok (by omega)) (jm_look (by decide) (by omega)) ?_
                  refine jx_if_eq (tgt := 138) d_Rd_part_122 (by decide) (fun c14 => absurd c14 (by decide)) (fun c14 => ?_)
                  refine jx_aload_n d_Rd_part_125 0 rfl ?_
                  refine jx_bipush (v0 := 41) d_Rd_part_126 (by decide) ?_
                  obtain ⟨v15, h15, hC15, hfr15, hq15⟩ := c_Rd_expect l G (d - 1) (by omega) (h := h12) (K := 41) ⟨tr12, r012, r112, r212, r312, r412, r512, r612, tp12, ⟨ta12, f012, f112, f212, f312, f412, f512, f612, tb12⟩, hB12, ⟨tf12, g012, g112, g212, g312, g412, g512, g612, t112, t212, t312, t412, t512⟩, hST12, hDT12, hNA12, hPL12, hdis12, hcn12, hcs12⟩ hn (by omega) (by omega)
                  cases hp15 : p_exp B n 41 c12 with
                  | inl e15 =>
                    rw [hp15] at hq15
                    obtain ⟨rfl, hF15⟩ := hq15
                    refine jx_callV (M2 := mm_Rd_expect) rfl tr12 lk_Rd_54 wi_Rd_expect ws_Rd_expect d_Rd_part_128 hC15 cd_Rd_expect rfl rfl (Nat.le_of_ble_eq_true rfl) (jm_fok (by omega)) (jm_look (by decide) (by omega)) ?_
                    refine jx_if_eq (tgt := 138) d_Rd_part_131 (by decide) (fun c16 => ?_) (fun c16 => absurd c16 (by decide))
                    refine jx_iconst (v0 := 0) d_Rd_part_138 (by decide) ?_
                    exact jx_zret d_Rd_part_139 rfl (by first | rfl | decide) (⟨_, rfl, (jm_fr.trans (jm_fr.trans (jm_fr.trans jm_fr.rf hfr9) hfr12) hfr15), .inl e15, rd4_of (rd4_par k40 (sb_r hp9 (pb_r hd12 (sb_l hp15)))), rfl, hF15⟩)
                  | inr c15 =>
                    rw [hp15] at hq15
                    obtain ⟨rfl, hS15⟩ := hq15
                    obtain ⟨tr15, r015, r115, r215, r315, r415, r515, r615, tp15, ⟨ta15, f015, f115, f215, f315, f415, f515, f615, tb15⟩, hB15, ⟨tf15, g015, g115, g215, g315, g415, g515, g615, t115, t215, t315, t415, t515⟩, hST15, hDT15, hNA15, hPL15, hdis15, hcn15, hcs15⟩ := id hS15
                    refine jx_callV (M2 := mm_Rd_expect) rfl tr12 lk_Rd_54 wi_Rd_expect ws_Rd_expect d_Rd_part_128 hC15 cd_Rd_expect rfl rfl (Nat.le_of_ble_eq_true rfl) (jm_fok (by omega)) (jm_look (by decide) (by omega)) ?_
                    refine jx_if_eq (tgt := 138) d_Rd_part_131 (by decide) (fun c17 => absurd c17 (by decide)) (fun c17 => ?_)
                    refine jx_iconst (v0 := 1) d_Rd_part_134 (by decide) ?_
                    refine jx_goto (tgt := 139) d_Rd_part_135 (by decide) ?_
                    exact jx_zret d_Rd_part_139 rfl (by first | rfl | decide) (⟨_, rfl, (jm_fr.trans (jm_fr.trans (jm_fr.trans jm_fr.rf hfr9) hfr12) hfr15), .inr (t12, c15, k12), rd4_of (rd4_par k40 (sb_r hp9 (pb_r hd12 (sb_r hp15 rfl)))), rfl, _, _, _, _, _, _, ⟨tr15, r015, r115, r215, r315, r415, r515, r615, tp15, ⟨ta15, f015, f115, f215, f315, f415, f515, f615, tb15⟩, hB15, ⟨tf15, g015, g115, g215, g315, g415, g515, g615, t115, t215, t315, t415, t515⟩, hST15, hDT15, hNA15, hPL15, hdis15, hcn15, hcs15⟩, hg12⟩)
            ·
              by_cases k45 : c.1 = 45
              · refine jx_lookup (off := 94) (tgt := 101) d_Rd_part_7 (by decide) (by rw [k45]; decide) (by decide) ?_
                refine jx_aload_n d_Rd_part_101 0 rfl ?_
                refine jx_iload_n d_Rd_part_102 1 rfl ?_
                obtain ⟨v18, h18, hC18, hfr18, res18, hd18, hq18⟩ := c_Rd_negated l G (d - 1) dp (by omega) hdp ihP hS hn hk hL hN
                rcases res18 with e18 | y18
                · obtain ⟨rfl, hF18⟩ := hq18
                  refine jx_callV (M2 := mm_Rd_negated) rfl tr lk_Rd_95 wi_Rd_negated ws_Rd_negated d_Rd_part_103 hC18 cd_Rd_negated rfl rfl (Nat.le_of_ble_eq_true rfl) (jm_fok (by omega)) (jm_look (by decide) (by omega)) ?_
                  exact jx_zret d_Rd_part_106 rfl (by first | rfl | decide) (⟨_, rfl, (jm_fr.trans jm_fr.rf hfr18), .inl e18, rd4_of (rd4_neg k45 hd18), rfl, hF18⟩)
                · obtain ⟨rfl, hF18⟩ := hq18
                  refine jx_callV (M2 := mm_Rd_negated) rfl tr lk_Rd_95 wi_Rd_negated ws_Rd_negated d_Rd_part_103 hC18 cd_Rd_negated rfl rfl (Nat.le_of_ble_eq_true rfl) (jm_fok (by omega)) (jm_look (by decide) (by omega)) ?_
                  exact jx_zret d_Rd_part_106 rfl (by first | rfl | decide) (⟨_, rfl, (jm_fr.trans jm_fr.rf hfr18), .inr y18, rd4_of (rd4_neg k45 hd18), rfl, hF18⟩)
              ·
                refine jx_lookup (off := 145) (tgt := 152) d_Rd_part_7 (by decide) (by rw [lv_osw k2 (by decide), lv_osw k3 (by decide), lv_osw k4 (by decide), lv_osw k5 (by decide), lv_osw k6 (by decide), lv_osw k40 (by decide), lv_osw k45 (by decide)]; rfl) (by decide) ?_
                refine jx_aload_n d_Rd_part_152 0 rfl ?_
                refine jx_iconst (v0 := 2) d_Rd_part_153 (by decide) ?_
                refine jx_callV (M2 := mm_Rd_refuse) rfl tr lk_Rd_64 wi_Rd_refuse ws_Rd_refuse d_Rd_part_154 (c_Rd_refuse l G (d - 1) (by omega) ⟨tr, r0, r1, r2, r3, r4, r5, r6, tp, ⟨ta, f0, f1, f2, f3, f4, f5, f6, tb⟩, hB, ⟨tf, g0, g1, g2, g3, g4, g5, g6, t1, t2, t3, t4, t5⟩, hST, hDT, hNA, hPL, hdis, hcn, hcs⟩) cd_Rd_refuse rfl rfl (Nat.le_of_ble_eq_true rfl) (jm_fok (by omega)) (jm_look (by decide) (by omega)) ?_
                exact jx_zret d_Rd_part_157 rfl (by first | rfl | decide) (⟨_, rfl, (jm_fr.put (jm_fr.put jm_fr.rf (by unfold S_rd; omega)) (by unfold S_rd; omega)), .inl (2, c.2.1), rd4_of (rd4_oth k3 k2 k45 k40 k4 k5 k6 rfl), rfl, _, _, _, _, _, _, _, _, ⟨tr, (jm_rd_k (by decide) (jm_rd_k (by decide) r0)), (jm_rd_k (by decide) (jm_rd_k (by decide) r1)), (jm_rd_k (by decide) (jm_rd_k (by decide) r2)), (jm_rd_k (by decide) (jm_rd_s _ _ _ _)), (jm_rd_s _ _ _ _), (jm_rd_k (by decide) (jm_rd_k (by decide) r5)), (jm_rd_k (by decide) (jm_rd_k (by decide) r6)), tp, ⟨ta, (jm_rd_k (by decide) (jm_rd_k (by decide) f0)), (jm_rd_k (by decide) (jm_rd_k (by decide) f1)), (jm_rd_k (by decide) (jm_rd_k (by decide) f2)), (jm_rd_k (by decide) (jm_rd_a (jm_ne_oo ta tr (by decide)) f3)), (jm_rd_a (jm_ne_oo ta tr (by decide)) (jm_rd_k (by decide) f4)), (jm_rd_k (by decide) (jm_rd_k (by decide) f5)), (jm_rd_k (by decide) (jm_rd_k (by decide) f6)), tb⟩, (fun j hj => jm_rd_a (Ne.symm (jm_ne_oa tr tb)) ((fun j hj => jm_rd_a (Ne.symm (jm_ne_oa tr tb)) (hB j hj)) j hj)), ⟨tf, (jm_rd_k (by decide) (jm_rd_k (by decide) g0)), (jm_rd_k (by decide) (jm_rd_k (by decide) g1)), (jm_rd_k (by decide) (jm_rd_k (by decide) g2)), (jm_rd_k (by decide) (jm_rd_a (jm_ne_oo tf tr (by decide)) g3)), (jm_rd_a (jm_ne_oo tf tr (by decide)) (jm_rd_k (by decide) g4)), (jm_rd_k (by decide) (jm_rd_k (by decide) g5)), (jm_rd_k (by decide) (jm_rd_k (by decide) g6)), t1, t2, t3, t4, t5⟩, (arI.keep (arI.keep hST (Ne.symm (jm_ne_oa tr t1))) (Ne.symm (jm_ne_oa tr t1))), (arI.keep (arI.keep hDT (Ne.symm (jm_ne_oa tr t2))) (Ne.symm (jm_ne_oa tr t2))), (arL.keep (arL.keep hNA (Ne.symm (jm_ne_oa tr t3))) (Ne.symm (jm_ne_oa tr t3))), (arI.keep (arI.keep hPL (Ne.symm (jm_ne_oa tr tp))) (Ne.symm (jm_ne_oa tr tp))), hdis, hcn, hcs⟩, by omega, by omega⟩)
