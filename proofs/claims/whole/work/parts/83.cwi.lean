/-- a new CellWorks -/
def CW0 (h : jm_H) (x : Nat) : Prop := (h.2.2.1 x = (jm_o 0, 3) ∧ h.2.2.2 x 0 = .ref (x + 1) ∧ h.2.2.2 x 1 = .ref (x + 11) ∧ h.2.2.2 x 2 = .ref (x + 11 + 3)) ∧ RdC h (x + 1) (x + 4) 0 (fun _ => 0) (0, 0, 0, 0, 0) 0 0 0 (fun _ => 0) (fun _ => 0) (fun _ => 0) (fun _ => 0) 0 0 0 ∧ TySn h (x + 4) ∧ (∀ R, CsA h (x + 11) 0 R (fun _ => 0)) ∧ BdA h (x + 11) 0 0 (fun _ => 0) ∧ WkA h (x + 11 + 4) 0 0 0 (fun _ => 0)
theorem CW0.ag {h h' : jm_H} {x : Nat} (p : CW0 h x) (q : Agr (fun b => x ≤ b ∧ b < x + 18) h h') : CW0 h' x := by
  obtain ⟨⟨t, a, b, c⟩, r, s, u, v, w⟩ := p
  have hx := q x (by omega)
  exact ⟨⟨hx.1.trans t, (hx.2 0).trans a, (hx.2 1).trans b, (hx.2 2).trans c⟩, r.ag q (by omega) (by omega) (by omega) (by omega) (fun j hj => by omega), s.ag q (by omega) (by omega), fun R => (u R).ag q (by omega) (by omega) (by omega) (fun i hi => by omega), v.ag q (by omega) (by omega), w.ag q (by omega) (by omega)⟩
theorem CW0.to {h : jm_H} {x Y : Nat} (p : CW0 h x) (R : Nat → CRec) (T : Nat → Term) (h1 : x + 18 ≤ Y) (h2 : Y ≤ h.1) : CWI h x Y 0 (fun _ => 0) 0 0 0 R T 0 0 (fun _ => 0) := by
  obtain ⟨t, r, s, u, v, w⟩ := p
  exact ⟨t, ⟨x + 4, _, _, _, _, _, _, _, _, _, r, Or.inl rfl, by omega, by decide, by decide, fun p hp => by omega, s⟩, ⟨_, u R⟩, ⟨by decide, fun p q _ hq => by omega, fun p q hp => by omega, fun p q hp => by omega, fun p hp => by omega, fun p hp => by omega⟩, fun p hp => by omega, v, ⟨_, _, _, _, w⟩, ⟨by decide, by decide, h1, h2⟩, ⟨fun _ => 0, fun p hp => by omega⟩⟩
set_option maxHeartbeats 4000000 in
set_option maxRecDepth 100000 in
theorem c_CW_init (l : Launch) (G : jm_G) (d : Nat) (hd : 3 ≤ d) {h : jm_H} {x : Nat} (h0 : h.1 = x + 1) (tx : h.2.2.1 x = (jm_o 0, 3)) : jm_CP l G mm_CW_init d [.ref x] h (fun v h9 => v = none ∧ h9.1 = x + 18 ∧ h9.2.1 = h.2.1 + 2584 ∧ Bel x h h9 ∧ CW0 h9 x) := by
  refine jm_of (by decide) rfl (Nat.le_of_ble_eq_true rfl) ?_
  refine jx_aload_n d_CW_init_0 0 rfl ?_
  refine jx_objInit d_CW_init_1 lk_CW_3 wi_Ob_init wc_Ob_init (show 1 ≤ d by omega) (by show 0 + 12 ≤ jm_lo d; unfold jm_lo; omega) ?_
  refine jx_aload_n d_CW_init_4 0 rfl ?_
  refine jx_newG (c := 1) (a := x + 1) h0 d_CW_init_5 rfl jl_Rd jt_Rd_ok lk_CW_9 wk_Rd wn_Rd fun n1 w1 => ?_
  refine jx_dup d_CW_init_8 rfl ?_
  obtain ⟨u1, g1, hC1, rfl, z1, s1, b1, r1, ra1, rb1⟩ := c_Rd_init l G (d - 1) (by omega) (h := n1) (a := x + 1) (by have := w1.1; omega) w1.2.2.1
  refine jx_callIN (M2 := mm_Rd_init) rfl rfl (by decide) wi_Rd_init d_CW_init_9 hC1 cd_Rd_init rfl rfl (Nat.le_of_ble_eq_true rfl) (jm_fok (by omega)) (jm_look (by decide) (by omega)) ?_
  refine jx_putF (v0 := .ref (x + 1)) d_CW_init_12 fF_CW_12 jv_CW ft_CW_reader rfl ((b1 x (by omega)).1.trans ((w1.2.2.2.2 x (by omega)).1.trans tx)) rfl rfl ?_
  refine jx_aload_n d_CW_init_15 0 rfl ?_
  refine jx_newG (c := 4) (a := x + 11) (show g1.1 = _ by omega) d_CW_init_16 rfl jl_Cs jt_Cs_ok lk_CW_16 wk_Cs wn_Cs fun n2 w2 => ?_
  refine jx_dup d_CW_init_19 rfl ?_
  have w2s : n2.2.1 = g1.2.1 + _ := w2.2.1
  obtain ⟨u2, g2, hC2, rfl, z2, s2, b2, r2⟩ := c_Cs_init l G (d - 1) (by omega) (h := n2) (a := x + 11) (by have := w2.1; omega) w2.2.2.1
  refine jx_callIN (M2 := mm_Cs_init) rfl rfl (by decide) wi_Cs_init d_CW_init_20 hC2 cd_Cs_init rfl rfl (Nat.le_of_ble_eq_true rfl) (jm_fok (by omega)) (jm_look (by decide) (by omega)) ?_
  refine jx_putF (v0 := .ref (x + 11)) d_CW_init_23 fF_CW_19 jv_CW ft_CW_cells rfl ((b2 x (by omega)).1.trans ((w2.2.2.2.2 x (by omega)).1.trans ((b1 x (by omega)).1.trans ((w1.2.2.2.2 x (by omega)).1.trans tx)))) rfl rfl ?_
  refine jx_aload_n d_CW_init_26 0 rfl ?_
  refine jx_newG (c := 6) (a := x + 11 + 3) (show g2.1 = _ by omega) d_CW_init_27 rfl jl_Bd jt_Bd_ok lk_CW_23 wk_Bd wn_Bd fun n3 w3 => ?_
  refine jx_dup d_CW_init_30 rfl ?_
  have w3s : n3.2.1 = g2.2.1 + _ := w3.2.1
  obtain ⟨u3, g3, hC3, rfl, z3, s3, b3, r3, r4⟩ := c_Bd_init l G (d - 1) (by omega) (h := n3) (b := x + 11) (by have := w3.1; omega) w3.2.2.1
  refine jx_callIN (M2 := mm_Bd_init) rfl rfl (by decide) wi_Bd_init d_CW_init_31 hC3 cd_Bd_init rfl rfl (Nat.le_of_ble_eq_true rfl) (jm_fok (by omega)) (jm_look (by decide) (by omega)) ?_
  refine jx_putF (v0 := .ref (x + 11 + 3)) d_CW_init_34 fF_CW_26 jv_CW ft_CW_builder rfl ((b3 x (by omega)).1.trans ((w3.2.2.2.2 x (by omega)).1.trans ((b2 x (by omega)).1.trans ((w2.2.2.2.2 x (by omega)).1.trans ((b1 x (by omega)).1.trans ((w1.2.2.2.2 x (by omega)).1.trans tx)))))) rfl rfl ?_
  have tx9 := ((b3 x (by omega)).1.trans ((w3.2.2.2.2 x (by omega)).1.trans ((b2 x (by omega)).1.trans ((w2.2.2.2.2 x (by omega)).1.trans ((b1 x (by omega)).1.trans ((w1.2.2.2.2 x (by omega)).1.trans tx))))))
  have a12 : ∀ b, b < x + 11 → b ≠ x → g2.2.2.1 b = g1.2.2.1 b ∧ ∀ j, g2.2.2.2 b j = g1.2.2.2 b j := fun b hb hx => ⟨(b2 b hb).1.trans (w2.2.2.2.2 b (by omega)).1, fun j => ((b2 b hb).2 j).trans (((w2.2.2.2.2 b (by omega)).2 j).trans (jm_rd_a hx rfl))⟩
  have a23 : ∀ b, b < x + 11 + 3 → b ≠ x → g3.2.2.1 b = g2.2.2.1 b ∧ ∀ j, g3.2.2.2 b j = g2.2.2.2 b j := fun b hb hx => ⟨(b3 b hb).1.trans (w3.2.2.2.2 b (by omega)).1, fun j => ((b3 b hb).2 j).trans (((w3.2.2.2.2 b (by omega)).2 j).trans (jm_rd_a hx rfl))⟩
  have A1 : Agr (fun b => b < x + 11 ∧ b ≠ x) g1 (jm_put g3 x 2 (.ref (x + 11 + 3))) := fun b hb => ⟨(a23 b (by omega) hb.2).1.trans (a12 b hb.1 hb.2).1, fun j => jm_rd_a hb.2 (((a23 b (by omega) hb.2).2 j).trans ((a12 b hb.1 hb.2).2 j))⟩
  have A2 : Agr (fun b => b < x + 11 + 3 ∧ b ≠ x) g2 (jm_put g3 x 2 (.ref (x + 11 + 3))) := fun b hb => ⟨(a23 b hb.1 hb.2).1, fun j => jm_rd_a hb.2 ((a23 b hb.1 hb.2).2 j)⟩
  have A3 : Agr (fun b => b ≠ x) g3 (jm_put g3 x 2 (.ref (x + 11 + 3))) := fun b hb => ⟨rfl, fun j => jm_rd_a hb rfl⟩
  have e0 : g3.2.2.2 x 0 = .ref (x + 1) := ((b3 x (by omega)).2 0).trans (((w3.2.2.2.2 x (by omega)).2 0).trans (jm_rd_k (by decide) (((b2 x (by omega)).2 0).trans (((w2.2.2.2.2 x (by omega)).2 0).trans (jm_rd_s _ _ _ _)))))
  have e1 : g3.2.2.2 x 1 = .ref (x + 11) := ((b3 x (by omega)).2 1).trans (((w3.2.2.2.2 x (by omega)).2 1).trans (jm_rd_s _ _ _ _))
  have bl1 : Bel x h g1 := (Bel.rf.new w1 (by omega)).trans (b1.weak (by omega))
  have bl2 : Bel x h g2 := ((bl1.put (Nat.le_refl _)).new w2 (by omega)).trans (b2.weak (by omega))
  have bl3 : Bel x h g3 := ((bl2.put (Nat.le_refl _)).new w3 (by omega)).trans (b3.weak (by omega))
  have sl1 := w1.2.1
  exact jx_vret d_CW_init_37 rfl ⟨_, rfl, rfl, by show g3.1 = _; omega, by show g3.2.1 = _; omega, bl3.put (Nat.le_refl _), ⟨tx9, jm_rd_k (by decide) e0, jm_rd_k (by decide) e1, jm_rd_s _ _ _ _⟩, (RdS.core r1 (by decide)).ag A1 (by omega) (by omega) (by omega) (by omega) (fun j hj => by omega), TySn.ag (⟨_, _, ra1, rb1⟩ : TySn g1 (x + 4)) A1 (by omega) (by omega), fun R => (r2 R).ag A2 (by omega) (by omega) (by omega) (fun i hi => by omega), r3.ag A3 (by omega) (by omega), r4.ag A3 (by omega) (by omega)⟩
