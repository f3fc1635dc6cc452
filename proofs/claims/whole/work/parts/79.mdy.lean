/-! the reference's constructor -/
def md_fo : Nat → Nat := fun j => match j with
  | 1 => 1
  | 2 => 5
  | 3 => 6
  | 4 => 7
  | 5 => 8
  | 6 => 9
  | 7 => 10
  | 8 => 11
  | 9 => 12
  | 10 => 13
  | 11 => 14
  | 12 => 15
  | 13 => 16
  | 14 => 17
  | 15 => 18
  | 16 => 20
  | 17 => 26
  | 18 => 27
  | 19 => 28
  | 20 => 29
  | 21 => 30
  | 22 => 31
  | 23 => 33
  | 24 => 34
  | 25 => 36
  | 26 => 40
  | 27 => 41
  | 28 => 42
  | _ => 99
theorem md_fo_lt : ∀ i, i < 29 → ∀ j, j < i → 1 ≤ j → md_fo j ≠ md_fo i := by decide +kernel
def md_zv (j : Nat) : Value := if 0 < md_al j then .long 0 else .int 0
def InitI (h0 : jm_H) (a : Nat) (h : jm_H) (i sl : Nat) : Prop := h.1 = a + 1 + i ∧ h.2.1 = h0.2.1 + sl ∧ Bel a h0 h ∧ h.2.2.1 a = (jm_o 8, 45) ∧ (∀ j, 1 ≤ j → j ≤ i → h.2.2.2 a (md_fo j) = .ref (a + j) ∧ h.2.2.1 (a + j) = (jm_a (md_kd j).1, (md_kd j).2) ∧ ∀ q, h.2.2.2 (a + j) q = md_zv j) ∧ (∀ k, md_fi k = true → h.2.2.2 a k = .int 0) ∧ ∀ k, md_fl k = true → h.2.2.2 a k = .long 0
theorem InitI.step {h0 h h1 : jm_H} {a i sl t n k : Nat} {f : Nat → Value} (hI : InitI h0 a h i sl) (w : NwH h (a + 1 + i) (jm_a t) n f h1) (hk : md_fo (i + 1) = k) (ht : md_kd (i + 1) = (t, n)) (hf : ∀ q, f q = md_zv (i + 1)) (hki : md_fi k = false) (hkl : md_fl k = false) (hi28 : i < 28) : InitI h0 a (jm_put h1 a k (.ref (a + 1 + i))) (i + 1) (sl + n) := by
  obtain ⟨i1, i2, i3, i4, i5, i6, i7⟩ := hI
  obtain ⟨w1, w2, w3, w4, w5⟩ := id w
  have hne : ∀ j, 1 ≤ j → j ≤ i → md_fo j ≠ k := fun j q1 q2 => by rw [← hk]; exact md_fo_lt (i + 1) (by omega) j (by omega) q1
  have wa := w5 a (by omega)
  refine ⟨by show h1.1 = _; omega, by show h1.2.1 = _; omega, (i3.new w (by omega)).put (Nat.le_refl _), wa.1.trans i4, fun j q1 q2 => ?_, fun k' q => ?_, fun k' q => ?_⟩
  · by_cases e : j = i + 1
    · subst e
      rw [hk, ht, show a + (i + 1) = a + 1 + i by omega]
      refine ⟨jm_rd_s _ _ _ _, w3, fun q => ?_⟩
      exact jm_rd_a (by omega) ((w4 q).trans (hf q))
    · obtain ⟨g1, g2, g3⟩ := i5 j q1 (by omega)
      have wj := w5 (a + j) (by omega)
      refine ⟨jm_rd_k (hne j q1 (by omega)) ((wa.2 _).trans g1), wj.1.trans g2, fun q => jm_rd_a (by omega) ((wj.2 q).trans (g3 q))⟩
  · exact jm_rd_k (fun e => by rw [e, hki] at q; cases q) ((wa.2 k').trans (i6 k' q))
  · exact jm_rd_k (fun e => by rw [e, hkl] at q; cases q) ((wa.2 k').trans (i7 k' q))
def s_0 : MS := (fun _ => 0, fun _ => 0, fun _ _ => 0, fun _ _ => 0, fun _ _ => false)
theorem md_fo_rf : ∀ k, k < 45 → md_rf k ≠ 0 → md_fo (md_rf k) = k ∧ 1 ≤ md_rf k ∧ md_rf k ≤ 28 := by decide +kernel
theorem md_rf_big {k : Nat} (h : md_rf k ≠ 0) : k < 45 := by
  apply Nat.lt_of_not_le
  intro q
  apply h
  unfold md_rf
  split <;> first | omega | rfl
theorem md_kd_big {j : Nat} (h : md_kd j ≠ (9, 0)) : 1 ≤ j ∧ j ≤ 28 := by
  unfold md_kd at h
  split at h <;> first | exact absurd rfl h | decide
theorem md_ln {j q : Nat} : (q < md_ai j → md_al j = 0) ∧ (q < md_az j → md_al j = 0) ∧ (q < md_al j → 0 < md_al j) := by
  refine ⟨fun h => ?_, fun h => (md_az_ai h).2, fun h => by omega⟩
  unfold md_ai at h
  split at h <;> first | rfl | omega
theorem md_le28 {j q : Nat} (h : q < md_ai j ∨ q < md_al j ∨ q < md_az j) : 1 ≤ j ∧ j ≤ 28 := by
  rcases h with h | h | h
  · unfold md_ai at h
    split at h <;> first | omega | decide
  · unfold md_al at h
    split at h <;> first | omega | decide
  · unfold md_az at h
    split at h <;> first | omega | decide
theorem InitI.fin {h0 h : jm_H} {a sl : Nat} (hI : InitI h0 a h 28 sl) : MdK h a ∧ h = mdH h a s_0 := by
  obtain ⟨i1, i2, i3, i4, i5, i6, i7⟩ := hI
  refine ⟨⟨i4, fun k hk => ?_, fun j hj => ?_⟩, ?_⟩
  · obtain ⟨g1, g2, g3⟩ := md_fo_rf k (md_rf_big hk) hk
    have := (i5 (md_rf k) g2 g3).1
    rw [g1] at this
    exact this
  · obtain ⟨g1, g2⟩ := md_kd_big hj
    exact (i5 j g1 g2).2.1
  · refine jm_heq rfl rfl rfl fun b j => ?_
    show h.2.2.2 b j = md_v h a s_0 b j
    unfold md_v
    by_cases hb : b = a
    · rw [if_pos hb]
      by_cases q1 : md_fi j = true
      · rw [if_pos q1, hb]; exact i6 j q1
      · rw [if_neg q1]
        by_cases q2 : md_fl j = true
        · rw [if_pos q2, hb]; exact i7 j q2
        · rw [if_neg q2]
    · rw [if_neg hb]
      have key : a < b → ∀ {v : Value}, 1 ≤ b - a ∧ b - a ≤ 28 → md_zv (b - a) = v → h.2.2.2 b j = v := fun hlt v hr hv => by
        have := (i5 (b - a) hr.1 hr.2).2.2 j
        rw [show a + (b - a) = b by omega] at this
        exact this.trans hv
      by_cases q1 : a < b ∧ j < md_ai (b - a)
      · rw [if_pos q1]
        exact key q1.1 (md_le28 (Or.inl q1.2)) (if_neg (by have := md_ln.1 q1.2; omega))
      · rw [if_neg q1]
        by_cases q2 : a < b ∧ j < md_al (b - a)
        · rw [if_pos q2]
          exact key q2.1 (md_le28 (Or.inr (Or.inl q2.2))) (if_pos (md_ln.2.2 q2.2))
        · rw [if_neg q2]
          by_cases q3 : a < b ∧ j < md_az (b - a)
          · rw [if_pos q3]
            exact key q3.1 (md_le28 (Or.inr (Or.inr q3.2))) (if_neg (by have := md_ln.2.1 q3.2; omega))
          · rw [if_neg q3]
set_option maxHeartbeats 4000000 in
set_option maxRecDepth 100000 in
theorem c_Md_init (l : Launch) (G : jm_G) (d : Nat) (hd : 1 ≤ d) {h : jm_H} {a : Nat} (h0 : h.1 = a + 1) (ta : h.2.2.1 a = (jm_o 8, 45)) (hv : ∀ k, h.2.2.2 a k = defaultValue (jt_Md k)) : jm_CP l G mm_Md_init d [.ref a] h (fun v h9 => v = none ∧ h9.1 = a + 29 ∧ h9.2.1 = h.2.1 + 21164 ∧ Bel a h h9 ∧ MdK h9 a ∧ h9 = mdH h9 a s_0) := by
  have I0 : InitI h a h 0 0 := ⟨h0, rfl, Bel.rf, ta, fun j q1 q2 => by omega, (fun k hk => by rw [hv k]; unfold md_fi at hk; split at hk <;> first | rfl | cases hk), (fun k hk => by rw [hv k]; unfold md_fl at hk; split at hk <;> first | rfl | cases hk)⟩
  refine jm_of (by decide) rfl (Nat.le_of_ble_eq_true rfl) ?_
  refine jx_aload_n d_Md_init_0 0 rfl ?_
  refine jx_objInit d_Md_init_1 lk_Md_1 wi_Ob_init wc_Ob_init (show 1 ≤ d by omega) (by show 0 + 12 ≤ jm_lo d; unfold jm_lo; omega) ?_
  refine jx_aload_n d_Md_init_4 0 rfl ?_
  refine jx_sipush (v0 := 2000) d_Md_init_5 (by decide) ?_
  refine jx_newaG (t := 1) (N := 2000) (a := a + 1 + 0) (I0.1) d_Md_init_8 (by decide) rfl (by intro C0 h; cases h) wa_int (by decide) (by decide) (by decide) fun h1 w1 => ?_
  refine jx_putF (v0 := .ref (a + 1 + 0)) d_Md_init_10 fF_Md_7 jv_Md ft_Md_tape rfl ((w1.2.2.2.2 a (by omega)).1.trans I0.2.2.2.1) rfl rfl ?_
  have I1 := I0.step w1 (k := 1) rfl rfl (fun _ => rfl) rfl rfl (by decide)
  refine jx_aload_n d_Md_init_13 0 rfl ?_
  refine jx_bipush (v0 := 64) d_Md_init_14 (by decide) ?_
  refine jx_newaG (t := 3) (N := 64) (a := a + 1 + 1) (I1.1) d_Md_init_16 (by decide) rfl (by intro C0 h; cases h) wa_boolean (by decide) (by decide) (by decide) fun h2 w2 => ?_
  refine jx_putF (v0 := .ref (a + 1 + 1)) d_Md_init_18 fF_Md_13 jv_Md ft_Md_there rfl ((w2.2.2.2.2 a (by omega)).1.trans I1.2.2.2.1) rfl rfl ?_
  have I2 := I1.step w2 (k := 5) rfl rfl (fun _ => rfl) rfl rfl (by decide)
  refine jx_aload_n d_Md_init_21 0 rfl ?_
  refine jx_bipush (v0 := 64) d_Md_init_22 (by decide) ?_
  refine jx_newaG (t := 2) (N := 64) (a := a + 1 + 2) (I2.1) d_Md_init_24 (by decide) rfl (by intro C0 h; cases h) wa_long (by decide) (by decide) (by decide) fun h3 w3 => ?_
  refine jx_putF (v0 := .ref (a + 1 + 2)) d_Md_init_26 fF_Md_17 jv_Md ft_Md_names rfl ((w3.2.2.2.2 a (by omega)).1.trans I2.2.2.2.1) rfl rfl ?_
  have I3 := I2.step w3 (k := 6) rfl rfl (fun _ => rfl) rfl rfl (by decide)
  refine jx_aload_n d_Md_init_29 0 rfl ?_
  refine jx_bipush (v0 := 64) d_Md_init_30 (by decide) ?_
  refine jx_newaG (t := 1) (N := 64) (a := a + 1 + 3) (I3.1) d_Md_init_32 (by decide) rfl (by intro C0 h; cases h) wa_int (by decide) (by decide) (by decide) fun h4 w4 => ?_
  refine jx_putF (v0 := .ref (a + 1 + 3)) d_Md_init_34 fF_Md_21 jv_Md ft_Md_results rfl ((w4.2.2.2.2 a (by omega)).1.trans I3.2.2.2.1) rfl rfl ?_
  have I4 := I3.step w4 (k := 7) rfl rfl (fun _ => rfl) rfl rfl (by decide)
  refine jx_aload_n d_Md_init_37 0 rfl ?_
  refine jx_bipush (v0 := 64) d_Md_init_38 (by decide) ?_
  refine jx_newaG (t := 2) (N := 64) (a := a + 1 + 4) (I4.1) d_Md_init_40 (by decide) rfl (by intro C0 h; cases h) wa_long (by decide) (by decide) (by decide) fun h5 w5 => ?_
  refine jx_putF (v0 := .ref (a + 1 + 4)) d_Md_init_42 fF_Md_24 jv_Md ft_Md_values rfl ((w5.2.2.2.2 a (by omega)).1.trans I4.2.2.2.1) rfl rfl ?_
  have I5 := I4.step w5 (k := 8) rfl rfl (fun _ => rfl) rfl rfl (by decide)
  refine jx_aload_n d_Md_init_45 0 rfl ?_
  refine jx_bipush (v0 := 64) d_Md_init_46 (by decide) ?_
  refine jx_newaG (t := 3) (N := 64) (a := a + 1 + 5) (I5.1) d_Md_init_48 (by decide) rfl (by intro C0 h; cases h) wa_boolean (by decide) (by decide) (by decide) fun h6 w6 => ?_
  refine jx_putF (v0 := .ref (a + 1 + 5)) d_Md_init_50 fF_Md_27 jv_Md ft_Md_worked rfl ((w6.2.2.2.2 a (by omega)).1.trans I5.2.2.2.1) rfl rfl ?_
  have I6 := I5.step w6 (k := 9) rfl rfl (fun _ => rfl) rfl rfl (by decide)
  refine jx_aload_n d_Md_init_53 0 rfl ?_
  refine jx_bipush (v0 := 64) d_Md_init_54 (by decide) ?_
  refine jx_newaG (t := 1) (N := 64) (a := a + 1 + 6) (I6.1) d_Md_init_56 (by decide) rfl (by intro C0 h; cases h) wa_int (by decide) (by decide) (by decide) fun h7 w7 => ?_
  refine jx_putF (v0 := .ref (a + 1 + 6)) d_Md_init_58 fF_Md_30 jv_Md ft_Md_roots rfl ((w7.2.2.2.2 a (by omega)).1.trans I6.2.2.2.1) rfl rfl ?_
  have I7 := I6.step w7 (k := 10) rfl rfl (fun _ => rfl) rfl rfl (by decide)
  refine jx_aload_n d_Md_init_61 0 rfl ?_
  refine jx_bipush (v0 := 64) d_Md_init_62 (by decide) ?_
  refine jx_newaG (t := 1) (N := 64) (a := a + 1 + 7) (I7.1) d_Md_init_64 (by decide) rfl (by intro C0 h; cases h) wa_int (by decide) (by decide) (by decide) fun h8 w8 => ?_
  refine jx_putF (v0 := .ref (a + 1 + 7)) d_Md_init_66 fF_Md_33 jv_Md ft_Md_nodeCounts rfl ((w8.2.2.2.2 a (by omega)).1.trans I7.2.2.2.1) rfl rfl ?_
  have I8 := I7.step w8 (k := 11) rfl rfl (fun _ => rfl) rfl rfl (by decide)
  refine jx_aload_n d_Md_init_69 0 rfl ?_
  refine jx_sipush (v0 := 2560) d_Md_init_70 (by decide) ?_
  refine jx_newaG (t := 1) (N := 2560) (a := a + 1 + 8) (I8.1) d_Md_init_73 (by decide) rfl (by intro C0 h; cases h) wa_int (by decide) (by decide) (by decide) fun h9 w9 => ?_
  refine jx_putF (v0 := .ref (a + 1 + 8)) d_Md_init_75 fF_Md_36 jv_Md ft_Md_kinds rfl ((w9.2.2.2.2 a (by omega)).1.trans I8.2.2.2.1) rfl rfl ?_
  have I9 := I8.step w9 (k := 12) rfl rfl (fun _ => rfl) rfl rfl (by decide)
  refine jx_aload_n d_Md_init_78 0 rfl ?_
  refine jx_sipush (v0 := 2560) d_Md_init_79 (by decide) ?_
  refine jx_newaG (t := 1) (N := 2560) (a := a + 1 + 9) (I9.1) d_Md_init_82 (by decide) rfl (by intro C0 h; cases h) wa_int (by decide) (by decide) (by decide) fun h10 w10 => ?_
  refine jx_putF (v0 := .ref (a + 1 + 9)) d_Md_init_84 fF_Md_39 jv_Md ft_Md_ones rfl ((w10.2.2.2.2 a (by omega)).1.trans I9.2.2.2.1) rfl rfl ?_
  have I10 := I9.step w10 (k := 13) rfl rfl (fun _ => rfl) rfl rfl (by decide)
  refine jx_aload_n d_Md_init_87 0 rfl ?_
  refine jx_sipush (v0 := 2560) d_Md_init_88 (by decide) ?_
  refine jx_newaG (t := 1) (N := 2560) (a := a + 1 + 10) (I10.1) d_Md_init_91 (by decide) rfl (by intro C0 h; cases h) wa_int (by decide) (by decide) (by decide) fun h11 w11 => ?_
  refine jx_putF (v0 := .ref (a + 1 + 10)) d_Md_init_93 fF_Md_42 jv_Md ft_Md_twos rfl ((w11.2.2.2.2 a (by omega)).1.trans I10.2.2.2.1) rfl rfl ?_
  have I11 := I10.step w11 (k := 14) rfl rfl (fun _ => rfl) rfl rfl (by decide)
  refine jx_aload_n d_Md_init_96 0 rfl ?_
  refine jx_sipush (v0 := 2560) d_Md_init_97 (by decide) ?_
  refine jx_newaG (t := 1) (N := 2560) (a := a + 1 + 11) (I11.1) d_Md_init_100 (by decide) rfl (by intro C0 h; cases h) wa_int (by decide) (by decide) (by decide) fun h12 w12 => ?_
  refine jx_putF (v0 := .ref (a + 1 + 11)) d_Md_init_102 fF_Md_45 jv_Md ft_Md_threes rfl ((w12.2.2.2.2 a (by omega)).1.trans I11.2.2.2.1) rfl rfl ?_
  have I12 := I11.step w12 (k := 15) rfl rfl (fun _ => rfl) rfl rfl (by decide)
  refine jx_aload_n d_Md_init_105 0 rfl ?_
  refine jx_sipush (v0 := 2560) d_Md_init_106 (by decide) ?_
  refine jx_newaG (t := 2) (N := 2560) (a := a + 1 + 12) (I12.1) d_Md_init_109 (by decide) rfl (by intro C0 h; cases h) wa_long (by decide) (by decide) (by decide) fun h13 w13 => ?_
  refine jx_putF (v0 := .ref (a + 1 + 12)) d_Md_init_111 fF_Md_48 jv_Md ft_Md_amounts rfl ((w13.2.2.2.2 a (by omega)).1.trans I12.2.2.2.1) rfl rfl ?_
  have I13 := I12.step w13 (k := 16) rfl rfl (fun _ => rfl) rfl rfl (by decide)
  refine jx_aload_n d_Md_init_114 0 rfl ?_
  refine jx_sipush (v0 := 2560) d_Md_init_115 (by decide) ?_
  refine jx_newaG (t := 1) (N := 2560) (a := a + 1 + 13) (I13.1) d_Md_init_118 (by decide) rfl (by intro C0 h; cases h) wa_int (by decide) (by decide) (by decide) fun h14 w14 => ?_
  refine jx_putF (v0 := .ref (a + 1 + 13)) d_Md_init_120 fF_Md_51 jv_Md ft_Md_seenResults rfl ((w14.2.2.2.2 a (by omega)).1.trans I13.2.2.2.1) rfl rfl ?_
  have I14 := I13.step w14 (k := 17) rfl rfl (fun _ => rfl) rfl rfl (by decide)
  refine jx_aload_n d_Md_init_123 0 rfl ?_
  refine jx_sipush (v0 := 2560) d_Md_init_124 (by decide) ?_
  refine jx_newaG (t := 2) (N := 2560) (a := a + 1 + 14) (I14.1) d_Md_init_127 (by decide) rfl (by intro C0 h; cases h) wa_long (by decide) (by decide) (by decide) fun h15 w15 => ?_
  refine jx_putF (v0 := .ref (a + 1 + 14)) d_Md_init_129 fF_Md_54 jv_Md ft_Md_seenValues rfl ((w15.2.2.2.2 a (by omega)).1.trans I14.2.2.2.1) rfl rfl ?_
  have I15 := I14.step w15 (k := 18) rfl rfl (fun _ => rfl) rfl rfl (by decide)
  refine jx_aload_n d_Md_init_132 0 rfl ?_
  refine jx_bipush (v0 := 64) d_Md_init_133 (by decide) ?_
  refine jx_newaG (t := 2) (N := 64) (a := a + 1 + 15) (I15.1) d_Md_init_135 (by decide) rfl (by intro C0 h; cases h) wa_long (by decide) (by decide) (by decide) fun h16 w16 => ?_
  refine jx_putF (v0 := .ref (a + 1 + 15)) d_Md_init_137 fF_Md_57 jv_Md ft_Md_built rfl ((w16.2.2.2.2 a (by omega)).1.trans I15.2.2.2.1) rfl rfl ?_
  have I16 := I15.step w16 (k := 20) rfl rfl (fun _ => rfl) rfl rfl (by decide)
  refine jx_aload_n d_Md_init_140 0 rfl ?_
  refine jx_bipush (v0 := 40) d_Md_init_141 (by decide) ?_
  refine jx_newaG (t := 1) (N := 40) (a := a + 1 + 16) (I16.1) d_Md_init_143 (by decide) rfl (by intro C0 h; cases h) wa_int (by decide) (by decide) (by decide) fun h17 w17 => ?_
  refine jx_putF (v0 := .ref (a + 1 + 16)) d_Md_init_145 fF_Md_60 jv_Md ft_Md_newKinds rfl ((w17.2.2.2.2 a (by omega)).1.trans I16.2.2.2.1) rfl rfl ?_
  have I17 := I16.step w17 (k := 26) rfl rfl (fun _ => rfl) rfl rfl (by decide)
  refine jx_aload_n d_Md_init_148 0 rfl ?_
  refine jx_bipush (v0 := 40) d_Md_init_149 (by decide) ?_
  refine jx_newaG (t := 1) (N := 40) (a := a + 1 + 17) (I17.1) d_Md_init_151 (by decide) rfl (by intro C0 h; cases h) wa_int (by decide) (by decide) (by decide) fun h18 w18 => ?_
  refine jx_putF (v0 := .ref (a + 1 + 17)) d_Md_init_153 fF_Md_63 jv_Md ft_Md_newOnes rfl ((w18.2.2.2.2 a (by omega)).1.trans I17.2.2.2.1) rfl rfl ?_
  have I18 := I17.step w18 (k := 27) rfl rfl (fun _ => rfl) rfl rfl (by decide)
  refine jx_aload_n d_Md_init_156 0 rfl ?_
  refine jx_bipush (v0 := 40) d_Md_init_157 (by decide) ?_
  refine jx_newaG (t := 1) (N := 40) (a := a + 1 + 18) (I18.1) d_Md_init_159 (by decide) rfl (by intro C0 h; cases h) wa_int (by decide) (by decide) (by decide) fun h19 w19 => ?_
  refine jx_putF (v0 := .ref (a + 1 + 18)) d_Md_init_161 fF_Md_66 jv_Md ft_Md_newTwos rfl ((w19.2.2.2.2 a (by omega)).1.trans I18.2.2.2.1) rfl rfl ?_
  have I19 := I18.step w19 (k := 28) rfl rfl (fun _ => rfl) rfl rfl (by decide)
  refine jx_aload_n d_Md_init_164 0 rfl ?_
  refine jx_bipush (v0 := 40) d_Md_init_165 (by decide) ?_
  refine jx_newaG (t := 1) (N := 40) (a := a + 1 + 19) (I19.1) d_Md_init_167 (by decide) rfl (by intro C0 h; cases h) wa_int (by decide) (by decide) (by decide) fun h20 w20 => ?_
  refine jx_putF (v0 := .ref (a + 1 + 19)) d_Md_init_169 fF_Md_69 jv_Md ft_Md_newThrees rfl ((w20.2.2.2.2 a (by omega)).1.trans I19.2.2.2.1) rfl rfl ?_
  have I20 := I19.step w20 (k := 29) rfl rfl (fun _ => rfl) rfl rfl (by decide)
  refine jx_aload_n d_Md_init_172 0 rfl ?_
  refine jx_bipush (v0 := 40) d_Md_init_173 (by decide) ?_
  refine jx_newaG (t := 2) (N := 40) (a := a + 1 + 20) (I20.1) d_Md_init_175 (by decide) rfl (by intro C0 h; cases h) wa_long (by decide) (by decide) (by decide) fun h21 w21 => ?_
  refine jx_putF (v0 := .ref (a + 1 + 20)) d_Md_init_177 fF_Md_72 jv_Md ft_Md_newAmounts rfl ((w21.2.2.2.2 a (by omega)).1.trans I20.2.2.2.1) rfl rfl ?_
  have I21 := I20.step w21 (k := 30) rfl rfl (fun _ => rfl) rfl rfl (by decide)
  refine jx_aload_n d_Md_init_180 0 rfl ?_
  refine jx_bipush (v0 := 40) d_Md_init_181 (by decide) ?_
  refine jx_newaG (t := 1) (N := 40) (a := a + 1 + 21) (I21.1) d_Md_init_183 (by decide) rfl (by intro C0 h; cases h) wa_int (by decide) (by decide) (by decide) fun h22 w22 => ?_
  refine jx_putF (v0 := .ref (a + 1 + 21)) d_Md_init_185 fF_Md_75 jv_Md ft_Md_newPlaces rfl ((w22.2.2.2.2 a (by omega)).1.trans I21.2.2.2.1) rfl rfl ?_
  have I22 := I21.step w22 (k := 31) rfl rfl (fun _ => rfl) rfl rfl (by decide)
  refine jx_aload_n d_Md_init_188 0 rfl ?_
  refine jx_bipush (v0 := 100) d_Md_init_189 (by decide) ?_
  refine jx_newaG (t := 1) (N := 100) (a := a + 1 + 22) (I22.1) d_Md_init_191 (by decide) rfl (by intro C0 h; cases h) wa_int (by decide) (by decide) (by decide) fun h23 w23 => ?_
  refine jx_putF (v0 := .ref (a + 1 + 22)) d_Md_init_193 fF_Md_78 jv_Md ft_Md_waiting rfl ((w23.2.2.2.2 a (by omega)).1.trans I22.2.2.2.1) rfl rfl ?_
  have I23 := I22.step w23 (k := 33) rfl rfl (fun _ => rfl) rfl rfl (by decide)
  refine jx_aload_n d_Md_init_196 0 rfl ?_
  refine jx_bipush (v0 := 100) d_Md_init_197 (by decide) ?_
  refine jx_newaG (t := 1) (N := 100) (a := a + 1 + 23) (I23.1) d_Md_init_199 (by decide) rfl (by intro C0 h; cases h) wa_int (by decide) (by decide) (by decide) fun h24 w24 => ?_
  refine jx_putF (v0 := .ref (a + 1 + 23)) d_Md_init_201 fF_Md_81 jv_Md ft_Md_given rfl ((w24.2.2.2.2 a (by omega)).1.trans I23.2.2.2.1) rfl rfl ?_
  have I24 := I23.step w24 (k := 34) rfl rfl (fun _ => rfl) rfl rfl (by decide)
  refine jx_aload_n d_Md_init_204 0 rfl ?_
  refine jx_bipush (v0 := 100) d_Md_init_205 (by decide) ?_
  refine jx_newaG (t := 1) (N := 100) (a := a + 1 + 24) (I24.1) d_Md_init_207 (by decide) rfl (by intro C0 h; cases h) wa_int (by decide) (by decide) (by decide) fun h25 w25 => ?_
  refine jx_putF (v0 := .ref (a + 1 + 24)) d_Md_init_209 fF_Md_84 jv_Md ft_Md_parts rfl ((w25.2.2.2.2 a (by omega)).1.trans I24.2.2.2.1) rfl rfl ?_
  have I25 := I24.step w25 (k := 36) rfl rfl (fun _ => rfl) rfl rfl (by decide)
  refine jx_aload_n d_Md_init_212 0 rfl ?_
  refine jx_bipush (v0 := 64) d_Md_init_213 (by decide) ?_
  refine jx_newaG (t := 1) (N := 64) (a := a + 1 + 25) (I25.1) d_Md_init_215 (by decide) rfl (by intro C0 h; cases h) wa_int (by decide) (by decide) (by decide) fun h26 w26 => ?_
  refine jx_putF (v0 := .ref (a + 1 + 25)) d_Md_init_217 fF_Md_87 jv_Md ft_Md_pile rfl ((w26.2.2.2.2 a (by omega)).1.trans I25.2.2.2.1) rfl rfl ?_
  have I26 := I25.step w26 (k := 40) rfl rfl (fun _ => rfl) rfl rfl (by decide)
  refine jx_aload_n d_Md_init_220 0 rfl ?_
  refine jx_bipush (v0 := 64) d_Md_init_221 (by decide) ?_
  refine jx_newaG (t := 1) (N := 64) (a := a + 1 + 26) (I26.1) d_Md_init_223 (by decide) rfl (by intro C0 h; cases h) wa_int (by decide) (by decide) (by decide) fun h27 w27 => ?_
  refine jx_putF (v0 := .ref (a + 1 + 26)) d_Md_init_225 fF_Md_90 jv_Md ft_Md_phases rfl ((w27.2.2.2.2 a (by omega)).1.trans I26.2.2.2.1) rfl rfl ?_
  have I27 := I26.step w27 (k := 41) rfl rfl (fun _ => rfl) rfl rfl (by decide)
  refine jx_aload_n d_Md_init_228 0 rfl ?_
  refine jx_bipush (v0 := 64) d_Md_init_229 (by decide) ?_
  refine jx_newaG (t := 2) (N := 64) (a := a + 1 + 27) (I27.1) d_Md_init_231 (by decide) rfl (by intro C0 h; cases h) wa_long (by decide) (by decide) (by decide) fun h28 w28 => ?_
  refine jx_putF (v0 := .ref (a + 1 + 27)) d_Md_init_233 fF_Md_93 jv_Md ft_Md_kept rfl ((w28.2.2.2.2 a (by omega)).1.trans I27.2.2.2.1) rfl rfl ?_
  have I28 := I27.step w28 (k := 42) rfl rfl (fun _ => rfl) rfl rfl (by decide)
  exact jx_vret d_Md_init_236 rfl ⟨_, rfl, rfl, I28.1, I28.2.1, I28.2.2.1, I28.fin⟩
