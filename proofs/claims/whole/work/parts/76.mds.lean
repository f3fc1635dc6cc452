theorem bst0 {s : MS} {B : Nat → Int32} {n : Nat} {c : Cur} (hT : MT s B n) (hM : MC s c) (hc : c.2.2.1 ≤ n) (hz : s.1 3 = 0) : BSt (mi (mi (mi (mi s 32 0) 35 0) 37 0) 38 0) B n c 0 [] := ⟨⟨hT, hM, hc, rfl, by decide, rfl, by decide, rfl, hz⟩, rfl, rfl⟩
theorem fix0 {s : MS} : Fix s (mi (mi (mi (mi s 32 0) 35 0) 37 0) 38 0) := (((Fix.rf.mi (by decide)).mi (by decide)).mi (by decide)).mi (by decide)
theorem xm9_ret (l : Launch) (G : jm_G) {n0 s0 d : Nat} {Post : jm_r → jm_H → Prop} {h : jm_H} {a : Nat} {s : MS} (k : Post (.inl none) (mdH h a s)) : XM9 l G n0 s0 d Post h a s := jx_vret d_Md_formula_77 rfl k
/-- what reading a formula leaves -/
def OutF (z s' : MS) (B : Nat → Int32) (n : Nat) (res : PR) : Prop := Fix z s' ∧ match res with
  | .inl e => s'.1 3 = e.1 ∧ s'.1 4 = nI e.2
  | .inr y => if y.2.1.1 = 0 then ASt s' B n y.2.1 y.2.2 [] y.1 else s'.1 3 = 2 ∧ s'.1 4 = nI y.2.1.2.1
set_option maxHeartbeats 4000000 in
set_option maxRecDepth 100000 in
theorem c_Md_formula (l : Launch) (G : jm_G) (d : Nat) (hd : 4 ≤ d) {h : jm_H} {a : Nat} {s : MS} {B : Nat → Int32} {n : Nat} {c : Cur} {res : PR} (hK : MdK h a) (hT : MT s B n) (hM : MC s c) (hc : c.2.2.1 ≤ n) (hz : s.1 3 = 0) (h1 : c.1 ≠ 1) (hR : Rd B n 0 0 .null c 0 res) : jm_CP l G mm_Md_formula d [.ref a] (mdH h a s) (fun v h9 => v = none ∧ ∃ s', h9 = mdH h a s' ∧ OutF s s' B n res) := by
  refine jm_of (by decide) rfl (Nat.le_of_ble_eq_true rfl) ?_
  have main : XM l G (mdH h a s).1 (mdH h a s).2.1 d (fun r h' => ∃ v, r = .inl v ∧ v = none ∧ ∃ s', h' = mdH h a s' ∧ OutF s s' B n res) h a 1 (mi (mi (mi (mi s 32 0) 35 0) 37 0) 38 0) := by
    refine sim_formula (z := s) (stp_real l G hd hK) hR (bst0 hT hM hc hz) h1 fix0 (fun t c' k' s' e e0 hA hF => ?_) (fun t c' k' s' e e0 hf => ?_) (fun e s' he hf => ?_)
    · subst e
      exact xm9_ret l G ⟨_, rfl, rfl, s', rfl, hF, by show (if c'.1 = 0 then _ else _); rw [if_pos e0]; exact hA⟩
    · subst e
      exact xm9_ret l G ⟨_, rfl, rfl, s', rfl, hf.2.2, by show (if c'.1 = 0 then _ else _); rw [if_neg e0]; exact ⟨hf.1, hf.2.1⟩⟩
    · subst he
      exact xm9_ret l G ⟨_, rfl, rfl, s', rfl, hf.2.2, hf.1, hf.2.1⟩
  refine jx_aload_n d_Md_formula_0 0 rfl ?_
  refine jx_iconst (v0 := 0) d_Md_formula_1 (by decide) ?_
  refine jx_put (v0 := .int (0)) d_Md_formula_2 fF_Md_154 jv_Md ft_Md_newCount (md_tg hK) rfl rfl ?_
  refine jx_ath (md_wi (k := 32) rfl) ?_
  refine jx_aload_n d_Md_formula_5 0 rfl ?_
  refine jx_iconst (v0 := 0) d_Md_formula_6 (by decide) ?_
  refine jx_put (v0 := .int (0)) d_Md_formula_7 fF_Md_157 jv_Md ft_Md_waitingCount (md_tg hK) rfl rfl ?_
  refine jx_ath (md_wi (k := 35) rfl) ?_
  refine jx_aload_n d_Md_formula_10 0 rfl ?_
  refine jx_iconst (v0 := 0) d_Md_formula_11 (by decide) ?_
  refine jx_put (v0 := .int (0)) d_Md_formula_12 fF_Md_166 jv_Md ft_Md_partCount (md_tg hK) rfl rfl ?_
  refine jx_ath (md_wi (k := 37) rfl) ?_
  refine jx_aload_n d_Md_formula_15 0 rfl ?_
  refine jx_iconst (v0 := 0) d_Md_formula_16 (by decide) ?_
  refine jx_put (v0 := .int (0)) d_Md_formula_17 fF_Md_169 jv_Md ft_Md_depth (md_tg hK) rfl rfl ?_
  refine jx_ath (md_wi (k := 38) rfl) ?_
  refine jx_iconst (v0 := 1) d_Md_formula_20 (by decide) ?_
  refine jx_istore_n (lv' := [(1, .int (1)), (0, .ref (a))]) d_Md_formula_21 (by decide) rfl ?_
  exact main
set_option maxHeartbeats 4000000 in
set_option maxRecDepth 100000 in
theorem c_Md_formulaB (l : Launch) (G : jm_G) (d : Nat) (hd : 4 ≤ d) {h : jm_H} {a : Nat} {s : MS} {B : Nat → Int32} {n : Nat} {c : Cur} (hK : MdK h a) (hT : MT s B n) (hM : MC s c) (hc : c.2.2.1 ≤ n) (hz : s.1 3 = 0) (h1 : c.1 = 1) : jm_CP l G mm_Md_formula d [.ref a] (mdH h a s) (fun v h9 => v = none ∧ ∃ s', h9 = mdH h a s' ∧ OutF s s' B n (.inl (1, c.2.1))) := by
  refine jm_of (by decide) rfl (Nat.le_of_ble_eq_true rfl) ?_
  have main : XM l G (mdH h a s).1 (mdH h a s).2.1 d (fun r h' => ∃ v, r = .inl v ∧ v = none ∧ ∃ s', h' = mdH h a s' ∧ OutF s s' B n (.inl (1, c.2.1))) h a 1 (mi (mi (mi (mi s 32 0) 35 0) 37 0) 38 0) :=
    bbad (z := s) (res := .inl (1, c.2.1)) (stp_real l G hd hK) (bst0 hT hM hc hz) h1 fix0 (fun e s' he hf => by
      cases he
      exact xm9_ret l G ⟨_, rfl, rfl, s', rfl, hf.2.2, hf.1, hf.2.1⟩) rfl
  refine jx_aload_n d_Md_formula_0 0 rfl ?_
  refine jx_iconst (v0 := 0) d_Md_formula_1 (by decide) ?_
  refine jx_put (v0 := .int (0)) d_Md_formula_2 fF_Md_154 jv_Md ft_Md_newCount (md_tg hK) rfl rfl ?_
  refine jx_ath (md_wi (k := 32) rfl) ?_
  refine jx_aload_n d_Md_formula_5 0 rfl ?_
  refine jx_iconst (v0 := 0) d_Md_formula_6 (by decide) ?_
  refine jx_put (v0 := .int (0)) d_Md_formula_7 fF_Md_157 jv_Md ft_Md_waitingCount (md_tg hK) rfl rfl ?_
  refine jx_ath (md_wi (k := 35) rfl) ?_
  refine jx_aload_n d_Md_formula_10 0 rfl ?_
  refine jx_iconst (v0 := 0) d_Md_formula_11 (by decide) ?_
  refine jx_put (v0 := .int (0)) d_Md_formula_12 fF_Md_166 jv_Md ft_Md_partCount (md_tg hK) rfl rfl ?_
  refine jx_ath (md_wi (k := 37) rfl) ?_
  refine jx_aload_n d_Md_formula_15 0 rfl ?_
  refine jx_iconst (v0 := 0) d_Md_formula_16 (by decide) ?_
  refine jx_put (v0 := .int (0)) d_Md_formula_17 fF_Md_169 jv_Md ft_Md_depth (md_tg hK) rfl rfl ?_
  refine jx_ath (md_wi (k := 38) rfl) ?_
  refine jx_iconst (v0 := 1) d_Md_formula_20 (by decide) ?_
  refine jx_istore_n (lv' := [(1, .int (1)), (0, .ref (a))]) d_Md_formula_21 (by decide) rfl ?_
  exact main
set_option maxHeartbeats 4000000 in
set_option maxRecDepth 100000 in
theorem df_w1 (l : Launch) (G : jm_G) {h : jm_H} {a : Nat} {s : MS} {B : Nat → Int32} {n : Nat} {c : Cur} {n0 s0 d : Nat} {Post : jm_r → jm_H → Prop} (hd : 5 ≤ d) (hK : MdK h a) (hT : MT s B n) (hp0 : c.2.2.1 = 0) (e1 : ¬ (cu_adv B n c).1 = 2) (kk : jm_X l G mm_Md_define n0 s0 (jm_zn G d n0 s0) Post 80 [(1, .long ((m_nx (mi (mi (mi (mi s 0 0) 3 0) 4 (-1)) 22 0) B n 0).2.1 25)), (0, .ref a)] [] (mdH h a (m_nx (m_wrong (m_nx (mi (mi (mi (mi s 0 0) 3 0) 4 (-1)) 22 0) B n 0)) B n (cu_adv B n c).2.2.1))) : jm_X l G mm_Md_define n0 s0 (jm_zn G d n0 s0) Post 0 [(0, .ref a)] [] (mdH h a s) := by
  have hM1 : MC (m_nx (mi (mi (mi (mi s 0 0) 3 0) 4 (-1)) 22 0) B n 0) (cu_adv B n c) := by
    have := MC.next (s := (mi (mi (mi (mi s 0 0) 3 0) 4 (-1)) 22 0)) (B := B) (n := n) (c := c)
    rw [hp0] at this
    exact this
  have hM2 : MC (m_nx (m_nx (mi (mi (mi (mi s 0 0) 3 0) 4 (-1)) 22 0) B n 0) B n (cu_adv B n c).2.2.1) (cu_adv B n (cu_adv B n c)) := MC.next
  have hM3 : MC (m_nx (m_nx (m_nx (mi (mi (mi (mi s 0 0) 3 0) 4 (-1)) 22 0) B n 0) B n (cu_adv B n c).2.2.1) B n (cu_adv B n (cu_adv B n c)).2.2.1) (cu_adv B n (cu_adv B n (cu_adv B n c))) := MC.next
  have hc0 : c.2.2.1 ≤ n := by omega
  have hF1 : Fix (mi s 0 0) (m_nx (mi (mi (mi (mi s 0 0) 3 0) 4 (-1)) 22 0) B n 0) := Fix.nx (((Fix.rf.mi (by decide)).mi (by decide)).mi (by decide))
  have hF2 : Fix (mi s 0 0) (m_nx (m_nx (mi (mi (mi (mi s 0 0) 3 0) 4 (-1)) 22 0) B n 0) B n (cu_adv B n c).2.2.1) := hF1.nx
  have hF3 : Fix (mi s 0 0) (m_nx (m_nx (m_nx (mi (mi (mi (mi s 0 0) 3 0) 4 (-1)) 22 0) B n 0) B n (cu_adv B n c).2.2.1) B n (cu_adv B n (cu_adv B n c)).2.2.1) := hF2.nx
  have hT1 : MT (m_nx (mi (mi (mi (mi s 0 0) 3 0) 4 (-1)) 22 0) B n 0) B n := hF1.tape hT
  have hT2 : MT (m_nx (m_nx (mi (mi (mi (mi s 0 0) 3 0) 4 (-1)) 22 0) B n 0) B n (cu_adv B n c).2.2.1) B n := hF2.tape hT
  have hT3 : MT (m_nx (m_nx (m_nx (mi (mi (mi (mi s 0 0) 3 0) 4 (-1)) 22 0) B n 0) B n (cu_adv B n c).2.2.1) B n (cu_adv B n (cu_adv B n c)).2.2.1) B n := hF3.tape hT
  have mv1 := mkd_v hM1.2.2.2.2.2.neg
  have mv2 := mkd_v hM2.2.2.2.2.2.neg
  have hz1 : (m_nx (mi (mi (mi (mi s 0 0) 3 0) 4 (-1)) 22 0) B n 0).1 3 = 0 := (m_nx_k (by decide)).trans rfl
  have hz2 : (m_nx (m_nx (mi (mi (mi (mi s 0 0) 3 0) 4 (-1)) 22 0) B n 0) B n (cu_adv B n c).2.2.1).1 3 = 0 := (m_nx_k (by decide)).trans hz1
  have hz3 : (m_nx (m_nx (m_nx (mi (mi (mi (mi s 0 0) 3 0) 4 (-1)) 22 0) B n 0) B n (cu_adv B n c).2.2.1) B n (cu_adv B n (cu_adv B n c)).2.2.1).1 3 = 0 := (m_nx_k (by decide)).trans hz2
  have hwr : m_wrong (m_nx (mi (mi (mi (mi s 0 0) 3 0) 4 (-1)) 22 0) B n 0) = mi (mi (m_nx (mi (mi (mi (mi s 0 0) 3 0) 4 (-1)) 22 0) B n 0) 3 (if (m_nx (mi (mi (mi (mi s 0 0) 3 0) 4 (-1)) 22 0) B n 0).1 24 = -1 then 1 else 2)) 4 ((m_nx (mi (mi (mi (mi s 0 0) 3 0) 4 (-1)) 22 0) B n 0).1 23) := m_fail_of hz1
  have hTw : MT (m_wrong (m_nx (mi (mi (mi (mi s 0 0) 3 0) 4 (-1)) 22 0) B n 0)) B n := by rw [hwr]; exact ((hT1.up (by decide)).up (by decide))
  have hM1w : MC (m_wrong (m_nx (mi (mi (mi (mi s 0 0) 3 0) 4 (-1)) 22 0) B n 0)) (cu_adv B n c) := by rw [hwr]; exact hM1
  have hzw : ¬ (m_nx (m_wrong (m_nx (mi (mi (mi (mi s 0 0) 3 0) 4 (-1)) 22 0) B n 0)) B n (cu_adv B n c).2.2.1).1 3 = 0 := by
    rw [m_nx_k (by decide), hwr]
    show ¬ (if (m_nx (mi (mi (mi (mi s 0 0) 3 0) 4 (-1)) 22 0) B n 0).1 24 = -1 then (1 : Int32) else 2) = 0
    exact if12
  refine jx_aload_n d_Md_define_0 0 rfl ?_
  refine jx_iconst (v0 := 0) d_Md_define_1 (by decide) ?_
  refine jx_put (v0 := .int (0)) d_Md_define_2 fF_Md_96 jv_Md ft_Md_thrown (md_tg hK) rfl rfl ?_
  refine jx_ath (md_wi (k := 0) rfl) ?_
  refine jx_aload_n d_Md_define_5 0 rfl ?_
  refine jx_iconst (v0 := 0) d_Md_define_6 (by decide) ?_
  refine jx_put (v0 := .int (0)) d_Md_define_7 fF_Md_144 jv_Md ft_Md_faultCode (md_tg hK) rfl rfl ?_
  refine jx_ath (md_wi (k := 3) rfl) ?_
  refine jx_aload_n d_Md_define_10 0 rfl ?_
  refine jx_iconst (v0 := -1) d_Md_define_11 (by decide) ?_
  refine jx_put (v0 := .int (-1)) d_Md_define_12 fF_Md_147 jv_Md ft_Md_faultPlace (md_tg hK) rfl rfl ?_
  refine jx_ath (md_wi (k := 4) rfl) ?_
  refine jx_aload_n d_Md_define_15 0 rfl ?_
  refine jx_iconst (v0 := 0) d_Md_define_16 (by decide) ?_
  refine jx_put (v0 := .int (0)) d_Md_define_17 fF_Md_103 jv_Md ft_Md_place (md_tg hK) rfl rfl ?_
  refine jx_ath (md_wi (k := 22) rfl) ?_
  refine jx_aload_n d_Md_define_20 0 rfl ?_
  refine jx_callV (M2 := mm_Md_next) rfl (md_tg hK) lk_Md_176 wi_Md_next ws_Md_next d_Md_define_21 (c_Md_next l G (d - 1) (by omega) (s := (mi (mi (mi (mi s 0 0) 3 0) 4 (-1)) 22 0)) (B := B) (n := n) (p := 0) hK hT rfl (by omega)) cd_Md_next rfl rfl (Nat.le_of_ble_eq_true rfl) (jm_fok (by omega)) (jm_look (by decide) (by omega)) ?_
  refine jx_aload_n d_Md_define_24 0 rfl ?_
  refine jx_get d_Md_define_25 fF_Md_123 (md_tg hK) (show (mdH h a (m_nx (mi (mi (mi (mi s 0 0) 3 0) 4 (-1)) 22 0) B n 0)).2.2.2 a 25 = Value.long ((m_nx (mi (mi (mi (mi s 0 0) 3 0) 4 (-1)) 22 0) B n 0).2.1 25) from md_rl rfl) ?_
  refine jx_topl fun x1 ex1 => ?_
  refine jx_lstore_n (lv' := [(1, .long (x1)), (0, .ref (a))]) d_Md_define_28 (by decide) rfl ?_
  refine jx_aload_n d_Md_define_29 1 rfl ?_
  refine jx_get d_Md_define_30 fF_Md_117 (md_tg hK) ((show (mdH h a (m_nx (mi (mi (mi (mi s 0 0) 3 0) 4 (-1)) 22 0) B n 0)).2.2.2 a 24 = Value.int ((m_nx (mi (mi (mi (mi s 0 0) 3 0) 4 (-1)) 22 0) B n 0).1 24) from md_ri rfl).trans (congrArg Value.int hM1.2.2.1)) ?_
  refine jx_iconst (v0 := 1) d_Md_define_33 (by decide) ?_
  refine jx_icmp_eq (tgt := 41) d_Md_define_34 (by decide) (fun c2 => ?_) (fun c2 => ?_)
  · exact absurd (mv1.2.2.1.mp c2) e1
  ·
    refine jx_aload_n d_Md_define_37 1 rfl ?_
    refine jx_callV (M2 := mm_Md_wrong) rfl (md_tg hK) lk_Md_189 wi_Md_wrong ws_Md_wrong d_Md_define_38 (c_Md_wrong l G (d - 1) (by omega) (s := (m_nx (mi (mi (mi (mi s 0 0) 3 0) 4 (-1)) 22 0) B n 0)) hK) cd_Md_wrong rfl rfl (Nat.le_of_ble_eq_true rfl) (jm_fok (by omega)) (jm_look (by decide) (by omega)) ?_
    refine jx_aload_n d_Md_define_41 1 rfl ?_
    refine jx_callV (M2 := mm_Md_next) rfl (md_tg hK) lk_Md_176 wi_Md_next ws_Md_next d_Md_define_42 (c_Md_next l G (d - 1) (by omega) (s := (m_wrong (m_nx (mi (mi (mi (mi s 0 0) 3 0) 4 (-1)) 22 0) B n 0))) (B := B) (n := n) (p := (cu_adv B n c).2.2.1) hK hTw hM1w.1 (cu_adv_le hc0)) cd_Md_next rfl rfl (Nat.le_of_ble_eq_true rfl) (jm_fok (by omega)) (jm_look (by decide) (by omega)) ?_
    refine jx_aload_n d_Md_define_45 1 rfl ?_
    refine jx_get d_Md_define_46 fF_Md_144 (md_tg hK) (show (mdH h a (m_nx (m_wrong (m_nx (mi (mi (mi (mi s 0 0) 3 0) 4 (-1)) 22 0) B n 0)) B n (cu_adv B n c).2.2.1)).2.2.2 a 3 = Value.int ((m_nx (m_wrong (m_nx (mi (mi (mi (mi s 0 0) 3 0) 4 (-1)) 22 0) B n 0)) B n (cu_adv B n c).2.2.1).1 3) from md_ri rfl) ?_
    refine jx_if_ne (tgt := 65) d_Md_define_49 (by decide) (fun c3 => ?_) (fun c3 => ?_)
    ·
      refine jx_aload_n d_Md_define_65 1 rfl ?_
      refine jx_get d_Md_define_66 fF_Md_144 (md_tg hK) (show (mdH h a (m_nx (m_wrong (m_nx (mi (mi (mi (mi s 0 0) 3 0) 4 (-1)) 22 0) B n 0)) B n (cu_adv B n c).2.2.1)).2.2.2 a 3 = Value.int ((m_nx (m_wrong (m_nx (mi (mi (mi (mi s 0 0) 3 0) 4 (-1)) 22 0) B n 0)) B n (cu_adv B n c).2.2.1).1 3) from md_ri rfl) ?_
      refine jx_if_ne (tgt := 80) d_Md_define_69 (by decide) (fun c4 => ?_) (fun c4 => ?_)
      ·
        rw [ex1]
        exact kk
      · exact absurd c4 hzw
    · exact absurd c3 hzw
set_option maxHeartbeats 4000000 in
set_option maxRecDepth 100000 in
theorem df_w2 (l : Launch) (G : jm_G) {h : jm_H} {a : Nat} {s : MS} {B : Nat → Int32} {n : Nat} {c : Cur} {n0 s0 d : Nat} {Post : jm_r → jm_H → Prop} (hd : 5 ≤ d) (hK : MdK h a) (hT : MT s B n) (hp0 : c.2.2.1 = 0) (e1 : (cu_adv B n c).1 = 2) (e2 : ¬ mkd (cu_adv B n (cu_adv B n c)).1 = 61) (kk : jm_X l G mm_Md_define n0 s0 (jm_zn G d n0 s0) Post 80 [(1, .long ((m_nx (mi (mi (mi (mi s 0 0) 3 0) 4 (-1)) 22 0) B n 0).2.1 25)), (0, .ref a)] [] (mdH h a (m_wrong (m_nx (m_nx (mi (mi (mi (mi s 0 0) 3 0) 4 (-1)) 22 0) B n 0) B n (cu_adv B n c).2.2.1)))) : jm_X l G mm_Md_define n0 s0 (jm_zn G d n0 s0) Post 0 [(0, .ref a)] [] (mdH h a s) := by
  have hM1 : MC (m_nx (mi (mi (mi (mi s 0 0) 3 0) 4 (-1)) 22 0) B n 0) (cu_adv B n c) := by
    have := MC.next (s := (mi (mi (mi (mi s 0 0) 3 0) 4 (-1)) 22 0)) (B := B) (n := n) (c := c)
    rw [hp0] at this
    exact this
  have hM2 : MC (m_nx (m_nx (mi (mi (mi (mi s 0 0) 3 0) 4 (-1)) 22 0) B n 0) B n (cu_adv B n c).2.2.1) (cu_adv B n (cu_adv B n c)) := MC.next
  have hM3 : MC (m_nx (m_nx (m_nx (mi (mi (mi (mi s 0 0) 3 0) 4 (-1)) 22 0) B n 0) B n (cu_adv B n c).2.2.1) B n (cu_adv B n (cu_adv B n c)).2.2.1) (cu_adv B n (cu_adv B n (cu_adv B n c))) := MC.next
  have hc0 : c.2.2.1 ≤ n := by omega
  have hF1 : Fix (mi s 0 0) (m_nx (mi (mi (mi (mi s 0 0) 3 0) 4 (-1)) 22 0) B n 0) := Fix.nx (((Fix.rf.mi (by decide)).mi (by decide)).mi (by decide))
  have hF2 : Fix (mi s 0 0) (m_nx (m_nx (mi (mi (mi (mi s 0 0) 3 0) 4 (-1)) 22 0) B n 0) B n (cu_adv B n c).2.2.1) := hF1.nx
  have hF3 : Fix (mi s 0 0) (m_nx (m_nx (m_nx (mi (mi (mi (mi s 0 0) 3 0) 4 (-1)) 22 0) B n 0) B n (cu_adv B n c).2.2.1) B n (cu_adv B n (cu_adv B n c)).2.2.1) := hF2.nx
  have hT1 : MT (m_nx (mi (mi (mi (mi s 0 0) 3 0) 4 (-1)) 22 0) B n 0) B n := hF1.tape hT
  have hT2 : MT (m_nx (m_nx (mi (mi (mi (mi s 0 0) 3 0) 4 (-1)) 22 0) B n 0) B n (cu_adv B n c).2.2.1) B n := hF2.tape hT
  have hT3 : MT (m_nx (m_nx (m_nx (mi (mi (mi (mi s 0 0) 3 0) 4 (-1)) 22 0) B n 0) B n (cu_adv B n c).2.2.1) B n (cu_adv B n (cu_adv B n c)).2.2.1) B n := hF3.tape hT
  have mv1 := mkd_v hM1.2.2.2.2.2.neg
  have mv2 := mkd_v hM2.2.2.2.2.2.neg
  have hz1 : (m_nx (mi (mi (mi (mi s 0 0) 3 0) 4 (-1)) 22 0) B n 0).1 3 = 0 := (m_nx_k (by decide)).trans rfl
  have hz2 : (m_nx (m_nx (mi (mi (mi (mi s 0 0) 3 0) 4 (-1)) 22 0) B n 0) B n (cu_adv B n c).2.2.1).1 3 = 0 := (m_nx_k (by decide)).trans hz1
  have hz3 : (m_nx (m_nx (m_nx (mi (mi (mi (mi s 0 0) 3 0) 4 (-1)) 22 0) B n 0) B n (cu_adv B n c).2.2.1) B n (cu_adv B n (cu_adv B n c)).2.2.1).1 3 = 0 := (m_nx_k (by decide)).trans hz2
  have hwr : m_wrong (m_nx (m_nx (mi (mi (mi (mi s 0 0) 3 0) 4 (-1)) 22 0) B n 0) B n (cu_adv B n c).2.2.1) = mi (mi (m_nx (m_nx (mi (mi (mi (mi s 0 0) 3 0) 4 (-1)) 22 0) B n 0) B n (cu_adv B n c).2.2.1) 3 (if (m_nx (m_nx (mi (mi (mi (mi s 0 0) 3 0) 4 (-1)) 22 0) B n 0) B n (cu_adv B n c).2.2.1).1 24 = -1 then 1 else 2)) 4 ((m_nx (m_nx (mi (mi (mi (mi s 0 0) 3 0) 4 (-1)) 22 0) B n 0) B n (cu_adv B n c).2.2.1).1 23) := m_fail_of hz2
  have hzw : ¬ (m_wrong (m_nx (m_nx (mi (mi (mi (mi s 0 0) 3 0) 4 (-1)) 22 0) B n 0) B n (cu_adv B n c).2.2.1)).1 3 = 0 := by
    rw [hwr]
    show ¬ (if (m_nx (m_nx (mi (mi (mi (mi s 0 0) 3 0) 4 (-1)) 22 0) B n 0) B n (cu_adv B n c).2.2.1).1 24 = -1 then (1 : Int32) else 2) = 0
    exact if12
  refine jx_aload_n d_Md_define_0 0 rfl ?_
  refine jx_iconst (v0 := 0) d_Md_define_1 (by decide) ?_
  refine jx_put (v0 := .int (0)) d_Md_define_2 fF_Md_96 jv_Md ft_Md_thrown (md_tg hK) rfl rfl ?_
  refine jx_ath (md_wi (k := 0) rfl) ?_
  refine jx_aload_n d_Md_define_5 0 rfl ?_
  refine jx_iconst (v0 := 0) d_Md_define_6 (by decide) ?_
  refine jx_put (v0 := .int (0)) d_Md_define_7 fF_Md_144 jv_Md ft_Md_faultCode (md_tg hK) rfl rfl ?_
  refine jx_ath (md_wi (k := 3) rfl) ?_
  refine jx_aload_n d_Md_define_10 0 rfl ?_
  refine jx_iconst (v0 := -1) d_Md_define_11 (by decide) ?_
  refine jx_put (v0 := .int (-1)) d_Md_define_12 fF_Md_147 jv_Md ft_Md_faultPlace (md_tg hK) rfl rfl ?_
  refine jx_ath (md_wi (k := 4) rfl) ?_
  refine jx_aload_n d_Md_define_15 0 rfl ?_
  refine jx_iconst (v0 := 0) d_Md_define_16 (by decide) ?_
  refine jx_put (v0 := .int (0)) d_Md_define_17 fF_Md_103 jv_Md ft_Md_place (md_tg hK) rfl rfl ?_
  refine jx_ath (md_wi (k := 22) rfl) ?_
  refine jx_aload_n d_Md_define_20 0 rfl ?_
  refine jx_callV (M2 := mm_Md_next) rfl (md_tg hK) lk_Md_176 wi_Md_next ws_Md_next d_Md_define_21 (c_Md_next l G (d - 1) (by omega) (s := (mi (mi (mi (mi s 0 0) 3 0) 4 (-1)) 22 0)) (B := B) (n := n) (p := 0) hK hT rfl (by omega)) cd_Md_next rfl rfl (Nat.le_of_ble_eq_true rfl) (jm_fok (by omega)) (jm_look (by decide) (by omega)) ?_
  refine jx_aload_n d_Md_define_24 0 rfl ?_
  refine jx_get d_Md_define_25 fF_Md_123 (md_tg hK) (show (mdH h a (m_nx (mi (mi (mi (mi s 0 0) 3 0) 4 (-1)) 22 0) B n 0)).2.2.2 a 25 = Value.long ((m_nx (mi (mi (mi (mi s 0 0) 3 0) 4 (-1)) 22 0) B n 0).2.1 25) from md_rl rfl) ?_
  refine jx_topl fun x1 ex1 => ?_
  refine jx_lstore_n (lv' := [(1, .long (x1)), (0, .ref (a))]) d_Md_define_28 (by decide) rfl ?_
  refine jx_aload_n d_Md_define_29 1 rfl ?_
  refine jx_get d_Md_define_30 fF_Md_117 (md_tg hK) ((show (mdH h a (m_nx (mi (mi (mi (mi s 0 0) 3 0) 4 (-1)) 22 0) B n 0)).2.2.2 a 24 = Value.int ((m_nx (mi (mi (mi (mi s 0 0) 3 0) 4 (-1)) 22 0) B n 0).1 24) from md_ri rfl).trans (congrArg Value.int hM1.2.2.1)) ?_
  refine jx_iconst (v0 := 1) d_Md_define_33 (by decide) ?_
  refine jx_icmp_eq (tgt := 41) d_Md_define_34 (by decide) (fun c2 => ?_) (fun c2 => ?_)
  ·
    refine jx_aload_n d_Md_define_41 1 rfl ?_
    refine jx_callV (M2 := mm_Md_next) rfl (md_tg hK) lk_Md_176 wi_Md_next ws_Md_next d_Md_define_42 (c_Md_next l G (d - 1) (by omega) (s := (m_nx (mi (mi (mi (mi s 0 0) 3 0) 4 (-1)) 22 0) B n 0)) (B := B) (n := n) (p := (cu_adv B n c).2.2.1) hK hT1 hM1.1 (cu_adv_le hc0)) cd_Md_next rfl rfl (Nat.le_of_ble_eq_true rfl) (jm_fok (by omega)) (jm_look (by decide) (by omega)) ?_
    refine jx_aload_n d_Md_define_45 1 rfl ?_
    refine jx_get d_Md_define_46 fF_Md_144 (md_tg hK) ((show (mdH h a (m_nx (m_nx (mi (mi (mi (mi s 0 0) 3 0) 4 (-1)) 22 0) B n 0) B n (cu_adv B n c).2.2.1)).2.2.2 a 3 = Value.int ((m_nx (m_nx (mi (mi (mi (mi s 0 0) 3 0) 4 (-1)) 22 0) B n 0) B n (cu_adv B n c).2.2.1).1 3) from md_ri rfl).trans (congrArg Value.int hz2)) ?_
    refine jx_if_ne (tgt := 65) d_Md_define_49 (by decide) (fun c3 => absurd c3 (by decide)) (fun c3 => ?_)
    refine jx_aload_n d_Md_define_52 1 rfl ?_
    refine jx_get d_Md_define_53 fF_Md_117 (md_tg hK) ((show (mdH h a (m_nx (m_nx (mi (mi (mi (mi s 0 0) 3 0) 4 (-1)) 22 0) B n 0) B n (cu_adv B n c).2.2.1)).2.2.2 a 24 = Value.int ((m_nx (m_nx (mi (mi (mi (mi s 0 0) 3 0) 4 (-1)) 22 0) B n 0) B n (cu_adv B n c).2.2.1).1 24) from md_ri rfl).trans (congrArg Value.int hM2.2.2.1)) ?_
    refine jx_bipush (v0 := 61) d_Md_define_56 (by decide) ?_
    refine jx_icmp_eq (tgt := 65) d_Md_define_58 (by decide) (fun c4 => ?_) (fun c4 => ?_)
    · exact absurd c4 e2
    ·
      refine jx_aload_n d_Md_define_61 1 rfl ?_
      refine jx_callV (M2 := mm_Md_wrong) rfl (md_tg hK) lk_Md_189 wi_Md_wrong ws_Md_wrong d_Md_define_62 (c_Md_wrong l G (d - 1) (by omega) (s := (m_nx (m_nx (mi (mi (mi (mi s 0 0) 3 0) 4 (-1)) 22 0) B n 0) B n (cu_adv B n c).2.2.1)) hK) cd_Md_wrong rfl rfl (Nat.le_of_ble_eq_true rfl) (jm_fok (by omega)) (jm_look (by decide) (by omega)) ?_
      refine jx_aload_n d_Md_define_65 1 rfl ?_
      refine jx_get d_Md_define_66 fF_Md_144 (md_tg hK) (show (mdH h a (m_wrong (m_nx (m_nx (mi (mi (mi (mi s 0 0) 3 0) 4 (-1)) 22 0) B n 0) B n (cu_adv B n c).2.2.1))).2.2.2 a 3 = Value.int ((m_wrong (m_nx (m_nx (mi (mi (mi (mi s 0 0) 3 0) 4 (-1)) 22 0) B n 0) B n (cu_adv B n c).2.2.1)).1 3) from md_ri rfl) ?_
      refine jx_if_ne (tgt := 80) d_Md_define_69 (by decide) (fun c5 => ?_) (fun c5 => ?_)
      ·
        rw [ex1]
        exact kk
      · exact absurd c5 hzw
  · exact absurd (mv1.2.2.1.mpr e1) c2
set_option maxHeartbeats 4000000 in
set_option maxRecDepth 100000 in
theorem df_f (l : Launch) (G : jm_G) {h : jm_H} {a : Nat} {s : MS} {B : Nat → Int32} {n : Nat} {c : Cur} {n0 s0 d : Nat} {Post : jm_r → jm_H → Prop} (hd : 5 ≤ d) (hK : MdK h a) (hT : MT s B n) (hp0 : c.2.2.1 = 0) {s1 : MS} (e1 : (cu_adv B n c).1 = 2) (e2 : mkd (cu_adv B n (cu_adv B n c)).1 = 61) (hC1 : jm_C l G mm_Md_formula (d - 1) [.ref a] (mdH h a (m_nx (m_nx (m_nx (mi (mi (mi (mi s 0 0) 3 0) 4 (-1)) 22 0) B n 0) B n (cu_adv B n c).2.2.1) B n (cu_adv B n (cu_adv B n c)).2.2.1)) none (mdH h a s1)) (kk : jm_X l G mm_Md_define n0 s0 (jm_zn G d n0 s0) Post 80 [(1, .long ((m_nx (mi (mi (mi (mi s 0 0) 3 0) 4 (-1)) 22 0) B n 0).2.1 25)), (0, .ref a)] [] (mdH h a s1)) : jm_X l G mm_Md_define n0 s0 (jm_zn G d n0 s0) Post 0 [(0, .ref a)] [] (mdH h a s) := by
  have hM1 : MC (m_nx (mi (mi (mi (mi s 0 0) 3 0) 4 (-1)) 22 0) B n 0) (cu_adv B n c) := by
    have := MC.next (s := (mi (mi (mi (mi s 0 0) 3 0) 4 (-1)) 22 0)) (B := B) (n := n) (c := c)
    rw [hp0] at this
    exact this
  have hM2 : MC (m_nx (m_nx (mi (mi (mi (mi s 0 0) 3 0) 4 (-1)) 22 0) B n 0) B n (cu_adv B n c).2.2.1) (cu_adv B n (cu_adv B n c)) := MC.next
  have hM3 : MC (m_nx (m_nx (m_nx (mi (mi (mi (mi s 0 0) 3 0) 4 (-1)) 22 0) B n 0) B n (cu_adv B n c).2.2.1) B n (cu_adv B n (cu_adv B n c)).2.2.1) (cu_adv B n (cu_adv B n (cu_adv B n c))) := MC.next
  have hc0 : c.2.2.1 ≤ n := by omega
  have hF1 : Fix (mi s 0 0) (m_nx (mi (mi (mi (mi s 0 0) 3 0) 4 (-1)) 22 0) B n 0) := Fix.nx (((Fix.rf.mi (by decide)).mi (by decide)).mi (by decide))
  have hF2 : Fix (mi s 0 0) (m_nx (m_nx (mi (mi (mi (mi s 0 0) 3 0) 4 (-1)) 22 0) B n 0) B n (cu_adv B n c).2.2.1) := hF1.nx
  have hF3 : Fix (mi s 0 0) (m_nx (m_nx (m_nx (mi (mi (mi (mi s 0 0) 3 0) 4 (-1)) 22 0) B n 0) B n (cu_adv B n c).2.2.1) B n (cu_adv B n (cu_adv B n c)).2.2.1) := hF2.nx
  have hT1 : MT (m_nx (mi (mi (mi (mi s 0 0) 3 0) 4 (-1)) 22 0) B n 0) B n := hF1.tape hT
  have hT2 : MT (m_nx (m_nx (mi (mi (mi (mi s 0 0) 3 0) 4 (-1)) 22 0) B n 0) B n (cu_adv B n c).2.2.1) B n := hF2.tape hT
  have hT3 : MT (m_nx (m_nx (m_nx (mi (mi (mi (mi s 0 0) 3 0) 4 (-1)) 22 0) B n 0) B n (cu_adv B n c).2.2.1) B n (cu_adv B n (cu_adv B n c)).2.2.1) B n := hF3.tape hT
  have mv1 := mkd_v hM1.2.2.2.2.2.neg
  have mv2 := mkd_v hM2.2.2.2.2.2.neg
  have hz1 : (m_nx (mi (mi (mi (mi s 0 0) 3 0) 4 (-1)) 22 0) B n 0).1 3 = 0 := (m_nx_k (by decide)).trans rfl
  have hz2 : (m_nx (m_nx (mi (mi (mi (mi s 0 0) 3 0) 4 (-1)) 22 0) B n 0) B n (cu_adv B n c).2.2.1).1 3 = 0 := (m_nx_k (by decide)).trans hz1
  have hz3 : (m_nx (m_nx (m_nx (mi (mi (mi (mi s 0 0) 3 0) 4 (-1)) 22 0) B n 0) B n (cu_adv B n c).2.2.1) B n (cu_adv B n (cu_adv B n c)).2.2.1).1 3 = 0 := (m_nx_k (by decide)).trans hz2
  refine jx_aload_n d_Md_define_0 0 rfl ?_
  refine jx_iconst (v0 := 0) d_Md_define_1 (by decide) ?_
  refine jx_put (v0 := .int (0)) d_Md_define_2 fF_Md_96 jv_Md ft_Md_thrown (md_tg hK) rfl rfl ?_
  refine jx_ath (md_wi (k := 0) rfl) ?_
  refine jx_aload_n d_Md_define_5 0 rfl ?_
  refine jx_iconst (v0 := 0) d_Md_define_6 (by decide) ?_
  refine jx_put (v0 := .int (0)) d_Md_define_7 fF_Md_144 jv_Md ft_Md_faultCode (md_tg hK) rfl rfl ?_
  refine jx_ath (md_wi (k := 3) rfl) ?_
  refine jx_aload_n d_Md_define_10 0 rfl ?_
  refine jx_iconst (v0 := -1) d_Md_define_11 (by decide) ?_
  refine jx_put (v0 := .int (-1)) d_Md_define_12 fF_Md_147 jv_Md ft_Md_faultPlace (md_tg hK) rfl rfl ?_
  refine jx_ath (md_wi (k := 4) rfl) ?_
  refine jx_aload_n d_Md_define_15 0 rfl ?_
  refine jx_iconst (v0 := 0) d_Md_define_16 (by decide) ?_
  refine jx_put (v0 := .int (0)) d_Md_define_17 fF_Md_103 jv_Md ft_Md_place (md_tg hK) rfl rfl ?_
  refine jx_ath (md_wi (k := 22) rfl) ?_
  refine jx_aload_n d_Md_define_20 0 rfl ?_
  refine jx_callV (M2 := mm_Md_next) rfl (md_tg hK) lk_Md_176 wi_Md_next ws_Md_next d_Md_define_21 (c_Md_next l G (d - 1) (by omega) (s := (mi (mi (mi (mi s 0 0) 3 0) 4 (-1)) 22 0)) (B := B) (n := n) (p := 0) hK hT rfl (by omega)) cd_Md_next rfl rfl (Nat.le_of_ble_eq_true rfl) (jm_fok (by omega)) (jm_look (by decide) (by omega)) ?_
  refine jx_aload_n d_Md_define_24 0 rfl ?_
  refine jx_get d_Md_define_25 fF_Md_123 (md_tg hK) (show (mdH h a (m_nx (mi (mi (mi (mi s 0 0) 3 0) 4 (-1)) 22 0) B n 0)).2.2.2 a 25 = Value.long ((m_nx (mi (mi (mi (mi s 0 0) 3 0) 4 (-1)) 22 0) B n 0).2.1 25) from md_rl rfl) ?_
  refine jx_topl fun x1 ex1 => ?_
  refine jx_lstore_n (lv' := [(1, .long (x1)), (0, .ref (a))]) d_Md_define_28 (by decide) rfl ?_
  refine jx_aload_n d_Md_define_29 1 rfl ?_
  refine jx_get d_Md_define_30 fF_Md_117 (md_tg hK) ((show (mdH h a (m_nx (mi (mi (mi (mi s 0 0) 3 0) 4 (-1)) 22 0) B n 0)).2.2.2 a 24 = Value.int ((m_nx (mi (mi (mi (mi s 0 0) 3 0) 4 (-1)) 22 0) B n 0).1 24) from md_ri rfl).trans (congrArg Value.int hM1.2.2.1)) ?_
  refine jx_iconst (v0 := 1) d_Md_define_33 (by decide) ?_
  refine jx_icmp_eq (tgt := 41) d_Md_define_34 (by decide) (fun c2 => ?_) (fun c2 => ?_)
  ·
    refine jx_aload_n d_Md_define_41 1 rfl ?_
    refine jx_callV (M2 := mm_Md_next) rfl (md_tg hK) lk_Md_176 wi_Md_next ws_Md_next d_Md_define_42 (c_Md_next l G (d - 1) (by omega) (s := (m_nx (mi (mi (mi (mi s 0 0) 3 0) 4 (-1)) 22 0) B n 0)) (B := B) (n := n) (p := (cu_adv B n c).2.2.1) hK hT1 hM1.1 (cu_adv_le hc0)) cd_Md_next rfl rfl (Nat.le_of_ble_eq_true rfl) (jm_fok (by omega)) (jm_look (by decide) (by omega)) ?_
    refine jx_aload_n d_Md_define_45 1 rfl ?_
    refine jx_get d_Md_define_46 fF_Md_144 (md_tg hK) ((show (mdH h a (m_nx (m_nx (mi (mi (mi (mi s 0 0) 3 0) 4 (-1)) 22 0) B n 0) B n (cu_adv B n c).2.2.1)).2.2.2 a 3 = Value.int ((m_nx (m_nx (mi (mi (mi (mi s 0 0) 3 0) 4 (-1)) 22 0) B n 0) B n (cu_adv B n c).2.2.1).1 3) from md_ri rfl).trans (congrArg Value.int hz2)) ?_
    refine jx_if_ne (tgt := 65) d_Md_define_49 (by decide) (fun c3 => absurd c3 (by decide)) (fun c3 => ?_)
    refine jx_aload_n d_Md_define_52 1 rfl ?_
    refine jx_get d_Md_define_53 fF_Md_117 (md_tg hK) ((show (mdH h a (m_nx (m_nx (mi (mi (mi (mi s 0 0) 3 0) 4 (-1)) 22 0) B n 0) B n (cu_adv B n c).2.2.1)).2.2.2 a 24 = Value.int ((m_nx (m_nx (mi (mi (mi (mi s 0 0) 3 0) 4 (-1)) 22 0) B n 0) B n (cu_adv B n c).2.2.1).1 24) from md_ri rfl).trans (congrArg Value.int hM2.2.2.1)) ?_
    refine jx_bipush (v0 := 61) d_Md_define_56 (by decide) ?_
    refine jx_icmp_eq (tgt := 65) d_Md_define_58 (by decide) (fun c4 => ?_) (fun c4 => ?_)
    ·
      refine jx_aload_n d_Md_define_65 1 rfl ?_
      refine jx_get d_Md_define_66 fF_Md_144 (md_tg hK) ((show (mdH h a (m_nx (m_nx (mi (mi (mi (mi s 0 0) 3 0) 4 (-1)) 22 0) B n 0) B n (cu_adv B n c).2.2.1)).2.2.2 a 3 = Value.int ((m_nx (m_nx (mi (mi (mi (mi s 0 0) 3 0) 4 (-1)) 22 0) B n 0) B n (cu_adv B n c).2.2.1).1 3) from md_ri rfl).trans (congrArg Value.int hz2)) ?_
      refine jx_if_ne (tgt := 80) d_Md_define_69 (by decide) (fun c5 => absurd c5 (by decide)) (fun c5 => ?_)
      refine jx_aload_n d_Md_define_72 1 rfl ?_
      refine jx_callV (M2 := mm_Md_next) rfl (md_tg hK) lk_Md_176 wi_Md_next ws_Md_next d_Md_define_73 (c_Md_next l G (d - 1) (by omega) (s := (m_nx (m_nx (mi (mi (mi (mi s 0 0) 3 0) 4 (-1)) 22 0) B n 0) B n (cu_adv B n c).2.2.1)) (B := B) (n := n) (p := (cu_adv B n (cu_adv B n c)).2.2.1) hK hT2 hM2.1 (cu_adv_le (cu_adv_le hc0))) cd_Md_next rfl rfl (Nat.le_of_ble_eq_true rfl) (jm_fok (by omega)) (jm_look (by decide) (by omega)) ?_
      refine jx_aload_n d_Md_define_76 1 rfl ?_
      refine jx_callV (M2 := mm_Md_formula) rfl (md_tg hK) lk_Md_211 wi_Md_formula ws_Md_formula d_Md_define_77 hC1 cd_Md_formula rfl rfl (Nat.le_of_ble_eq_true rfl) (jm_fok (by omega)) (jm_look (by decide) (by omega)) ?_
      rw [ex1]
      exact kk
    · exact absurd e2 c4
  · exact absurd (mv1.2.2.1.mpr e1) c2
set_option maxHeartbeats 4000000 in
set_option maxRecDepth 100000 in
/-- the first half of define() -/
theorem df_half (l : Launch) (G : jm_G) {h : jm_H} {a : Nat} {s : MS} {B : Nat → Int32} {n : Nat} {c : Cur} {n0 s0 d : Nat} {Post : jm_r → jm_H → Prop} (hd : 5 ≤ d) (hK : MdK h a) (hT : MT s B n) (hp0 : c.2.2.1 = 0) {nm : Int64} {res : PR} (hD : Df B n c nm res) (hcode : ∀ e, res = .inl e → ¬ e.1 = 0) (kk : ∀ x s', Fix (mi s 0 0) s' → (∀ e, res = .inl e → s'.1 3 = e.1 ∧ s'.1 4 = nI e.2 ∧ ¬ e.1 = 0) → (∀ t c' k', res = .inr (t, c', k') → ASt s' B n c' k' [] t ∧ x = nm) → jm_X l G mm_Md_define n0 s0 (jm_zn G d n0 s0) Post 80 [(1, .long x), (0, .ref a)] [] (mdH h a s')) : jm_X l G mm_Md_define n0 s0 (jm_zn G d n0 s0) Post 0 [(0, .ref a)] [] (mdH h a s) := by
  have hM1 : MC (m_nx (mi (mi (mi (mi s 0 0) 3 0) 4 (-1)) 22 0) B n 0) (cu_adv B n c) := by
    have := MC.next (s := (mi (mi (mi (mi s 0 0) 3 0) 4 (-1)) 22 0)) (B := B) (n := n) (c := c)
    rw [hp0] at this
    exact this
  have hM2 : MC (m_nx (m_nx (mi (mi (mi (mi s 0 0) 3 0) 4 (-1)) 22 0) B n 0) B n (cu_adv B n c).2.2.1) (cu_adv B n (cu_adv B n c)) := MC.next
  have hM3 : MC (m_nx (m_nx (m_nx (mi (mi (mi (mi s 0 0) 3 0) 4 (-1)) 22 0) B n 0) B n (cu_adv B n c).2.2.1) B n (cu_adv B n (cu_adv B n c)).2.2.1) (cu_adv B n (cu_adv B n (cu_adv B n c))) := MC.next
  have hc0 : c.2.2.1 ≤ n := by omega
  have hF1 : Fix (mi s 0 0) (m_nx (mi (mi (mi (mi s 0 0) 3 0) 4 (-1)) 22 0) B n 0) := Fix.nx (((Fix.rf.mi (by decide)).mi (by decide)).mi (by decide))
  have hF2 : Fix (mi s 0 0) (m_nx (m_nx (mi (mi (mi (mi s 0 0) 3 0) 4 (-1)) 22 0) B n 0) B n (cu_adv B n c).2.2.1) := hF1.nx
  have hF3 : Fix (mi s 0 0) (m_nx (m_nx (m_nx (mi (mi (mi (mi s 0 0) 3 0) 4 (-1)) 22 0) B n 0) B n (cu_adv B n c).2.2.1) B n (cu_adv B n (cu_adv B n c)).2.2.1) := hF2.nx
  have hT1 : MT (m_nx (mi (mi (mi (mi s 0 0) 3 0) 4 (-1)) 22 0) B n 0) B n := hF1.tape hT
  have hT2 : MT (m_nx (m_nx (mi (mi (mi (mi s 0 0) 3 0) 4 (-1)) 22 0) B n 0) B n (cu_adv B n c).2.2.1) B n := hF2.tape hT
  have hT3 : MT (m_nx (m_nx (m_nx (mi (mi (mi (mi s 0 0) 3 0) 4 (-1)) 22 0) B n 0) B n (cu_adv B n c).2.2.1) B n (cu_adv B n (cu_adv B n c)).2.2.1) B n := hF3.tape hT
  have mv1 := mkd_v hM1.2.2.2.2.2.neg
  have mv2 := mkd_v hM2.2.2.2.2.2.neg
  have hz1 : (m_nx (mi (mi (mi (mi s 0 0) 3 0) 4 (-1)) 22 0) B n 0).1 3 = 0 := (m_nx_k (by decide)).trans rfl
  have hz2 : (m_nx (m_nx (mi (mi (mi (mi s 0 0) 3 0) 4 (-1)) 22 0) B n 0) B n (cu_adv B n c).2.2.1).1 3 = 0 := (m_nx_k (by decide)).trans hz1
  have hz3 : (m_nx (m_nx (m_nx (mi (mi (mi (mi s 0 0) 3 0) 4 (-1)) 22 0) B n 0) B n (cu_adv B n c).2.2.1) B n (cu_adv B n (cu_adv B n c)).2.2.1).1 3 = 0 := (m_nx_k (by decide)).trans hz2
  have f1 : ∀ {s' : MS} {v p : Int32} {e : Flt}, s'.1 3 = v → s'.1 4 = p → res = .inl e → v = e.1 → p = nI e.2 → ¬ e.1 = 0 → (∀ e, res = .inl e → s'.1 3 = e.1 ∧ s'.1 4 = nI e.2 ∧ ¬ e.1 = 0) ∧ (∀ t c' k', res = .inr (t, c', k') → ASt s' B n c' k' [] t ∧ (m_nx (mi (mi (mi (mi s 0 0) 3 0) 4 (-1)) 22 0) B n 0).2.1 25 = nm) := by
    intro s' v p e a1 a2 a3 a4 a5 a6
    refine ⟨fun e' he => ?_, fun t c' k' he => ?_⟩
    · rw [a3] at he
      cases he
      exact ⟨a1.trans a4, a2.trans a5, a6⟩
    · rw [a3] at he
      cases he
  unfold Df at hD
  by_cases e1 : (cu_adv B n c).1 = 2
  · have h1n : p_pass B n c = .inr (cu_adv B n c) := by unfold p_pass; rw [if_neg (by rw [e1]; decide)]
    rw [h1n] at hD
    obtain ⟨hnm, hD⟩ := hD
    unfold p_exp at hD
    rw [if_pos e1] at hD
    have h25 : (m_nx (mi (mi (mi (mi s 0 0) 3 0) 4 (-1)) 22 0) B n 0).2.1 25 = nm := (hM1.2.2.2.2.1 (Or.inl e1)).trans hnm.symm
    by_cases e2 : (cu_adv B n (cu_adv B n c)).1 = 61
    · have h2n : p_pass B n (cu_adv B n c) = .inr (cu_adv B n (cu_adv B n c)) := by unfold p_pass; rw [if_neg (by rw [e2]; decide)]
      rw [h2n] at hD
      have hD : sb (if (cu_adv B n (cu_adv B n c)).1 = 61 then p_pass B n (cu_adv B n (cu_adv B n c)) else .inl (2, (cu_adv B n (cu_adv B n c)).2.1)) res _ := hD
      rw [if_pos e2] at hD
      have m2 : mkd (cu_adv B n (cu_adv B n c)).1 = 61 := by rw [e2]; rfl
      by_cases e3 : (cu_adv B n (cu_adv B n (cu_adv B n c))).1 = 1
      · obtain ⟨v1, g1, hC1, rfl, s1, rfl, hO⟩ := c_Md_formulaB l G (d - 1) (by omega) hK hT3 hM3 (cu_adv_le (cu_adv_le (cu_adv_le hc0))) hz3 e3
        have hr : res = .inl (1, (cu_adv B n (cu_adv B n (cu_adv B n c))).2.1) := by
          have h3n : p_pass B n (cu_adv B n (cu_adv B n c)) = .inl (1, (cu_adv B n (cu_adv B n (cu_adv B n c))).2.1) := by unfold p_pass; rw [if_pos e3]
          rw [h3n] at hD
          exact hD
        have q := f1 hO.2.1 hO.2.2 hr rfl rfl (show ¬ (1 : Int32) = 0 by decide)
        exact df_f l G hd hK hT hp0 e1 m2 hC1 (kk _ s1 (hF3.trans hO.1) q.1 q.2)
      · have h3n : p_pass B n (cu_adv B n (cu_adv B n c)) = .inr (cu_adv B n (cu_adv B n (cu_adv B n c))) := by unfold p_pass; rw [if_neg e3]
        rw [h3n] at hD
        obtain ⟨y, hy, hm⟩ := hD
        obtain ⟨v1, g1, hC1, rfl, s1, rfl, hO⟩ := c_Md_formula l G (d - 1) (by omega) hK hT3 hM3 (cu_adv_le (cu_adv_le (cu_adv_le hc0))) hz3 e3 hy
        refine df_f l G hd hK hT hp0 e1 m2 hC1 ?_
        cases y with
        | inl e =>
          have hm : res = .inl e := hm
          refine kk _ s1 (hF3.trans hO.1) (fun e' he => ?_) (fun t c' k' he => ?_)
          · rw [hm] at he
            cases he
            exact ⟨hO.2.1, hO.2.2, hcode e hm⟩
          · rw [hm] at he
            cases he
        | inr y =>
          obtain ⟨t, c4, k4⟩ := y
          have hm : if c4.1 = 0 then res = .inr (t, c4, k4) else res = .inl (2, c4.2.1) := hm
          have hO2 : if c4.1 = 0 then ASt s1 B n c4 k4 [] t else s1.1 3 = 2 ∧ s1.1 4 = nI c4.2.1 := hO.2
          by_cases e4 : c4.1 = 0
          · rw [if_pos e4] at hm hO2
            refine kk _ s1 (hF3.trans hO.1) (fun e' he => ?_) (fun t' c' k' he => ?_)
            · rw [hm] at he
              cases he
            · rw [hm] at he
              cases he
              exact ⟨hO2, h25⟩
          · rw [if_neg e4] at hm hO2
            have q := f1 hO2.1 hO2.2 hm rfl rfl (show ¬ (2 : Int32) = 0 by decide)
            exact kk _ s1 (hF3.trans hO.1) q.1 q.2
    · have hr : res = .inl (if (cu_adv B n (cu_adv B n c)).1 = 1 then 1 else 2, (cu_adv B n (cu_adv B n c)).2.1) := by
        by_cases e3 : (cu_adv B n (cu_adv B n c)).1 = 1
        · have h2n : p_pass B n (cu_adv B n c) = .inl (1, (cu_adv B n (cu_adv B n c)).2.1) := by unfold p_pass; rw [if_pos e3]
          rw [h2n] at hD
          rw [if_pos e3]
          exact hD
        · have h2n : p_pass B n (cu_adv B n c) = .inr (cu_adv B n (cu_adv B n c)) := by unfold p_pass; rw [if_neg e3]
          rw [h2n] at hD
          have hD : sb (if (cu_adv B n (cu_adv B n c)).1 = 61 then p_pass B n (cu_adv B n (cu_adv B n c)) else .inl (2, (cu_adv B n (cu_adv B n c)).2.1)) res _ := hD
          rw [if_neg e2] at hD
          rw [if_neg e3]
          exact hD
      have hwr : m_wrong (m_nx (m_nx (mi (mi (mi (mi s 0 0) 3 0) 4 (-1)) 22 0) B n 0) B n (cu_adv B n c).2.2.1) = mi (mi (m_nx (m_nx (mi (mi (mi (mi s 0 0) 3 0) 4 (-1)) 22 0) B n 0) B n (cu_adv B n c).2.2.1) 3 (if (m_nx (m_nx (mi (mi (mi (mi s 0 0) 3 0) 4 (-1)) 22 0) B n 0) B n (cu_adv B n c).2.2.1).1 24 = -1 then 1 else 2)) 4 ((m_nx (m_nx (mi (mi (mi (mi s 0 0) 3 0) 4 (-1)) 22 0) B n 0) B n (cu_adv B n c).2.2.1).1 23) := m_fail_of hz2
      have ew : (if (m_nx (m_nx (mi (mi (mi (mi s 0 0) 3 0) 4 (-1)) 22 0) B n 0) B n (cu_adv B n c).2.2.1).1 24 = -1 then (1 : Int32) else 2) = if (cu_adv B n (cu_adv B n c)).1 = 1 then 1 else 2 := by
        rw [hM2.2.2.1]
        simp only [mv2.2.1]
      have q := f1 (s' := m_wrong (m_nx (m_nx (mi (mi (mi (mi s 0 0) 3 0) 4 (-1)) 22 0) B n 0) B n (cu_adv B n c).2.2.1)) (v := if (cu_adv B n (cu_adv B n c)).1 = 1 then 1 else 2) (p := nI (cu_adv B n (cu_adv B n c)).2.1) (by rw [hwr, ← ew]; rfl) (by rw [hwr]; exact hM2.2.1) hr rfl rfl if12
      exact df_w2 l G hd hK hT hp0 e1 (mkd_ne (by decide) e2) (kk _ _ (by rw [hwr]; exact (hF2.mi (by decide)).mi (by decide)) q.1 q.2)
  · have hr : res = .inl (if (cu_adv B n c).1 = 1 then 1 else 2, (cu_adv B n c).2.1) := by
      by_cases e3 : (cu_adv B n c).1 = 1
      · have h1n : p_pass B n c = .inl (1, (cu_adv B n c).2.1) := by unfold p_pass; rw [if_pos e3]
        rw [h1n] at hD
        rw [if_pos e3]
        exact hD
      · have h1n : p_pass B n c = .inr (cu_adv B n c) := by unfold p_pass; rw [if_neg e3]
        rw [h1n] at hD
        obtain ⟨hnm, hD⟩ := hD
        unfold p_exp at hD
        rw [if_neg e1] at hD
        rw [if_neg e3]
        exact hD
    have hwr : m_wrong (m_nx (mi (mi (mi (mi s 0 0) 3 0) 4 (-1)) 22 0) B n 0) = mi (mi (m_nx (mi (mi (mi (mi s 0 0) 3 0) 4 (-1)) 22 0) B n 0) 3 (if (m_nx (mi (mi (mi (mi s 0 0) 3 0) 4 (-1)) 22 0) B n 0).1 24 = -1 then 1 else 2)) 4 ((m_nx (mi (mi (mi (mi s 0 0) 3 0) 4 (-1)) 22 0) B n 0).1 23) := m_fail_of hz1
    have ew : (if (m_nx (mi (mi (mi (mi s 0 0) 3 0) 4 (-1)) 22 0) B n 0).1 24 = -1 then (1 : Int32) else 2) = if (cu_adv B n c).1 = 1 then 1 else 2 := by
      rw [hM1.2.2.1]
      simp only [mv1.2.1]
    have q := f1 (s' := (m_nx (m_wrong (m_nx (mi (mi (mi (mi s 0 0) 3 0) 4 (-1)) 22 0) B n 0)) B n (cu_adv B n c).2.2.1)) (v := if (cu_adv B n c).1 = 1 then 1 else 2) (p := nI (cu_adv B n c).2.1) (by rw [m_nx_k (by decide), hwr, ← ew]; rfl) (by rw [m_nx_k (by decide), hwr]; exact hM1.2.1) hr rfl rfl if12
    exact df_w1 l G hd hK hT hp0 e1 (kk _ _ (by rw [hwr]; exact ((hF1.mi (by decide)).mi (by decide)).nx) q.1 q.2)
