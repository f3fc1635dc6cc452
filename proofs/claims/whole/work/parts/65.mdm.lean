set_option maxHeartbeats 4000000 in
set_option maxRecDepth 100000 in
theorem c_Md_isNameT (l : Launch) (G : jm_G) (d : Nat) (hd : 2 ≤ d) {h : jm_H} {a : Nat} {s : MS} {B : Nat → Int32} {n : Nat} (hK : MdK h a) (hT : MT s B n) (hq0 : q_nm B n ≠ 0) : jm_CP l G mm_Md_isName d [.ref a] (mdH h a s) (fun v h9 => v = some (.int 1) ∧ ∃ s', h9 = mdH h a s' ∧ FixN s s' ∧ s'.2.1 25 = q_nm B n) := by
  have hq : ((cu_adv B n c_0).1 = 2 ∧ (cu_adv B n (cu_adv B n c_0)).1 = 0) := q_nm_ne.mp hq0
  have hM1 : MC (m_nx (mi s 22 0) B n 0) (cu_adv B n c_0) := MC.next (s := mi s 22 0) (c := c_0)
  have hM2 : MC (m_nx (m_nx (mi s 22 0) B n 0) B n (cu_adv B n c_0).2.2.1) (cu_adv B n (cu_adv B n c_0)) := MC.next
  have hF1 : FixN s (m_nx (mi s 22 0) B n 0) := FixN.p0.nx
  have hT1 := hF1.tape hT
  have mv1 := mkd_v hM1.2.2.2.2.2.neg
  have mv2 := mkd_v hM2.2.2.2.2.2.neg
  refine jm_of (by decide) rfl (Nat.le_of_ble_eq_true rfl) ?_
  refine jx_aload_n d_Md_isName_0 0 rfl ?_
  refine jx_iconst (v0 := 0) d_Md_isName_1 (by decide) ?_
  refine jx_put (v0 := .int (0)) d_Md_isName_2 fF_Md_103 jv_Md ft_Md_place (md_tg hK) rfl rfl ?_
  refine jx_ath (md_wi (k := 22) rfl) ?_
  refine jx_aload_n d_Md_isName_5 0 rfl ?_
  refine jx_callV (M2 := mm_Md_next) rfl (md_tg hK) lk_Md_176 wi_Md_next ws_Md_next d_Md_isName_6 (c_Md_next l G (d - 1) (by omega) (s := mi s 22 0) (B := B) (n := n) (p := 0) hK (hT.up (by decide)) rfl (by omega)) cd_Md_next rfl rfl (Nat.le_of_ble_eq_true rfl) (jm_fok (by omega)) (jm_look (by decide) (by omega)) ?_
  refine jx_aload_n d_Md_isName_9 0 rfl ?_
  refine jx_get d_Md_isName_10 fF_Md_123 (md_tg hK) (show (mdH h a (m_nx (mi s 22 0) B n 0)).2.2.2 a 25 = Value.long ((m_nx (mi s 22 0) B n 0).2.1 25) from md_rl rfl) ?_
  refine jx_topl fun x1 ex1 => ?_
  refine jx_lstore_n (lv' := [(1, .long (x1)), (0, .ref (a))]) d_Md_isName_13 (by decide) rfl ?_
  refine jx_aload_n d_Md_isName_14 1 rfl ?_
  refine jx_get d_Md_isName_15 fF_Md_117 (md_tg hK) ((show (mdH h a (m_nx (mi s 22 0) B n 0)).2.2.2 a 24 = Value.int ((m_nx (mi s 22 0) B n 0).1 24) from md_ri rfl).trans (congrArg Value.int hM1.2.2.1)) ?_
  refine jx_iconst (v0 := 1) d_Md_isName_18 (by decide) ?_
  refine jx_icmp_ne (tgt := 26) d_Md_isName_19 (by decide) (fun c2 => ?_) (fun c2 => ?_)
  · exact absurd (mv1.2.2.1.mpr hq.1) c2
  ·
    refine jx_iconst (v0 := 1) d_Md_isName_22 (by decide) ?_
    refine jx_goto (tgt := 27) d_Md_isName_23 (by decide) ?_
    refine jx_istore_n (lv' := [(3, .int (1)), (1, .long (x1)), (0, .ref (a))]) d_Md_isName_27 (by decide) rfl ?_
    refine jx_aload_n d_Md_isName_28 2 rfl ?_
    refine jx_callV (M2 := mm_Md_next) rfl (md_tg hK) lk_Md_176 wi_Md_next ws_Md_next d_Md_isName_29 (c_Md_next l G (d - 1) (by omega) (s := (m_nx (mi s 22 0) B n 0)) (B := B) (n := n) (p := (cu_adv B n c_0).2.2.1) hK hT1 hM1.1 (cu_adv_le (Nat.zero_le _))) cd_Md_next rfl rfl (Nat.le_of_ble_eq_true rfl) (jm_fok (by omega)) (jm_look (by decide) (by omega)) ?_
    refine jx_iload_n d_Md_isName_32 0 rfl ?_
    refine jx_if_eq (tgt := 49) d_Md_isName_33 (by decide) (fun c3 => absurd c3 (by decide)) (fun c3 => ?_)
    refine jx_aload_n d_Md_isName_36 2 rfl ?_
    refine jx_get d_Md_isName_37 fF_Md_117 (md_tg hK) ((show (mdH h a (m_nx (m_nx (mi s 22 0) B n 0) B n (cu_adv B n c_0).2.2.1)).2.2.2 a 24 = Value.int ((m_nx (m_nx (mi s 22 0) B n 0) B n (cu_adv B n c_0).2.2.1).1 24) from md_ri rfl).trans (congrArg Value.int hM2.2.2.1)) ?_
    refine jx_bipush (v0 := -2) d_Md_isName_40 (by decide) ?_
    refine jx_icmp_ne (tgt := 49) d_Md_isName_42 (by decide) (fun c4 => ?_) (fun c4 => ?_)
    · exact absurd (mv2.1.mpr hq.2) c4
    ·
      refine jx_iconst (v0 := 1) d_Md_isName_45 (by decide) ?_
      refine jx_goto (tgt := 50) d_Md_isName_46 (by decide) ?_
      refine jx_istore_n (lv' := [(3, .int (1)), (1, .long (x1)), (0, .ref (a))]) d_Md_isName_50 (by decide) rfl ?_
      refine jx_aload_n d_Md_isName_51 2 rfl ?_
      refine jx_lload_n d_Md_isName_52 1 rfl ?_
      refine jx_put (v0 := .long (x1)) d_Md_isName_53 fF_Md_123 jv_Md ft_Md_tokenAmount (md_tg hK) rfl rfl ?_
      refine jx_ath (md_wl (k := 25) rfl) ?_
      refine jx_iload_n d_Md_isName_56 0 rfl ?_
      exact jx_zret d_Md_isName_57 rfl (by first | rfl | decide | exact jb_nar _) (⟨_, rfl, rfl, _, rfl, hF1.nx.l, ex1.trans <| (hM1.2.2.2.2.1 (Or.inl hq.1)).trans (show (cu_adv B n c_0).2.2.2.1 = q_nm B n by rw [q_nm_c, if_pos hq.2, if_pos hq.1])⟩)
set_option maxHeartbeats 4000000 in
set_option maxRecDepth 100000 in
theorem c_Md_isNameF (l : Launch) (G : jm_G) (d : Nat) (hd : 2 ≤ d) {h : jm_H} {a : Nat} {s : MS} {B : Nat → Int32} {n : Nat} (hK : MdK h a) (hT : MT s B n) (hq0 : q_nm B n = 0) : jm_CP l G mm_Md_isName d [.ref a] (mdH h a s) (fun v h9 => v = some (.int 0) ∧ ∃ s', h9 = mdH h a s' ∧ FixN s s') := by
  have hq : ¬ ((cu_adv B n c_0).1 = 2 ∧ (cu_adv B n (cu_adv B n c_0)).1 = 0) := fun q => (q_nm_ne.mpr q) hq0
  have hM1 : MC (m_nx (mi s 22 0) B n 0) (cu_adv B n c_0) := MC.next (s := mi s 22 0) (c := c_0)
  have hM2 : MC (m_nx (m_nx (mi s 22 0) B n 0) B n (cu_adv B n c_0).2.2.1) (cu_adv B n (cu_adv B n c_0)) := MC.next
  have hF1 : FixN s (m_nx (mi s 22 0) B n 0) := FixN.p0.nx
  have hT1 := hF1.tape hT
  have mv1 := mkd_v hM1.2.2.2.2.2.neg
  have mv2 := mkd_v hM2.2.2.2.2.2.neg
  refine jm_of (by decide) rfl (Nat.le_of_ble_eq_true rfl) ?_
  refine jx_aload_n d_Md_isName_0 0 rfl ?_
  refine jx_iconst (v0 := 0) d_Md_isName_1 (by decide) ?_
  refine jx_put (v0 := .int (0)) d_Md_isName_2 fF_Md_103 jv_Md ft_Md_place (md_tg hK) rfl rfl ?_
  refine jx_ath (md_wi (k := 22) rfl) ?_
  refine jx_aload_n d_Md_isName_5 0 rfl ?_
  refine jx_callV (M2 := mm_Md_next) rfl (md_tg hK) lk_Md_176 wi_Md_next ws_Md_next d_Md_isName_6 (c_Md_next l G (d - 1) (by omega) (s := mi s 22 0) (B := B) (n := n) (p := 0) hK (hT.up (by decide)) rfl (by omega)) cd_Md_next rfl rfl (Nat.le_of_ble_eq_true rfl) (jm_fok (by omega)) (jm_look (by decide) (by omega)) ?_
  refine jx_aload_n d_Md_isName_9 0 rfl ?_
  refine jx_get d_Md_isName_10 fF_Md_123 (md_tg hK) (show (mdH h a (m_nx (mi s 22 0) B n 0)).2.2.2 a 25 = Value.long ((m_nx (mi s 22 0) B n 0).2.1 25) from md_rl rfl) ?_
  refine jx_topl fun x1 ex1 => ?_
  refine jx_lstore_n (lv' := [(1, .long (x1)), (0, .ref (a))]) d_Md_isName_13 (by decide) rfl ?_
  refine jx_aload_n d_Md_isName_14 1 rfl ?_
  refine jx_get d_Md_isName_15 fF_Md_117 (md_tg hK) ((show (mdH h a (m_nx (mi s 22 0) B n 0)).2.2.2 a 24 = Value.int ((m_nx (mi s 22 0) B n 0).1 24) from md_ri rfl).trans (congrArg Value.int hM1.2.2.1)) ?_
  refine jx_iconst (v0 := 1) d_Md_isName_18 (by decide) ?_
  refine jx_icmp_ne (tgt := 26) d_Md_isName_19 (by decide) (fun c2 => ?_) (fun c2 => ?_)
  ·
    refine jx_iconst (v0 := 0) d_Md_isName_26 (by decide) ?_
    refine jx_istore_n (lv' := [(3, .int (0)), (1, .long (x1)), (0, .ref (a))]) d_Md_isName_27 (by decide) rfl ?_
    refine jx_aload_n d_Md_isName_28 2 rfl ?_
    refine jx_callV (M2 := mm_Md_next) rfl (md_tg hK) lk_Md_176 wi_Md_next ws_Md_next d_Md_isName_29 (c_Md_next l G (d - 1) (by omega) (s := (m_nx (mi s 22 0) B n 0)) (B := B) (n := n) (p := (cu_adv B n c_0).2.2.1) hK hT1 hM1.1 (cu_adv_le (Nat.zero_le _))) cd_Md_next rfl rfl (Nat.le_of_ble_eq_true rfl) (jm_fok (by omega)) (jm_look (by decide) (by omega)) ?_
    refine jx_iload_n d_Md_isName_32 0 rfl ?_
    refine jx_if_eq (tgt := 49) d_Md_isName_33 (by decide) (fun c3 => ?_) (fun c3 => absurd c3 (by decide))
    refine jx_iconst (v0 := 0) d_Md_isName_49 (by decide) ?_
    refine jx_istore_n (lv' := [(3, .int (0)), (1, .long (x1)), (0, .ref (a))]) d_Md_isName_50 (by decide) rfl ?_
    refine jx_aload_n d_Md_isName_51 2 rfl ?_
    refine jx_lload_n d_Md_isName_52 1 rfl ?_
    refine jx_put (v0 := .long (x1)) d_Md_isName_53 fF_Md_123 jv_Md ft_Md_tokenAmount (md_tg hK) rfl rfl ?_
    refine jx_ath (md_wl (k := 25) rfl) ?_
    refine jx_iload_n d_Md_isName_56 0 rfl ?_
    exact jx_zret d_Md_isName_57 rfl (by first | rfl | decide | exact jb_nar _) (⟨_, rfl, rfl, _, rfl, hF1.nx.l⟩)
  ·
    refine jx_iconst (v0 := 1) d_Md_isName_22 (by decide) ?_
    refine jx_goto (tgt := 27) d_Md_isName_23 (by decide) ?_
    refine jx_istore_n (lv' := [(3, .int (1)), (1, .long (x1)), (0, .ref (a))]) d_Md_isName_27 (by decide) rfl ?_
    refine jx_aload_n d_Md_isName_28 2 rfl ?_
    refine jx_callV (M2 := mm_Md_next) rfl (md_tg hK) lk_Md_176 wi_Md_next ws_Md_next d_Md_isName_29 (c_Md_next l G (d - 1) (by omega) (s := (m_nx (mi s 22 0) B n 0)) (B := B) (n := n) (p := (cu_adv B n c_0).2.2.1) hK hT1 hM1.1 (cu_adv_le (Nat.zero_le _))) cd_Md_next rfl rfl (Nat.le_of_ble_eq_true rfl) (jm_fok (by omega)) (jm_look (by decide) (by omega)) ?_
    refine jx_iload_n d_Md_isName_32 0 rfl ?_
    refine jx_if_eq (tgt := 49) d_Md_isName_33 (by decide) (fun c4 => absurd c4 (by decide)) (fun c4 => ?_)
    refine jx_aload_n d_Md_isName_36 2 rfl ?_
    refine jx_get d_Md_isName_37 fF_Md_117 (md_tg hK) ((show (mdH h a (m_nx (m_nx (mi s 22 0) B n 0) B n (cu_adv B n c_0).2.2.1)).2.2.2 a 24 = Value.int ((m_nx (m_nx (mi s 22 0) B n 0) B n (cu_adv B n c_0).2.2.1).1 24) from md_ri rfl).trans (congrArg Value.int hM2.2.2.1)) ?_
    refine jx_bipush (v0 := -2) d_Md_isName_40 (by decide) ?_
    refine jx_icmp_ne (tgt := 49) d_Md_isName_42 (by decide) (fun c5 => ?_) (fun c5 => ?_)
    ·
      refine jx_iconst (v0 := 0) d_Md_isName_49 (by decide) ?_
      refine jx_istore_n (lv' := [(3, .int (0)), (1, .long (x1)), (0, .ref (a))]) d_Md_isName_50 (by decide) rfl ?_
      refine jx_aload_n d_Md_isName_51 2 rfl ?_
      refine jx_lload_n d_Md_isName_52 1 rfl ?_
      refine jx_put (v0 := .long (x1)) d_Md_isName_53 fF_Md_123 jv_Md ft_Md_tokenAmount (md_tg hK) rfl rfl ?_
      refine jx_ath (md_wl (k := 25) rfl) ?_
      refine jx_iload_n d_Md_isName_56 0 rfl ?_
      exact jx_zret d_Md_isName_57 rfl (by first | rfl | decide | exact jb_nar _) (⟨_, rfl, rfl, _, rfl, hF1.nx.l⟩)
    · exact absurd ⟨mv1.2.2.1.mp c2, mv2.1.mp c5⟩ hq
set_option maxHeartbeats 4000000 in
set_option maxRecDepth 100000 in
theorem c_Md_remove_t (l : Launch) (G : jm_G) (d : Nat) (hd : 3 ≤ d) {h : jm_H} {a : Nat} {s : MS} {B : Nat → Int32} {n : Nat} (hK : MdK h a) (hT : MT s B n) (hq0 : q_nm B n = 0) : jm_CP l G mm_Md_remove d [.ref a] (mdH h a s) (fun v h9 => v = some (.int 0) ∧ ∃ s1, FixN s s1 ∧ h9 = mdH h a (mi s1 0 1)) := by
  refine jm_of (by decide) rfl (Nat.le_of_ble_eq_true rfl) ?_
  refine jx_aload_n d_Md_remove_0 0 rfl ?_
  refine jx_aload_n d_Md_remove_1 0 rfl ?_
  obtain ⟨v1, g1, hC1, rfl, s1, rfl, hF1⟩ := c_Md_isNameF l G (d - 1) (by omega) hK hT hq0
  refine jx_callV (M2 := mm_Md_isName) rfl (md_tg hK) lk_Md_269 wi_Md_isName ws_Md_isName d_Md_remove_2 hC1 cd_Md_isName rfl rfl (Nat.le_of_ble_eq_true rfl) (jm_fok (by omega)) (jm_look (by decide) (by omega)) ?_
  refine jx_if_eq (tgt := 12) d_Md_remove_5 (by decide) (fun c1 => ?_) (fun c1 => absurd c1 (by decide))
  refine jx_iconst (v0 := 1) d_Md_remove_12 (by decide) ?_
  refine jx_put (v0 := .int (1)) d_Md_remove_13 fF_Md_96 jv_Md ft_Md_thrown (md_tg hK) rfl rfl ?_
  refine jx_ath (md_wi (k := 0) rfl) ?_
  refine jx_aload_n d_Md_remove_16 0 rfl ?_
  refine jx_get d_Md_remove_17 fF_Md_96 (md_tg hK) (show (mdH h a (mi s1 0 1)).2.2.2 a 0 = Value.int (1) from md_ri rfl) ?_
  refine jx_if_le (tgt := 25) d_Md_remove_20 (by decide) (fun c2 => absurd c2 (by decide)) (fun c2 => ?_)
  refine jx_iconst (v0 := 0) d_Md_remove_23 (by decide) ?_
  exact jx_zret d_Md_remove_24 rfl (by first | rfl | decide | exact jb_nar _) (⟨_, rfl, rfl, s1, hF1, rfl⟩)
set_option maxHeartbeats 4000000 in
set_option maxRecDepth 100000 in
theorem c_Md_build_t (l : Launch) (G : jm_G) (d : Nat) (hd : 3 ≤ d) {h : jm_H} {a : Nat} {s : MS} {B : Nat → Int32} {n : Nat} (hK : MdK h a) (hT : MT s B n) (hq0 : q_nm B n = 0) : jm_CP l G mm_Md_build d [.ref a] (mdH h a s) (fun v h9 => v = some (.int 0) ∧ ∃ s1, FixN s s1 ∧ h9 = mdH h a (mi s1 0 1)) := by
  refine jm_of (by decide) rfl (Nat.le_of_ble_eq_true rfl) ?_
  refine jx_aload_n d_Md_build_0 0 rfl ?_
  refine jx_aload_n d_Md_build_1 0 rfl ?_
  obtain ⟨v1, g1, hC1, rfl, s1, rfl, hF1⟩ := c_Md_isNameF l G (d - 1) (by omega) hK hT hq0
  refine jx_callV (M2 := mm_Md_isName) rfl (md_tg hK) lk_Md_269 wi_Md_isName ws_Md_isName d_Md_build_2 hC1 cd_Md_isName rfl rfl (Nat.le_of_ble_eq_true rfl) (jm_fok (by omega)) (jm_look (by decide) (by omega)) ?_
  refine jx_if_eq (tgt := 12) d_Md_build_5 (by decide) (fun c1 => ?_) (fun c1 => absurd c1 (by decide))
  refine jx_iconst (v0 := 1) d_Md_build_12 (by decide) ?_
  refine jx_put (v0 := .int (1)) d_Md_build_13 fF_Md_96 jv_Md ft_Md_thrown (md_tg hK) rfl rfl ?_
  refine jx_ath (md_wi (k := 0) rfl) ?_
  refine jx_aload_n d_Md_build_16 0 rfl ?_
  refine jx_get d_Md_build_17 fF_Md_96 (md_tg hK) (show (mdH h a (mi s1 0 1)).2.2.2 a 0 = Value.int (1) from md_ri rfl) ?_
  refine jx_if_le (tgt := 25) d_Md_build_20 (by decide) (fun c2 => absurd c2 (by decide)) (fun c2 => ?_)
  refine jx_iconst (v0 := 0) d_Md_build_23 (by decide) ?_
  exact jx_iret d_Md_build_24 rfl (⟨_, rfl, rfl, s1, hF1, rfl⟩)
set_option maxHeartbeats 4000000 in
set_option maxRecDepth 100000 in
theorem c_Md_value_t (l : Launch) (G : jm_G) (d : Nat) (hd : 3 ≤ d) {h : jm_H} {a : Nat} {s : MS} {B : Nat → Int32} {n : Nat} (hK : MdK h a) (hT : MT s B n) (hq0 : q_nm B n = 0) : jm_CP l G mm_Md_value d [.ref a] (mdH h a s) (fun v h9 => v = some (.long 0) ∧ ∃ s1, FixN s s1 ∧ h9 = mdH h a (mi s1 0 1)) := by
  refine jm_of (by decide) rfl (Nat.le_of_ble_eq_true rfl) ?_
  refine jx_aload_n d_Md_value_0 0 rfl ?_
  refine jx_aload_n d_Md_value_1 0 rfl ?_
  obtain ⟨v1, g1, hC1, rfl, s1, rfl, hF1⟩ := c_Md_isNameF l G (d - 1) (by omega) hK hT hq0
  refine jx_callV (M2 := mm_Md_isName) rfl (md_tg hK) lk_Md_269 wi_Md_isName ws_Md_isName d_Md_value_2 hC1 cd_Md_isName rfl rfl (Nat.le_of_ble_eq_true rfl) (jm_fok (by omega)) (jm_look (by decide) (by omega)) ?_
  refine jx_if_eq (tgt := 12) d_Md_value_5 (by decide) (fun c1 => ?_) (fun c1 => absurd c1 (by decide))
  refine jx_iconst (v0 := 1) d_Md_value_12 (by decide) ?_
  refine jx_put (v0 := .int (1)) d_Md_value_13 fF_Md_96 jv_Md ft_Md_thrown (md_tg hK) rfl rfl ?_
  refine jx_ath (md_wi (k := 0) rfl) ?_
  refine jx_aload_n d_Md_value_16 0 rfl ?_
  refine jx_get d_Md_value_17 fF_Md_96 (md_tg hK) (show (mdH h a (mi s1 0 1)).2.2.2 a 0 = Value.int (1) from md_ri rfl) ?_
  refine jx_if_le (tgt := 27) d_Md_value_20 (by decide) (fun c2 => absurd c2 (by decide)) (fun c2 => ?_)
  refine jx_lconst (v0 := 0) d_Md_value_23 (by decide) ?_
  refine jx_goto (tgt := 35) d_Md_value_24 (by decide) ?_
  exact jx_lret d_Md_value_35 rfl (⟨_, rfl, rfl, s1, hF1, rfl⟩)
set_option maxHeartbeats 4000000 in
set_option maxRecDepth 100000 in
theorem c_Md_state_t (l : Launch) (G : jm_G) (d : Nat) (hd : 3 ≤ d) {h : jm_H} {a : Nat} {s : MS} {B : Nat → Int32} {n : Nat} (hK : MdK h a) (hT : MT s B n) (hq0 : q_nm B n = 0) : jm_CP l G mm_Md_state d [.ref a] (mdH h a s) (fun v h9 => v = some (.int 0) ∧ ∃ s1, FixN s s1 ∧ h9 = mdH h a (mi s1 0 1)) := by
  refine jm_of (by decide) rfl (Nat.le_of_ble_eq_true rfl) ?_
  refine jx_aload_n d_Md_state_0 0 rfl ?_
  refine jx_aload_n d_Md_state_1 0 rfl ?_
  obtain ⟨v1, g1, hC1, rfl, s1, rfl, hF1⟩ := c_Md_isNameF l G (d - 1) (by omega) hK hT hq0
  refine jx_callV (M2 := mm_Md_isName) rfl (md_tg hK) lk_Md_269 wi_Md_isName ws_Md_isName d_Md_state_2 hC1 cd_Md_isName rfl rfl (Nat.le_of_ble_eq_true rfl) (jm_fok (by omega)) (jm_look (by decide) (by omega)) ?_
  refine jx_if_eq (tgt := 12) d_Md_state_5 (by decide) (fun c1 => ?_) (fun c1 => absurd c1 (by decide))
  refine jx_iconst (v0 := 1) d_Md_state_12 (by decide) ?_
  refine jx_put (v0 := .int (1)) d_Md_state_13 fF_Md_96 jv_Md ft_Md_thrown (md_tg hK) rfl rfl ?_
  refine jx_ath (md_wi (k := 0) rfl) ?_
  refine jx_aload_n d_Md_state_16 0 rfl ?_
  refine jx_get d_Md_state_17 fF_Md_96 (md_tg hK) (show (mdH h a (mi s1 0 1)).2.2.2 a 0 = Value.int (1) from md_ri rfl) ?_
  refine jx_if_le (tgt := 25) d_Md_state_20 (by decide) (fun c2 => absurd c2 (by decide)) (fun c2 => ?_)
  refine jx_iconst (v0 := 0) d_Md_state_23 (by decide) ?_
  exact jx_iret d_Md_state_24 rfl (⟨_, rfl, rfl, s1, hF1, rfl⟩)
set_option maxHeartbeats 4000000 in
set_option maxRecDepth 100000 in
theorem c_Md_readers_t (l : Launch) (G : jm_G) (d : Nat) (hd : 3 ≤ d) {h : jm_H} {a : Nat} {s : MS} {B : Nat → Int32} {n : Nat} {z : Int32} (hK : MdK h a) (hT : MT s B n) (hq0 : q_nm B n = 0) : jm_CP l G mm_Md_readers d [.ref a, .int z] (mdH h a s) (fun v h9 => v = some (.int 0) ∧ ∃ s1, FixN s s1 ∧ h9 = mdH h a (mi s1 0 1)) := by
  refine jm_of (by decide) rfl (Nat.le_of_ble_eq_true rfl) ?_
  refine jx_aload_n d_Md_readers_0 0 rfl ?_
  refine jx_aload_n d_Md_readers_1 0 rfl ?_
  obtain ⟨v1, g1, hC1, rfl, s1, rfl, hF1⟩ := c_Md_isNameF l G (d - 1) (by omega) hK hT hq0
  refine jx_callV (M2 := mm_Md_isName) rfl (md_tg hK) lk_Md_269 wi_Md_isName ws_Md_isName d_Md_readers_2 hC1 cd_Md_isName rfl rfl (Nat.le_of_ble_eq_true rfl) (jm_fok (by omega)) (jm_look (by decide) (by omega)) ?_
  refine jx_if_eq (tgt := 12) d_Md_readers_5 (by decide) (fun c1 => ?_) (fun c1 => absurd c1 (by decide))
  refine jx_iconst (v0 := 1) d_Md_readers_12 (by decide) ?_
  refine jx_put (v0 := .int (1)) d_Md_readers_13 fF_Md_96 jv_Md ft_Md_thrown (md_tg hK) rfl rfl ?_
  refine jx_ath (md_wi (k := 0) rfl) ?_
  refine jx_aload_n d_Md_readers_16 0 rfl ?_
  refine jx_get d_Md_readers_17 fF_Md_96 (md_tg hK) (show (mdH h a (mi s1 0 1)).2.2.2 a 0 = Value.int (1) from md_ri rfl) ?_
  refine jx_if_le (tgt := 25) d_Md_readers_20 (by decide) (fun c2 => absurd c2 (by decide)) (fun c2 => ?_)
  refine jx_iconst (v0 := 0) d_Md_readers_23 (by decide) ?_
  exact jx_iret d_Md_readers_24 rfl (⟨_, rfl, rfl, s1, hF1, rfl⟩)
theorem m_cell_c {s s' : MS} (h : s'.2.2 = s.2.2) (u : Int64) : m_cell s' u = m_cell s u := by
  unfold m_cell
  congr 1
  funext c
  unfold mcf tM nM
  rw [h]
theorem m_res_c {s s' : MS} (h : s'.2.2 = s.2.2) (u : Int64) : m_res s' u = m_res s u := by
  unfold m_res
  rw [m_cell_c h, h]
theorem m_rd_c {s s' : MS} {N : Nat → Nat} (h : s'.2.2 = s.2.2) (c : Nat) (u : Int64) : m_rd s' N c u = m_rd s N c u := by
  unfold m_rd
  congr 1
  funext k
  unfold mrf
  rw [h]
theorem m_stale_c {s s' : MS} {N : Nat → Nat} (h : s'.2.2 = s.2.2) (c : Nat) : m_stale s' N c = m_stale s N c := by
  unfold m_stale
  have e : msf s' c = msf s c := by
    funext k
    unfold msf
    rw [h, m_res_c h]
  rw [e, h]
theorem NcOK.c {s s' : MS} {N : Nat → Nat} (h : s'.2.2 = s.2.2) (hN : NcOK s N) : NcOK s' N := fun c hc => by rw [h]; exact hN c hc
set_option maxHeartbeats 4000000 in
set_option maxRecDepth 100000 in
theorem c_Md_value_o (l : Launch) (G : jm_G) (d : Nat) (hd : 3 ≤ d) {h : jm_H} {a : Nat} {s : MS} {B : Nat → Int32} {n : Nat} (hK : MdK h a) (hT : MT s B n) (hq0 : q_nm B n ≠ 0) : jm_CP l G mm_Md_value d [.ref a] (mdH h a s) (fun v h9 => v = some (.long (m_res s (q_nm B n)).2) ∧ ∃ s1, FixN s s1 ∧ h9 = mdH h a (mi s1 0 0)) := by
  refine jm_of (by decide) rfl (Nat.le_of_ble_eq_true rfl) ?_
  refine jx_aload_n d_Md_value_0 0 rfl ?_
  refine jx_aload_n d_Md_value_1 0 rfl ?_
  obtain ⟨v1, g1, hC1, rfl, s1, rfl, hF1, hq1⟩ := c_Md_isNameT l G (d - 1) (by omega) hK hT hq0
  refine jx_callV (M2 := mm_Md_isName) rfl (md_tg hK) lk_Md_269 wi_Md_isName ws_Md_isName d_Md_value_2 hC1 cd_Md_isName rfl rfl (Nat.le_of_ble_eq_true rfl) (jm_fok (by omega)) (jm_look (by decide) (by omega)) ?_
  refine jx_if_eq (tgt := 12) d_Md_value_5 (by decide) (fun c1 => absurd c1 (by decide)) (fun c1 => ?_)
  refine jx_iconst (v0 := 0) d_Md_value_8 (by decide) ?_
  refine jx_goto (tgt := 13) d_Md_value_9 (by decide) ?_
  refine jx_put (v0 := .int (0)) d_Md_value_13 fF_Md_96 jv_Md ft_Md_thrown (md_tg hK) rfl rfl ?_
  refine jx_ath (md_wi (k := 0) rfl) ?_
  refine jx_aload_n d_Md_value_16 0 rfl ?_
  refine jx_get d_Md_value_17 fF_Md_96 (md_tg hK) (show (mdH h a (mi s1 0 0)).2.2.2 a 0 = Value.int (0) from md_ri rfl) ?_
  refine jx_if_le (tgt := 27) d_Md_value_20 (by decide) (fun c2 => ?_) (fun c2 => absurd c2 (by decide))
  refine jx_aload_n d_Md_value_27 0 rfl ?_
  refine jx_aload_n d_Md_value_28 0 rfl ?_
  refine jx_get d_Md_value_29 fF_Md_123 (md_tg hK) (show (mdH h a (mi s1 0 0)).2.2.2 a 25 = Value.long (s1.2.1 25) from md_rl rfl) ?_
  refine jx_callV (M2 := mm_Md_valueOf) rfl (md_tg hK) lk_Md_247 wi_Md_valueOf ws_Md_valueOf d_Md_value_32 (c_Md_valueOf l G (d - 1) (by omega) (s := (mi s1 0 0)) (u := s1.2.1 25) hK) cd_Md_valueOf rfl rfl (Nat.le_of_ble_eq_true rfl) (jm_fok (by omega)) (jm_look (by decide) (by omega)) ?_
  exact jx_lret d_Md_value_35 rfl (⟨_, rfl, by rw [hq1, m_res_c (show (mi s1 0 0).2.2 = s.2.2 from hF1.2.2)], s1, hF1, rfl⟩)
set_option maxHeartbeats 4000000 in
set_option maxRecDepth 100000 in
theorem c_Md_remove_o (l : Launch) (G : jm_G) (d : Nat) (hd : 3 ≤ d) {h : jm_H} {a : Nat} {s : MS} {B : Nat → Int32} {n : Nat} (hK : MdK h a) (hT : MT s B n) (hq0 : q_nm B n ≠ 0) : jm_CP l G mm_Md_remove d [.ref a] (mdH h a s) (fun v h9 => ∃ s1, FixN s s1 ∧ match m_cell s (q_nm B n) with
    | none => v = some (.int 0) ∧ h9 = mdH h a (mi (mi s1 0 0) 2 0)
    | some c => v = some (.int 1) ∧ h9 = mdH h a (maz (mi (mi s1 0 0) 2 0) 2 c false)) := by
  refine jm_of (by decide) rfl (Nat.le_of_ble_eq_true rfl) ?_
  refine jx_aload_n d_Md_remove_0 0 rfl ?_
  refine jx_aload_n d_Md_remove_1 0 rfl ?_
  obtain ⟨v1, g1, hC1, rfl, s1, rfl, hF1, hq1⟩ := c_Md_isNameT l G (d - 1) (by omega) hK hT hq0
  refine jx_callV (M2 := mm_Md_isName) rfl (md_tg hK) lk_Md_269 wi_Md_isName ws_Md_isName d_Md_remove_2 hC1 cd_Md_isName rfl rfl (Nat.le_of_ble_eq_true rfl) (jm_fok (by omega)) (jm_look (by decide) (by omega)) ?_
  refine jx_if_eq (tgt := 12) d_Md_remove_5 (by decide) (fun c1 => absurd c1 (by decide)) (fun c1 => ?_)
  refine jx_iconst (v0 := 0) d_Md_remove_8 (by decide) ?_
  refine jx_goto (tgt := 13) d_Md_remove_9 (by decide) ?_
  refine jx_put (v0 := .int (0)) d_Md_remove_13 fF_Md_96 jv_Md ft_Md_thrown (md_tg hK) rfl rfl ?_
  refine jx_ath (md_wi (k := 0) rfl) ?_
  refine jx_aload_n d_Md_remove_16 0 rfl ?_
  refine jx_get d_Md_remove_17 fF_Md_96 (md_tg hK) (show (mdH h a (mi s1 0 0)).2.2.2 a 0 = Value.int (0) from md_ri rfl) ?_
  refine jx_if_le (tgt := 25) d_Md_remove_20 (by decide) (fun c2 => ?_) (fun c2 => absurd c2 (by decide))
  refine jx_aload_n d_Md_remove_25 0 rfl ?_
  refine jx_iconst (v0 := 0) d_Md_remove_26 (by decide) ?_
  refine jx_put (v0 := .int (0)) d_Md_remove_27 fF_Md_100 jv_Md ft_Md_tapeSize (md_tg hK) rfl rfl ?_
  refine jx_ath (md_wi (k := 2) rfl) ?_
  refine jx_aload_n d_Md_remove_30 0 rfl ?_
  refine jx_aload_n d_Md_remove_31 0 rfl ?_
  refine jx_get d_Md_remove_32 fF_Md_123 (md_tg hK) (show (mdH h a (mi (mi s1 0 0) 2 0)).2.2.2 a 25 = Value.long (s1.2.1 25) from md_rl rfl) ?_
  cases ec : m_cell s (q_nm B n) with
  | none =>
    have hCc := c_Md_cellOf l G (d - 1) (h := h) (a := a) (s := (mi (mi s1 0 0) 2 0)) (u := s1.2.1 25) hK
    rw [hq1, m_cell_c (show ((mi (mi s1 0 0) 2 0)).2.2 = s.2.2 from hF1.2.2), ec] at hCc
    rw [← hq1] at hCc
    refine jx_callV (M2 := mm_Md_cellOf) rfl (md_tg hK) lk_Md_214 wi_Md_cellOf ws_Md_cellOf d_Md_remove_35 hCc cd_Md_cellOf rfl rfl (Nat.le_of_ble_eq_true rfl) (jm_fok (by omega)) (jm_look (by decide) (by omega)) ?_
    refine jx_istore_n (lv' := [(1, .int (-1)), (0, .ref (a))]) d_Md_remove_38 (by decide) rfl ?_
    refine jx_iload_n d_Md_remove_39 0 rfl ?_
    refine jx_if_lt (tgt := 50) d_Md_remove_40 (by decide) (fun c3 => ?_) (fun c3 => absurd c3 (by decide))
    refine jx_iload_n d_Md_remove_50 0 rfl ?_
    refine jx_if_lt (tgt := 58) d_Md_remove_51 (by decide) (fun c4 => ?_) (fun c4 => absurd c4 (by decide))
    refine jx_iconst (v0 := 0) d_Md_remove_58 (by decide) ?_
    exact jx_zret d_Md_remove_59 rfl (by first | rfl | decide | exact jb_nar _) (⟨_, rfl, s1, hF1, rfl, rfl⟩)
  | some c =>
    have hc := m_cell_s ec
    have hCc := c_Md_cellOf l G (d - 1) (h := h) (a := a) (s := (mi (mi s1 0 0) 2 0)) (u := s1.2.1 25) hK
    rw [hq1, m_cell_c (show ((mi (mi s1 0 0) 2 0)).2.2 = s.2.2 from hF1.2.2), ec] at hCc
    rw [← hq1] at hCc
    refine jx_callV (M2 := mm_Md_cellOf) rfl (md_tg hK) lk_Md_214 wi_Md_cellOf ws_Md_cellOf d_Md_remove_35 hCc cd_Md_cellOf rfl rfl (Nat.le_of_ble_eq_true rfl) (jm_fok (by omega)) (jm_look (by decide) (by omega)) ?_
    refine jx_istore_n (lv' := [(1, .int (nI (c))), (0, .ref (a))]) d_Md_remove_38 (by decide) rfl ?_
    refine jx_iload_n d_Md_remove_39 0 rfl ?_
    refine jx_if_ltN (tgt := 50) (c) d_Md_remove_40 rfl (by omega) (by decide) (fun c5 => ?_) (fun c5 => ?_)
    · omega
    ·
      refine jx_aload_n d_Md_remove_43 1 rfl ?_
      refine jx_get d_Md_remove_44 fF_Md_13 (md_tg hK) (md_rr hK (k := 5) (j := 2) rfl rfl rfl) ?_
      refine jx_iload_n d_Md_remove_47 0 rfl ?_
      refine jx_iconst (v0 := 0) d_Md_remove_48 (by decide) ?_
      refine jx_zast d_Md_remove_49 (md_ta hK (j := 2) rfl) rfl (jm_vinN (show c < 64 by omega) (by decide)) ?_
      refine jx_ath ((jm_putN (show c < 2 ^ 31 by omega)).trans (show jm_put (mdH h a (mi (mi s1 0 0) 2 0)) (a + 2) c (narrow .boolean (.int 0)) = mdH h a (maz (mi (mi s1 0 0) 2 0) 2 c false) from md_waz (j := 2) (v := false) (show c < 64 by omega))) ?_
      refine jx_iload_n d_Md_remove_50 0 rfl ?_
      refine jx_if_ltN (tgt := 58) (c) d_Md_remove_51 rfl (by omega) (by decide) (fun c6 => ?_) (fun c6 => ?_)
      · omega
      ·
        refine jx_iconst (v0 := 1) d_Md_remove_54 (by decide) ?_
        refine jx_goto (tgt := 59) d_Md_remove_55 (by decide) ?_
        exact jx_zret d_Md_remove_59 rfl (by first | rfl | decide | exact jb_nar _) (⟨_, rfl, s1, hF1, rfl, rfl⟩)
set_option maxHeartbeats 4000000 in
set_option maxRecDepth 100000 in
theorem c_Md_state_o (l : Launch) (G : jm_G) (d : Nat) (hd : 4 ≤ d) {h : jm_H} {a : Nat} {s : MS} {B : Nat → Int32} {n : Nat} {N : Nat → Nat} (hK : MdK h a) (hT : MT s B n) (hq0 : q_nm B n ≠ 0) (hN : NcOK s N) : jm_CP l G mm_Md_state d [.ref a] (mdH h a s) (fun v h9 => ∃ s1, FixN s s1 ∧ h9 = mdH h a (mi s1 0 0) ∧ match m_cell s (q_nm B n) with
    | none => v = some (.int (-1))
    | some c => v = some (.int (s.2.2.1 4 c + if m_stale s N c = true then 4 else 0))) := by
  refine jm_of (by decide) rfl (Nat.le_of_ble_eq_true rfl) ?_
  refine jx_aload_n d_Md_state_0 0 rfl ?_
  refine jx_aload_n d_Md_state_1 0 rfl ?_
  obtain ⟨v1, g1, hC1, rfl, s1, rfl, hF1, hq1⟩ := c_Md_isNameT l G (d - 1) (by omega) hK hT hq0
  refine jx_callV (M2 := mm_Md_isName) rfl (md_tg hK) lk_Md_269 wi_Md_isName ws_Md_isName d_Md_state_2 hC1 cd_Md_isName rfl rfl (Nat.le_of_ble_eq_true rfl) (jm_fok (by omega)) (jm_look (by decide) (by omega)) ?_
  refine jx_if_eq (tgt := 12) d_Md_state_5 (by decide) (fun c1 => absurd c1 (by decide)) (fun c1 => ?_)
  refine jx_iconst (v0 := 0) d_Md_state_8 (by decide) ?_
  refine jx_goto (tgt := 13) d_Md_state_9 (by decide) ?_
  refine jx_put (v0 := .int (0)) d_Md_state_13 fF_Md_96 jv_Md ft_Md_thrown (md_tg hK) rfl rfl ?_
  refine jx_ath (md_wi (k := 0) rfl) ?_
  refine jx_aload_n d_Md_state_16 0 rfl ?_
  refine jx_get d_Md_state_17 fF_Md_96 (md_tg hK) (show (mdH h a (mi s1 0 0)).2.2.2 a 0 = Value.int (0) from md_ri rfl) ?_
  refine jx_if_le (tgt := 25) d_Md_state_20 (by decide) (fun c2 => ?_) (fun c2 => absurd c2 (by decide))
  refine jx_aload_n d_Md_state_25 0 rfl ?_
  refine jx_aload_n d_Md_state_26 0 rfl ?_
  refine jx_get d_Md_state_27 fF_Md_123 (md_tg hK) (show (mdH h a (mi s1 0 0)).2.2.2 a 25 = Value.long (s1.2.1 25) from md_rl rfl) ?_
  cases ec : m_cell s (q_nm B n) with
  | none =>
    have hCc := c_Md_cellOf l G (d - 1) (h := h) (a := a) (s := (mi s1 0 0)) (u := s1.2.1 25) hK
    rw [hq1, m_cell_c (show ((mi s1 0 0)).2.2 = s.2.2 from hF1.2.2), ec] at hCc
    rw [← hq1] at hCc
    refine jx_callV (M2 := mm_Md_cellOf) rfl (md_tg hK) lk_Md_214 wi_Md_cellOf ws_Md_cellOf d_Md_state_30 hCc cd_Md_cellOf rfl rfl (Nat.le_of_ble_eq_true rfl) (jm_fok (by omega)) (jm_look (by decide) (by omega)) ?_
    refine jx_istore_n (lv' := [(1, .int (-1)), (0, .ref (a))]) d_Md_state_33 (by decide) rfl ?_
    refine jx_iload_n d_Md_state_34 0 rfl ?_
    refine jx_if_ge (tgt := 42) d_Md_state_35 (by decide) (fun c3 => absurd c3 (by decide)) (fun c3 => ?_)
    refine jx_iconst (v0 := -1) d_Md_state_38 (by decide) ?_
    refine jx_goto (tgt := 62) d_Md_state_39 (by decide) ?_
    exact jx_iret d_Md_state_62 rfl (⟨_, rfl, s1, hF1, rfl, rfl⟩)
  | some c =>
    have hc := m_cell_s ec
    have hCc := c_Md_cellOf l G (d - 1) (h := h) (a := a) (s := (mi s1 0 0)) (u := s1.2.1 25) hK
    rw [hq1, m_cell_c (show ((mi s1 0 0)).2.2 = s.2.2 from hF1.2.2), ec] at hCc
    rw [← hq1] at hCc
    refine jx_callV (M2 := mm_Md_cellOf) rfl (md_tg hK) lk_Md_214 wi_Md_cellOf ws_Md_cellOf d_Md_state_30 hCc cd_Md_cellOf rfl rfl (Nat.le_of_ble_eq_true rfl) (jm_fok (by omega)) (jm_look (by decide) (by omega)) ?_
    refine jx_istore_n (lv' := [(1, .int (nI (c))), (0, .ref (a))]) d_Md_state_33 (by decide) rfl ?_
    refine jx_iload_n d_Md_state_34 0 rfl ?_
    refine jx_if_geN (tgt := 42) (c) d_Md_state_35 rfl (by omega) (by decide) (fun c4 => ?_) (fun c4 => ?_)
    ·
      refine jx_aload_n d_Md_state_42 1 rfl ?_
      refine jx_get d_Md_state_43 fF_Md_21 (md_tg hK) (md_rr hK (k := 7) (j := 4) rfl rfl rfl) ?_
      refine jx_iload_n d_Md_state_46 0 rfl ?_
      refine jx_iald d_Md_state_47 (md_ta hK (j := 4) rfl) rfl (jm_vinN (show c < 64 by omega) (by decide)) (jm_atN (show c < 2 ^ 31 by omega) (show (mdH h a (mi s1 0 0)).2.2.2 (a + 4) c = Value.int (s1.2.2.1 4 c) from md_rai (j := 4) (show c < 64 by omega))) ?_
      refine jx_aload_n d_Md_state_48 1 rfl ?_
      refine jx_iload_n d_Md_state_49 0 rfl ?_
      have hst := c_Md_isStale l G (d - 1) (by omega) (h := h) (a := a) (s := (mi s1 0 0)) (N := N) (c := c) hK (NcOK.c (show (mi s1 0 0).2.2 = s.2.2 from hF1.2.2) hN) hc.1
      rw [m_stale_c (show (mi s1 0 0).2.2 = s.2.2 from hF1.2.2)] at hst
      refine jx_callV (M2 := mm_Md_isStale) rfl (md_tg hK) lk_Md_263 wi_Md_isStale ws_Md_isStale d_Md_state_50 hst cd_Md_isStale rfl rfl (Nat.le_of_ble_eq_true rfl) (jm_fok (by omega)) (jm_look (by decide) (by omega)) ?_
      refine jx_if_eq (tgt := 60) d_Md_state_53 (by decide) (fun c5 => ?_) (fun c5 => ?_)
      ·
        refine jx_iconst (v0 := 0) d_Md_state_60 (by decide) ?_
        refine jx_iadd d_Md_state_61 ?_
        exact jx_iret d_Md_state_62 rfl (⟨_, rfl, s1, hF1, rfl, by show some (Value.int (s1.2.2.1 4 c + 0)) = some (Value.int (s.2.2.1 4 c + if m_stale s N c = true then 4 else 0)); rw [hF1.2.2, jb0 c5]; rfl⟩)
      ·
        refine jx_iconst (v0 := 4) d_Md_state_56 (by decide) ?_
        refine jx_goto (tgt := 61) d_Md_state_57 (by decide) ?_
        refine jx_iadd d_Md_state_61 ?_
        exact jx_iret d_Md_state_62 rfl (⟨_, rfl, s1, hF1, rfl, by show some (Value.int (s1.2.2.1 4 c + 4)) = some (Value.int (s.2.2.1 4 c + if m_stale s N c = true then 4 else 0)); rw [hF1.2.2, jb1 c5]; rfl⟩)
    · omega
