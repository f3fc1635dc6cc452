set_option maxHeartbeats 4000000 in
set_option maxRecDepth 100000 in
theorem c_Md_behind_s43 (l : Launch) (G : jm_G) (d : Nat) (hd : 3 ≤ d) {h : jm_H} {a : Nat} {s : MS} {B : Nat → Int32} {n : Nat} {c : Cur} {k : Nat} {C : List Fr} {t : Term} (hK : MdK h a) (hA : ASt s B n c k C t) (hk4 : k < 40) (e : c.1 = 43) : jm_CP l G mm_Md_behind d [.ref a] (mdH h a s) (fun v h9 => v = some (.int 1) ∧ ∃ s', h9 = mdH h a s' ∧ (∃ lo, BSt s' B n (cu_adv B n c) (k + 1) ((2, k, lo, [(stl 1 C t).2]) :: (stl 1 C t).1)) ∧ Fix s s') := by
  obtain ⟨⟨hT, hM, hc, hk, hk40, hdp, hd20, hw, hz⟩, hp, i0, lo0, hi0, hR0, hX⟩ := id hA
  have hlf := hX.lf
  have hl0 := hR0.lt
  have hld := lfts_dpt C
  refine jm_of (by decide) rfl (Nat.le_of_ble_eq_true rfl) ?_
  refine jx_aload_n d_Md_behind_0 0 rfl ?_
  refine jx_get d_Md_behind_1 fF_Md_117 (md_tg hK) ((show (mdH h a s).2.2.2 a 24 = Value.int (s.1 24) from md_ri rfl).trans (congrArg Value.int (hM.2.2.1.trans (show mkd c.1 = 43 by rw [e]; first | done | rfl)))) ?_
  refine jx_bipush (v0 := 43) d_Md_behind_4 (by decide) ?_
  refine jx_icmp_eq (tgt := 36) d_Md_behind_6 (by decide) (fun c1 => ?_) (fun c1 => absurd c1 (by decide))
  refine jx_iconst (v0 := 1) d_Md_behind_36 (by decide) ?_
  refine jx_goto (tgt := 41) d_Md_behind_37 (by decide) ?_
  refine jx_istore_n (lv' := [(1, .int (1)), (0, .ref (a))]) d_Md_behind_41 (by decide) rfl ?_
  refine jx_iload_n d_Md_behind_42 0 rfl ?_
  refine jx_if_eq (tgt := 111) d_Md_behind_43 (by decide) (fun c2 => absurd c2 (by decide)) (fun c2 => ?_)
  refine jx_aload_n d_Md_behind_46 1 rfl ?_
  refine jx_get d_Md_behind_47 fF_Md_117 (md_tg hK) ((show (mdH h a s).2.2.2 a 24 = Value.int (s.1 24) from md_ri rfl).trans (congrArg Value.int (hM.2.2.1.trans (show mkd c.1 = 43 by rw [e]; first | done | rfl)))) ?_
  refine jx_bipush (v0 := 43) d_Md_behind_50 (by decide) ?_
  refine jx_icmp_ne (tgt := 59) d_Md_behind_52 (by decide) (fun c3 => absurd c3 (by decide)) (fun c3 => ?_)
  refine jx_iconst (v0 := 2) d_Md_behind_55 (by decide) ?_
  refine jx_goto (tgt := 86) d_Md_behind_56 (by decide) ?_
  refine jx_istore_n (lv' := [(2, .int (2)), (1, .int (1)), (0, .ref (a))]) d_Md_behind_86 (by decide) rfl ?_
  refine jx_aload_n d_Md_behind_87 2 rfl ?_
  refine jx_iload_n d_Md_behind_88 0 rfl ?_
  refine jx_callS (M2 := mm_Md_strength) lk_Md_163 wt_Md_strength d_Md_behind_89 (c_Md_strength l G (d - 1) (kd := 2) (by decide)) cd_Md_strength rfl rfl (Nat.le_of_ble_eq_true rfl) (jm_fok (by omega)) (jm_look (by decide) (by omega)) ?_
  obtain ⟨v1, g1, hC1, rfl, s1, rfl, hAs1, hFs1⟩ := c_Md_settle l G (d - 1) (by omega) (h := h) (a := a) (q := 1) hK hA (by decide) (by decide)
  obtain ⟨⟨hT1, hM1, hc1, hk1, hk401, hdp1, hd201, hw1, hz1⟩, hp1, i1, lo1, hi1, hR1, hX1⟩ := id hAs1
  have hlf1 := hX1.lf
  have hl1 := hR1.lt
  have hld1 := lfts_dpt (stl 1 C t).1
  refine jx_callV (M2 := mm_Md_settle) rfl (md_tg hK) lk_Md_179 wi_Md_settle ws_Md_settle d_Md_behind_92 hC1 cd_Md_settle rfl rfl (Nat.le_of_ble_eq_true rfl) (jm_fok (by omega)) (jm_look (by decide) (by omega)) ?_
  refine jx_aload_n d_Md_behind_95 2 rfl ?_
  refine jx_aload_n d_Md_behind_96 2 rfl ?_
  refine jx_iload_n d_Md_behind_97 0 rfl ?_
  refine jx_lconst (v0 := 0) d_Md_behind_98 (by decide) ?_
  refine jx_callV (M2 := mm_Md_newNode) rfl (md_tg hK) lk_Md_172 wi_Md_newNode ws_Md_newNode d_Md_behind_99 (c_Md_newNode l G (d - 1) (s := s1) (k := k) (kd := 2) (amt := 0) hK hk1 (by omega)) cd_Md_newNode rfl rfl (Nat.le_of_ble_eq_true rfl) (jm_fok (by omega)) (jm_look (by decide) (by omega)) ?_
  refine jx_callV (M2 := mm_Md_await) rfl (md_tg hK) lk_Md_186 wi_Md_await ws_Md_await d_Md_behind_102 (c_Md_await l G (d - 1) (s := (m_node s1 k 2 0)) (w := (stl 1 C t).1.length) (nd := nI (k)) hK hw1 (by omega)) cd_Md_await rfl rfl (Nat.le_of_ble_eq_true rfl) (jm_fok (by omega)) (jm_look (by decide) (by omega)) ?_
  refine jx_aload_n d_Md_behind_105 2 rfl ?_
  refine jx_callV (M2 := mm_Md_next) rfl (md_tg hK) lk_Md_176 wi_Md_next ws_Md_next d_Md_behind_106 (c_Md_next l G (d - 1) (by omega) (s := (m_await (m_node s1 k 2 0) ((stl 1 C t).1.length) (nI (k)))) (B := B) (n := n) (p := c.2.2.1) hK hT1 hM1.1 hc1) cd_Md_next rfl rfl (Nat.le_of_ble_eq_true rfl) (jm_fok (by omega)) (jm_look (by decide) (by omega)) ?_
  refine jx_iconst (v0 := 1) d_Md_behind_109 (by decide) ?_
  exact jx_zret d_Md_behind_110 rfl (by first | rfl | decide) ((by obtain ⟨lo, hB⟩ := hAs1.await (kd := 2) hk4 (by decide) (by decide); exact ⟨_, rfl, rfl, _, rfl, ⟨lo, hB⟩, hFs1.node.await.nx⟩))
set_option maxHeartbeats 4000000 in
set_option maxRecDepth 100000 in
theorem c_Md_behind_s43F (l : Launch) (G : jm_G) (d : Nat) (hd : 3 ≤ d) {h : jm_H} {a : Nat} {s : MS} {B : Nat → Int32} {n : Nat} {c : Cur} {k : Nat} {C : List Fr} {t : Term} (hK : MdK h a) (hA : ASt s B n c k C t) (hk4 : k = 40) (e : c.1 = 43) : jm_CP l G mm_Md_behind d [.ref a] (mdH h a s) (fun v h9 => v = some (.int 1) ∧ ∃ s', h9 = mdH h a s' ∧ Flo s s' 3 (nI c.2.1)) := by
  obtain ⟨⟨hT, hM, hc, hk, hk40, hdp, hd20, hw, hz⟩, hp, i0, lo0, hi0, hR0, hX⟩ := id hA
  have hlf := hX.lf
  have hl0 := hR0.lt
  have hld := lfts_dpt C
  refine jm_of (by decide) rfl (Nat.le_of_ble_eq_true rfl) ?_
  refine jx_aload_n d_Md_behind_0 0 rfl ?_
  refine jx_get d_Md_behind_1 fF_Md_117 (md_tg hK) ((show (mdH h a s).2.2.2 a 24 = Value.int (s.1 24) from md_ri rfl).trans (congrArg Value.int (hM.2.2.1.trans (show mkd c.1 = 43 by rw [e]; first | done | rfl)))) ?_
  refine jx_bipush (v0 := 43) d_Md_behind_4 (by decide) ?_
  refine jx_icmp_eq (tgt := 36) d_Md_behind_6 (by decide) (fun c1 => ?_) (fun c1 => absurd c1 (by decide))
  refine jx_iconst (v0 := 1) d_Md_behind_36 (by decide) ?_
  refine jx_goto (tgt := 41) d_Md_behind_37 (by decide) ?_
  refine jx_istore_n (lv' := [(1, .int (1)), (0, .ref (a))]) d_Md_behind_41 (by decide) rfl ?_
  refine jx_iload_n d_Md_behind_42 0 rfl ?_
  refine jx_if_eq (tgt := 111) d_Md_behind_43 (by decide) (fun c2 => absurd c2 (by decide)) (fun c2 => ?_)
  refine jx_aload_n d_Md_behind_46 1 rfl ?_
  refine jx_get d_Md_behind_47 fF_Md_117 (md_tg hK) ((show (mdH h a s).2.2.2 a 24 = Value.int (s.1 24) from md_ri rfl).trans (congrArg Value.int (hM.2.2.1.trans (show mkd c.1 = 43 by rw [e]; first | done | rfl)))) ?_
  refine jx_bipush (v0 := 43) d_Md_behind_50 (by decide) ?_
  refine jx_icmp_ne (tgt := 59) d_Md_behind_52 (by decide) (fun c3 => absurd c3 (by decide)) (fun c3 => ?_)
  refine jx_iconst (v0 := 2) d_Md_behind_55 (by decide) ?_
  refine jx_goto (tgt := 86) d_Md_behind_56 (by decide) ?_
  refine jx_istore_n (lv' := [(2, .int (2)), (1, .int (1)), (0, .ref (a))]) d_Md_behind_86 (by decide) rfl ?_
  refine jx_aload_n d_Md_behind_87 2 rfl ?_
  refine jx_iload_n d_Md_behind_88 0 rfl ?_
  refine jx_callS (M2 := mm_Md_strength) lk_Md_163 wt_Md_strength d_Md_behind_89 (c_Md_strength l G (d - 1) (kd := 2) (by decide)) cd_Md_strength rfl rfl (Nat.le_of_ble_eq_true rfl) (jm_fok (by omega)) (jm_look (by decide) (by omega)) ?_
  obtain ⟨v1, g1, hC1, rfl, s1, rfl, hAs1, hFs1⟩ := c_Md_settle l G (d - 1) (by omega) (h := h) (a := a) (q := 1) hK hA (by decide) (by decide)
  obtain ⟨⟨hT1, hM1, hc1, hk1, hk401, hdp1, hd201, hw1, hz1⟩, hp1, i1, lo1, hi1, hR1, hX1⟩ := id hAs1
  have hlf1 := hX1.lf
  have hl1 := hR1.lt
  have hld1 := lfts_dpt (stl 1 C t).1
  refine jx_callV (M2 := mm_Md_settle) rfl (md_tg hK) lk_Md_179 wi_Md_settle ws_Md_settle d_Md_behind_92 hC1 cd_Md_settle rfl rfl (Nat.le_of_ble_eq_true rfl) (jm_fok (by omega)) (jm_look (by decide) (by omega)) ?_
  refine jx_aload_n d_Md_behind_95 2 rfl ?_
  refine jx_aload_n d_Md_behind_96 2 rfl ?_
  refine jx_iload_n d_Md_behind_97 0 rfl ?_
  refine jx_lconst (v0 := 0) d_Md_behind_98 (by decide) ?_
  have hnd := c_Md_newNode_full l G (d - 1) (by omega) (h := h) (a := a) (s := s1) (k := k) (kd := 2) (amt := 0) hK hk1 (by omega)
  rw [m_fail_of hz1] at hnd
  refine jx_callV (M2 := mm_Md_newNode) rfl (md_tg hK) lk_Md_172 wi_Md_newNode ws_Md_newNode d_Md_behind_99 hnd cd_Md_newNode rfl rfl (Nat.le_of_ble_eq_true rfl) (jm_fok (by omega)) (jm_look (by decide) (by omega)) ?_
  refine jx_callV (M2 := mm_Md_await) rfl (md_tg hK) lk_Md_186 wi_Md_await ws_Md_await d_Md_behind_102 (c_Md_await l G (d - 1) (s := (mi (mi s1 3 3) 4 (s1.1 23))) (w := (stl 1 C t).1.length) (nd := 0) hK hw1 (by omega)) cd_Md_await rfl rfl (Nat.le_of_ble_eq_true rfl) (jm_fok (by omega)) (jm_look (by decide) (by omega)) ?_
  refine jx_aload_n d_Md_behind_105 2 rfl ?_
  refine jx_callV (M2 := mm_Md_next) rfl (md_tg hK) lk_Md_176 wi_Md_next ws_Md_next d_Md_behind_106 (c_Md_next l G (d - 1) (by omega) (s := (m_await (mi (mi s1 3 3) 4 (s1.1 23)) ((stl 1 C t).1.length) 0)) (B := B) (n := n) (p := c.2.2.1) hK hT1 hM1.1 hc1) cd_Md_next rfl rfl (Nat.le_of_ble_eq_true rfl) (jm_fok (by omega)) (jm_look (by decide) (by omega)) ?_
  refine jx_iconst (v0 := 1) d_Md_behind_109 (by decide) ?_
  exact jx_zret d_Md_behind_110 rfl (by first | rfl | decide) (⟨_, rfl, rfl, _, rfl, rfl, hM1.2.1, Fix.nx (Fix.await ((hFs1.mi (by decide)).mi (by decide)))⟩)
set_option maxHeartbeats 4000000 in
set_option maxRecDepth 100000 in
theorem c_Md_behind_s45 (l : Launch) (G : jm_G) (d : Nat) (hd : 3 ≤ d) {h : jm_H} {a : Nat} {s : MS} {B : Nat → Int32} {n : Nat} {c : Cur} {k : Nat} {C : List Fr} {t : Term} (hK : MdK h a) (hA : ASt s B n c k C t) (hk4 : k < 40) (e : c.1 = 45) : jm_CP l G mm_Md_behind d [.ref a] (mdH h a s) (fun v h9 => v = some (.int 1) ∧ ∃ s', h9 = mdH h a s' ∧ (∃ lo, BSt s' B n (cu_adv B n c) (k + 1) ((3, k, lo, [(stl 1 C t).2]) :: (stl 1 C t).1)) ∧ Fix s s') := by
  obtain ⟨⟨hT, hM, hc, hk, hk40, hdp, hd20, hw, hz⟩, hp, i0, lo0, hi0, hR0, hX⟩ := id hA
  have hlf := hX.lf
  have hl0 := hR0.lt
  have hld := lfts_dpt C
  refine jm_of (by decide) rfl (Nat.le_of_ble_eq_true rfl) ?_
  refine jx_aload_n d_Md_behind_0 0 rfl ?_
  refine jx_get d_Md_behind_1 fF_Md_117 (md_tg hK) ((show (mdH h a s).2.2.2 a 24 = Value.int (s.1 24) from md_ri rfl).trans (congrArg Value.int (hM.2.2.1.trans (show mkd c.1 = 45 by rw [e]; first | done | rfl)))) ?_
  refine jx_bipush (v0 := 43) d_Md_behind_4 (by decide) ?_
  refine jx_icmp_eq (tgt := 36) d_Md_behind_6 (by decide) (fun c1 => absurd c1 (by decide)) (fun c1 => ?_)
  refine jx_aload_n d_Md_behind_9 0 rfl ?_
  refine jx_get d_Md_behind_10 fF_Md_117 (md_tg hK) ((show (mdH h a s).2.2.2 a 24 = Value.int (s.1 24) from md_ri rfl).trans (congrArg Value.int (hM.2.2.1.trans (show mkd c.1 = 45 by rw [e]; first | done | rfl)))) ?_
  refine jx_bipush (v0 := 45) d_Md_behind_13 (by decide) ?_
  refine jx_icmp_eq (tgt := 36) d_Md_behind_15 (by decide) (fun c2 => ?_) (fun c2 => absurd c2 (by decide))
  refine jx_iconst (v0 := 1) d_Md_behind_36 (by decide) ?_
  refine jx_goto (tgt := 41) d_Md_behind_37 (by decide) ?_
  refine jx_istore_n (lv' := [(1, .int (1)), (0, .ref (a))]) d_Md_behind_41 (by decide) rfl ?_
  refine jx_iload_n d_Md_behind_42 0 rfl ?_
  refine jx_if_eq (tgt := 111) d_Md_behind_43 (by decide) (fun c3 => absurd c3 (by decide)) (fun c3 => ?_)
  refine jx_aload_n d_Md_behind_46 1 rfl ?_
  refine jx_get d_Md_behind_47 fF_Md_117 (md_tg hK) ((show (mdH h a s).2.2.2 a 24 = Value.int (s.1 24) from md_ri rfl).trans (congrArg Value.int (hM.2.2.1.trans (show mkd c.1 = 45 by rw [e]; first | done | rfl)))) ?_
  refine jx_bipush (v0 := 43) d_Md_behind_50 (by decide) ?_
  refine jx_icmp_ne (tgt := 59) d_Md_behind_52 (by decide) (fun c4 => ?_) (fun c4 => absurd c4 (by decide))
  refine jx_aload_n d_Md_behind_59 1 rfl ?_
  refine jx_get d_Md_behind_60 fF_Md_117 (md_tg hK) ((show (mdH h a s).2.2.2 a 24 = Value.int (s.1 24) from md_ri rfl).trans (congrArg Value.int (hM.2.2.1.trans (show mkd c.1 = 45 by rw [e]; first | done | rfl)))) ?_
  refine jx_bipush (v0 := 45) d_Md_behind_63 (by decide) ?_
  refine jx_icmp_ne (tgt := 72) d_Md_behind_65 (by decide) (fun c5 => absurd c5 (by decide)) (fun c5 => ?_)
  refine jx_iconst (v0 := 3) d_Md_behind_68 (by decide) ?_
  refine jx_goto (tgt := 86) d_Md_behind_69 (by decide) ?_
  refine jx_istore_n (lv' := [(2, .int (3)), (1, .int (1)), (0, .ref (a))]) d_Md_behind_86 (by decide) rfl ?_
  refine jx_aload_n d_Md_behind_87 2 rfl ?_
  refine jx_iload_n d_Md_behind_88 0 rfl ?_
  refine jx_callS (M2 := mm_Md_strength) lk_Md_163 wt_Md_strength d_Md_behind_89 (c_Md_strength l G (d - 1) (kd := 3) (by decide)) cd_Md_strength rfl rfl (Nat.le_of_ble_eq_true rfl) (jm_fok (by omega)) (jm_look (by decide) (by omega)) ?_
  obtain ⟨v1, g1, hC1, rfl, s1, rfl, hAs1, hFs1⟩ := c_Md_settle l G (d - 1) (by omega) (h := h) (a := a) (q := 1) hK hA (by decide) (by decide)
  obtain ⟨⟨hT1, hM1, hc1, hk1, hk401, hdp1, hd201, hw1, hz1⟩, hp1, i1, lo1, hi1, hR1, hX1⟩ := id hAs1
  have hlf1 := hX1.lf
  have hl1 := hR1.lt
  have hld1 := lfts_dpt (stl 1 C t).1
  refine jx_callV (M2 := mm_Md_settle) rfl (md_tg hK) lk_Md_179 wi_Md_settle ws_Md_settle d_Md_behind_92 hC1 cd_Md_settle rfl rfl (Nat.le_of_ble_eq_true rfl) (jm_fok (by omega)) (jm_look (by decide) (by omega)) ?_
  refine jx_aload_n d_Md_behind_95 2 rfl ?_
  refine jx_aload_n d_Md_behind_96 2 rfl ?_
  refine jx_iload_n d_Md_behind_97 0 rfl ?_
  refine jx_lconst (v0 := 0) d_Md_behind_98 (by decide) ?_
  refine jx_callV (M2 := mm_Md_newNode) rfl (md_tg hK) lk_Md_172 wi_Md_newNode ws_Md_newNode d_Md_behind_99 (c_Md_newNode l G (d - 1) (s := s1) (k := k) (kd := 3) (amt := 0) hK hk1 (by omega)) cd_Md_newNode rfl rfl (Nat.le_of_ble_eq_true rfl) (jm_fok (by omega)) (jm_look (by decide) (by omega)) ?_
  refine jx_callV (M2 := mm_Md_await) rfl (md_tg hK) lk_Md_186 wi_Md_await ws_Md_await d_Md_behind_102 (c_Md_await l G (d - 1) (s := (m_node s1 k 3 0)) (w := (stl 1 C t).1.length) (nd := nI (k)) hK hw1 (by omega)) cd_Md_await rfl rfl (Nat.le_of_ble_eq_true rfl) (jm_fok (by omega)) (jm_look (by decide) (by omega)) ?_
  refine jx_aload_n d_Md_behind_105 2 rfl ?_
  refine jx_callV (M2 := mm_Md_next) rfl (md_tg hK) lk_Md_176 wi_Md_next ws_Md_next d_Md_behind_106 (c_Md_next l G (d - 1) (by omega) (s := (m_await (m_node s1 k 3 0) ((stl 1 C t).1.length) (nI (k)))) (B := B) (n := n) (p := c.2.2.1) hK hT1 hM1.1 hc1) cd_Md_next rfl rfl (Nat.le_of_ble_eq_true rfl) (jm_fok (by omega)) (jm_look (by decide) (by omega)) ?_
  refine jx_iconst (v0 := 1) d_Md_behind_109 (by decide) ?_
  exact jx_zret d_Md_behind_110 rfl (by first | rfl | decide) ((by obtain ⟨lo, hB⟩ := hAs1.await (kd := 3) hk4 (by decide) (by decide); exact ⟨_, rfl, rfl, _, rfl, ⟨lo, hB⟩, hFs1.node.await.nx⟩))
set_option maxHeartbeats 4000000 in
set_option maxRecDepth 100000 in
theorem c_Md_behind_s45F (l : Launch) (G : jm_G) (d : Nat) (hd : 3 ≤ d) {h : jm_H} {a : Nat} {s : MS} {B : Nat → Int32} {n : Nat} {c : Cur} {k : Nat} {C : List Fr} {t : Term} (hK : MdK h a) (hA : ASt s B n c k C t) (hk4 : k = 40) (e : c.1 = 45) : jm_CP l G mm_Md_behind d [.ref a] (mdH h a s) (fun v h9 => v = some (.int 1) ∧ ∃ s', h9 = mdH h a s' ∧ Flo s s' 3 (nI c.2.1)) := by
  obtain ⟨⟨hT, hM, hc, hk, hk40, hdp, hd20, hw, hz⟩, hp, i0, lo0, hi0, hR0, hX⟩ := id hA
  have hlf := hX.lf
  have hl0 := hR0.lt
  have hld := lfts_dpt C
  refine jm_of (by decide) rfl (Nat.le_of_ble_eq_true rfl) ?_
  refine jx_aload_n d_Md_behind_0 0 rfl ?_
  refine jx_get d_Md_behind_1 fF_Md_117 (md_tg hK) ((show (mdH h a s).2.2.2 a 24 = Value.int (s.1 24) from md_ri rfl).trans (congrArg Value.int (hM.2.2.1.trans (show mkd c.1 = 45 by rw [e]; first | done | rfl)))) ?_
  refine jx_bipush (v0 := 43) d_Md_behind_4 (by decide) ?_
  refine jx_icmp_eq (tgt := 36) d_Md_behind_6 (by decide) (fun c1 => absurd c1 (by decide)) (fun c1 => ?_)
  refine jx_aload_n d_Md_behind_9 0 rfl ?_
  refine jx_get d_Md_behind_10 fF_Md_117 (md_tg hK) ((show (mdH h a s).2.2.2 a 24 = Value.int (s.1 24) from md_ri rfl).trans (congrArg Value.int (hM.2.2.1.trans (show mkd c.1 = 45 by rw [e]; first | done | rfl)))) ?_
  refine jx_bipush (v0 := 45) d_Md_behind_13 (by decide) ?_
  refine jx_icmp_eq (tgt := 36) d_Md_behind_15 (by decide) (fun c2 => ?_) (fun c2 => absurd c2 (by decide))
  refine jx_iconst (v0 := 1) d_Md_behind_36 (by decide) ?_
  refine jx_goto (tgt := 41) d_Md_behind_37 (by decide) ?_
  refine jx_istore_n (lv' := [(1, .int (1)), (0, .ref (a))]) d_Md_behind_41 (by decide) rfl ?_
  refine jx_iload_n d_Md_behind_42 0 rfl ?_
  refine jx_if_eq (tgt := 111) d_Md_behind_43 (by decide) (fun c3 => absurd c3 (by decide)) (fun c3 => ?_)
  refine jx_aload_n d_Md_behind_46 1 rfl ?_
  refine jx_get d_Md_behind_47 fF_Md_117 (md_tg hK) ((show (mdH h a s).2.2.2 a 24 = Value.int (s.1 24) from md_ri rfl).trans (congrArg Value.int (hM.2.2.1.trans (show mkd c.1 = 45 by rw [e]; first | done | rfl)))) ?_
  refine jx_bipush (v0 := 43) d_Md_behind_50 (by decide) ?_
  refine jx_icmp_ne (tgt := 59) d_Md_behind_52 (by decide) (fun c4 => ?_) (fun c4 => absurd c4 (by decide))
  refine jx_aload_n d_Md_behind_59 1 rfl ?_
  refine jx_get d_Md_behind_60 fF_Md_117 (md_tg hK) ((show (mdH h a s).2.2.2 a 24 = Value.int (s.1 24) from md_ri rfl).trans (congrArg Value.int (hM.2.2.1.trans (show mkd c.1 = 45 by rw [e]; first | done | rfl)))) ?_
  refine jx_bipush (v0 := 45) d_Md_behind_63 (by decide) ?_
  refine jx_icmp_ne (tgt := 72) d_Md_behind_65 (by decide) (fun c5 => absurd c5 (by decide)) (fun c5 => ?_)
  refine jx_iconst (v0 := 3) d_Md_behind_68 (by decide) ?_
  refine jx_goto (tgt := 86) d_Md_behind_69 (by decide) ?_
  refine jx_istore_n (lv' := [(2, .int (3)), (1, .int (1)), (0, .ref (a))]) d_Md_behind_86 (by decide) rfl ?_
  refine jx_aload_n d_Md_behind_87 2 rfl ?_
  refine jx_iload_n d_Md_behind_88 0 rfl ?_
  refine jx_callS (M2 := mm_Md_strength) lk_Md_163 wt_Md_strength d_Md_behind_89 (c_Md_strength l G (d - 1) (kd := 3) (by decide)) cd_Md_strength rfl rfl (Nat.le_of_ble_eq_true rfl) (jm_fok (by omega)) (jm_look (by decide) (by omega)) ?_
  obtain ⟨v1, g1, hC1, rfl, s1, rfl, hAs1, hFs1⟩ := c_Md_settle l G (d - 1) (by omega) (h := h) (a := a) (q := 1) hK hA (by decide) (by decide)
  obtain ⟨⟨hT1, hM1, hc1, hk1, hk401, hdp1, hd201, hw1, hz1⟩, hp1, i1, lo1, hi1, hR1, hX1⟩ := id hAs1
  have hlf1 := hX1.lf
  have hl1 := hR1.lt
  have hld1 := lfts_dpt (stl 1 C t).1
  refine jx_callV (M2 := mm_Md_settle) rfl (md_tg hK) lk_Md_179 wi_Md_settle ws_Md_settle d_Md_behind_92 hC1 cd_Md_settle rfl rfl (Nat.le_of_ble_eq_true rfl) (jm_fok (by omega)) (jm_look (by decide) (by omega)) ?_
  refine jx_aload_n d_Md_behind_95 2 rfl ?_
  refine jx_aload_n d_Md_behind_96 2 rfl ?_
  refine jx_iload_n d_Md_behind_97 0 rfl ?_
  refine jx_lconst (v0 := 0) d_Md_behind_98 (by decide) ?_
  have hnd := c_Md_newNode_full l G (d - 1) (by omega) (h := h) (a := a) (s := s1) (k := k) (kd := 3) (amt := 0) hK hk1 (by omega)
  rw [m_fail_of hz1] at hnd
  refine jx_callV (M2 := mm_Md_newNode) rfl (md_tg hK) lk_Md_172 wi_Md_newNode ws_Md_newNode d_Md_behind_99 hnd cd_Md_newNode rfl rfl (Nat.le_of_ble_eq_true rfl) (jm_fok (by omega)) (jm_look (by decide) (by omega)) ?_
  refine jx_callV (M2 := mm_Md_await) rfl (md_tg hK) lk_Md_186 wi_Md_await ws_Md_await d_Md_behind_102 (c_Md_await l G (d - 1) (s := (mi (mi s1 3 3) 4 (s1.1 23))) (w := (stl 1 C t).1.length) (nd := 0) hK hw1 (by omega)) cd_Md_await rfl rfl (Nat.le_of_ble_eq_true rfl) (jm_fok (by omega)) (jm_look (by decide) (by omega)) ?_
  refine jx_aload_n d_Md_behind_105 2 rfl ?_
  refine jx_callV (M2 := mm_Md_next) rfl (md_tg hK) lk_Md_176 wi_Md_next ws_Md_next d_Md_behind_106 (c_Md_next l G (d - 1) (by omega) (s := (m_await (mi (mi s1 3 3) 4 (s1.1 23)) ((stl 1 C t).1.length) 0)) (B := B) (n := n) (p := c.2.2.1) hK hT1 hM1.1 hc1) cd_Md_next rfl rfl (Nat.le_of_ble_eq_true rfl) (jm_fok (by omega)) (jm_look (by decide) (by omega)) ?_
  refine jx_iconst (v0 := 1) d_Md_behind_109 (by decide) ?_
  exact jx_zret d_Md_behind_110 rfl (by first | rfl | decide) (⟨_, rfl, rfl, _, rfl, rfl, hM1.2.1, Fix.nx (Fix.await ((hFs1.mi (by decide)).mi (by decide)))⟩)
set_option maxHeartbeats 4000000 in
set_option maxRecDepth 100000 in
theorem c_Md_behind_s42 (l : Launch) (G : jm_G) (d : Nat) (hd : 3 ≤ d) {h : jm_H} {a : Nat} {s : MS} {B : Nat → Int32} {n : Nat} {c : Cur} {k : Nat} {C : List Fr} {t : Term} (hK : MdK h a) (hA : ASt s B n c k C t) (hk4 : k < 40) (e : c.1 = 42) : jm_CP l G mm_Md_behind d [.ref a] (mdH h a s) (fun v h9 => v = some (.int 1) ∧ ∃ s', h9 = mdH h a s' ∧ (∃ lo, BSt s' B n (cu_adv B n c) (k + 1) ((4, k, lo, [(stl 2 C t).2]) :: (stl 2 C t).1)) ∧ Fix s s') := by
  obtain ⟨⟨hT, hM, hc, hk, hk40, hdp, hd20, hw, hz⟩, hp, i0, lo0, hi0, hR0, hX⟩ := id hA
  have hlf := hX.lf
  have hl0 := hR0.lt
  have hld := lfts_dpt C
  refine jm_of (by decide) rfl (Nat.le_of_ble_eq_true rfl) ?_
  refine jx_aload_n d_Md_behind_0 0 rfl ?_
  refine jx_get d_Md_behind_1 fF_Md_117 (md_tg hK) ((show (mdH h a s).2.2.2 a 24 = Value.int (s.1 24) from md_ri rfl).trans (congrArg Value.int (hM.2.2.1.trans (show mkd c.1 = 42 by rw [e]; first | done | rfl)))) ?_
  refine jx_bipush (v0 := 43) d_Md_behind_4 (by decide) ?_
  refine jx_icmp_eq (tgt := 36) d_Md_behind_6 (by decide) (fun c1 => absurd c1 (by decide)) (fun c1 => ?_)
  refine jx_aload_n d_Md_behind_9 0 rfl ?_
  refine jx_get d_Md_behind_10 fF_Md_117 (md_tg hK) ((show (mdH h a s).2.2.2 a 24 = Value.int (s.1 24) from md_ri rfl).trans (congrArg Value.int (hM.2.2.1.trans (show mkd c.1 = 42 by rw [e]; first | done | rfl)))) ?_
  refine jx_bipush (v0 := 45) d_Md_behind_13 (by decide) ?_
  refine jx_icmp_eq (tgt := 36) d_Md_behind_15 (by decide) (fun c2 => absurd c2 (by decide)) (fun c2 => ?_)
  refine jx_aload_n d_Md_behind_18 0 rfl ?_
  refine jx_get d_Md_behind_19 fF_Md_117 (md_tg hK) ((show (mdH h a s).2.2.2 a 24 = Value.int (s.1 24) from md_ri rfl).trans (congrArg Value.int (hM.2.2.1.trans (show mkd c.1 = 42 by rw [e]; first | done | rfl)))) ?_
  refine jx_bipush (v0 := 42) d_Md_behind_22 (by decide) ?_
  refine jx_icmp_eq (tgt := 36) d_Md_behind_24 (by decide) (fun c3 => ?_) (fun c3 => absurd c3 (by decide))
  refine jx_iconst (v0 := 1) d_Md_behind_36 (by decide) ?_
  refine jx_goto (tgt := 41) d_Md_behind_37 (by decide) ?_
  refine jx_istore_n (lv' := [(1, .int (1)), (0, .ref (a))]) d_Md_behind_41 (by decide) rfl ?_
  refine jx_iload_n d_Md_behind_42 0 rfl ?_
  refine jx_if_eq (tgt := 111) d_Md_behind_43 (by decide) (fun c4 => absurd c4 (by decide)) (fun c4 => ?_)
  refine jx_aload_n d_Md_behind_46 1 rfl ?_
  refine jx_get d_Md_behind_47 fF_Md_117 (md_tg hK) ((show (mdH h a s).2.2.2 a 24 = Value.int (s.1 24) from md_ri rfl).trans (congrArg Value.int (hM.2.2.1.trans (show mkd c.1 = 42 by rw [e]; first | done | rfl)))) ?_
  refine jx_bipush (v0 := 43) d_Md_behind_50 (by decide) ?_
  refine jx_icmp_ne (tgt := 59) d_Md_behind_52 (by decide) (fun c5 => ?_) (fun c5 => absurd c5 (by decide))
  refine jx_aload_n d_Md_behind_59 1 rfl ?_
  refine jx_get d_Md_behind_60 fF_Md_117 (md_tg hK) ((show (mdH h a s).2.2.2 a 24 = Value.int (s.1 24) from md_ri rfl).trans (congrArg Value.int (hM.2.2.1.trans (show mkd c.1 = 42 by rw [e]; first | done | rfl)))) ?_
  refine jx_bipush (v0 := 45) d_Md_behind_63 (by decide) ?_
  refine jx_icmp_ne (tgt := 72) d_Md_behind_65 (by decide) (fun c6 => ?_) (fun c6 => absurd c6 (by decide))
  refine jx_aload_n d_Md_behind_72 1 rfl ?_
  refine jx_get d_Md_behind_73 fF_Md_117 (md_tg hK) ((show (mdH h a s).2.2.2 a 24 = Value.int (s.1 24) from md_ri rfl).trans (congrArg Value.int (hM.2.2.1.trans (show mkd c.1 = 42 by rw [e]; first | done | rfl)))) ?_
  refine jx_bipush (v0 := 42) d_Md_behind_76 (by decide) ?_
  refine jx_icmp_ne (tgt := 85) d_Md_behind_78 (by decide) (fun c7 => absurd c7 (by decide)) (fun c7 => ?_)
  refine jx_iconst (v0 := 4) d_Md_behind_81 (by decide) ?_
  refine jx_goto (tgt := 86) d_Md_behind_82 (by decide) ?_
  refine jx_istore_n (lv' := [(2, .int (4)), (1, .int (1)), (0, .ref (a))]) d_Md_behind_86 (by decide) rfl ?_
  refine jx_aload_n d_Md_behind_87 2 rfl ?_
  refine jx_iload_n d_Md_behind_88 0 rfl ?_
  refine jx_callS (M2 := mm_Md_strength) lk_Md_163 wt_Md_strength d_Md_behind_89 (c_Md_strength l G (d - 1) (kd := 4) (by decide)) cd_Md_strength rfl rfl (Nat.le_of_ble_eq_true rfl) (jm_fok (by omega)) (jm_look (by decide) (by omega)) ?_
  obtain ⟨v1, g1, hC1, rfl, s1, rfl, hAs1, hFs1⟩ := c_Md_settle l G (d - 1) (by omega) (h := h) (a := a) (q := 2) hK hA (by decide) (by decide)
  obtain ⟨⟨hT1, hM1, hc1, hk1, hk401, hdp1, hd201, hw1, hz1⟩, hp1, i1, lo1, hi1, hR1, hX1⟩ := id hAs1
  have hlf1 := hX1.lf
  have hl1 := hR1.lt
  have hld1 := lfts_dpt (stl 2 C t).1
  refine jx_callV (M2 := mm_Md_settle) rfl (md_tg hK) lk_Md_179 wi_Md_settle ws_Md_settle d_Md_behind_92 hC1 cd_Md_settle rfl rfl (Nat.le_of_ble_eq_true rfl) (jm_fok (by omega)) (jm_look (by decide) (by omega)) ?_
  refine jx_aload_n d_Md_behind_95 2 rfl ?_
  refine jx_aload_n d_Md_behind_96 2 rfl ?_
  refine jx_iload_n d_Md_behind_97 0 rfl ?_
  refine jx_lconst (v0 := 0) d_Md_behind_98 (by decide) ?_
  refine jx_callV (M2 := mm_Md_newNode) rfl (md_tg hK) lk_Md_172 wi_Md_newNode ws_Md_newNode d_Md_behind_99 (c_Md_newNode l G (d - 1) (s := s1) (k := k) (kd := 4) (amt := 0) hK hk1 (by omega)) cd_Md_newNode rfl rfl (Nat.le_of_ble_eq_true rfl) (jm_fok (by omega)) (jm_look (by decide) (by omega)) ?_
  refine jx_callV (M2 := mm_Md_await) rfl (md_tg hK) lk_Md_186 wi_Md_await ws_Md_await d_Md_behind_102 (c_Md_await l G (d - 1) (s := (m_node s1 k 4 0)) (w := (stl 2 C t).1.length) (nd := nI (k)) hK hw1 (by omega)) cd_Md_await rfl rfl (Nat.le_of_ble_eq_true rfl) (jm_fok (by omega)) (jm_look (by decide) (by omega)) ?_
  refine jx_aload_n d_Md_behind_105 2 rfl ?_
  refine jx_callV (M2 := mm_Md_next) rfl (md_tg hK) lk_Md_176 wi_Md_next ws_Md_next d_Md_behind_106 (c_Md_next l G (d - 1) (by omega) (s := (m_await (m_node s1 k 4 0) ((stl 2 C t).1.length) (nI (k)))) (B := B) (n := n) (p := c.2.2.1) hK hT1 hM1.1 hc1) cd_Md_next rfl rfl (Nat.le_of_ble_eq_true rfl) (jm_fok (by omega)) (jm_look (by decide) (by omega)) ?_
  refine jx_iconst (v0 := 1) d_Md_behind_109 (by decide) ?_
  exact jx_zret d_Md_behind_110 rfl (by first | rfl | decide) ((by obtain ⟨lo, hB⟩ := hAs1.await (kd := 4) hk4 (by decide) (by decide); exact ⟨_, rfl, rfl, _, rfl, ⟨lo, hB⟩, hFs1.node.await.nx⟩))
set_option maxHeartbeats 4000000 in
set_option maxRecDepth 100000 in
theorem c_Md_behind_s42F (l : Launch) (G : jm_G) (d : Nat) (hd : 3 ≤ d) {h : jm_H} {a : Nat} {s : MS} {B : Nat → Int32} {n : Nat} {c : Cur} {k : Nat} {C : List Fr} {t : Term} (hK : MdK h a) (hA : ASt s B n c k C t) (hk4 : k = 40) (e : c.1 = 42) : jm_CP l G mm_Md_behind d [.ref a] (mdH h a s) (fun v h9 => v = some (.int 1) ∧ ∃ s', h9 = mdH h a s' ∧ Flo s s' 3 (nI c.2.1)) := by
  obtain ⟨⟨hT, hM, hc, hk, hk40, hdp, hd20, hw, hz⟩, hp, i0, lo0, hi0, hR0, hX⟩ := id hA
  have hlf := hX.lf
  have hl0 := hR0.lt
  have hld := lfts_dpt C
  refine jm_of (by decide) rfl (Nat.le_of_ble_eq_true rfl) ?_
  refine jx_aload_n d_Md_behind_0 0 rfl ?_
  refine jx_get d_Md_behind_1 fF_Md_117 (md_tg hK) ((show (mdH h a s).2.2.2 a 24 = Value.int (s.1 24) from md_ri rfl).trans (congrArg Value.int (hM.2.2.1.trans (show mkd c.1 = 42 by rw [e]; first | done | rfl)))) ?_
  refine jx_bipush (v0 := 43) d_Md_behind_4 (by decide) ?_
  refine jx_icmp_eq (tgt := 36) d_Md_behind_6 (by decide) (fun c1 => absurd c1 (by decide)) (fun c1 => ?_)
  refine jx_aload_n d_Md_behind_9 0 rfl ?_
  refine jx_get d_Md_behind_10 fF_Md_117 (md_tg hK) ((show (mdH h a s).2.2.2 a 24 = Value.int (s.1 24) from md_ri rfl).trans (congrArg Value.int (hM.2.2.1.trans (show mkd c.1 = 42 by rw [e]; first | done | rfl)))) ?_
  refine jx_bipush (v0 := 45) d_Md_behind_13 (by decide) ?_
  refine jx_icmp_eq (tgt := 36) d_Md_behind_15 (by decide) (fun c2 => absurd c2 (by decide)) (fun c2 => ?_)
  refine jx_aload_n d_Md_behind_18 0 rfl ?_
  refine jx_get d_Md_behind_19 fF_Md_117 (md_tg hK) ((show (mdH h a s).2.2.2 a 24 = Value.int (s.1 24) from md_ri rfl).trans (congrArg Value.int (hM.2.2.1.trans (show mkd c.1 = 42 by rw [e]; first | done | rfl)))) ?_
  refine jx_bipush (v0 := 42) d_Md_behind_22 (by decide) ?_
  refine jx_icmp_eq (tgt := 36) d_Md_behind_24 (by decide) (fun c3 => ?_) (fun c3 => absurd c3 (by decide))
  refine jx_iconst (v0 := 1) d_Md_behind_36 (by decide) ?_
  refine jx_goto (tgt := 41) d_Md_behind_37 (by decide) ?_
  refine jx_istore_n (lv' := [(1, .int (1)), (0, .ref (a))]) d_Md_behind_41 (by decide) rfl ?_
  refine jx_iload_n d_Md_behind_42 0 rfl ?_
  refine jx_if_eq (tgt := 111) d_Md_behind_43 (by decide) (fun c4 => absurd c4 (by decide)) (fun c4 => ?_)
  refine jx_aload_n d_Md_behind_46 1 rfl ?_
  refine jx_get d_Md_behind_47 fF_Md_117 (md_tg hK) ((show (mdH h a s).2.2.2 a 24 = Value.int (s.1 24) from md_ri rfl).trans (congrArg Value.int (hM.2.2.1.trans (show mkd c.1 = 42 by rw [e]; first | done | rfl)))) ?_
  refine jx_bipush (v0 := 43) d_Md_behind_50 (by decide) ?_
  refine jx_icmp_ne (tgt := 59) d_Md_behind_52 (by decide) (fun c5 => ?_) (fun c5 => absurd c5 (by decide))
  refine jx_aload_n d_Md_behind_59 1 rfl ?_
  refine jx_get d_Md_behind_60 fF_Md_117 (md_tg hK) ((show (mdH h a s).2.2.2 a 24 = Value.int (s.1 24) from md_ri rfl).trans (congrArg Value.int (hM.2.2.1.trans (show mkd c.1 = 42 by rw [e]; first | done | rfl)))) ?_
  refine jx_bipush (v0 := 45) d_Md_behind_63 (by decide) ?_
  refine jx_icmp_ne (tgt := 72) d_Md_behind_65 (by decide) (fun c6 => ?_) (fun c6 => absurd c6 (by decide))
  refine jx_aload_n d_Md_behind_72 1 rfl ?_
  refine jx_get d_Md_behind_73 fF_Md_117 (md_tg hK) ((show (mdH h a s).2.2.2 a 24 = Value.int (s.1 24) from md_ri rfl).trans (congrArg Value.int (hM.2.2.1.trans (show mkd c.1 = 42 by rw [e]; first | done | rfl)))) ?_
  refine jx_bipush (v0 := 42) d_Md_behind_76 (by decide) ?_
  refine jx_icmp_ne (tgt := 85) d_Md_behind_78 (by decide) (fun c7 => absurd c7 (by decide)) (fun c7 => ?_)
  refine jx_iconst (v0 := 4) d_Md_behind_81 (by decide) ?_
  refine jx_goto (tgt := 86) d_Md_behind_82 (by decide) ?_
  refine jx_istore_n (lv' := [(2, .int (4)), (1, .int (1)), (0, .ref (a))]) d_Md_behind_86 (by decide) rfl ?_
  refine jx_aload_n d_Md_behind_87 2 rfl ?_
  refine jx_iload_n d_Md_behind_88 0 rfl ?_
  refine jx_callS (M2 := mm_Md_strength) lk_Md_163 wt_Md_strength d_Md_behind_89 (c_Md_strength l G (d - 1) (kd := 4) (by decide)) cd_Md_strength rfl rfl (Nat.le_of_ble_eq_true rfl) (jm_fok (by omega)) (jm_look (by decide) (by omega)) ?_
  obtain ⟨v1, g1, hC1, rfl, s1, rfl, hAs1, hFs1⟩ := c_Md_settle l G (d - 1) (by omega) (h := h) (a := a) (q := 2) hK hA (by decide) (by decide)
  obtain ⟨⟨hT1, hM1, hc1, hk1, hk401, hdp1, hd201, hw1, hz1⟩, hp1, i1, lo1, hi1, hR1, hX1⟩ := id hAs1
  have hlf1 := hX1.lf
  have hl1 := hR1.lt
  have hld1 := lfts_dpt (stl 2 C t).1
  refine jx_callV (M2 := mm_Md_settle) rfl (md_tg hK) lk_Md_179 wi_Md_settle ws_Md_settle d_Md_behind_92 hC1 cd_Md_settle rfl rfl (Nat.le_of_ble_eq_true rfl) (jm_fok (by omega)) (jm_look (by decide) (by omega)) ?_
  refine jx_aload_n d_Md_behind_95 2 rfl ?_
  refine jx_aload_n d_Md_behind_96 2 rfl ?_
  refine jx_iload_n d_Md_behind_97 0 rfl ?_
  refine jx_lconst (v0 := 0) d_Md_behind_98 (by decide) ?_
  have hnd := c_Md_newNode_full l G (d - 1) (by omega) (h := h) (a := a) (s := s1) (k := k) (kd := 4) (amt := 0) hK hk1 (by omega)
  rw [m_fail_of hz1] at hnd
  refine jx_callV (M2 := mm_Md_newNode) rfl (md_tg hK) lk_Md_172 wi_Md_newNode ws_Md_newNode d_Md_behind_99 hnd cd_Md_newNode rfl rfl (Nat.le_of_ble_eq_true rfl) (jm_fok (by omega)) (jm_look (by decide) (by omega)) ?_
  refine jx_callV (M2 := mm_Md_await) rfl (md_tg hK) lk_Md_186 wi_Md_await ws_Md_await d_Md_behind_102 (c_Md_await l G (d - 1) (s := (mi (mi s1 3 3) 4 (s1.1 23))) (w := (stl 2 C t).1.length) (nd := 0) hK hw1 (by omega)) cd_Md_await rfl rfl (Nat.le_of_ble_eq_true rfl) (jm_fok (by omega)) (jm_look (by decide) (by omega)) ?_
  refine jx_aload_n d_Md_behind_105 2 rfl ?_
  refine jx_callV (M2 := mm_Md_next) rfl (md_tg hK) lk_Md_176 wi_Md_next ws_Md_next d_Md_behind_106 (c_Md_next l G (d - 1) (by omega) (s := (m_await (mi (mi s1 3 3) 4 (s1.1 23)) ((stl 2 C t).1.length) 0)) (B := B) (n := n) (p := c.2.2.1) hK hT1 hM1.1 hc1) cd_Md_next rfl rfl (Nat.le_of_ble_eq_true rfl) (jm_fok (by omega)) (jm_look (by decide) (by omega)) ?_
  refine jx_iconst (v0 := 1) d_Md_behind_109 (by decide) ?_
  exact jx_zret d_Md_behind_110 rfl (by first | rfl | decide) (⟨_, rfl, rfl, _, rfl, rfl, hM1.2.1, Fix.nx (Fix.await ((hFs1.mi (by decide)).mi (by decide)))⟩)
set_option maxHeartbeats 4000000 in
set_option maxRecDepth 100000 in
theorem c_Md_behind_s47 (l : Launch) (G : jm_G) (d : Nat) (hd : 3 ≤ d) {h : jm_H} {a : Nat} {s : MS} {B : Nat → Int32} {n : Nat} {c : Cur} {k : Nat} {C : List Fr} {t : Term} (hK : MdK h a) (hA : ASt s B n c k C t) (hk4 : k < 40) (e : c.1 = 47) : jm_CP l G mm_Md_behind d [.ref a] (mdH h a s) (fun v h9 => v = some (.int 1) ∧ ∃ s', h9 = mdH h a s' ∧ (∃ lo, BSt s' B n (cu_adv B n c) (k + 1) ((5, k, lo, [(stl 2 C t).2]) :: (stl 2 C t).1)) ∧ Fix s s') := by
  obtain ⟨⟨hT, hM, hc, hk, hk40, hdp, hd20, hw, hz⟩, hp, i0, lo0, hi0, hR0, hX⟩ := id hA
  have hlf := hX.lf
  have hl0 := hR0.lt
  have hld := lfts_dpt C
  refine jm_of (by decide) rfl (Nat.le_of_ble_eq_true rfl) ?_
  refine jx_aload_n d_Md_behind_0 0 rfl ?_
  refine jx_get d_Md_behind_1 fF_Md_117 (md_tg hK) ((show (mdH h a s).2.2.2 a 24 = Value.int (s.1 24) from md_ri rfl).trans (congrArg Value.int (hM.2.2.1.trans (show mkd c.1 = 47 by rw [e]; first | done | rfl)))) ?_
  refine jx_bipush (v0 := 43) d_Md_behind_4 (by decide) ?_
  refine jx_icmp_eq (tgt := 36) d_Md_behind_6 (by decide) (fun c1 => absurd c1 (by decide)) (fun c1 => ?_)
  refine jx_aload_n d_Md_behind_9 0 rfl ?_
  refine jx_get d_Md_behind_10 fF_Md_117 (md_tg hK) ((show (mdH h a s).2.2.2 a 24 = Value.int (s.1 24) from md_ri rfl).trans (congrArg Value.int (hM.2.2.1.trans (show mkd c.1 = 47 by rw [e]; first | done | rfl)))) ?_
  refine jx_bipush (v0 := 45) d_Md_behind_13 (by decide) ?_
  refine jx_icmp_eq (tgt := 36) d_Md_behind_15 (by decide) (fun c2 => absurd c2 (by decide)) (fun c2 => ?_)
  refine jx_aload_n d_Md_behind_18 0 rfl ?_
  refine jx_get d_Md_behind_19 fF_Md_117 (md_tg hK) ((show (mdH h a s).2.2.2 a 24 = Value.int (s.1 24) from md_ri rfl).trans (congrArg Value.int (hM.2.2.1.trans (show mkd c.1 = 47 by rw [e]; first | done | rfl)))) ?_
  refine jx_bipush (v0 := 42) d_Md_behind_22 (by decide) ?_
  refine jx_icmp_eq (tgt := 36) d_Md_behind_24 (by decide) (fun c3 => absurd c3 (by decide)) (fun c3 => ?_)
  refine jx_aload_n d_Md_behind_27 0 rfl ?_
  refine jx_get d_Md_behind_28 fF_Md_117 (md_tg hK) ((show (mdH h a s).2.2.2 a 24 = Value.int (s.1 24) from md_ri rfl).trans (congrArg Value.int (hM.2.2.1.trans (show mkd c.1 = 47 by rw [e]; first | done | rfl)))) ?_
  refine jx_bipush (v0 := 47) d_Md_behind_31 (by decide) ?_
  refine jx_icmp_ne (tgt := 40) d_Md_behind_33 (by decide) (fun c4 => absurd c4 (by decide)) (fun c4 => ?_)
  refine jx_iconst (v0 := 1) d_Md_behind_36 (by decide) ?_
  refine jx_goto (tgt := 41) d_Md_behind_37 (by decide) ?_
  refine jx_istore_n (lv' := [(1, .int (1)), (0, .ref (a))]) d_Md_behind_41 (by decide) rfl ?_
  refine jx_iload_n d_Md_behind_42 0 rfl ?_
  refine jx_if_eq (tgt := 111) d_Md_behind_43 (by decide) (fun c5 => absurd c5 (by decide)) (fun c5 => ?_)
  refine jx_aload_n d_Md_behind_46 1 rfl ?_
  refine jx_get d_Md_behind_47 fF_Md_117 (md_tg hK) ((show (mdH h a s).2.2.2 a 24 = Value.int (s.1 24) from md_ri rfl).trans (congrArg Value.int (hM.2.2.1.trans (show mkd c.1 = 47 by rw [e]; first | done | rfl)))) ?_
  refine jx_bipush (v0 := 43) d_Md_behind_50 (by decide) ?_
  refine jx_icmp_ne (tgt := 59) d_Md_behind_52 (by decide) (fun c6 => ?_) (fun c6 => absurd c6 (by decide))
  refine jx_aload_n d_Md_behind_59 1 rfl ?_
  refine jx_get d_Md_behind_60 fF_Md_117 (md_tg hK) ((show (mdH h a s).2.2.2 a 24 = Value.int (s.1 24) from md_ri rfl).trans (congrArg Value.int (hM.2.2.1.trans (show mkd c.1 = 47 by rw [e]; first | done | rfl)))) ?_
  refine jx_bipush (v0 := 45) d_Md_behind_63 (by decide) ?_
  refine jx_icmp_ne (tgt := 72) d_Md_behind_65 (by decide) (fun c7 => ?_) (fun c7 => absurd c7 (by decide))
  refine jx_aload_n d_Md_behind_72 1 rfl ?_
  refine jx_get d_Md_behind_73 fF_Md_117 (md_tg hK) ((show (mdH h a s).2.2.2 a 24 = Value.int (s.1 24) from md_ri rfl).trans (congrArg Value.int (hM.2.2.1.trans (show mkd c.1 = 47 by rw [e]; first | done | rfl)))) ?_
  refine jx_bipush (v0 := 42) d_Md_behind_76 (by decide) ?_
  refine jx_icmp_ne (tgt := 85) d_Md_behind_78 (by decide) (fun c8 => ?_) (fun c8 => absurd c8 (by decide))
  refine jx_iconst (v0 := 5) d_Md_behind_85 (by decide) ?_
  refine jx_istore_n (lv' := [(2, .int (5)), (1, .int (1)), (0, .ref (a))]) d_Md_behind_86 (by decide) rfl ?_
  refine jx_aload_n d_Md_behind_87 2 rfl ?_
  refine jx_iload_n d_Md_behind_88 0 rfl ?_
  refine jx_callS (M2 := mm_Md_strength) lk_Md_163 wt_Md_strength d_Md_behind_89 (c_Md_strength l G (d - 1) (kd := 5) (by decide)) cd_Md_strength rfl rfl (Nat.le_of_ble_eq_true rfl) (jm_fok (by omega)) (jm_look (by decide) (by omega)) ?_
  obtain ⟨v1, g1, hC1, rfl, s1, rfl, hAs1, hFs1⟩ := c_Md_settle l G (d - 1) (by omega) (h := h) (a := a) (q := 2) hK hA (by decide) (by decide)
  obtain ⟨⟨hT1, hM1, hc1, hk1, hk401, hdp1, hd201, hw1, hz1⟩, hp1, i1, lo1, hi1, hR1, hX1⟩ := id hAs1
  have hlf1 := hX1.lf
  have hl1 := hR1.lt
  have hld1 := lfts_dpt (stl 2 C t).1
  refine jx_callV (M2 := mm_Md_settle) rfl (md_tg hK) lk_Md_179 wi_Md_settle ws_Md_settle d_Md_behind_92 hC1 cd_Md_settle rfl rfl (Nat.le_of_ble_eq_true rfl) (jm_fok (by omega)) (jm_look (by decide) (by omega)) ?_
  refine jx_aload_n d_Md_behind_95 2 rfl ?_
  refine jx_aload_n d_Md_behind_96 2 rfl ?_
  refine jx_iload_n d_Md_behind_97 0 rfl ?_
  refine jx_lconst (v0 := 0) d_Md_behind_98 (by decide) ?_
  refine jx_callV (M2 := mm_Md_newNode) rfl (md_tg hK) lk_Md_172 wi_Md_newNode ws_Md_newNode d_Md_behind_99 (c_Md_newNode l G (d - 1) (s := s1) (k := k) (kd := 5) (amt := 0) hK hk1 (by omega)) cd_Md_newNode rfl rfl (Nat.le_of_ble_eq_true rfl) (jm_fok (by omega)) (jm_look (by decide) (by omega)) ?_
  refine jx_callV (M2 := mm_Md_await) rfl (md_tg hK) lk_Md_186 wi_Md_await ws_Md_await d_Md_behind_102 (c_Md_await l G (d - 1) (s := (m_node s1 k 5 0)) (w := (stl 2 C t).1.length) (nd := nI (k)) hK hw1 (by omega)) cd_Md_await rfl rfl (Nat.le_of_ble_eq_true rfl) (jm_fok (by omega)) (jm_look (by decide) (by omega)) ?_
  refine jx_aload_n d_Md_behind_105 2 rfl ?_
  refine jx_callV (M2 := mm_Md_next) rfl (md_tg hK) lk_Md_176 wi_Md_next ws_Md_next d_Md_behind_106 (c_Md_next l G (d - 1) (by omega) (s := (m_await (m_node s1 k 5 0) ((stl 2 C t).1.length) (nI (k)))) (B := B) (n := n) (p := c.2.2.1) hK hT1 hM1.1 hc1) cd_Md_next rfl rfl (Nat.le_of_ble_eq_true rfl) (jm_fok (by omega)) (jm_look (by decide) (by omega)) ?_
  refine jx_iconst (v0 := 1) d_Md_behind_109 (by decide) ?_
  exact jx_zret d_Md_behind_110 rfl (by first | rfl | decide) ((by obtain ⟨lo, hB⟩ := hAs1.await (kd := 5) hk4 (by decide) (by decide); exact ⟨_, rfl, rfl, _, rfl, ⟨lo, hB⟩, hFs1.node.await.nx⟩))
set_option maxHeartbeats 4000000 in
set_option maxRecDepth 100000 in
theorem c_Md_behind_s47F (l : Launch) (G : jm_G) (d : Nat) (hd : 3 ≤ d) {h : jm_H} {a : Nat} {s : MS} {B : Nat → Int32} {n : Nat} {c : Cur} {k : Nat} {C : List Fr} {t : Term} (hK : MdK h a) (hA : ASt s B n c k C t) (hk4 : k = 40) (e : c.1 = 47) : jm_CP l G mm_Md_behind d [.ref a] (mdH h a s) (fun v h9 => v = some (.int 1) ∧ ∃ s', h9 = mdH h a s' ∧ Flo s s' 3 (nI c.2.1)) := by
  obtain ⟨⟨hT, hM, hc, hk, hk40, hdp, hd20, hw, hz⟩, hp, i0, lo0, hi0, hR0, hX⟩ := id hA
  have hlf := hX.lf
  have hl0 := hR0.lt
  have hld := lfts_dpt C
  refine jm_of (by decide) rfl (Nat.le_of_ble_eq_true rfl) ?_
  refine jx_aload_n d_Md_behind_0 0 rfl ?_
  refine jx_get d_Md_behind_1 fF_Md_117 (md_tg hK) ((show (mdH h a s).2.2.2 a 24 = Value.int (s.1 24) from md_ri rfl).trans (congrArg Value.int (hM.2.2.1.trans (show mkd c.1 = 47 by rw [e]; first | done | rfl)))) ?_
  refine jx_bipush (v0 := 43) d_Md_behind_4 (by decide) ?_
  refine jx_icmp_eq (tgt := 36) d_Md_behind_6 (by decide) (fun c1 => absurd c1 (by decide)) (fun c1 => ?_)
  refine jx_aload_n d_Md_behind_9 0 rfl ?_
  refine jx_get d_Md_behind_10 fF_Md_117 (md_tg hK) ((show (mdH h a s).2.2.2 a 24 = Value.int (s.1 24) from md_ri rfl).trans (congrArg Value.int (hM.2.2.1.trans (show mkd c.1 = 47 by rw [e]; first | done | rfl)))) ?_
  refine jx_bipush (v0 := 45) d_Md_behind_13 (by decide) ?_
  refine jx_icmp_eq (tgt := 36) d_Md_behind_15 (by decide) (fun c2 => absurd c2 (by decide)) (fun c2 => ?_)
  refine jx_aload_n d_Md_behind_18 0 rfl ?_
  refine jx_get d_Md_behind_19 fF_Md_117 (md_tg hK) ((show (mdH h a s).2.2.2 a 24 = Value.int (s.1 24) from md_ri rfl).trans (congrArg Value.int (hM.2.2.1.trans (show mkd c.1 = 47 by rw [e]; first | done | rfl)))) ?_
  refine jx_bipush (v0 := 42) d_Md_behind_22 (by decide) ?_
  refine jx_icmp_eq (tgt := 36) d_Md_behind_24 (by decide) (fun c3 => absurd c3 (by decide)) (fun c3 => ?_)
  refine jx_aload_n d_Md_behind_27 0 rfl ?_
  refine jx_get d_Md_behind_28 fF_Md_117 (md_tg hK) ((show (mdH h a s).2.2.2 a 24 = Value.int (s.1 24) from md_ri rfl).trans (congrArg Value.int (hM.2.2.1.trans (show mkd c.1 = 47 by rw [e]; first | done | rfl)))) ?_
  refine jx_bipush (v0 := 47) d_Md_behind_31 (by decide) ?_
  refine jx_icmp_ne (tgt := 40) d_Md_behind_33 (by decide) (fun c4 => absurd c4 (by decide)) (fun c4 => ?_)
  refine jx_iconst (v0 := 1) d_Md_behind_36 (by decide) ?_
  refine jx_goto (tgt := 41) d_Md_behind_37 (by decide) ?_
  refine jx_istore_n (lv' := [(1, .int (1)), (0, .ref (a))]) d_Md_behind_41 (by decide) rfl ?_
  refine jx_iload_n d_Md_behind_42 0 rfl ?_
  refine jx_if_eq (tgt := 111) d_Md_behind_43 (by decide) (fun c5 => absurd c5 (by decide)) (fun c5 => ?_)
  refine jx_aload_n d_Md_behind_46 1 rfl ?_
  refine jx_get d_Md_behind_47 fF_Md_117 (md_tg hK) ((show (mdH h a s).2.2.2 a 24 = Value.int (s.1 24) from md_ri rfl).trans (congrArg Value.int (hM.2.2.1.trans (show mkd c.1 = 47 by rw [e]; first | done | rfl)))) ?_
  refine jx_bipush (v0 := 43) d_Md_behind_50 (by decide) ?_
  refine jx_icmp_ne (tgt := 59) d_Md_behind_52 (by decide) (fun c6 => ?_) (fun c6 => absurd c6 (by decide))
  refine jx_aload_n d_Md_behind_59 1 rfl ?_
  refine jx_get d_Md_behind_60 fF_Md_117 (md_tg hK) ((show (mdH h a s).2.2.2 a 24 = Value.int (s.1 24) from md_ri rfl).trans (congrArg Value.int (hM.2.2.1.trans (show mkd c.1 = 47 by rw [e]; first | done | rfl)))) ?_
  refine jx_bipush (v0 := 45) d_Md_behind_63 (by decide) ?_
  refine jx_icmp_ne (tgt := 72) d_Md_behind_65 (by decide) (fun c7 => ?_) (fun c7 => absurd c7 (by decide))
  refine jx_aload_n d_Md_behind_72 1 rfl ?_
  refine jx_get d_Md_behind_73 fF_Md_117 (md_tg hK) ((show (mdH h a s).2.2.2 a 24 = Value.int (s.1 24) from md_ri rfl).trans (congrArg Value.int (hM.2.2.1.trans (show mkd c.1 = 47 by rw [e]; first | done | rfl)))) ?_
  refine jx_bipush (v0 := 42) d_Md_behind_76 (by decide) ?_
  refine jx_icmp_ne (tgt := 85) d_Md_behind_78 (by decide) (fun c8 => ?_) (fun c8 => absurd c8 (by decide))
  refine jx_iconst (v0 := 5) d_Md_behind_85 (by decide) ?_
  refine jx_istore_n (lv' := [(2, .int (5)), (1, .int (1)), (0, .ref (a))]) d_Md_behind_86 (by decide) rfl ?_
  refine jx_aload_n d_Md_behind_87 2 rfl ?_
  refine jx_iload_n d_Md_behind_88 0 rfl ?_
  refine jx_callS (M2 := mm_Md_strength) lk_Md_163 wt_Md_strength d_Md_behind_89 (c_Md_strength l G (d - 1) (kd := 5) (by decide)) cd_Md_strength rfl rfl (Nat.le_of_ble_eq_true rfl) (jm_fok (by omega)) (jm_look (by decide) (by omega)) ?_
  obtain ⟨v1, g1, hC1, rfl, s1, rfl, hAs1, hFs1⟩ := c_Md_settle l G (d - 1) (by omega) (h := h) (a := a) (q := 2) hK hA (by decide) (by decide)
  obtain ⟨⟨hT1, hM1, hc1, hk1, hk401, hdp1, hd201, hw1, hz1⟩, hp1, i1, lo1, hi1, hR1, hX1⟩ := id hAs1
  have hlf1 := hX1.lf
  have hl1 := hR1.lt
  have hld1 := lfts_dpt (stl 2 C t).1
  refine jx_callV (M2 := mm_Md_settle) rfl (md_tg hK) lk_Md_179 wi_Md_settle ws_Md_settle d_Md_behind_92 hC1 cd_Md_settle rfl rfl (Nat.le_of_ble_eq_true rfl) (jm_fok (by omega)) (jm_look (by decide) (by omega)) ?_
  refine jx_aload_n d_Md_behind_95 2 rfl ?_
  refine jx_aload_n d_Md_behind_96 2 rfl ?_
  refine jx_iload_n d_Md_behind_97 0 rfl ?_
  refine jx_lconst (v0 := 0) d_Md_behind_98 (by decide) ?_
  have hnd := c_Md_newNode_full l G (d - 1) (by omega) (h := h) (a := a) (s := s1) (k := k) (kd := 5) (amt := 0) hK hk1 (by omega)
  rw [m_fail_of hz1] at hnd
  refine jx_callV (M2 := mm_Md_newNode) rfl (md_tg hK) lk_Md_172 wi_Md_newNode ws_Md_newNode d_Md_behind_99 hnd cd_Md_newNode rfl rfl (Nat.le_of_ble_eq_true rfl) (jm_fok (by omega)) (jm_look (by decide) (by omega)) ?_
  refine jx_callV (M2 := mm_Md_await) rfl (md_tg hK) lk_Md_186 wi_Md_await ws_Md_await d_Md_behind_102 (c_Md_await l G (d - 1) (s := (mi (mi s1 3 3) 4 (s1.1 23))) (w := (stl 2 C t).1.length) (nd := 0) hK hw1 (by omega)) cd_Md_await rfl rfl (Nat.le_of_ble_eq_true rfl) (jm_fok (by omega)) (jm_look (by decide) (by omega)) ?_
  refine jx_aload_n d_Md_behind_105 2 rfl ?_
  refine jx_callV (M2 := mm_Md_next) rfl (md_tg hK) lk_Md_176 wi_Md_next ws_Md_next d_Md_behind_106 (c_Md_next l G (d - 1) (by omega) (s := (m_await (mi (mi s1 3 3) 4 (s1.1 23)) ((stl 2 C t).1.length) 0)) (B := B) (n := n) (p := c.2.2.1) hK hT1 hM1.1 hc1) cd_Md_next rfl rfl (Nat.le_of_ble_eq_true rfl) (jm_fok (by omega)) (jm_look (by decide) (by omega)) ?_
  refine jx_iconst (v0 := 1) d_Md_behind_109 (by decide) ?_
  exact jx_zret d_Md_behind_110 rfl (by first | rfl | decide) (⟨_, rfl, rfl, _, rfl, rfl, hM1.2.1, Fix.nx (Fix.await ((hFs1.mi (by decide)).mi (by decide)))⟩)
set_option maxHeartbeats 4000000 in
set_option maxRecDepth 100000 in
theorem c_Md_behind_end (l : Launch) (G : jm_G) (d : Nat) (hd : 3 ≤ d) {h : jm_H} {a : Nat} {s : MS} {B : Nat → Int32} {n : Nat} {c : Cur} {k : Nat} {C : List Fr} {t : Term} (hK : MdK h a) (hA : ASt s B n c k C t) (h1 : (stl 1 C t).1 = []) (e : c.1 = 0) : jm_CP l G mm_Md_behind d [.ref a] (mdH h a s) (fun v h9 => v = some (.int 0) ∧ ∃ s', h9 = mdH h a s' ∧ ASt s' B n c k [] (stl 1 C t).2 ∧ Fix s s') := by
  obtain ⟨⟨hT, hM, hc, hk, hk40, hdp, hd20, hw, hz⟩, hp, i0, lo0, hi0, hR0, hX⟩ := id hA
  have hlf := hX.lf
  have hl0 := hR0.lt
  have hld := lfts_dpt C
  refine jm_of (by decide) rfl (Nat.le_of_ble_eq_true rfl) ?_
  refine jx_aload_n d_Md_behind_0 0 rfl ?_
  refine jx_get d_Md_behind_1 fF_Md_117 (md_tg hK) ((show (mdH h a s).2.2.2 a 24 = Value.int (s.1 24) from md_ri rfl).trans (congrArg Value.int (hM.2.2.1.trans (show mkd c.1 = -2 by rw [e]; first | done | rfl)))) ?_
  refine jx_bipush (v0 := 43) d_Md_behind_4 (by decide) ?_
  refine jx_icmp_eq (tgt := 36) d_Md_behind_6 (by decide) (fun c1 => absurd c1 (by decide)) (fun c1 => ?_)
  refine jx_aload_n d_Md_behind_9 0 rfl ?_
  refine jx_get d_Md_behind_10 fF_Md_117 (md_tg hK) ((show (mdH h a s).2.2.2 a 24 = Value.int (s.1 24) from md_ri rfl).trans (congrArg Value.int (hM.2.2.1.trans (show mkd c.1 = -2 by rw [e]; first | done | rfl)))) ?_
  refine jx_bipush (v0 := 45) d_Md_behind_13 (by decide) ?_
  refine jx_icmp_eq (tgt := 36) d_Md_behind_15 (by decide) (fun c2 => absurd c2 (by decide)) (fun c2 => ?_)
  refine jx_aload_n d_Md_behind_18 0 rfl ?_
  refine jx_get d_Md_behind_19 fF_Md_117 (md_tg hK) ((show (mdH h a s).2.2.2 a 24 = Value.int (s.1 24) from md_ri rfl).trans (congrArg Value.int (hM.2.2.1.trans (show mkd c.1 = -2 by rw [e]; first | done | rfl)))) ?_
  refine jx_bipush (v0 := 42) d_Md_behind_22 (by decide) ?_
  refine jx_icmp_eq (tgt := 36) d_Md_behind_24 (by decide) (fun c3 => absurd c3 (by decide)) (fun c3 => ?_)
  refine jx_aload_n d_Md_behind_27 0 rfl ?_
  refine jx_get d_Md_behind_28 fF_Md_117 (md_tg hK) ((show (mdH h a s).2.2.2 a 24 = Value.int (s.1 24) from md_ri rfl).trans (congrArg Value.int (hM.2.2.1.trans (show mkd c.1 = -2 by rw [e]; first | done | rfl)))) ?_
  refine jx_bipush (v0 := 47) d_Md_behind_31 (by decide) ?_
  refine jx_icmp_ne (tgt := 40) d_Md_behind_33 (by decide) (fun c4 => ?_) (fun c4 => absurd c4 (by decide))
  refine jx_iconst (v0 := 0) d_Md_behind_40 (by decide) ?_
  refine jx_istore_n (lv' := [(1, .int (0)), (0, .ref (a))]) d_Md_behind_41 (by decide) rfl ?_
  refine jx_iload_n d_Md_behind_42 0 rfl ?_
  refine jx_if_eq (tgt := 111) d_Md_behind_43 (by decide) (fun c5 => ?_) (fun c5 => absurd c5 (by decide))
  refine jx_aload_n d_Md_behind_111 1 rfl ?_
  refine jx_get d_Md_behind_112 fF_Md_117 (md_tg hK) ((show (mdH h a s).2.2.2 a 24 = Value.int (s.1 24) from md_ri rfl).trans (congrArg Value.int (hM.2.2.1.trans (show mkd c.1 = -2 by rw [e]; first | done | rfl)))) ?_
  refine jx_bipush (v0 := -2) d_Md_behind_115 (by decide) ?_
  refine jx_icmp_ne (tgt := 138) d_Md_behind_117 (by decide) (fun c6 => absurd c6 (by decide)) (fun c6 => ?_)
  refine jx_aload_n d_Md_behind_120 1 rfl ?_
  refine jx_iconst (v0 := 1) d_Md_behind_121 (by decide) ?_
  obtain ⟨v1, g1, hC1, rfl, s1, rfl, hAs1, hFs1⟩ := c_Md_settle l G (d - 1) (by omega) (h := h) (a := a) (q := 1) hK hA (by decide) (by decide)
  obtain ⟨⟨hT1, hM1, hc1, hk1, hk401, hdp1, hd201, hw1, hz1⟩, hp1, i1, lo1, hi1, hR1, hX1⟩ := id hAs1
  have hlf1 := hX1.lf
  have hl1 := hR1.lt
  have hld1 := lfts_dpt (stl 1 C t).1
  refine jx_callV (M2 := mm_Md_settle) rfl (md_tg hK) lk_Md_179 wi_Md_settle ws_Md_settle d_Md_behind_122 hC1 cd_Md_settle rfl rfl (Nat.le_of_ble_eq_true rfl) (jm_fok (by omega)) (jm_look (by decide) (by omega)) ?_
  refine jx_aload_n d_Md_behind_125 1 rfl ?_
  refine jx_get d_Md_behind_126 fF_Md_157 (md_tg hK) ((show (mdH h a s1).2.2.2 a 35 = Value.int (s1.1 35) from md_ri rfl).trans (congrArg Value.int hw1)) ?_
  refine jx_if_leN (tgt := 136) ((stl 1 C t).1.length) d_Md_behind_129 rfl (by omega) (by decide) (fun c7 => ?_) (fun c7 => ?_)
  ·
    refine jx_iconst (v0 := 0) d_Md_behind_136 (by decide) ?_
    exact jx_zret d_Md_behind_137 rfl (by first | rfl | decide) (⟨_, rfl, rfl, s1, rfl, by rw [h1] at hAs1; exact hAs1, hFs1⟩)
  · exact absurd (congrArg List.length h1) (by show ¬ (stl 1 C t).1.length = 0; omega)
set_option maxHeartbeats 4000000 in
set_option maxRecDepth 100000 in
theorem c_Md_behind_endW (l : Launch) (G : jm_G) (d : Nat) (hd : 3 ≤ d) {h : jm_H} {a : Nat} {s : MS} {B : Nat → Int32} {n : Nat} {c : Cur} {k : Nat} {C : List Fr} {t : Term} (hK : MdK h a) (hA : ASt s B n c k C t) (h1 : ¬ (stl 1 C t).1 = []) (e : c.1 = 0) : jm_CP l G mm_Md_behind d [.ref a] (mdH h a s) (fun v h9 => v = some (.int 0) ∧ ∃ s', h9 = mdH h a s' ∧ Flo s s' 2 (nI c.2.1)) := by
  obtain ⟨⟨hT, hM, hc, hk, hk40, hdp, hd20, hw, hz⟩, hp, i0, lo0, hi0, hR0, hX⟩ := id hA
  have hlf := hX.lf
  have hl0 := hR0.lt
  have hld := lfts_dpt C
  refine jm_of (by decide) rfl (Nat.le_of_ble_eq_true rfl) ?_
  refine jx_aload_n d_Md_behind_0 0 rfl ?_
  refine jx_get d_Md_behind_1 fF_Md_117 (md_tg hK) ((show (mdH h a s).2.2.2 a 24 = Value.int (s.1 24) from md_ri rfl).trans (congrArg Value.int (hM.2.2.1.trans (show mkd c.1 = -2 by rw [e]; first | done | rfl)))) ?_
  refine jx_bipush (v0 := 43) d_Md_behind_4 (by decide) ?_
  refine jx_icmp_eq (tgt := 36) d_Md_behind_6 (by decide) (fun c1 => absurd c1 (by decide)) (fun c1 => ?_)
  refine jx_aload_n d_Md_behind_9 0 rfl ?_
  refine jx_get d_Md_behind_10 fF_Md_117 (md_tg hK) ((show (mdH h a s).2.2.2 a 24 = Value.int (s.1 24) from md_ri rfl).trans (congrArg Value.int (hM.2.2.1.trans (show mkd c.1 = -2 by rw [e]; first | done | rfl)))) ?_
  refine jx_bipush (v0 := 45) d_Md_behind_13 (by decide) ?_
  refine jx_icmp_eq (tgt := 36) d_Md_behind_15 (by decide) (fun c2 => absurd c2 (by decide)) (fun c2 => ?_)
  refine jx_aload_n d_Md_behind_18 0 rfl ?_
  refine jx_get d_Md_behind_19 fF_Md_117 (md_tg hK) ((show (mdH h a s).2.2.2 a 24 = Value.int (s.1 24) from md_ri rfl).trans (congrArg Value.int (hM.2.2.1.trans (show mkd c.1 = -2 by rw [e]; first | done | rfl)))) ?_
  refine jx_bipush (v0 := 42) d_Md_behind_22 (by decide) ?_
  refine jx_icmp_eq (tgt := 36) d_Md_behind_24 (by decide) (fun c3 => absurd c3 (by decide)) (fun c3 => ?_)
  refine jx_aload_n d_Md_behind_27 0 rfl ?_
  refine jx_get d_Md_behind_28 fF_Md_117 (md_tg hK) ((show (mdH h a s).2.2.2 a 24 = Value.int (s.1 24) from md_ri rfl).trans (congrArg Value.int (hM.2.2.1.trans (show mkd c.1 = -2 by rw [e]; first | done | rfl)))) ?_
  refine jx_bipush (v0 := 47) d_Md_behind_31 (by decide) ?_
  refine jx_icmp_ne (tgt := 40) d_Md_behind_33 (by decide) (fun c4 => ?_) (fun c4 => absurd c4 (by decide))
  refine jx_iconst (v0 := 0) d_Md_behind_40 (by decide) ?_
  refine jx_istore_n (lv' := [(1, .int (0)), (0, .ref (a))]) d_Md_behind_41 (by decide) rfl ?_
  refine jx_iload_n d_Md_behind_42 0 rfl ?_
  refine jx_if_eq (tgt := 111) d_Md_behind_43 (by decide) (fun c5 => ?_) (fun c5 => absurd c5 (by decide))
  refine jx_aload_n d_Md_behind_111 1 rfl ?_
  refine jx_get d_Md_behind_112 fF_Md_117 (md_tg hK) ((show (mdH h a s).2.2.2 a 24 = Value.int (s.1 24) from md_ri rfl).trans (congrArg Value.int (hM.2.2.1.trans (show mkd c.1 = -2 by rw [e]; first | done | rfl)))) ?_
  refine jx_bipush (v0 := -2) d_Md_behind_115 (by decide) ?_
  refine jx_icmp_ne (tgt := 138) d_Md_behind_117 (by decide) (fun c6 => absurd c6 (by decide)) (fun c6 => ?_)
  refine jx_aload_n d_Md_behind_120 1 rfl ?_
  refine jx_iconst (v0 := 1) d_Md_behind_121 (by decide) ?_
  obtain ⟨v1, g1, hC1, rfl, s1, rfl, hAs1, hFs1⟩ := c_Md_settle l G (d - 1) (by omega) (h := h) (a := a) (q := 1) hK hA (by decide) (by decide)
  obtain ⟨⟨hT1, hM1, hc1, hk1, hk401, hdp1, hd201, hw1, hz1⟩, hp1, i1, lo1, hi1, hR1, hX1⟩ := id hAs1
  have hlf1 := hX1.lf
  have hl1 := hR1.lt
  have hld1 := lfts_dpt (stl 1 C t).1
  refine jx_callV (M2 := mm_Md_settle) rfl (md_tg hK) lk_Md_179 wi_Md_settle ws_Md_settle d_Md_behind_122 hC1 cd_Md_settle rfl rfl (Nat.le_of_ble_eq_true rfl) (jm_fok (by omega)) (jm_look (by decide) (by omega)) ?_
  refine jx_aload_n d_Md_behind_125 1 rfl ?_
  refine jx_get d_Md_behind_126 fF_Md_157 (md_tg hK) ((show (mdH h a s1).2.2.2 a 35 = Value.int (s1.1 35) from md_ri rfl).trans (congrArg Value.int hw1)) ?_
  refine jx_if_leN (tgt := 136) ((stl 1 C t).1.length) d_Md_behind_129 rfl (by omega) (by decide) (fun c7 => ?_) (fun c7 => ?_)
  · exact absurd (List.eq_nil_of_length_eq_zero (show (stl 1 C t).1.length = 0 by omega)) h1
  ·
    refine jx_aload_n d_Md_behind_132 1 rfl ?_
    have hwr : m_wrong s1 = mi (mi s1 3 (if s1.1 24 = -1 then 1 else 2)) 4 (s1.1 23) := m_fail_of hz1
    rw [hM1.2.2.1, e, if_neg (by decide)] at hwr
    refine jx_callV (M2 := mm_Md_wrong) rfl (md_tg hK) lk_Md_189 wi_Md_wrong ws_Md_wrong d_Md_behind_133 (c_Md_wrong l G (d - 1) (by omega) (s := s1) hK) cd_Md_wrong rfl rfl (Nat.le_of_ble_eq_true rfl) (jm_fok (by omega)) (jm_look (by decide) (by omega)) ?_
    refine jx_iconst (v0 := 0) d_Md_behind_136 (by decide) ?_
    exact jx_zret d_Md_behind_137 rfl (by first | rfl | decide) (⟨_, rfl, rfl, _, rfl, by rw [hwr]; rfl, by rw [hwr]; exact hM1.2.1, by rw [hwr]; exact (hFs1.mi (by decide)).mi (by decide)⟩)
set_option maxHeartbeats 4000000 in
set_option maxRecDepth 100000 in
theorem c_Md_behind_bad (l : Launch) (G : jm_G) (d : Nat) (hd : 3 ≤ d) {h : jm_H} {a : Nat} {s : MS} {B : Nat → Int32} {n : Nat} {c : Cur} {k : Nat} {C : List Fr} {t : Term} (hK : MdK h a) (hA : ASt s B n c k C t) (h43 : ¬ s.1 24 = 43) (h45 : ¬ s.1 24 = 45) (h42 : ¬ s.1 24 = 42) (h47 : ¬ s.1 24 = 47) (hm2 : ¬ s.1 24 = -2) (h41 : ¬ s.1 24 = 41) (h44 : ¬ s.1 24 = 44) : jm_CP l G mm_Md_behind d [.ref a] (mdH h a s) (fun v h9 => v = some (.int 0) ∧ ∃ s', h9 = mdH h a s' ∧ Flo s s' (if s.1 24 = -1 then 1 else 2) (nI c.2.1)) := by
  obtain ⟨⟨hT, hM, hc, hk, hk40, hdp, hd20, hw, hz⟩, hp, i0, lo0, hi0, hR0, hX⟩ := id hA
  have hlf := hX.lf
  have hl0 := hR0.lt
  have hld := lfts_dpt C
  have hwr : m_wrong s = mi (mi s 3 (if s.1 24 = -1 then 1 else 2)) 4 (s.1 23) := m_fail_of hz
  refine jm_of (by decide) rfl (Nat.le_of_ble_eq_true rfl) ?_
  refine jx_aload_n d_Md_behind_0 0 rfl ?_
  refine jx_get d_Md_behind_1 fF_Md_117 (md_tg hK) (show (mdH h a s).2.2.2 a 24 = Value.int (s.1 24) from md_ri rfl) ?_
  refine jx_bipush (v0 := 43) d_Md_behind_4 (by decide) ?_
  refine jx_icmp_eq (tgt := 36) d_Md_behind_6 (by decide) (fun c1 => ?_) (fun c1 => ?_)
  · exact absurd c1 h43
  ·
    refine jx_aload_n d_Md_behind_9 0 rfl ?_
    refine jx_get d_Md_behind_10 fF_Md_117 (md_tg hK) (show (mdH h a s).2.2.2 a 24 = Value.int (s.1 24) from md_ri rfl) ?_
    refine jx_bipush (v0 := 45) d_Md_behind_13 (by decide) ?_
    refine jx_icmp_eq (tgt := 36) d_Md_behind_15 (by decide) (fun c2 => ?_) (fun c2 => ?_)
    · exact absurd c2 h45
    ·
      refine jx_aload_n d_Md_behind_18 0 rfl ?_
      refine jx_get d_Md_behind_19 fF_Md_117 (md_tg hK) (show (mdH h a s).2.2.2 a 24 = Value.int (s.1 24) from md_ri rfl) ?_
      refine jx_bipush (v0 := 42) d_Md_behind_22 (by decide) ?_
      refine jx_icmp_eq (tgt := 36) d_Md_behind_24 (by decide) (fun c3 => ?_) (fun c3 => ?_)
      · exact absurd c3 h42
      ·
        refine jx_aload_n d_Md_behind_27 0 rfl ?_
        refine jx_get d_Md_behind_28 fF_Md_117 (md_tg hK) (show (mdH h a s).2.2.2 a 24 = Value.int (s.1 24) from md_ri rfl) ?_
        refine jx_bipush (v0 := 47) d_Md_behind_31 (by decide) ?_
        refine jx_icmp_ne (tgt := 40) d_Md_behind_33 (by decide) (fun c4 => ?_) (fun c4 => ?_)
        ·
          refine jx_iconst (v0 := 0) d_Md_behind_40 (by decide) ?_
          refine jx_istore_n (lv' := [(1, .int (0)), (0, .ref (a))]) d_Md_behind_41 (by decide) rfl ?_
          refine jx_iload_n d_Md_behind_42 0 rfl ?_
          refine jx_if_eq (tgt := 111) d_Md_behind_43 (by decide) (fun c5 => ?_) (fun c5 => absurd c5 (by decide))
          refine jx_aload_n d_Md_behind_111 1 rfl ?_
          refine jx_get d_Md_behind_112 fF_Md_117 (md_tg hK) (show (mdH h a s).2.2.2 a 24 = Value.int (s.1 24) from md_ri rfl) ?_
          refine jx_bipush (v0 := -2) d_Md_behind_115 (by decide) ?_
          refine jx_icmp_ne (tgt := 138) d_Md_behind_117 (by decide) (fun c6 => ?_) (fun c6 => ?_)
          ·
            refine jx_aload_n d_Md_behind_138 1 rfl ?_
            refine jx_get d_Md_behind_139 fF_Md_117 (md_tg hK) (show (mdH h a s).2.2.2 a 24 = Value.int (s.1 24) from md_ri rfl) ?_
            refine jx_bipush (v0 := 41) d_Md_behind_142 (by decide) ?_
            refine jx_icmp_eq (tgt := 162) d_Md_behind_144 (by decide) (fun c7 => ?_) (fun c7 => ?_)
            · exact absurd c7 h41
            ·
              refine jx_aload_n d_Md_behind_147 1 rfl ?_
              refine jx_get d_Md_behind_148 fF_Md_117 (md_tg hK) (show (mdH h a s).2.2.2 a 24 = Value.int (s.1 24) from md_ri rfl) ?_
              refine jx_bipush (v0 := 44) d_Md_behind_151 (by decide) ?_
              refine jx_icmp_eq (tgt := 162) d_Md_behind_153 (by decide) (fun c8 => ?_) (fun c8 => ?_)
              · exact absurd c8 h44
              ·
                refine jx_aload_n d_Md_behind_156 1 rfl ?_
                refine jx_callV (M2 := mm_Md_wrong) rfl (md_tg hK) lk_Md_189 wi_Md_wrong ws_Md_wrong d_Md_behind_157 (c_Md_wrong l G (d - 1) (by omega) (s := s) hK) cd_Md_wrong rfl rfl (Nat.le_of_ble_eq_true rfl) (jm_fok (by omega)) (jm_look (by decide) (by omega)) ?_
                refine jx_iconst (v0 := 0) d_Md_behind_160 (by decide) ?_
                exact jx_zret d_Md_behind_161 rfl (by first | rfl | decide) (⟨_, rfl, rfl, _, rfl, by rw [hwr]; rfl, by rw [hwr]; exact hM.2.1, by rw [hwr]; exact (Fix.rf.mi (by decide)).mi (by decide)⟩)
          · exact absurd c6 hm2
        · exact absurd c4 h47
set_option maxHeartbeats 4000000 in
set_option maxRecDepth 100000 in
theorem c_Md_behind_n41 (l : Launch) (G : jm_G) (d : Nat) (hd : 3 ≤ d) {h : jm_H} {a : Nat} {s : MS} {B : Nat → Int32} {n : Nat} {c : Cur} {k : Nat} {C : List Fr} {t : Term} (hK : MdK h a) (hA : ASt s B n c k C t) (h1 : (stl 1 C t).1 = []) (e : c.1 = 41) : jm_CP l G mm_Md_behind d [.ref a] (mdH h a s) (fun v h9 => v = some (.int 0) ∧ ∃ s', h9 = mdH h a s' ∧ Flo s s' 2 (nI c.2.1)) := by
  obtain ⟨⟨hT, hM, hc, hk, hk40, hdp, hd20, hw, hz⟩, hp, i0, lo0, hi0, hR0, hX⟩ := id hA
  have hlf := hX.lf
  have hl0 := hR0.lt
  have hld := lfts_dpt C
  refine jm_of (by decide) rfl (Nat.le_of_ble_eq_true rfl) ?_
  refine jx_aload_n d_Md_behind_0 0 rfl ?_
  refine jx_get d_Md_behind_1 fF_Md_117 (md_tg hK) ((show (mdH h a s).2.2.2 a 24 = Value.int (s.1 24) from md_ri rfl).trans (congrArg Value.int (hM.2.2.1.trans (show mkd c.1 = 41 by rw [e]; first | done | rfl)))) ?_
  refine jx_bipush (v0 := 43) d_Md_behind_4 (by decide) ?_
  refine jx_icmp_eq (tgt := 36) d_Md_behind_6 (by decide) (fun c1 => absurd c1 (by decide)) (fun c1 => ?_)
  refine jx_aload_n d_Md_behind_9 0 rfl ?_
  refine jx_get d_Md_behind_10 fF_Md_117 (md_tg hK) ((show (mdH h a s).2.2.2 a 24 = Value.int (s.1 24) from md_ri rfl).trans (congrArg Value.int (hM.2.2.1.trans (show mkd c.1 = 41 by rw [e]; first | done | rfl)))) ?_
  refine jx_bipush (v0 := 45) d_Md_behind_13 (by decide) ?_
  refine jx_icmp_eq (tgt := 36) d_Md_behind_15 (by decide) (fun c2 => absurd c2 (by decide)) (fun c2 => ?_)
  refine jx_aload_n d_Md_behind_18 0 rfl ?_
  refine jx_get d_Md_behind_19 fF_Md_117 (md_tg hK) ((show (mdH h a s).2.2.2 a 24 = Value.int (s.1 24) from md_ri rfl).trans (congrArg Value.int (hM.2.2.1.trans (show mkd c.1 = 41 by rw [e]; first | done | rfl)))) ?_
  refine jx_bipush (v0 := 42) d_Md_behind_22 (by decide) ?_
  refine jx_icmp_eq (tgt := 36) d_Md_behind_24 (by decide) (fun c3 => absurd c3 (by decide)) (fun c3 => ?_)
  refine jx_aload_n d_Md_behind_27 0 rfl ?_
  refine jx_get d_Md_behind_28 fF_Md_117 (md_tg hK) ((show (mdH h a s).2.2.2 a 24 = Value.int (s.1 24) from md_ri rfl).trans (congrArg Value.int (hM.2.2.1.trans (show mkd c.1 = 41 by rw [e]; first | done | rfl)))) ?_
  refine jx_bipush (v0 := 47) d_Md_behind_31 (by decide) ?_
  refine jx_icmp_ne (tgt := 40) d_Md_behind_33 (by decide) (fun c4 => ?_) (fun c4 => absurd c4 (by decide))
  refine jx_iconst (v0 := 0) d_Md_behind_40 (by decide) ?_
  refine jx_istore_n (lv' := [(1, .int (0)), (0, .ref (a))]) d_Md_behind_41 (by decide) rfl ?_
  refine jx_iload_n d_Md_behind_42 0 rfl ?_
  refine jx_if_eq (tgt := 111) d_Md_behind_43 (by decide) (fun c5 => ?_) (fun c5 => absurd c5 (by decide))
  refine jx_aload_n d_Md_behind_111 1 rfl ?_
  refine jx_get d_Md_behind_112 fF_Md_117 (md_tg hK) ((show (mdH h a s).2.2.2 a 24 = Value.int (s.1 24) from md_ri rfl).trans (congrArg Value.int (hM.2.2.1.trans (show mkd c.1 = 41 by rw [e]; first | done | rfl)))) ?_
  refine jx_bipush (v0 := -2) d_Md_behind_115 (by decide) ?_
  refine jx_icmp_ne (tgt := 138) d_Md_behind_117 (by decide) (fun c6 => ?_) (fun c6 => absurd c6 (by decide))
  refine jx_aload_n d_Md_behind_138 1 rfl ?_
  refine jx_get d_Md_behind_139 fF_Md_117 (md_tg hK) ((show (mdH h a s).2.2.2 a 24 = Value.int (s.1 24) from md_ri rfl).trans (congrArg Value.int (hM.2.2.1.trans (show mkd c.1 = 41 by rw [e]; first | done | rfl)))) ?_
  refine jx_bipush (v0 := 41) d_Md_behind_142 (by decide) ?_
  refine jx_icmp_eq (tgt := 162) d_Md_behind_144 (by decide) (fun c7 => ?_) (fun c7 => absurd c7 (by decide))
  refine jx_aload_n d_Md_behind_162 1 rfl ?_
  refine jx_iconst (v0 := 1) d_Md_behind_163 (by decide) ?_
  obtain ⟨v1, g1, hC1, rfl, s1, rfl, hAs1, hFs1⟩ := c_Md_settle l G (d - 1) (by omega) (h := h) (a := a) (q := 1) hK hA (by decide) (by decide)
  rw [h1] at hAs1
  obtain ⟨⟨hT1, hM1, hc1, hk1, hk401, hdp1, hd201, hw1, hz1⟩, hp1, i1, lo1, hi1, hR1, hX1⟩ := id hAs1
  have hlf1 := hX1.lf
  have hl1 := hR1.lt
  have hld1 := lfts_dpt []
  refine jx_callV (M2 := mm_Md_settle) rfl (md_tg hK) lk_Md_179 wi_Md_settle ws_Md_settle d_Md_behind_164 hC1 cd_Md_settle rfl rfl (Nat.le_of_ble_eq_true rfl) (jm_fok (by omega)) (jm_look (by decide) (by omega)) ?_
  refine jx_aload_n d_Md_behind_167 1 rfl ?_
  refine jx_get d_Md_behind_168 fF_Md_157 (md_tg hK) ((show (mdH h a s1).2.2.2 a 35 = Value.int (s1.1 35) from md_ri rfl).trans (congrArg Value.int hw1)) ?_
  refine jx_if_le (tgt := 188) d_Md_behind_171 (by decide) (fun c8 => ?_) (fun c8 => absurd c8 (by decide))
  refine jx_bipush (v0 := -2) d_Md_behind_188 (by decide) ?_
  refine jx_istore_n (lv' := [(2, .int (-2)), (1, .int (0)), (0, .ref (a))]) d_Md_behind_190 (by decide) rfl ?_
  refine jx_aload_n d_Md_behind_191 2 rfl ?_
  refine jx_get d_Md_behind_192 fF_Md_117 (md_tg hK) ((show (mdH h a s1).2.2.2 a 24 = Value.int (s1.1 24) from md_ri rfl).trans (congrArg Value.int (hM1.2.2.1.trans (show mkd c.1 = 41 by rw [e]; first | done | rfl)))) ?_
  refine jx_bipush (v0 := 44) d_Md_behind_195 (by decide) ?_
  refine jx_icmp_ne (tgt := 246) d_Md_behind_197 (by decide) (fun c9 => ?_) (fun c9 => absurd c9 (by decide))
  refine jx_iload_n d_Md_behind_246 0 rfl ?_
  refine jx_bipush (v0 := -2) d_Md_behind_247 (by decide) ?_
  refine jx_icmp_eq (tgt := 281) d_Md_behind_249 (by decide) (fun c10 => ?_) (fun c10 => absurd c10 (by decide))
  refine jx_aload_n d_Md_behind_281 2 rfl ?_
  have hwr : m_wrong s1 = mi (mi s1 3 (if s1.1 24 = -1 then 1 else 2)) 4 (s1.1 23) := m_fail_of hz1
  rw [hM1.2.2.1, e, if_neg (by decide)] at hwr
  refine jx_callV (M2 := mm_Md_wrong) rfl (md_tg hK) lk_Md_189 wi_Md_wrong ws_Md_wrong d_Md_behind_282 (c_Md_wrong l G (d - 1) (by omega) (s := s1) hK) cd_Md_wrong rfl rfl (Nat.le_of_ble_eq_true rfl) (jm_fok (by omega)) (jm_look (by decide) (by omega)) ?_
  refine jx_iconst (v0 := 0) d_Md_behind_285 (by decide) ?_
  exact jx_zret d_Md_behind_286 rfl (by first | rfl | decide) (⟨_, rfl, rfl, _, rfl, by rw [hwr]; rfl, by rw [hwr]; exact hM1.2.1, by rw [hwr]; exact (hFs1.mi (by decide)).mi (by decide)⟩)
set_option maxHeartbeats 4000000 in
set_option maxRecDepth 100000 in
theorem c_Md_behind_n44 (l : Launch) (G : jm_G) (d : Nat) (hd : 3 ≤ d) {h : jm_H} {a : Nat} {s : MS} {B : Nat → Int32} {n : Nat} {c : Cur} {k : Nat} {C : List Fr} {t : Term} (hK : MdK h a) (hA : ASt s B n c k C t) (h1 : (stl 1 C t).1 = []) (e : c.1 = 44) : jm_CP l G mm_Md_behind d [.ref a] (mdH h a s) (fun v h9 => v = some (.int 0) ∧ ∃ s', h9 = mdH h a s' ∧ Flo s s' 2 (nI c.2.1)) := by
  obtain ⟨⟨hT, hM, hc, hk, hk40, hdp, hd20, hw, hz⟩, hp, i0, lo0, hi0, hR0, hX⟩ := id hA
  have hlf := hX.lf
  have hl0 := hR0.lt
  have hld := lfts_dpt C
  refine jm_of (by decide) rfl (Nat.le_of_ble_eq_true rfl) ?_
  refine jx_aload_n d_Md_behind_0 0 rfl ?_
  refine jx_get d_Md_behind_1 fF_Md_117 (md_tg hK) ((show (mdH h a s).2.2.2 a 24 = Value.int (s.1 24) from md_ri rfl).trans (congrArg Value.int (hM.2.2.1.trans (show mkd c.1 = 44 by rw [e]; first | done | rfl)))) ?_
  refine jx_bipush (v0 := 43) d_Md_behind_4 (by decide) ?_
  refine jx_icmp_eq (tgt := 36) d_Md_behind_6 (by decide) (fun c1 => absurd c1 (by decide)) (fun c1 => ?_)
  refine jx_aload_n d_Md_behind_9 0 rfl ?_
  refine jx_get d_Md_behind_10 fF_Md_117 (md_tg hK) ((show (mdH h a s).2.2.2 a 24 = Value.int (s.1 24) from md_ri rfl).trans (congrArg Value.int (hM.2.2.1.trans (show mkd c.1 = 44 by rw [e]; first | done | rfl)))) ?_
  refine jx_bipush (v0 := 45) d_Md_behind_13 (by decide) ?_
  refine jx_icmp_eq (tgt := 36) d_Md_behind_15 (by decide) (fun c2 => absurd c2 (by decide)) (fun c2 => ?_)
  refine jx_aload_n d_Md_behind_18 0 rfl ?_
  refine jx_get d_Md_behind_19 fF_Md_117 (md_tg hK) ((show (mdH h a s).2.2.2 a 24 = Value.int (s.1 24) from md_ri rfl).trans (congrArg Value.int (hM.2.2.1.trans (show mkd c.1 = 44 by rw [e]; first | done | rfl)))) ?_
  refine jx_bipush (v0 := 42) d_Md_behind_22 (by decide) ?_
  refine jx_icmp_eq (tgt := 36) d_Md_behind_24 (by decide) (fun c3 => absurd c3 (by decide)) (fun c3 => ?_)
  refine jx_aload_n d_Md_behind_27 0 rfl ?_
  refine jx_get d_Md_behind_28 fF_Md_117 (md_tg hK) ((show (mdH h a s).2.2.2 a 24 = Value.int (s.1 24) from md_ri rfl).trans (congrArg Value.int (hM.2.2.1.trans (show mkd c.1 = 44 by rw [e]; first | done | rfl)))) ?_
  refine jx_bipush (v0 := 47) d_Md_behind_31 (by decide) ?_
  refine jx_icmp_ne (tgt := 40) d_Md_behind_33 (by decide) (fun c4 => ?_) (fun c4 => absurd c4 (by decide))
  refine jx_iconst (v0 := 0) d_Md_behind_40 (by decide) ?_
  refine jx_istore_n (lv' := [(1, .int (0)), (0, .ref (a))]) d_Md_behind_41 (by decide) rfl ?_
  refine jx_iload_n d_Md_behind_42 0 rfl ?_
  refine jx_if_eq (tgt := 111) d_Md_behind_43 (by decide) (fun c5 => ?_) (fun c5 => absurd c5 (by decide))
  refine jx_aload_n d_Md_behind_111 1 rfl ?_
  refine jx_get d_Md_behind_112 fF_Md_117 (md_tg hK) ((show (mdH h a s).2.2.2 a 24 = Value.int (s.1 24) from md_ri rfl).trans (congrArg Value.int (hM.2.2.1.trans (show mkd c.1 = 44 by rw [e]; first | done | rfl)))) ?_
  refine jx_bipush (v0 := -2) d_Md_behind_115 (by decide) ?_
  refine jx_icmp_ne (tgt := 138) d_Md_behind_117 (by decide) (fun c6 => ?_) (fun c6 => absurd c6 (by decide))
  refine jx_aload_n d_Md_behind_138 1 rfl ?_
  refine jx_get d_Md_behind_139 fF_Md_117 (md_tg hK) ((show (mdH h a s).2.2.2 a 24 = Value.int (s.1 24) from md_ri rfl).trans (congrArg Value.int (hM.2.2.1.trans (show mkd c.1 = 44 by rw [e]; first | done | rfl)))) ?_
  refine jx_bipush (v0 := 41) d_Md_behind_142 (by decide) ?_
  refine jx_icmp_eq (tgt := 162) d_Md_behind_144 (by decide) (fun c7 => absurd c7 (by decide)) (fun c7 => ?_)
  refine jx_aload_n d_Md_behind_147 1 rfl ?_
  refine jx_get d_Md_behind_148 fF_Md_117 (md_tg hK) ((show (mdH h a s).2.2.2 a 24 = Value.int (s.1 24) from md_ri rfl).trans (congrArg Value.int (hM.2.2.1.trans (show mkd c.1 = 44 by rw [e]; first | done | rfl)))) ?_
  refine jx_bipush (v0 := 44) d_Md_behind_151 (by decide) ?_
  refine jx_icmp_eq (tgt := 162) d_Md_behind_153 (by decide) (fun c8 => ?_) (fun c8 => absurd c8 (by decide))
  refine jx_aload_n d_Md_behind_162 1 rfl ?_
  refine jx_iconst (v0 := 1) d_Md_behind_163 (by decide) ?_
  obtain ⟨v1, g1, hC1, rfl, s1, rfl, hAs1, hFs1⟩ := c_Md_settle l G (d - 1) (by omega) (h := h) (a := a) (q := 1) hK hA (by decide) (by decide)
  rw [h1] at hAs1
  obtain ⟨⟨hT1, hM1, hc1, hk1, hk401, hdp1, hd201, hw1, hz1⟩, hp1, i1, lo1, hi1, hR1, hX1⟩ := id hAs1
  have hlf1 := hX1.lf
  have hl1 := hR1.lt
  have hld1 := lfts_dpt []
  refine jx_callV (M2 := mm_Md_settle) rfl (md_tg hK) lk_Md_179 wi_Md_settle ws_Md_settle d_Md_behind_164 hC1 cd_Md_settle rfl rfl (Nat.le_of_ble_eq_true rfl) (jm_fok (by omega)) (jm_look (by decide) (by omega)) ?_
  refine jx_aload_n d_Md_behind_167 1 rfl ?_
  refine jx_get d_Md_behind_168 fF_Md_157 (md_tg hK) ((show (mdH h a s1).2.2.2 a 35 = Value.int (s1.1 35) from md_ri rfl).trans (congrArg Value.int hw1)) ?_
  refine jx_if_le (tgt := 188) d_Md_behind_171 (by decide) (fun c9 => ?_) (fun c9 => absurd c9 (by decide))
  refine jx_bipush (v0 := -2) d_Md_behind_188 (by decide) ?_
  refine jx_istore_n (lv' := [(2, .int (-2)), (1, .int (0)), (0, .ref (a))]) d_Md_behind_190 (by decide) rfl ?_
  refine jx_aload_n d_Md_behind_191 2 rfl ?_
  refine jx_get d_Md_behind_192 fF_Md_117 (md_tg hK) ((show (mdH h a s1).2.2.2 a 24 = Value.int (s1.1 24) from md_ri rfl).trans (congrArg Value.int (hM1.2.2.1.trans (show mkd c.1 = 44 by rw [e]; first | done | rfl)))) ?_
  refine jx_bipush (v0 := 44) d_Md_behind_195 (by decide) ?_
  refine jx_icmp_ne (tgt := 246) d_Md_behind_197 (by decide) (fun c10 => absurd c10 (by decide)) (fun c10 => ?_)
  refine jx_iload_n d_Md_behind_200 0 rfl ?_
  refine jx_if_lt (tgt := 229) d_Md_behind_201 (by decide) (fun c11 => ?_) (fun c11 => absurd c11 (by decide))
  refine jx_aload_n d_Md_behind_229 2 rfl ?_
  have hwr : m_wrong s1 = mi (mi s1 3 (if s1.1 24 = -1 then 1 else 2)) 4 (s1.1 23) := m_fail_of hz1
  rw [hM1.2.2.1, e, if_neg (by decide)] at hwr
  refine jx_callV (M2 := mm_Md_wrong) rfl (md_tg hK) lk_Md_189 wi_Md_wrong ws_Md_wrong d_Md_behind_230 (c_Md_wrong l G (d - 1) (by omega) (s := s1) hK) cd_Md_wrong rfl rfl (Nat.le_of_ble_eq_true rfl) (jm_fok (by omega)) (jm_look (by decide) (by omega)) ?_
  refine jx_iconst (v0 := 0) d_Md_behind_233 (by decide) ?_
  exact jx_zret d_Md_behind_234 rfl (by first | rfl | decide) (⟨_, rfl, rfl, _, rfl, by rw [hwr]; rfl, by rw [hwr]; exact hM1.2.1, by rw [hwr]; exact (hFs1.mi (by decide)).mi (by decide)⟩)
set_option maxHeartbeats 4000000 in
set_option maxRecDepth 100000 in
theorem c_Md_behind_b44 (l : Launch) (G : jm_G) (d : Nat) (hd : 3 ≤ d) {h : jm_H} {a : Nat} {s : MS} {B : Nat → Int32} {n : Nat} {c : Cur} {k : Nat} {C : List Fr} {t : Term} {f : Fr} {C' : List Fr} {t' : Term} (hK : MdK h a) (hA : ASt s B n c k C t) (hE : stl 1 C t = (f :: C', t')) (hf : f.1 = 100) (e : c.1 = 44) : jm_CP l G mm_Md_behind d [.ref a] (mdH h a s) (fun v h9 => v = some (.int 0) ∧ ∃ s', h9 = mdH h a s' ∧ Flo s s' 2 (nI c.2.1)) := by
  obtain ⟨⟨hT, hM, hc, hk, hk40, hdp, hd20, hw, hz⟩, hp, i0, lo0, hi0, hR0, hX⟩ := id hA
  have hlf := hX.lf
  have hl0 := hR0.lt
  have hld := lfts_dpt C
  refine jm_of (by decide) rfl (Nat.le_of_ble_eq_true rfl) ?_
  refine jx_aload_n d_Md_behind_0 0 rfl ?_
  refine jx_get d_Md_behind_1 fF_Md_117 (md_tg hK) ((show (mdH h a s).2.2.2 a 24 = Value.int (s.1 24) from md_ri rfl).trans (congrArg Value.int (hM.2.2.1.trans (show mkd c.1 = 44 by rw [e]; first | done | rfl)))) ?_
  refine jx_bipush (v0 := 43) d_Md_behind_4 (by decide) ?_
  refine jx_icmp_eq (tgt := 36) d_Md_behind_6 (by decide) (fun c1 => absurd c1 (by decide)) (fun c1 => ?_)
  refine jx_aload_n d_Md_behind_9 0 rfl ?_
  refine jx_get d_Md_behind_10 fF_Md_117 (md_tg hK) ((show (mdH h a s).2.2.2 a 24 = Value.int (s.1 24) from md_ri rfl).trans (congrArg Value.int (hM.2.2.1.trans (show mkd c.1 = 44 by rw [e]; first | done | rfl)))) ?_
  refine jx_bipush (v0 := 45) d_Md_behind_13 (by decide) ?_
  refine jx_icmp_eq (tgt := 36) d_Md_behind_15 (by decide) (fun c2 => absurd c2 (by decide)) (fun c2 => ?_)
  refine jx_aload_n d_Md_behind_18 0 rfl ?_
  refine jx_get d_Md_behind_19 fF_Md_117 (md_tg hK) ((show (mdH h a s).2.2.2 a 24 = Value.int (s.1 24) from md_ri rfl).trans (congrArg Value.int (hM.2.2.1.trans (show mkd c.1 = 44 by rw [e]; first | done | rfl)))) ?_
  refine jx_bipush (v0 := 42) d_Md_behind_22 (by decide) ?_
  refine jx_icmp_eq (tgt := 36) d_Md_behind_24 (by decide) (fun c3 => absurd c3 (by decide)) (fun c3 => ?_)
  refine jx_aload_n d_Md_behind_27 0 rfl ?_
  refine jx_get d_Md_behind_28 fF_Md_117 (md_tg hK) ((show (mdH h a s).2.2.2 a 24 = Value.int (s.1 24) from md_ri rfl).trans (congrArg Value.int (hM.2.2.1.trans (show mkd c.1 = 44 by rw [e]; first | done | rfl)))) ?_
  refine jx_bipush (v0 := 47) d_Md_behind_31 (by decide) ?_
  refine jx_icmp_ne (tgt := 40) d_Md_behind_33 (by decide) (fun c4 => ?_) (fun c4 => absurd c4 (by decide))
  refine jx_iconst (v0 := 0) d_Md_behind_40 (by decide) ?_
  refine jx_istore_n (lv' := [(1, .int (0)), (0, .ref (a))]) d_Md_behind_41 (by decide) rfl ?_
  refine jx_iload_n d_Md_behind_42 0 rfl ?_
  refine jx_if_eq (tgt := 111) d_Md_behind_43 (by decide) (fun c5 => ?_) (fun c5 => absurd c5 (by decide))
  refine jx_aload_n d_Md_behind_111 1 rfl ?_
  refine jx_get d_Md_behind_112 fF_Md_117 (md_tg hK) ((show (mdH h a s).2.2.2 a 24 = Value.int (s.1 24) from md_ri rfl).trans (congrArg Value.int (hM.2.2.1.trans (show mkd c.1 = 44 by rw [e]; first | done | rfl)))) ?_
  refine jx_bipush (v0 := -2) d_Md_behind_115 (by decide) ?_
  refine jx_icmp_ne (tgt := 138) d_Md_behind_117 (by decide) (fun c6 => ?_) (fun c6 => absurd c6 (by decide))
  refine jx_aload_n d_Md_behind_138 1 rfl ?_
  refine jx_get d_Md_behind_139 fF_Md_117 (md_tg hK) ((show (mdH h a s).2.2.2 a 24 = Value.int (s.1 24) from md_ri rfl).trans (congrArg Value.int (hM.2.2.1.trans (show mkd c.1 = 44 by rw [e]; first | done | rfl)))) ?_
  refine jx_bipush (v0 := 41) d_Md_behind_142 (by decide) ?_
  refine jx_icmp_eq (tgt := 162) d_Md_behind_144 (by decide) (fun c7 => absurd c7 (by decide)) (fun c7 => ?_)
  refine jx_aload_n d_Md_behind_147 1 rfl ?_
  refine jx_get d_Md_behind_148 fF_Md_117 (md_tg hK) ((show (mdH h a s).2.2.2 a 24 = Value.int (s.1 24) from md_ri rfl).trans (congrArg Value.int (hM.2.2.1.trans (show mkd c.1 = 44 by rw [e]; first | done | rfl)))) ?_
  refine jx_bipush (v0 := 44) d_Md_behind_151 (by decide) ?_
  refine jx_icmp_eq (tgt := 162) d_Md_behind_153 (by decide) (fun c8 => ?_) (fun c8 => absurd c8 (by decide))
  refine jx_aload_n d_Md_behind_162 1 rfl ?_
  refine jx_iconst (v0 := 1) d_Md_behind_163 (by decide) ?_
  obtain ⟨v1, g1, hC1, rfl, s1, rfl, hAs1, hFs1⟩ := c_Md_settle l G (d - 1) (by omega) (h := h) (a := a) (q := 1) hK hA (by decide) (by decide)
  rw [hE] at hAs1
  obtain ⟨⟨hT1, hM1, hc1, hk1, hk401, hdp1, hd201, hw1, hz1⟩, hp1, i1, lo1, hi1, hR1, hX1⟩ := id hAs1
  have hlf1 := hX1.lf
  have hl1 := hR1.lt
  have hld1 := lfts_dpt (f :: C')
  have hw1 : s1.1 35 = nI (C'.length + 1) := hw1
  have hln1 : (f :: C').length = C'.length + 1 := rfl
  obtain ⟨hFf, hXC⟩ := hX1
  have hno : ¬ f_op f = true := by rw [fop_iff]; omega
  rw [lfts_no hno] at hp1
  rw [lfts_no hno, dpt_no hno] at hld1
  rw [lfts_no hno] at hlf1
  rw [dpt_no hno] at hdp1 hd201
  obtain ⟨-, a2, a3⟩ : f.1 = 100 ∧ s1.2.2.1 23 C'.length = -1 ∧ lo1 = f.2.2.1 := by
    rcases hFf with ⟨_, _, _⟩ | ⟨_, _⟩ | q9 | ⟨_, _, _⟩
    · omega
    · omega
    · exact q9
    · omega
  refine jx_callV (M2 := mm_Md_settle) rfl (md_tg hK) lk_Md_179 wi_Md_settle ws_Md_settle d_Md_behind_164 hC1 cd_Md_settle rfl rfl (Nat.le_of_ble_eq_true rfl) (jm_fok (by omega)) (jm_look (by decide) (by omega)) ?_
  refine jx_aload_n d_Md_behind_167 1 rfl ?_
  refine jx_get d_Md_behind_168 fF_Md_157 (md_tg hK) ((show (mdH h a s1).2.2.2 a 35 = Value.int (s1.1 35) from md_ri rfl).trans (congrArg Value.int hw1)) ?_
  refine jx_if_leN (tgt := 188) (C'.length + 1) d_Md_behind_171 rfl (by omega) (by decide) (fun c9 => ?_) (fun c9 => ?_)
  · omega
  ·
    refine jx_aload_n d_Md_behind_174 1 rfl ?_
    refine jx_get d_Md_behind_175 fF_Md_78 (md_tg hK) (md_rr hK (k := 33) (j := 23) rfl rfl rfl) ?_
    refine jx_aload_n d_Md_behind_178 1 rfl ?_
    refine jx_get d_Md_behind_179 fF_Md_157 (md_tg hK) ((show (mdH h a s1).2.2.2 a 35 = Value.int (s1.1 35) from md_ri rfl).trans (congrArg Value.int hw1)) ?_
    refine jx_iconst (v0 := 1) d_Md_behind_182 (by decide) ?_
    refine jx_isub d_Md_behind_183 ?_
    refine jx_ati (pk_sub (a := C'.length + 1) (b := 1) (by omega)) ?_
    refine jx_iald d_Md_behind_184 (md_ta hK (j := 23) rfl) rfl (jm_vinN (show (C'.length + 1) - (1) < 100 by omega) (by decide)) (jm_atN (show (C'.length + 1) - (1) < 2 ^ 31 by omega) ((show (mdH h a s1).2.2.2 (a + 23) ((C'.length + 1) - (1)) = Value.int (s1.2.2.1 23 ((C'.length + 1) - (1))) from md_rai (j := 23) (show (C'.length + 1) - (1) < 100 by omega)).trans (congrArg Value.int a2))) ?_
    refine jx_goto (tgt := 190) d_Md_behind_185 (by decide) ?_
    refine jx_istore_n (lv' := [(2, .int (-1)), (1, .int (0)), (0, .ref (a))]) d_Md_behind_190 (by decide) rfl ?_
    refine jx_aload_n d_Md_behind_191 2 rfl ?_
    refine jx_get d_Md_behind_192 fF_Md_117 (md_tg hK) ((show (mdH h a s1).2.2.2 a 24 = Value.int (s1.1 24) from md_ri rfl).trans (congrArg Value.int (hM1.2.2.1.trans (show mkd c.1 = 44 by rw [e]; first | done | rfl)))) ?_
    refine jx_bipush (v0 := 44) d_Md_behind_195 (by decide) ?_
    refine jx_icmp_ne (tgt := 246) d_Md_behind_197 (by decide) (fun c10 => absurd c10 (by decide)) (fun c10 => ?_)
    refine jx_iload_n d_Md_behind_200 0 rfl ?_
    refine jx_if_lt (tgt := 229) d_Md_behind_201 (by decide) (fun c11 => ?_) (fun c11 => absurd c11 (by decide))
    refine jx_aload_n d_Md_behind_229 2 rfl ?_
    have hwr : m_wrong s1 = mi (mi s1 3 (if s1.1 24 = -1 then 1 else 2)) 4 (s1.1 23) := m_fail_of hz1
    rw [hM1.2.2.1, e, if_neg (by decide)] at hwr
    refine jx_callV (M2 := mm_Md_wrong) rfl (md_tg hK) lk_Md_189 wi_Md_wrong ws_Md_wrong d_Md_behind_230 (c_Md_wrong l G (d - 1) (by omega) (s := s1) hK) cd_Md_wrong rfl rfl (Nat.le_of_ble_eq_true rfl) (jm_fok (by omega)) (jm_look (by decide) (by omega)) ?_
    refine jx_iconst (v0 := 0) d_Md_behind_233 (by decide) ?_
    exact jx_zret d_Md_behind_234 rfl (by first | rfl | decide) (⟨_, rfl, rfl, _, rfl, by rw [hwr]; rfl, by rw [hwr]; exact hM1.2.1, by rw [hwr]; exact (hFs1.mi (by decide)).mi (by decide)⟩)
set_option maxHeartbeats 4000000 in
set_option maxRecDepth 100000 in
theorem c_Md_behind_b41 (l : Launch) (G : jm_G) (d : Nat) (hd : 3 ≤ d) {h : jm_H} {a : Nat} {s : MS} {B : Nat → Int32} {n : Nat} {c : Cur} {k : Nat} {C : List Fr} {t : Term} {f : Fr} {C' : List Fr} {t' : Term} (hK : MdK h a) (hA : ASt s B n c k C t) (hE : stl 1 C t = (f :: C', t')) (hf : f.1 = 100) (e : c.1 = 41) : jm_CP l G mm_Md_behind d [.ref a] (mdH h a s) (fun v h9 => v = some (.int 0) ∧ ∃ s', h9 = mdH h a s' ∧ ASt s' B n (cu_adv B n c) k (stl 3 C' t').1 (stl 3 C' t').2 ∧ Fix s s') := by
  obtain ⟨⟨hT, hM, hc, hk, hk40, hdp, hd20, hw, hz⟩, hp, i0, lo0, hi0, hR0, hX⟩ := id hA
  have hlf := hX.lf
  have hl0 := hR0.lt
  have hld := lfts_dpt C
  refine jm_of (by decide) rfl (Nat.le_of_ble_eq_true rfl) ?_
  refine jx_aload_n d_Md_behind_0 0 rfl ?_
  refine jx_get d_Md_behind_1 fF_Md_117 (md_tg hK) ((show (mdH h a s).2.2.2 a 24 = Value.int (s.1 24) from md_ri rfl).trans (congrArg Value.int (hM.2.2.1.trans (show mkd c.1 = 41 by rw [e]; first | done | rfl)))) ?_
  refine jx_bipush (v0 := 43) d_Md_behind_4 (by decide) ?_
  refine jx_icmp_eq (tgt := 36) d_Md_behind_6 (by decide) (fun c1 => absurd c1 (by decide)) (fun c1 => ?_)
  refine jx_aload_n d_Md_behind_9 0 rfl ?_
  refine jx_get d_Md_behind_10 fF_Md_117 (md_tg hK) ((show (mdH h a s).2.2.2 a 24 = Value.int (s.1 24) from md_ri rfl).trans (congrArg Value.int (hM.2.2.1.trans (show mkd c.1 = 41 by rw [e]; first | done | rfl)))) ?_
  refine jx_bipush (v0 := 45) d_Md_behind_13 (by decide) ?_
  refine jx_icmp_eq (tgt := 36) d_Md_behind_15 (by decide) (fun c2 => absurd c2 (by decide)) (fun c2 => ?_)
  refine jx_aload_n d_Md_behind_18 0 rfl ?_
  refine jx_get d_Md_behind_19 fF_Md_117 (md_tg hK) ((show (mdH h a s).2.2.2 a 24 = Value.int (s.1 24) from md_ri rfl).trans (congrArg Value.int (hM.2.2.1.trans (show mkd c.1 = 41 by rw [e]; first | done | rfl)))) ?_
  refine jx_bipush (v0 := 42) d_Md_behind_22 (by decide) ?_
  refine jx_icmp_eq (tgt := 36) d_Md_behind_24 (by decide) (fun c3 => absurd c3 (by decide)) (fun c3 => ?_)
  refine jx_aload_n d_Md_behind_27 0 rfl ?_
  refine jx_get d_Md_behind_28 fF_Md_117 (md_tg hK) ((show (mdH h a s).2.2.2 a 24 = Value.int (s.1 24) from md_ri rfl).trans (congrArg Value.int (hM.2.2.1.trans (show mkd c.1 = 41 by rw [e]; first | done | rfl)))) ?_
  refine jx_bipush (v0 := 47) d_Md_behind_31 (by decide) ?_
  refine jx_icmp_ne (tgt := 40) d_Md_behind_33 (by decide) (fun c4 => ?_) (fun c4 => absurd c4 (by decide))
  refine jx_iconst (v0 := 0) d_Md_behind_40 (by decide) ?_
  refine jx_istore_n (lv' := [(1, .int (0)), (0, .ref (a))]) d_Md_behind_41 (by decide) rfl ?_
  refine jx_iload_n d_Md_behind_42 0 rfl ?_
  refine jx_if_eq (tgt := 111) d_Md_behind_43 (by decide) (fun c5 => ?_) (fun c5 => absurd c5 (by decide))
  refine jx_aload_n d_Md_behind_111 1 rfl ?_
  refine jx_get d_Md_behind_112 fF_Md_117 (md_tg hK) ((show (mdH h a s).2.2.2 a 24 = Value.int (s.1 24) from md_ri rfl).trans (congrArg Value.int (hM.2.2.1.trans (show mkd c.1 = 41 by rw [e]; first | done | rfl)))) ?_
  refine jx_bipush (v0 := -2) d_Md_behind_115 (by decide) ?_
  refine jx_icmp_ne (tgt := 138) d_Md_behind_117 (by decide) (fun c6 => ?_) (fun c6 => absurd c6 (by decide))
  refine jx_aload_n d_Md_behind_138 1 rfl ?_
  refine jx_get d_Md_behind_139 fF_Md_117 (md_tg hK) ((show (mdH h a s).2.2.2 a 24 = Value.int (s.1 24) from md_ri rfl).trans (congrArg Value.int (hM.2.2.1.trans (show mkd c.1 = 41 by rw [e]; first | done | rfl)))) ?_
  refine jx_bipush (v0 := 41) d_Md_behind_142 (by decide) ?_
  refine jx_icmp_eq (tgt := 162) d_Md_behind_144 (by decide) (fun c7 => ?_) (fun c7 => absurd c7 (by decide))
  refine jx_aload_n d_Md_behind_162 1 rfl ?_
  refine jx_iconst (v0 := 1) d_Md_behind_163 (by decide) ?_
  obtain ⟨v1, g1, hC1, rfl, s1, rfl, hAs1, hFs1⟩ := c_Md_settle l G (d - 1) (by omega) (h := h) (a := a) (q := 1) hK hA (by decide) (by decide)
  rw [hE] at hAs1
  obtain ⟨⟨hT1, hM1, hc1, hk1, hk401, hdp1, hd201, hw1, hz1⟩, hp1, i1, lo1, hi1, hR1, hX1⟩ := id hAs1
  have hlf1 := hX1.lf
  have hl1 := hR1.lt
  have hld1 := lfts_dpt (f :: C')
  have hw1 : s1.1 35 = nI (C'.length + 1) := hw1
  have hln1 : (f :: C').length = C'.length + 1 := rfl
  obtain ⟨hFf, hXC⟩ := hX1
  have hno : ¬ f_op f = true := by rw [fop_iff]; omega
  rw [lfts_no hno] at hp1
  rw [lfts_no hno, dpt_no hno] at hld1
  rw [lfts_no hno] at hlf1
  rw [dpt_no hno] at hdp1 hd201
  obtain ⟨-, a2, a3⟩ : f.1 = 100 ∧ s1.2.2.1 23 C'.length = -1 ∧ lo1 = f.2.2.1 := by
    rcases hFf with ⟨_, _, _⟩ | ⟨_, _⟩ | q9 | ⟨_, _, _⟩
    · omega
    · omega
    · exact q9
    · omega
  refine jx_callV (M2 := mm_Md_settle) rfl (md_tg hK) lk_Md_179 wi_Md_settle ws_Md_settle d_Md_behind_164 hC1 cd_Md_settle rfl rfl (Nat.le_of_ble_eq_true rfl) (jm_fok (by omega)) (jm_look (by decide) (by omega)) ?_
  refine jx_aload_n d_Md_behind_167 1 rfl ?_
  refine jx_get d_Md_behind_168 fF_Md_157 (md_tg hK) ((show (mdH h a s1).2.2.2 a 35 = Value.int (s1.1 35) from md_ri rfl).trans (congrArg Value.int hw1)) ?_
  refine jx_if_leN (tgt := 188) (C'.length + 1) d_Md_behind_171 rfl (by omega) (by decide) (fun c8 => ?_) (fun c8 => ?_)
  · omega
  ·
    refine jx_aload_n d_Md_behind_174 1 rfl ?_
    refine jx_get d_Md_behind_175 fF_Md_78 (md_tg hK) (md_rr hK (k := 33) (j := 23) rfl rfl rfl) ?_
    refine jx_aload_n d_Md_behind_178 1 rfl ?_
    refine jx_get d_Md_behind_179 fF_Md_157 (md_tg hK) ((show (mdH h a s1).2.2.2 a 35 = Value.int (s1.1 35) from md_ri rfl).trans (congrArg Value.int hw1)) ?_
    refine jx_iconst (v0 := 1) d_Md_behind_182 (by decide) ?_
    refine jx_isub d_Md_behind_183 ?_
    refine jx_ati (pk_sub (a := C'.length + 1) (b := 1) (by omega)) ?_
    refine jx_iald d_Md_behind_184 (md_ta hK (j := 23) rfl) rfl (jm_vinN (show (C'.length + 1) - (1) < 100 by omega) (by decide)) (jm_atN (show (C'.length + 1) - (1) < 2 ^ 31 by omega) ((show (mdH h a s1).2.2.2 (a + 23) ((C'.length + 1) - (1)) = Value.int (s1.2.2.1 23 ((C'.length + 1) - (1))) from md_rai (j := 23) (show (C'.length + 1) - (1) < 100 by omega)).trans (congrArg Value.int a2))) ?_
    refine jx_goto (tgt := 190) d_Md_behind_185 (by decide) ?_
    refine jx_istore_n (lv' := [(2, .int (-1)), (1, .int (0)), (0, .ref (a))]) d_Md_behind_190 (by decide) rfl ?_
    refine jx_aload_n d_Md_behind_191 2 rfl ?_
    refine jx_get d_Md_behind_192 fF_Md_117 (md_tg hK) ((show (mdH h a s1).2.2.2 a 24 = Value.int (s1.1 24) from md_ri rfl).trans (congrArg Value.int (hM1.2.2.1.trans (show mkd c.1 = 41 by rw [e]; first | done | rfl)))) ?_
    refine jx_bipush (v0 := 44) d_Md_behind_195 (by decide) ?_
    refine jx_icmp_ne (tgt := 246) d_Md_behind_197 (by decide) (fun c9 => ?_) (fun c9 => absurd c9 (by decide))
    refine jx_iload_n d_Md_behind_246 0 rfl ?_
    refine jx_bipush (v0 := -2) d_Md_behind_247 (by decide) ?_
    refine jx_icmp_eq (tgt := 281) d_Md_behind_249 (by decide) (fun c10 => absurd c10 (by decide)) (fun c10 => ?_)
    refine jx_iload_n d_Md_behind_252 0 rfl ?_
    refine jx_if_lt (tgt := 287) d_Md_behind_253 (by decide) (fun c11 => ?_) (fun c11 => absurd c11 (by decide))
    refine jx_iload_n d_Md_behind_287 0 rfl ?_
    refine jx_if_lt (tgt := 316) d_Md_behind_288 (by decide) (fun c12 => ?_) (fun c12 => absurd c12 (by decide))
    refine jx_aload_n d_Md_behind_316 2 rfl ?_
    refine jx_dup d_Md_behind_317 rfl ?_
    refine jx_get d_Md_behind_318 fF_Md_157 (md_tg hK) ((show (mdH h a s1).2.2.2 a 35 = Value.int (s1.1 35) from md_ri rfl).trans (congrArg Value.int hw1)) ?_
    refine jx_iconst (v0 := 1) d_Md_behind_321 (by decide) ?_
    refine jx_isub d_Md_behind_322 ?_
    refine jx_ati (pk_sub (a := C'.length + 1) (b := 1) (by omega)) ?_
    refine jx_put (v0 := .int (nI ((C'.length + 1) - (1)))) d_Md_behind_323 fF_Md_157 jv_Md ft_Md_waitingCount (md_tg hK) rfl rfl ?_
    refine jx_ath (md_wi (k := 35) rfl) ?_
    refine jx_aload_n d_Md_behind_326 2 rfl ?_
    refine jx_dup d_Md_behind_327 rfl ?_
    refine jx_get d_Md_behind_328 fF_Md_169 (md_tg hK) ((show (mdH h a (mi s1 35 (nI ((C'.length + 1) - (1))))).2.2.2 a 38 = Value.int (s1.1 38) from md_ri rfl).trans (congrArg Value.int hdp1)) ?_
    refine jx_iconst (v0 := 1) d_Md_behind_331 (by decide) ?_
    refine jx_isub d_Md_behind_332 ?_
    refine jx_ati (pk_sub (a := dpt C' + 1) (b := 1) (by omega)) ?_
    refine jx_put (v0 := .int (nI ((dpt C' + 1) - (1)))) d_Md_behind_333 fF_Md_169 jv_Md ft_Md_depth (md_tg hK) rfl rfl ?_
    refine jx_ath (md_wi (k := 38) rfl) ?_
    refine jx_aload_n d_Md_behind_336 2 rfl ?_
    refine jx_callV (M2 := mm_Md_next) rfl (md_tg hK) lk_Md_176 wi_Md_next ws_Md_next d_Md_behind_337 (c_Md_next l G (d - 1) (by omega) (s := (mi (mi s1 35 (nI ((C'.length + 1) - (1)))) 38 (nI ((dpt C' + 1) - (1))))) (B := B) (n := n) (p := c.2.2.1) hK hT1 hM1.1 hc1) cd_Md_next rfl rfl (Nat.le_of_ble_eq_true rfl) (jm_fok (by omega)) (jm_look (by decide) (by omega)) ?_
    refine jx_aload_n d_Md_behind_340 2 rfl ?_
    refine jx_iconst (v0 := 3) d_Md_behind_341 (by decide) ?_
    obtain ⟨v2, g2, hC2, rfl, s2, rfl, hAs2, hFs2⟩ := c_Md_settle l G (d - 1) (by omega) (h := h) (a := a) (q := 3) hK (hAs1.par hf) (by decide) (by decide)
    refine jx_callV (M2 := mm_Md_settle) rfl (md_tg hK) lk_Md_179 wi_Md_settle ws_Md_settle d_Md_behind_342 hC2 cd_Md_settle rfl rfl (Nat.le_of_ble_eq_true rfl) (jm_fok (by omega)) (jm_look (by decide) (by omega)) ?_
    refine jx_iconst (v0 := 0) d_Md_behind_345 (by decide) ?_
    exact jx_zret d_Md_behind_346 rfl (by first | rfl | decide) (⟨_, rfl, rfl, s2, rfl, hAs2, ((hFs1.mi (by decide)).mi (by decide)).nx.trans hFs2⟩)
theorem m_give_j {s : MS} {f : Fr} {C : List Fr} : ∃ j, (j = 18 ∨ j = 19 ∨ j = 20) ∧ m_give s f C = mai (mi (mai s 24 C.length (nI (f.2.2.2.length + 1))) 37 (nI (lfts C))) j f.2.1 (s.2.2.1 25 (lfts C)) := by
  unfold m_give
  split
  · exact ⟨18, Or.inl rfl, rfl⟩
  · split
    · exact ⟨19, Or.inr (Or.inl rfl), rfl⟩
    · exact ⟨20, Or.inr (Or.inr rfl), rfl⟩
theorem Fix.give {s0 s : MS} {f : Fr} {C : List Fr} (h : Fix s0 s) : Fix s0 (m_give s f C) := by
  obtain ⟨j, hj, e⟩ := m_give_j (s := s) (f := f) (C := C)
  rw [e]
  exact ((h.mai (by decide)).mi (by decide)).mai (by omega)
theorem MT.give {s : MS} {B : Nat → Int32} {n : Nat} {f : Fr} {C : List Fr} (h : MT s B n) : MT (m_give s f C) B n := (Fix.give Fix.rf).tape h
set_option maxHeartbeats 4000000 in
set_option maxRecDepth 100000 in
theorem c_Md_behind_f44 (l : Launch) (G : jm_G) (d : Nat) (hd : 3 ≤ d) {h : jm_H} {a : Nat} {s : MS} {B : Nat → Int32} {n : Nat} {c : Cur} {k : Nat} {C : List Fr} {t : Term} {f : Fr} {C' : List Fr} {t' : Term} (hK : MdK h a) (hA : ASt s B n c k C t) (hE : stl 1 C t = (f :: C', t')) (hf7 : 7 ≤ f.1) (hf9 : f.1 ≤ 9) (hg : f.2.2.2.length + 1 < f_want f) (e : c.1 = 44) : jm_CP l G mm_Md_behind d [.ref a] (mdH h a s) (fun v h9 => v = some (.int 1) ∧ ∃ s', h9 = mdH h a s' ∧ BSt s' B n (cu_adv B n c) k ((f.1, f.2.1, f.2.2.1, t' :: f.2.2.2) :: C') ∧ Fix s s') := by
  obtain ⟨⟨hT, hM, hc, hk, hk40, hdp, hd20, hw, hz⟩, hp, i0, lo0, hi0, hR0, hX⟩ := id hA
  have hlf := hX.lf
  have hl0 := hR0.lt
  have hld := lfts_dpt C
  refine jm_of (by decide) rfl (Nat.le_of_ble_eq_true rfl) ?_
  refine jx_aload_n d_Md_behind_0 0 rfl ?_
  refine jx_get d_Md_behind_1 fF_Md_117 (md_tg hK) ((show (mdH h a s).2.2.2 a 24 = Value.int (s.1 24) from md_ri rfl).trans (congrArg Value.int (hM.2.2.1.trans (show mkd c.1 = 44 by rw [e]; first | done | rfl)))) ?_
  refine jx_bipush (v0 := 43) d_Md_behind_4 (by decide) ?_
  refine jx_icmp_eq (tgt := 36) d_Md_behind_6 (by decide) (fun c1 => absurd c1 (by decide)) (fun c1 => ?_)
  refine jx_aload_n d_Md_behind_9 0 rfl ?_
  refine jx_get d_Md_behind_10 fF_Md_117 (md_tg hK) ((show (mdH h a s).2.2.2 a 24 = Value.int (s.1 24) from md_ri rfl).trans (congrArg Value.int (hM.2.2.1.trans (show mkd c.1 = 44 by rw [e]; first | done | rfl)))) ?_
  refine jx_bipush (v0 := 45) d_Md_behind_13 (by decide) ?_
  refine jx_icmp_eq (tgt := 36) d_Md_behind_15 (by decide) (fun c2 => absurd c2 (by decide)) (fun c2 => ?_)
  refine jx_aload_n d_Md_behind_18 0 rfl ?_
  refine jx_get d_Md_behind_19 fF_Md_117 (md_tg hK) ((show (mdH h a s).2.2.2 a 24 = Value.int (s.1 24) from md_ri rfl).trans (congrArg Value.int (hM.2.2.1.trans (show mkd c.1 = 44 by rw [e]; first | done | rfl)))) ?_
  refine jx_bipush (v0 := 42) d_Md_behind_22 (by decide) ?_
  refine jx_icmp_eq (tgt := 36) d_Md_behind_24 (by decide) (fun c3 => absurd c3 (by decide)) (fun c3 => ?_)
  refine jx_aload_n d_Md_behind_27 0 rfl ?_
  refine jx_get d_Md_behind_28 fF_Md_117 (md_tg hK) ((show (mdH h a s).2.2.2 a 24 = Value.int (s.1 24) from md_ri rfl).trans (congrArg Value.int (hM.2.2.1.trans (show mkd c.1 = 44 by rw [e]; first | done | rfl)))) ?_
  refine jx_bipush (v0 := 47) d_Md_behind_31 (by decide) ?_
  refine jx_icmp_ne (tgt := 40) d_Md_behind_33 (by decide) (fun c4 => ?_) (fun c4 => absurd c4 (by decide))
  refine jx_iconst (v0 := 0) d_Md_behind_40 (by decide) ?_
  refine jx_istore_n (lv' := [(1, .int (0)), (0, .ref (a))]) d_Md_behind_41 (by decide) rfl ?_
  refine jx_iload_n d_Md_behind_42 0 rfl ?_
  refine jx_if_eq (tgt := 111) d_Md_behind_43 (by decide) (fun c5 => ?_) (fun c5 => absurd c5 (by decide))
  refine jx_aload_n d_Md_behind_111 1 rfl ?_
  refine jx_get d_Md_behind_112 fF_Md_117 (md_tg hK) ((show (mdH h a s).2.2.2 a 24 = Value.int (s.1 24) from md_ri rfl).trans (congrArg Value.int (hM.2.2.1.trans (show mkd c.1 = 44 by rw [e]; first | done | rfl)))) ?_
  refine jx_bipush (v0 := -2) d_Md_behind_115 (by decide) ?_
  refine jx_icmp_ne (tgt := 138) d_Md_behind_117 (by decide) (fun c6 => ?_) (fun c6 => absurd c6 (by decide))
  refine jx_aload_n d_Md_behind_138 1 rfl ?_
  refine jx_get d_Md_behind_139 fF_Md_117 (md_tg hK) ((show (mdH h a s).2.2.2 a 24 = Value.int (s.1 24) from md_ri rfl).trans (congrArg Value.int (hM.2.2.1.trans (show mkd c.1 = 44 by rw [e]; first | done | rfl)))) ?_
  refine jx_bipush (v0 := 41) d_Md_behind_142 (by decide) ?_
  refine jx_icmp_eq (tgt := 162) d_Md_behind_144 (by decide) (fun c7 => absurd c7 (by decide)) (fun c7 => ?_)
  refine jx_aload_n d_Md_behind_147 1 rfl ?_
  refine jx_get d_Md_behind_148 fF_Md_117 (md_tg hK) ((show (mdH h a s).2.2.2 a 24 = Value.int (s.1 24) from md_ri rfl).trans (congrArg Value.int (hM.2.2.1.trans (show mkd c.1 = 44 by rw [e]; first | done | rfl)))) ?_
  refine jx_bipush (v0 := 44) d_Md_behind_151 (by decide) ?_
  refine jx_icmp_eq (tgt := 162) d_Md_behind_153 (by decide) (fun c8 => ?_) (fun c8 => absurd c8 (by decide))
  refine jx_aload_n d_Md_behind_162 1 rfl ?_
  refine jx_iconst (v0 := 1) d_Md_behind_163 (by decide) ?_
  obtain ⟨v1, g1, hC1, rfl, s1, rfl, hAs1, hFs1⟩ := c_Md_settle l G (d - 1) (by omega) (h := h) (a := a) (q := 1) hK hA (by decide) (by decide)
  rw [hE] at hAs1
  obtain ⟨⟨hT1, hM1, hc1, hk1, hk401, hdp1, hd201, hw1, hz1⟩, hp1, i1, lo1, hi1, hR1, hX1⟩ := id hAs1
  have hlf1 := hX1.lf
  have hl1 := hR1.lt
  have hld1 := lfts_dpt (f :: C')
  have hw1 : s1.1 35 = nI (C'.length + 1) := hw1
  have hln1 : (f :: C').length = C'.length + 1 := rfl
  obtain ⟨hFf, hXC⟩ := hX1
  have hno : ¬ f_op f = true := by rw [fop_iff]; omega
  rw [lfts_no hno] at hp1
  rw [lfts_no hno, dpt_no hno] at hld1
  rw [lfts_no hno] at hlf1
  rw [dpt_no hno] at hdp1 hd201
  obtain ⟨-, -, a2, a3, a5, a6, a7⟩ : 7 ≤ f.1 ∧ f.1 ≤ 9 ∧ s1.2.2.1 23 C'.length = nI f.2.1 ∧ s1.2.2.1 17 f.2.1 = nI f.1 ∧ f.2.2.1 = f.2.1 ∧ s1.2.2.1 24 C'.length = nI f.2.2.2.length ∧ ArgS s1 f.2.2.2 f.2.1 lo1 := by
    rcases hFf with ⟨_, _, _⟩ | ⟨_, _⟩ | ⟨_, _⟩ | q9
    · omega
    · omega
    · omega
    · exact q9
  have hge := a7.ge
  have hwant : f_want f = m_wants f.1 := rfl
  have hwb : m_wants f.1 ≤ 3 := by unfold m_wants; split <;> omega
  refine jx_callV (M2 := mm_Md_settle) rfl (md_tg hK) lk_Md_179 wi_Md_settle ws_Md_settle d_Md_behind_164 hC1 cd_Md_settle rfl rfl (Nat.le_of_ble_eq_true rfl) (jm_fok (by omega)) (jm_look (by decide) (by omega)) ?_
  refine jx_aload_n d_Md_behind_167 1 rfl ?_
  refine jx_get d_Md_behind_168 fF_Md_157 (md_tg hK) ((show (mdH h a s1).2.2.2 a 35 = Value.int (s1.1 35) from md_ri rfl).trans (congrArg Value.int hw1)) ?_
  refine jx_if_leN (tgt := 188) (C'.length + 1) d_Md_behind_171 rfl (by omega) (by decide) (fun c9 => ?_) (fun c9 => ?_)
  · omega
  ·
    refine jx_aload_n d_Md_behind_174 1 rfl ?_
    refine jx_get d_Md_behind_175 fF_Md_78 (md_tg hK) (md_rr hK (k := 33) (j := 23) rfl rfl rfl) ?_
    refine jx_aload_n d_Md_behind_178 1 rfl ?_
    refine jx_get d_Md_behind_179 fF_Md_157 (md_tg hK) ((show (mdH h a s1).2.2.2 a 35 = Value.int (s1.1 35) from md_ri rfl).trans (congrArg Value.int hw1)) ?_
    refine jx_iconst (v0 := 1) d_Md_behind_182 (by decide) ?_
    refine jx_isub d_Md_behind_183 ?_
    refine jx_ati (pk_sub (a := C'.length + 1) (b := 1) (by omega)) ?_
    refine jx_iald d_Md_behind_184 (md_ta hK (j := 23) rfl) rfl (jm_vinN (show (C'.length + 1) - (1) < 100 by omega) (by decide)) (jm_atN (show (C'.length + 1) - (1) < 2 ^ 31 by omega) ((show (mdH h a s1).2.2.2 (a + 23) ((C'.length + 1) - (1)) = Value.int (s1.2.2.1 23 ((C'.length + 1) - (1))) from md_rai (j := 23) (show (C'.length + 1) - (1) < 100 by omega)).trans (congrArg Value.int a2))) ?_
    refine jx_goto (tgt := 190) d_Md_behind_185 (by decide) ?_
    refine jx_istore_n (lv' := [(2, .int (nI (f.2.1))), (1, .int (0)), (0, .ref (a))]) d_Md_behind_190 (by decide) rfl ?_
    refine jx_aload_n d_Md_behind_191 2 rfl ?_
    refine jx_get d_Md_behind_192 fF_Md_117 (md_tg hK) ((show (mdH h a s1).2.2.2 a 24 = Value.int (s1.1 24) from md_ri rfl).trans (congrArg Value.int (hM1.2.2.1.trans (show mkd c.1 = 44 by rw [e]; first | done | rfl)))) ?_
    refine jx_bipush (v0 := 44) d_Md_behind_195 (by decide) ?_
    refine jx_icmp_ne (tgt := 246) d_Md_behind_197 (by decide) (fun c10 => absurd c10 (by decide)) (fun c10 => ?_)
    refine jx_iload_n d_Md_behind_200 0 rfl ?_
    refine jx_if_ltN (tgt := 229) (f.2.1) d_Md_behind_201 rfl (by omega) (by decide) (fun c11 => ?_) (fun c11 => ?_)
    · omega
    ·
      refine jx_aload_n d_Md_behind_204 2 rfl ?_
      refine jx_get d_Md_behind_205 fF_Md_81 (md_tg hK) (md_rr hK (k := 34) (j := 24) rfl rfl rfl) ?_
      refine jx_aload_n d_Md_behind_208 2 rfl ?_
      refine jx_get d_Md_behind_209 fF_Md_157 (md_tg hK) ((show (mdH h a s1).2.2.2 a 35 = Value.int (s1.1 35) from md_ri rfl).trans (congrArg Value.int hw1)) ?_
      refine jx_iconst (v0 := 1) d_Md_behind_212 (by decide) ?_
      refine jx_isub d_Md_behind_213 ?_
      refine jx_ati (pk_sub (a := C'.length + 1) (b := 1) (by omega)) ?_
      refine jx_iald d_Md_behind_214 (md_ta hK (j := 24) rfl) rfl (jm_vinN (show (C'.length + 1) - (1) < 100 by omega) (by decide)) (jm_atN (show (C'.length + 1) - (1) < 2 ^ 31 by omega) ((show (mdH h a s1).2.2.2 (a + 24) ((C'.length + 1) - (1)) = Value.int (s1.2.2.1 24 ((C'.length + 1) - (1))) from md_rai (j := 24) (show (C'.length + 1) - (1) < 100 by omega)).trans (congrArg Value.int a6))) ?_
      refine jx_iconst (v0 := 1) d_Md_behind_215 (by decide) ?_
      refine jx_iadd d_Md_behind_216 ?_
      refine jx_ati (nI_add (f.2.2.2.length) (1)) ?_
      refine jx_aload_n d_Md_behind_217 2 rfl ?_
      refine jx_get d_Md_behind_218 fF_Md_60 (md_tg hK) (md_rr hK (k := 26) (j := 17) rfl rfl rfl) ?_
      refine jx_iload_n d_Md_behind_221 0 rfl ?_
      refine jx_iald d_Md_behind_222 (md_ta hK (j := 17) rfl) rfl (jm_vinN (show f.2.1 < 40 by omega) (by decide)) (jm_atN (show f.2.1 < 2 ^ 31 by omega) ((show (mdH h a s1).2.2.2 (a + 17) (f.2.1) = Value.int (s1.2.2.1 17 (f.2.1)) from md_rai (j := 17) (show f.2.1 < 40 by omega)).trans (congrArg Value.int a3))) ?_
      refine jx_callS (M2 := mm_Md_wants) lk_Md_192 wt_Md_wants d_Md_behind_223 (c_Md_wants l G (d - 1) (kd := f.1) (by omega)) cd_Md_wants rfl rfl (Nat.le_of_ble_eq_true rfl) (jm_fok (by omega)) (jm_look (by decide) (by omega)) ?_
      refine jx_icmp_neN (tgt := 235) ((f.2.2.2.length) + (1)) (m_wants f.1) d_Md_behind_226 rfl rfl (by omega) (by omega) (by decide) (fun c12 => ?_) (fun c12 => ?_)
      ·
        refine jx_aload_n d_Md_behind_235 2 rfl ?_
        refine jx_iload_n d_Md_behind_236 0 rfl ?_
        refine jx_callV (M2 := mm_Md_give) rfl (md_tg hK) lk_Md_195 wi_Md_give ws_Md_give d_Md_behind_237 (c_Md_give l G (d - 1) (s := s1) (C := C') (f := f) hK hw1 hp1 a6 (by unfold f_want at hg; split at hg <;> omega) (by omega) (by omega) (by omega)) cd_Md_give rfl rfl (Nat.le_of_ble_eq_true rfl) (jm_fok (by omega)) (jm_look (by decide) (by omega)) ?_
        refine jx_aload_n d_Md_behind_240 2 rfl ?_
        refine jx_callV (M2 := mm_Md_next) rfl (md_tg hK) lk_Md_176 wi_Md_next ws_Md_next d_Md_behind_241 (c_Md_next l G (d - 1) (by omega) (s := (m_give s1 f C')) (B := B) (n := n) (p := c.2.2.1) hK (hT1.give (f := f) (C := C')) hM1.1 hc1) cd_Md_next rfl rfl (Nat.le_of_ble_eq_true rfl) (jm_fok (by omega)) (jm_look (by decide) (by omega)) ?_
        refine jx_iconst (v0 := 1) d_Md_behind_244 (by decide) ?_
        exact jx_zret d_Md_behind_245 rfl (by first | rfl | decide) (⟨_, rfl, rfl, _, rfl, hAs1.give hf7 hf9 (by unfold f_want at hg; split at hg <;> omega), (Fix.give hFs1).nx⟩)
      · omega
set_option maxHeartbeats 4000000 in
set_option maxRecDepth 100000 in
theorem c_Md_behind_f44W (l : Launch) (G : jm_G) (d : Nat) (hd : 3 ≤ d) {h : jm_H} {a : Nat} {s : MS} {B : Nat → Int32} {n : Nat} {c : Cur} {k : Nat} {C : List Fr} {t : Term} {f : Fr} {C' : List Fr} {t' : Term} (hK : MdK h a) (hA : ASt s B n c k C t) (hE : stl 1 C t = (f :: C', t')) (hf7 : 7 ≤ f.1) (hf9 : f.1 ≤ 9) (hg : f.2.2.2.length + 1 = f_want f) (e : c.1 = 44) : jm_CP l G mm_Md_behind d [.ref a] (mdH h a s) (fun v h9 => v = some (.int 0) ∧ ∃ s', h9 = mdH h a s' ∧ Flo s s' 2 (nI c.2.1)) := by
  obtain ⟨⟨hT, hM, hc, hk, hk40, hdp, hd20, hw, hz⟩, hp, i0, lo0, hi0, hR0, hX⟩ := id hA
  have hlf := hX.lf
  have hl0 := hR0.lt
  have hld := lfts_dpt C
  refine jm_of (by decide) rfl (Nat.le_of_ble_eq_true rfl) ?_
  refine jx_aload_n d_Md_behind_0 0 rfl ?_
  refine jx_get d_Md_behind_1 fF_Md_117 (md_tg hK) ((show (mdH h a s).2.2.2 a 24 = Value.int (s.1 24) from md_ri rfl).trans (congrArg Value.int (hM.2.2.1.trans (show mkd c.1 = 44 by rw [e]; first | done | rfl)))) ?_
  refine jx_bipush (v0 := 43) d_Md_behind_4 (by decide) ?_
  refine jx_icmp_eq (tgt := 36) d_Md_behind_6 (by decide) (fun c1 => absurd c1 (by decide)) (fun c1 => ?_)
  refine jx_aload_n d_Md_behind_9 0 rfl ?_
  refine jx_get d_Md_behind_10 fF_Md_117 (md_tg hK) ((show (mdH h a s).2.2.2 a 24 = Value.int (s.1 24) from md_ri rfl).trans (congrArg Value.int (hM.2.2.1.trans (show mkd c.1 = 44 by rw [e]; first | done | rfl)))) ?_
  refine jx_bipush (v0 := 45) d_Md_behind_13 (by decide) ?_
  refine jx_icmp_eq (tgt := 36) d_Md_behind_15 (by decide) (fun c2 => absurd c2 (by decide)) (fun c2 => ?_)
  refine jx_aload_n d_Md_behind_18 0 rfl ?_
  refine jx_get d_Md_behind_19 fF_Md_117 (md_tg hK) ((show (mdH h a s).2.2.2 a 24 = Value.int (s.1 24) from md_ri rfl).trans (congrArg Value.int (hM.2.2.1.trans (show mkd c.1 = 44 by rw [e]; first | done | rfl)))) ?_
  refine jx_bipush (v0 := 42) d_Md_behind_22 (by decide) ?_
  refine jx_icmp_eq (tgt := 36) d_Md_behind_24 (by decide) (fun c3 => absurd c3 (by decide)) (fun c3 => ?_)
  refine jx_aload_n d_Md_behind_27 0 rfl ?_
  refine jx_get d_Md_behind_28 fF_Md_117 (md_tg hK) ((show (mdH h a s).2.2.2 a 24 = Value.int (s.1 24) from md_ri rfl).trans (congrArg Value.int (hM.2.2.1.trans (show mkd c.1 = 44 by rw [e]; first | done | rfl)))) ?_
  refine jx_bipush (v0 := 47) d_Md_behind_31 (by decide) ?_
  refine jx_icmp_ne (tgt := 40) d_Md_behind_33 (by decide) (fun c4 => ?_) (fun c4 => absurd c4 (by decide))
  refine jx_iconst (v0 := 0) d_Md_behind_40 (by decide) ?_
  refine jx_istore_n (lv' := [(1, .int (0)), (0, .ref (a))]) d_Md_behind_41 (by decide) rfl ?_
  refine jx_iload_n d_Md_behind_42 0 rfl ?_
  refine jx_if_eq (tgt := 111) d_Md_behind_43 (by decide) (fun c5 => ?_) (fun c5 => absurd c5 (by decide))
  refine jx_aload_n d_Md_behind_111 1 rfl ?_
  refine jx_get d_Md_behind_112 fF_Md_117 (md_tg hK) ((show (mdH h a s).2.2.2 a 24 = Value.int (s.1 24) from md_ri rfl).trans (congrArg Value.int (hM.2.2.1.trans (show mkd c.1 = 44 by rw [e]; first | done | rfl)))) ?_
  refine jx_bipush (v0 := -2) d_Md_behind_115 (by decide) ?_
  refine jx_icmp_ne (tgt := 138) d_Md_behind_117 (by decide) (fun c6 => ?_) (fun c6 => absurd c6 (by decide))
  refine jx_aload_n d_Md_behind_138 1 rfl ?_
  refine jx_get d_Md_behind_139 fF_Md_117 (md_tg hK) ((show (mdH h a s).2.2.2 a 24 = Value.int (s.1 24) from md_ri rfl).trans (congrArg Value.int (hM.2.2.1.trans (show mkd c.1 = 44 by rw [e]; first | done | rfl)))) ?_
  refine jx_bipush (v0 := 41) d_Md_behind_142 (by decide) ?_
  refine jx_icmp_eq (tgt := 162) d_Md_behind_144 (by decide) (fun c7 => absurd c7 (by decide)) (fun c7 => ?_)
  refine jx_aload_n d_Md_behind_147 1 rfl ?_
  refine jx_get d_Md_behind_148 fF_Md_117 (md_tg hK) ((show (mdH h a s).2.2.2 a 24 = Value.int (s.1 24) from md_ri rfl).trans (congrArg Value.int (hM.2.2.1.trans (show mkd c.1 = 44 by rw [e]; first | done | rfl)))) ?_
  refine jx_bipush (v0 := 44) d_Md_behind_151 (by decide) ?_
  refine jx_icmp_eq (tgt := 162) d_Md_behind_153 (by decide) (fun c8 => ?_) (fun c8 => absurd c8 (by decide))
  refine jx_aload_n d_Md_behind_162 1 rfl ?_
  refine jx_iconst (v0 := 1) d_Md_behind_163 (by decide) ?_
  obtain ⟨v1, g1, hC1, rfl, s1, rfl, hAs1, hFs1⟩ := c_Md_settle l G (d - 1) (by omega) (h := h) (a := a) (q := 1) hK hA (by decide) (by decide)
  rw [hE] at hAs1
  obtain ⟨⟨hT1, hM1, hc1, hk1, hk401, hdp1, hd201, hw1, hz1⟩, hp1, i1, lo1, hi1, hR1, hX1⟩ := id hAs1
  have hlf1 := hX1.lf
  have hl1 := hR1.lt
  have hld1 := lfts_dpt (f :: C')
  have hw1 : s1.1 35 = nI (C'.length + 1) := hw1
  have hln1 : (f :: C').length = C'.length + 1 := rfl
  obtain ⟨hFf, hXC⟩ := hX1
  have hno : ¬ f_op f = true := by rw [fop_iff]; omega
  rw [lfts_no hno] at hp1
  rw [lfts_no hno, dpt_no hno] at hld1
  rw [lfts_no hno] at hlf1
  rw [dpt_no hno] at hdp1 hd201
  obtain ⟨-, -, a2, a3, a5, a6, a7⟩ : 7 ≤ f.1 ∧ f.1 ≤ 9 ∧ s1.2.2.1 23 C'.length = nI f.2.1 ∧ s1.2.2.1 17 f.2.1 = nI f.1 ∧ f.2.2.1 = f.2.1 ∧ s1.2.2.1 24 C'.length = nI f.2.2.2.length ∧ ArgS s1 f.2.2.2 f.2.1 lo1 := by
    rcases hFf with ⟨_, _, _⟩ | ⟨_, _⟩ | ⟨_, _⟩ | q9
    · omega
    · omega
    · omega
    · exact q9
  have hge := a7.ge
  have hwant : f_want f = m_wants f.1 := rfl
  have hwb : m_wants f.1 ≤ 3 := by unfold m_wants; split <;> omega
  refine jx_callV (M2 := mm_Md_settle) rfl (md_tg hK) lk_Md_179 wi_Md_settle ws_Md_settle d_Md_behind_164 hC1 cd_Md_settle rfl rfl (Nat.le_of_ble_eq_true rfl) (jm_fok (by omega)) (jm_look (by decide) (by omega)) ?_
  refine jx_aload_n d_Md_behind_167 1 rfl ?_
  refine jx_get d_Md_behind_168 fF_Md_157 (md_tg hK) ((show (mdH h a s1).2.2.2 a 35 = Value.int (s1.1 35) from md_ri rfl).trans (congrArg Value.int hw1)) ?_
  refine jx_if_leN (tgt := 188) (C'.length + 1) d_Md_behind_171 rfl (by omega) (by decide) (fun c9 => ?_) (fun c9 => ?_)
  · omega
  ·
    refine jx_aload_n d_Md_behind_174 1 rfl ?_
    refine jx_get d_Md_behind_175 fF_Md_78 (md_tg hK) (md_rr hK (k := 33) (j := 23) rfl rfl rfl) ?_
    refine jx_aload_n d_Md_behind_178 1 rfl ?_
    refine jx_get d_Md_behind_179 fF_Md_157 (md_tg hK) ((show (mdH h a s1).2.2.2 a 35 = Value.int (s1.1 35) from md_ri rfl).trans (congrArg Value.int hw1)) ?_
    refine jx_iconst (v0 := 1) d_Md_behind_182 (by decide) ?_
    refine jx_isub d_Md_behind_183 ?_
    refine jx_ati (pk_sub (a := C'.length + 1) (b := 1) (by omega)) ?_
    refine jx_iald d_Md_behind_184 (md_ta hK (j := 23) rfl) rfl (jm_vinN (show (C'.length + 1) - (1) < 100 by omega) (by decide)) (jm_atN (show (C'.length + 1) - (1) < 2 ^ 31 by omega) ((show (mdH h a s1).2.2.2 (a + 23) ((C'.length + 1) - (1)) = Value.int (s1.2.2.1 23 ((C'.length + 1) - (1))) from md_rai (j := 23) (show (C'.length + 1) - (1) < 100 by omega)).trans (congrArg Value.int a2))) ?_
    refine jx_goto (tgt := 190) d_Md_behind_185 (by decide) ?_
    refine jx_istore_n (lv' := [(2, .int (nI (f.2.1))), (1, .int (0)), (0, .ref (a))]) d_Md_behind_190 (by decide) rfl ?_
    refine jx_aload_n d_Md_behind_191 2 rfl ?_
    refine jx_get d_Md_behind_192 fF_Md_117 (md_tg hK) ((show (mdH h a s1).2.2.2 a 24 = Value.int (s1.1 24) from md_ri rfl).trans (congrArg Value.int (hM1.2.2.1.trans (show mkd c.1 = 44 by rw [e]; first | done | rfl)))) ?_
    refine jx_bipush (v0 := 44) d_Md_behind_195 (by decide) ?_
    refine jx_icmp_ne (tgt := 246) d_Md_behind_197 (by decide) (fun c10 => absurd c10 (by decide)) (fun c10 => ?_)
    refine jx_iload_n d_Md_behind_200 0 rfl ?_
    refine jx_if_ltN (tgt := 229) (f.2.1) d_Md_behind_201 rfl (by omega) (by decide) (fun c11 => ?_) (fun c11 => ?_)
    · omega
    ·
      refine jx_aload_n d_Md_behind_204 2 rfl ?_
      refine jx_get d_Md_behind_205 fF_Md_81 (md_tg hK) (md_rr hK (k := 34) (j := 24) rfl rfl rfl) ?_
      refine jx_aload_n d_Md_behind_208 2 rfl ?_
      refine jx_get d_Md_behind_209 fF_Md_157 (md_tg hK) ((show (mdH h a s1).2.2.2 a 35 = Value.int (s1.1 35) from md_ri rfl).trans (congrArg Value.int hw1)) ?_
      refine jx_iconst (v0 := 1) d_Md_behind_212 (by decide) ?_
      refine jx_isub d_Md_behind_213 ?_
      refine jx_ati (pk_sub (a := C'.length + 1) (b := 1) (by omega)) ?_
      refine jx_iald d_Md_behind_214 (md_ta hK (j := 24) rfl) rfl (jm_vinN (show (C'.length + 1) - (1) < 100 by omega) (by decide)) (jm_atN (show (C'.length + 1) - (1) < 2 ^ 31 by omega) ((show (mdH h a s1).2.2.2 (a + 24) ((C'.length + 1) - (1)) = Value.int (s1.2.2.1 24 ((C'.length + 1) - (1))) from md_rai (j := 24) (show (C'.length + 1) - (1) < 100 by omega)).trans (congrArg Value.int a6))) ?_
      refine jx_iconst (v0 := 1) d_Md_behind_215 (by decide) ?_
      refine jx_iadd d_Md_behind_216 ?_
      refine jx_ati (nI_add (f.2.2.2.length) (1)) ?_
      refine jx_aload_n d_Md_behind_217 2 rfl ?_
      refine jx_get d_Md_behind_218 fF_Md_60 (md_tg hK) (md_rr hK (k := 26) (j := 17) rfl rfl rfl) ?_
      refine jx_iload_n d_Md_behind_221 0 rfl ?_
      refine jx_iald d_Md_behind_222 (md_ta hK (j := 17) rfl) rfl (jm_vinN (show f.2.1 < 40 by omega) (by decide)) (jm_atN (show f.2.1 < 2 ^ 31 by omega) ((show (mdH h a s1).2.2.2 (a + 17) (f.2.1) = Value.int (s1.2.2.1 17 (f.2.1)) from md_rai (j := 17) (show f.2.1 < 40 by omega)).trans (congrArg Value.int a3))) ?_
      refine jx_callS (M2 := mm_Md_wants) lk_Md_192 wt_Md_wants d_Md_behind_223 (c_Md_wants l G (d - 1) (kd := f.1) (by omega)) cd_Md_wants rfl rfl (Nat.le_of_ble_eq_true rfl) (jm_fok (by omega)) (jm_look (by decide) (by omega)) ?_
      refine jx_icmp_neN (tgt := 235) ((f.2.2.2.length) + (1)) (m_wants f.1) d_Md_behind_226 rfl rfl (by omega) (by omega) (by decide) (fun c12 => ?_) (fun c12 => ?_)
      · omega
      ·
        refine jx_aload_n d_Md_behind_229 2 rfl ?_
        have hwr : m_wrong s1 = mi (mi s1 3 (if s1.1 24 = -1 then 1 else 2)) 4 (s1.1 23) := m_fail_of hz1
        rw [hM1.2.2.1, e, if_neg (by decide)] at hwr
        refine jx_callV (M2 := mm_Md_wrong) rfl (md_tg hK) lk_Md_189 wi_Md_wrong ws_Md_wrong d_Md_behind_230 (c_Md_wrong l G (d - 1) (by omega) (s := s1) hK) cd_Md_wrong rfl rfl (Nat.le_of_ble_eq_true rfl) (jm_fok (by omega)) (jm_look (by decide) (by omega)) ?_
        refine jx_iconst (v0 := 0) d_Md_behind_233 (by decide) ?_
        exact jx_zret d_Md_behind_234 rfl (by first | rfl | decide) (⟨_, rfl, rfl, _, rfl, by rw [hwr]; rfl, by rw [hwr]; exact hM1.2.1, by rw [hwr]; exact (hFs1.mi (by decide)).mi (by decide)⟩)
theorem nI_nm2 {p : Nat} (h : p < 2 ^ 31) : ¬ nI p = -2 := fun e => by
  have h1 : (Int32.ofNat p).toInt = (-2 : Int32).toInt := congrArg Int32.toInt e
  rw [Int32.toInt_ofNat_of_lt h] at h1
  have h2 : (-2 : Int32).toInt = -2 := by decide
  omega
set_option maxHeartbeats 4000000 in
set_option maxRecDepth 100000 in
theorem c_Md_behind_f41W (l : Launch) (G : jm_G) (d : Nat) (hd : 3 ≤ d) {h : jm_H} {a : Nat} {s : MS} {B : Nat → Int32} {n : Nat} {c : Cur} {k : Nat} {C : List Fr} {t : Term} {f : Fr} {C' : List Fr} {t' : Term} (hK : MdK h a) (hA : ASt s B n c k C t) (hE : stl 1 C t = (f :: C', t')) (hf7 : 7 ≤ f.1) (hf9 : f.1 ≤ 9) (hg : f.2.2.2.length + 1 < f_want f) (e : c.1 = 41) : jm_CP l G mm_Md_behind d [.ref a] (mdH h a s) (fun v h9 => v = some (.int 0) ∧ ∃ s', h9 = mdH h a s' ∧ Flo s s' 2 (nI c.2.1)) := by
  obtain ⟨⟨hT, hM, hc, hk, hk40, hdp, hd20, hw, hz⟩, hp, i0, lo0, hi0, hR0, hX⟩ := id hA
  have hlf := hX.lf
  have hl0 := hR0.lt
  have hld := lfts_dpt C
  refine jm_of (by decide) rfl (Nat.le_of_ble_eq_true rfl) ?_
  refine jx_aload_n d_Md_behind_0 0 rfl ?_
  refine jx_get d_Md_behind_1 fF_Md_117 (md_tg hK) ((show (mdH h a s).2.2.2 a 24 = Value.int (s.1 24) from md_ri rfl).trans (congrArg Value.int (hM.2.2.1.trans (show mkd c.1 = 41 by rw [e]; first | done | rfl)))) ?_
  refine jx_bipush (v0 := 43) d_Md_behind_4 (by decide) ?_
  refine jx_icmp_eq (tgt := 36) d_Md_behind_6 (by decide) (fun c1 => absurd c1 (by decide)) (fun c1 => ?_)
  refine jx_aload_n d_Md_behind_9 0 rfl ?_
  refine jx_get d_Md_behind_10 fF_Md_117 (md_tg hK) ((show (mdH h a s).2.2.2 a 24 = Value.int (s.1 24) from md_ri rfl).trans (congrArg Value.int (hM.2.2.1.trans (show mkd c.1 = 41 by rw [e]; first | done | rfl)))) ?_
  refine jx_bipush (v0 := 45) d_Md_behind_13 (by decide) ?_
  refine jx_icmp_eq (tgt := 36) d_Md_behind_15 (by decide) (fun c2 => absurd c2 (by decide)) (fun c2 => ?_)
  refine jx_aload_n d_Md_behind_18 0 rfl ?_
  refine jx_get d_Md_behind_19 fF_Md_117 (md_tg hK) ((show (mdH h a s).2.2.2 a 24 = Value.int (s.1 24) from md_ri rfl).trans (congrArg Value.int (hM.2.2.1.trans (show mkd c.1 = 41 by rw [e]; first | done | rfl)))) ?_
  refine jx_bipush (v0 := 42) d_Md_behind_22 (by decide) ?_
  refine jx_icmp_eq (tgt := 36) d_Md_behind_24 (by decide) (fun c3 => absurd c3 (by decide)) (fun c3 => ?_)
  refine jx_aload_n d_Md_behind_27 0 rfl ?_
  refine jx_get d_Md_behind_28 fF_Md_117 (md_tg hK) ((show (mdH h a s).2.2.2 a 24 = Value.int (s.1 24) from md_ri rfl).trans (congrArg Value.int (hM.2.2.1.trans (show mkd c.1 = 41 by rw [e]; first | done | rfl)))) ?_
  refine jx_bipush (v0 := 47) d_Md_behind_31 (by decide) ?_
  refine jx_icmp_ne (tgt := 40) d_Md_behind_33 (by decide) (fun c4 => ?_) (fun c4 => absurd c4 (by decide))
  refine jx_iconst (v0 := 0) d_Md_behind_40 (by decide) ?_
  refine jx_istore_n (lv' := [(1, .int (0)), (0, .ref (a))]) d_Md_behind_41 (by decide) rfl ?_
  refine jx_iload_n d_Md_behind_42 0 rfl ?_
  refine jx_if_eq (tgt := 111) d_Md_behind_43 (by decide) (fun c5 => ?_) (fun c5 => absurd c5 (by decide))
  refine jx_aload_n d_Md_behind_111 1 rfl ?_
  refine jx_get d_Md_behind_112 fF_Md_117 (md_tg hK) ((show (mdH h a s).2.2.2 a 24 = Value.int (s.1 24) from md_ri rfl).trans (congrArg Value.int (hM.2.2.1.trans (show mkd c.1 = 41 by rw [e]; first | done | rfl)))) ?_
  refine jx_bipush (v0 := -2) d_Md_behind_115 (by decide) ?_
  refine jx_icmp_ne (tgt := 138) d_Md_behind_117 (by decide) (fun c6 => ?_) (fun c6 => absurd c6 (by decide))
  refine jx_aload_n d_Md_behind_138 1 rfl ?_
  refine jx_get d_Md_behind_139 fF_Md_117 (md_tg hK) ((show (mdH h a s).2.2.2 a 24 = Value.int (s.1 24) from md_ri rfl).trans (congrArg Value.int (hM.2.2.1.trans (show mkd c.1 = 41 by rw [e]; first | done | rfl)))) ?_
  refine jx_bipush (v0 := 41) d_Md_behind_142 (by decide) ?_
  refine jx_icmp_eq (tgt := 162) d_Md_behind_144 (by decide) (fun c7 => ?_) (fun c7 => absurd c7 (by decide))
  refine jx_aload_n d_Md_behind_162 1 rfl ?_
  refine jx_iconst (v0 := 1) d_Md_behind_163 (by decide) ?_
  obtain ⟨v1, g1, hC1, rfl, s1, rfl, hAs1, hFs1⟩ := c_Md_settle l G (d - 1) (by omega) (h := h) (a := a) (q := 1) hK hA (by decide) (by decide)
  rw [hE] at hAs1
  obtain ⟨⟨hT1, hM1, hc1, hk1, hk401, hdp1, hd201, hw1, hz1⟩, hp1, i1, lo1, hi1, hR1, hX1⟩ := id hAs1
  have hlf1 := hX1.lf
  have hl1 := hR1.lt
  have hld1 := lfts_dpt (f :: C')
  have hw1 : s1.1 35 = nI (C'.length + 1) := hw1
  have hln1 : (f :: C').length = C'.length + 1 := rfl
  obtain ⟨hFf, hXC⟩ := hX1
  have hno : ¬ f_op f = true := by rw [fop_iff]; omega
  rw [lfts_no hno] at hp1
  rw [lfts_no hno, dpt_no hno] at hld1
  rw [lfts_no hno] at hlf1
  rw [dpt_no hno] at hdp1 hd201
  obtain ⟨-, -, a2, a3, a5, a6, a7⟩ : 7 ≤ f.1 ∧ f.1 ≤ 9 ∧ s1.2.2.1 23 C'.length = nI f.2.1 ∧ s1.2.2.1 17 f.2.1 = nI f.1 ∧ f.2.2.1 = f.2.1 ∧ s1.2.2.1 24 C'.length = nI f.2.2.2.length ∧ ArgS s1 f.2.2.2 f.2.1 lo1 := by
    rcases hFf with ⟨_, _, _⟩ | ⟨_, _⟩ | ⟨_, _⟩ | q9
    · omega
    · omega
    · omega
    · exact q9
  have hge := a7.ge
  have hwant : f_want f = m_wants f.1 := rfl
  have hwb : m_wants f.1 ≤ 3 := by unfold m_wants; split <;> omega
  refine jx_callV (M2 := mm_Md_settle) rfl (md_tg hK) lk_Md_179 wi_Md_settle ws_Md_settle d_Md_behind_164 hC1 cd_Md_settle rfl rfl (Nat.le_of_ble_eq_true rfl) (jm_fok (by omega)) (jm_look (by decide) (by omega)) ?_
  refine jx_aload_n d_Md_behind_167 1 rfl ?_
  refine jx_get d_Md_behind_168 fF_Md_157 (md_tg hK) ((show (mdH h a s1).2.2.2 a 35 = Value.int (s1.1 35) from md_ri rfl).trans (congrArg Value.int hw1)) ?_
  refine jx_if_leN (tgt := 188) (C'.length + 1) d_Md_behind_171 rfl (by omega) (by decide) (fun c8 => ?_) (fun c8 => ?_)
  · omega
  ·
    refine jx_aload_n d_Md_behind_174 1 rfl ?_
    refine jx_get d_Md_behind_175 fF_Md_78 (md_tg hK) (md_rr hK (k := 33) (j := 23) rfl rfl rfl) ?_
    refine jx_aload_n d_Md_behind_178 1 rfl ?_
    refine jx_get d_Md_behind_179 fF_Md_157 (md_tg hK) ((show (mdH h a s1).2.2.2 a 35 = Value.int (s1.1 35) from md_ri rfl).trans (congrArg Value.int hw1)) ?_
    refine jx_iconst (v0 := 1) d_Md_behind_182 (by decide) ?_
    refine jx_isub d_Md_behind_183 ?_
    refine jx_ati (pk_sub (a := C'.length + 1) (b := 1) (by omega)) ?_
    refine jx_iald d_Md_behind_184 (md_ta hK (j := 23) rfl) rfl (jm_vinN (show (C'.length + 1) - (1) < 100 by omega) (by decide)) (jm_atN (show (C'.length + 1) - (1) < 2 ^ 31 by omega) ((show (mdH h a s1).2.2.2 (a + 23) ((C'.length + 1) - (1)) = Value.int (s1.2.2.1 23 ((C'.length + 1) - (1))) from md_rai (j := 23) (show (C'.length + 1) - (1) < 100 by omega)).trans (congrArg Value.int a2))) ?_
    refine jx_goto (tgt := 190) d_Md_behind_185 (by decide) ?_
    refine jx_istore_n (lv' := [(2, .int (nI (f.2.1))), (1, .int (0)), (0, .ref (a))]) d_Md_behind_190 (by decide) rfl ?_
    refine jx_aload_n d_Md_behind_191 2 rfl ?_
    refine jx_get d_Md_behind_192 fF_Md_117 (md_tg hK) ((show (mdH h a s1).2.2.2 a 24 = Value.int (s1.1 24) from md_ri rfl).trans (congrArg Value.int (hM1.2.2.1.trans (show mkd c.1 = 41 by rw [e]; first | done | rfl)))) ?_
    refine jx_bipush (v0 := 44) d_Md_behind_195 (by decide) ?_
    refine jx_icmp_ne (tgt := 246) d_Md_behind_197 (by decide) (fun c9 => ?_) (fun c9 => absurd c9 (by decide))
    refine jx_iload_n d_Md_behind_246 0 rfl ?_
    refine jx_bipush (v0 := -2) d_Md_behind_247 (by decide) ?_
    refine jx_icmp_eq (tgt := 281) d_Md_behind_249 (by decide) (fun c10 => ?_) (fun c10 => ?_)
    · exact absurd c10 (nI_nm2 (by omega))
    ·
      refine jx_iload_n d_Md_behind_252 0 rfl ?_
      refine jx_if_ltN (tgt := 287) (f.2.1) d_Md_behind_253 rfl (by omega) (by decide) (fun c11 => ?_) (fun c11 => ?_)
      · omega
      ·
        refine jx_aload_n d_Md_behind_256 2 rfl ?_
        refine jx_get d_Md_behind_257 fF_Md_81 (md_tg hK) (md_rr hK (k := 34) (j := 24) rfl rfl rfl) ?_
        refine jx_aload_n d_Md_behind_260 2 rfl ?_
        refine jx_get d_Md_behind_261 fF_Md_157 (md_tg hK) ((show (mdH h a s1).2.2.2 a 35 = Value.int (s1.1 35) from md_ri rfl).trans (congrArg Value.int hw1)) ?_
        refine jx_iconst (v0 := 1) d_Md_behind_264 (by decide) ?_
        refine jx_isub d_Md_behind_265 ?_
        refine jx_ati (pk_sub (a := C'.length + 1) (b := 1) (by omega)) ?_
        refine jx_iald d_Md_behind_266 (md_ta hK (j := 24) rfl) rfl (jm_vinN (show (C'.length + 1) - (1) < 100 by omega) (by decide)) (jm_atN (show (C'.length + 1) - (1) < 2 ^ 31 by omega) ((show (mdH h a s1).2.2.2 (a + 24) ((C'.length + 1) - (1)) = Value.int (s1.2.2.1 24 ((C'.length + 1) - (1))) from md_rai (j := 24) (show (C'.length + 1) - (1) < 100 by omega)).trans (congrArg Value.int a6))) ?_
        refine jx_iconst (v0 := 1) d_Md_behind_267 (by decide) ?_
        refine jx_iadd d_Md_behind_268 ?_
        refine jx_ati (nI_add (f.2.2.2.length) (1)) ?_
        refine jx_aload_n d_Md_behind_269 2 rfl ?_
        refine jx_get d_Md_behind_270 fF_Md_60 (md_tg hK) (md_rr hK (k := 26) (j := 17) rfl rfl rfl) ?_
        refine jx_iload_n d_Md_behind_273 0 rfl ?_
        refine jx_iald d_Md_behind_274 (md_ta hK (j := 17) rfl) rfl (jm_vinN (show f.2.1 < 40 by omega) (by decide)) (jm_atN (show f.2.1 < 2 ^ 31 by omega) ((show (mdH h a s1).2.2.2 (a + 17) (f.2.1) = Value.int (s1.2.2.1 17 (f.2.1)) from md_rai (j := 17) (show f.2.1 < 40 by omega)).trans (congrArg Value.int a3))) ?_
        refine jx_callS (M2 := mm_Md_wants) lk_Md_192 wt_Md_wants d_Md_behind_275 (c_Md_wants l G (d - 1) (kd := f.1) (by omega)) cd_Md_wants rfl rfl (Nat.le_of_ble_eq_true rfl) (jm_fok (by omega)) (jm_look (by decide) (by omega)) ?_
        refine jx_icmp_geN (tgt := 287) ((f.2.2.2.length) + (1)) (m_wants f.1) d_Md_behind_278 rfl rfl (by omega) (by omega) (by decide) (fun c12 => ?_) (fun c12 => ?_)
        · omega
        ·
          refine jx_aload_n d_Md_behind_281 2 rfl ?_
          have hwr : m_wrong s1 = mi (mi s1 3 (if s1.1 24 = -1 then 1 else 2)) 4 (s1.1 23) := m_fail_of hz1
          rw [hM1.2.2.1, e, if_neg (by decide)] at hwr
          refine jx_callV (M2 := mm_Md_wrong) rfl (md_tg hK) lk_Md_189 wi_Md_wrong ws_Md_wrong d_Md_behind_282 (c_Md_wrong l G (d - 1) (by omega) (s := s1) hK) cd_Md_wrong rfl rfl (Nat.le_of_ble_eq_true rfl) (jm_fok (by omega)) (jm_look (by decide) (by omega)) ?_
          refine jx_iconst (v0 := 0) d_Md_behind_285 (by decide) ?_
          exact jx_zret d_Md_behind_286 rfl (by first | rfl | decide) (⟨_, rfl, rfl, _, rfl, by rw [hwr]; rfl, by rw [hwr]; exact hM1.2.1, by rw [hwr]; exact (hFs1.mi (by decide)).mi (by decide)⟩)
set_option maxHeartbeats 4000000 in
set_option maxRecDepth 100000 in
theorem c_Md_behind_f41 (l : Launch) (G : jm_G) (d : Nat) (hd : 3 ≤ d) {h : jm_H} {a : Nat} {s : MS} {B : Nat → Int32} {n : Nat} {c : Cur} {k : Nat} {C : List Fr} {t : Term} {f : Fr} {C' : List Fr} {t' : Term} (hK : MdK h a) (hA : ASt s B n c k C t) (hE : stl 1 C t = (f :: C', t')) (hf7 : 7 ≤ f.1) (hf9 : f.1 ≤ 9) (hg : f.2.2.2.length + 1 = f_want f) (e : c.1 = 41) : jm_CP l G mm_Md_behind d [.ref a] (mdH h a s) (fun v h9 => v = some (.int 0) ∧ ∃ s', h9 = mdH h a s' ∧ ASt s' B n (cu_adv B n c) k (stl 3 C' (f_fn f t')).1 (stl 3 C' (f_fn f t')).2 ∧ Fix s s') := by
  obtain ⟨⟨hT, hM, hc, hk, hk40, hdp, hd20, hw, hz⟩, hp, i0, lo0, hi0, hR0, hX⟩ := id hA
  have hlf := hX.lf
  have hl0 := hR0.lt
  have hld := lfts_dpt C
  refine jm_of (by decide) rfl (Nat.le_of_ble_eq_true rfl) ?_
  refine jx_aload_n d_Md_behind_0 0 rfl ?_
  refine jx_get d_Md_behind_1 fF_Md_117 (md_tg hK) ((show (mdH h a s).2.2.2 a 24 = Value.int (s.1 24) from md_ri rfl).trans (congrArg Value.int (hM.2.2.1.trans (show mkd c.1 = 41 by rw [e]; first | done | rfl)))) ?_
  refine jx_bipush (v0 := 43) d_Md_behind_4 (by decide) ?_
  refine jx_icmp_eq (tgt := 36) d_Md_behind_6 (by decide) (fun c1 => absurd c1 (by decide)) (fun c1 => ?_)
  refine jx_aload_n d_Md_behind_9 0 rfl ?_
  refine jx_get d_Md_behind_10 fF_Md_117 (md_tg hK) ((show (mdH h a s).2.2.2 a 24 = Value.int (s.1 24) from md_ri rfl).trans (congrArg Value.int (hM.2.2.1.trans (show mkd c.1 = 41 by rw [e]; first | done | rfl)))) ?_
  refine jx_bipush (v0 := 45) d_Md_behind_13 (by decide) ?_
  refine jx_icmp_eq (tgt := 36) d_Md_behind_15 (by decide) (fun c2 => absurd c2 (by decide)) (fun c2 => ?_)
  refine jx_aload_n d_Md_behind_18 0 rfl ?_
  refine jx_get d_Md_behind_19 fF_Md_117 (md_tg hK) ((show (mdH h a s).2.2.2 a 24 = Value.int (s.1 24) from md_ri rfl).trans (congrArg Value.int (hM.2.2.1.trans (show mkd c.1 = 41 by rw [e]; first | done | rfl)))) ?_
  refine jx_bipush (v0 := 42) d_Md_behind_22 (by decide) ?_
  refine jx_icmp_eq (tgt := 36) d_Md_behind_24 (by decide) (fun c3 => absurd c3 (by decide)) (fun c3 => ?_)
  refine jx_aload_n d_Md_behind_27 0 rfl ?_
  refine jx_get d_Md_behind_28 fF_Md_117 (md_tg hK) ((show (mdH h a s).2.2.2 a 24 = Value.int (s.1 24) from md_ri rfl).trans (congrArg Value.int (hM.2.2.1.trans (show mkd c.1 = 41 by rw [e]; first | done | rfl)))) ?_
  refine jx_bipush (v0 := 47) d_Md_behind_31 (by decide) ?_
  refine jx_icmp_ne (tgt := 40) d_Md_behind_33 (by decide) (fun c4 => ?_) (fun c4 => absurd c4 (by decide))
  refine jx_iconst (v0 := 0) d_Md_behind_40 (by decide) ?_
  refine jx_istore_n (lv' := [(1, .int (0)), (0, .ref (a))]) d_Md_behind_41 (by decide) rfl ?_
  refine jx_iload_n d_Md_behind_42 0 rfl ?_
  refine jx_if_eq (tgt := 111) d_Md_behind_43 (by decide) (fun c5 => ?_) (fun c5 => absurd c5 (by decide))
  refine jx_aload_n d_Md_behind_111 1 rfl ?_
  refine jx_get d_Md_behind_112 fF_Md_117 (md_tg hK) ((show (mdH h a s).2.2.2 a 24 = Value.int (s.1 24) from md_ri rfl).trans (congrArg Value.int (hM.2.2.1.trans (show mkd c.1 = 41 by rw [e]; first | done | rfl)))) ?_
  refine jx_bipush (v0 := -2) d_Md_behind_115 (by decide) ?_
  refine jx_icmp_ne (tgt := 138) d_Md_behind_117 (by decide) (fun c6 => ?_) (fun c6 => absurd c6 (by decide))
  refine jx_aload_n d_Md_behind_138 1 rfl ?_
  refine jx_get d_Md_behind_139 fF_Md_117 (md_tg hK) ((show (mdH h a s).2.2.2 a 24 = Value.int (s.1 24) from md_ri rfl).trans (congrArg Value.int (hM.2.2.1.trans (show mkd c.1 = 41 by rw [e]; first | done | rfl)))) ?_
  refine jx_bipush (v0 := 41) d_Md_behind_142 (by decide) ?_
  refine jx_icmp_eq (tgt := 162) d_Md_behind_144 (by decide) (fun c7 => ?_) (fun c7 => absurd c7 (by decide))
  refine jx_aload_n d_Md_behind_162 1 rfl ?_
  refine jx_iconst (v0 := 1) d_Md_behind_163 (by decide) ?_
  obtain ⟨v1, g1, hC1, rfl, s1, rfl, hAs1, hFs1⟩ := c_Md_settle l G (d - 1) (by omega) (h := h) (a := a) (q := 1) hK hA (by decide) (by decide)
  rw [hE] at hAs1
  obtain ⟨⟨hT1, hM1, hc1, hk1, hk401, hdp1, hd201, hw1, hz1⟩, hp1, i1, lo1, hi1, hR1, hX1⟩ := id hAs1
  have hlf1 := hX1.lf
  have hl1 := hR1.lt
  have hld1 := lfts_dpt (f :: C')
  have hw1 : s1.1 35 = nI (C'.length + 1) := hw1
  have hln1 : (f :: C').length = C'.length + 1 := rfl
  obtain ⟨hFf, hXC⟩ := hX1
  have hno : ¬ f_op f = true := by rw [fop_iff]; omega
  rw [lfts_no hno] at hp1
  rw [lfts_no hno, dpt_no hno] at hld1
  rw [lfts_no hno] at hlf1
  rw [dpt_no hno] at hdp1 hd201
  obtain ⟨-, -, a2, a3, a5, a6, a7⟩ : 7 ≤ f.1 ∧ f.1 ≤ 9 ∧ s1.2.2.1 23 C'.length = nI f.2.1 ∧ s1.2.2.1 17 f.2.1 = nI f.1 ∧ f.2.2.1 = f.2.1 ∧ s1.2.2.1 24 C'.length = nI f.2.2.2.length ∧ ArgS s1 f.2.2.2 f.2.1 lo1 := by
    rcases hFf with ⟨_, _, _⟩ | ⟨_, _⟩ | ⟨_, _⟩ | q9
    · omega
    · omega
    · omega
    · exact q9
  have hge := a7.ge
  have hwant : f_want f = m_wants f.1 := rfl
  have hwb : m_wants f.1 ≤ 3 := by unfold m_wants; split <;> omega
  refine jx_callV (M2 := mm_Md_settle) rfl (md_tg hK) lk_Md_179 wi_Md_settle ws_Md_settle d_Md_behind_164 hC1 cd_Md_settle rfl rfl (Nat.le_of_ble_eq_true rfl) (jm_fok (by omega)) (jm_look (by decide) (by omega)) ?_
  refine jx_aload_n d_Md_behind_167 1 rfl ?_
  refine jx_get d_Md_behind_168 fF_Md_157 (md_tg hK) ((show (mdH h a s1).2.2.2 a 35 = Value.int (s1.1 35) from md_ri rfl).trans (congrArg Value.int hw1)) ?_
  refine jx_if_leN (tgt := 188) (C'.length + 1) d_Md_behind_171 rfl (by omega) (by decide) (fun c8 => ?_) (fun c8 => ?_)
  · omega
  ·
    refine jx_aload_n d_Md_behind_174 1 rfl ?_
    refine jx_get d_Md_behind_175 fF_Md_78 (md_tg hK) (md_rr hK (k := 33) (j := 23) rfl rfl rfl) ?_
    refine jx_aload_n d_Md_behind_178 1 rfl ?_
    refine jx_get d_Md_behind_179 fF_Md_157 (md_tg hK) ((show (mdH h a s1).2.2.2 a 35 = Value.int (s1.1 35) from md_ri rfl).trans (congrArg Value.int hw1)) ?_
    refine jx_iconst (v0 := 1) d_Md_behind_182 (by decide) ?_
    refine jx_isub d_Md_behind_183 ?_
    refine jx_ati (pk_sub (a := C'.length + 1) (b := 1) (by omega)) ?_
    refine jx_iald d_Md_behind_184 (md_ta hK (j := 23) rfl) rfl (jm_vinN (show (C'.length + 1) - (1) < 100 by omega) (by decide)) (jm_atN (show (C'.length + 1) - (1) < 2 ^ 31 by omega) ((show (mdH h a s1).2.2.2 (a + 23) ((C'.length + 1) - (1)) = Value.int (s1.2.2.1 23 ((C'.length + 1) - (1))) from md_rai (j := 23) (show (C'.length + 1) - (1) < 100 by omega)).trans (congrArg Value.int a2))) ?_
    refine jx_goto (tgt := 190) d_Md_behind_185 (by decide) ?_
    refine jx_istore_n (lv' := [(2, .int (nI (f.2.1))), (1, .int (0)), (0, .ref (a))]) d_Md_behind_190 (by decide) rfl ?_
    refine jx_aload_n d_Md_behind_191 2 rfl ?_
    refine jx_get d_Md_behind_192 fF_Md_117 (md_tg hK) ((show (mdH h a s1).2.2.2 a 24 = Value.int (s1.1 24) from md_ri rfl).trans (congrArg Value.int (hM1.2.2.1.trans (show mkd c.1 = 41 by rw [e]; first | done | rfl)))) ?_
    refine jx_bipush (v0 := 44) d_Md_behind_195 (by decide) ?_
    refine jx_icmp_ne (tgt := 246) d_Md_behind_197 (by decide) (fun c9 => ?_) (fun c9 => absurd c9 (by decide))
    refine jx_iload_n d_Md_behind_246 0 rfl ?_
    refine jx_bipush (v0 := -2) d_Md_behind_247 (by decide) ?_
    refine jx_icmp_eq (tgt := 281) d_Md_behind_249 (by decide) (fun c10 => ?_) (fun c10 => ?_)
    · exact absurd c10 (nI_nm2 (by omega))
    ·
      refine jx_iload_n d_Md_behind_252 0 rfl ?_
      refine jx_if_ltN (tgt := 287) (f.2.1) d_Md_behind_253 rfl (by omega) (by decide) (fun c11 => ?_) (fun c11 => ?_)
      · omega
      ·
        refine jx_aload_n d_Md_behind_256 2 rfl ?_
        refine jx_get d_Md_behind_257 fF_Md_81 (md_tg hK) (md_rr hK (k := 34) (j := 24) rfl rfl rfl) ?_
        refine jx_aload_n d_Md_behind_260 2 rfl ?_
        refine jx_get d_Md_behind_261 fF_Md_157 (md_tg hK) ((show (mdH h a s1).2.2.2 a 35 = Value.int (s1.1 35) from md_ri rfl).trans (congrArg Value.int hw1)) ?_
        refine jx_iconst (v0 := 1) d_Md_behind_264 (by decide) ?_
        refine jx_isub d_Md_behind_265 ?_
        refine jx_ati (pk_sub (a := C'.length + 1) (b := 1) (by omega)) ?_
        refine jx_iald d_Md_behind_266 (md_ta hK (j := 24) rfl) rfl (jm_vinN (show (C'.length + 1) - (1) < 100 by omega) (by decide)) (jm_atN (show (C'.length + 1) - (1) < 2 ^ 31 by omega) ((show (mdH h a s1).2.2.2 (a + 24) ((C'.length + 1) - (1)) = Value.int (s1.2.2.1 24 ((C'.length + 1) - (1))) from md_rai (j := 24) (show (C'.length + 1) - (1) < 100 by omega)).trans (congrArg Value.int a6))) ?_
        refine jx_iconst (v0 := 1) d_Md_behind_267 (by decide) ?_
        refine jx_iadd d_Md_behind_268 ?_
        refine jx_ati (nI_add (f.2.2.2.length) (1)) ?_
        refine jx_aload_n d_Md_behind_269 2 rfl ?_
        refine jx_get d_Md_behind_270 fF_Md_60 (md_tg hK) (md_rr hK (k := 26) (j := 17) rfl rfl rfl) ?_
        refine jx_iload_n d_Md_behind_273 0 rfl ?_
        refine jx_iald d_Md_behind_274 (md_ta hK (j := 17) rfl) rfl (jm_vinN (show f.2.1 < 40 by omega) (by decide)) (jm_atN (show f.2.1 < 2 ^ 31 by omega) ((show (mdH h a s1).2.2.2 (a + 17) (f.2.1) = Value.int (s1.2.2.1 17 (f.2.1)) from md_rai (j := 17) (show f.2.1 < 40 by omega)).trans (congrArg Value.int a3))) ?_
        refine jx_callS (M2 := mm_Md_wants) lk_Md_192 wt_Md_wants d_Md_behind_275 (c_Md_wants l G (d - 1) (kd := f.1) (by omega)) cd_Md_wants rfl rfl (Nat.le_of_ble_eq_true rfl) (jm_fok (by omega)) (jm_look (by decide) (by omega)) ?_
        refine jx_icmp_geN (tgt := 287) ((f.2.2.2.length) + (1)) (m_wants f.1) d_Md_behind_278 rfl rfl (by omega) (by omega) (by decide) (fun c12 => ?_) (fun c12 => ?_)
        ·
          refine jx_iload_n d_Md_behind_287 0 rfl ?_
          refine jx_if_ltN (tgt := 316) (f.2.1) d_Md_behind_288 rfl (by omega) (by decide) (fun c13 => ?_) (fun c13 => ?_)
          · omega
          ·
            refine jx_aload_n d_Md_behind_291 2 rfl ?_
            refine jx_iload_n d_Md_behind_292 0 rfl ?_
            refine jx_callV (M2 := mm_Md_give) rfl (md_tg hK) lk_Md_195 wi_Md_give ws_Md_give d_Md_behind_293 (c_Md_give l G (d - 1) (s := s1) (C := C') (f := f) hK hw1 hp1 a6 (by unfold f_want at hg; split at hg <;> omega) (by omega) (by omega) (by omega)) cd_Md_give rfl rfl (Nat.le_of_ble_eq_true rfl) (jm_fok (by omega)) (jm_look (by decide) (by omega)) ?_
            refine jx_aload_n d_Md_behind_296 2 rfl ?_
            refine jx_get d_Md_behind_297 fF_Md_84 (md_tg hK) (md_rr hK (k := 36) (j := 25) rfl rfl rfl) ?_
            refine jx_aload_n d_Md_behind_300 2 rfl ?_
            refine jx_get d_Md_behind_301 fF_Md_166 (md_tg hK) ((show (mdH h a (m_give s1 f C')).2.2.2 a 37 = Value.int ((m_give s1 f C').1 37) from md_ri rfl).trans (congrArg Value.int (show (m_give s1 f C').1 37 = nI (lfts C') from rfl))) ?_
            refine jx_iload_n d_Md_behind_304 0 rfl ?_
            refine jx_iast d_Md_behind_305 (md_ta hK (j := 25) rfl) rfl (jm_vinN (show lfts C' < 100 by omega) (by decide)) ?_
            refine jx_ath ((jm_putN (show lfts C' < 2 ^ 31 by omega)).trans (md_wai (j := 25) (show lfts C' < 100 by omega))) ?_
            refine jx_aload_n d_Md_behind_306 2 rfl ?_
            refine jx_dup d_Md_behind_307 rfl ?_
            refine jx_get d_Md_behind_308 fF_Md_166 (md_tg hK) ((show (mdH h a (mai (m_give s1 f C') 25 (lfts C') (nI (f.2.1)))).2.2.2 a 37 = Value.int ((m_give s1 f C').1 37) from md_ri rfl).trans (congrArg Value.int (show (m_give s1 f C').1 37 = nI (lfts C') from rfl))) ?_
            refine jx_iconst (v0 := 1) d_Md_behind_311 (by decide) ?_
            refine jx_iadd d_Md_behind_312 ?_
            refine jx_ati (nI_add (lfts C') (1)) ?_
            refine jx_put (v0 := .int (nI ((lfts C') + (1)))) d_Md_behind_313 fF_Md_166 jv_Md ft_Md_partCount (md_tg hK) rfl rfl ?_
            refine jx_ath (md_wi (k := 37) rfl) ?_
            refine jx_aload_n d_Md_behind_316 2 rfl ?_
            refine jx_dup d_Md_behind_317 rfl ?_
            refine jx_get d_Md_behind_318 fF_Md_157 (md_tg hK) ((show (mdH h a (mi (mai (m_give s1 f C') 25 (lfts C') (nI (f.2.1))) 37 (nI ((lfts C') + (1))))).2.2.2 a 35 = Value.int ((m_give s1 f C').1 35) from md_ri rfl).trans (congrArg Value.int hw1)) ?_
            refine jx_iconst (v0 := 1) d_Md_behind_321 (by decide) ?_
            refine jx_isub d_Md_behind_322 ?_
            refine jx_ati (pk_sub (a := C'.length + 1) (b := 1) (by omega)) ?_
            refine jx_put (v0 := .int (nI ((C'.length + 1) - (1)))) d_Md_behind_323 fF_Md_157 jv_Md ft_Md_waitingCount (md_tg hK) rfl rfl ?_
            refine jx_ath (md_wi (k := 35) rfl) ?_
            refine jx_aload_n d_Md_behind_326 2 rfl ?_
            refine jx_dup d_Md_behind_327 rfl ?_
            refine jx_get d_Md_behind_328 fF_Md_169 (md_tg hK) ((show (mdH h a (mi (mi (mai (m_give s1 f C') 25 (lfts C') (nI (f.2.1))) 37 (nI ((lfts C') + (1)))) 35 (nI ((C'.length + 1) - (1))))).2.2.2 a 38 = Value.int ((m_give s1 f C').1 38) from md_ri rfl).trans (congrArg Value.int hdp1)) ?_
            refine jx_iconst (v0 := 1) d_Md_behind_331 (by decide) ?_
            refine jx_isub d_Md_behind_332 ?_
            refine jx_ati (pk_sub (a := dpt C' + 1) (b := 1) (by omega)) ?_
            refine jx_put (v0 := .int (nI ((dpt C' + 1) - (1)))) d_Md_behind_333 fF_Md_169 jv_Md ft_Md_depth (md_tg hK) rfl rfl ?_
            refine jx_ath (md_wi (k := 38) rfl) ?_
            refine jx_aload_n d_Md_behind_336 2 rfl ?_
            refine jx_callV (M2 := mm_Md_next) rfl (md_tg hK) lk_Md_176 wi_Md_next ws_Md_next d_Md_behind_337 (c_Md_next l G (d - 1) (by omega) (s := (mi (mi (mi (mai (m_give s1 f C') 25 (lfts C') (nI (f.2.1))) 37 (nI ((lfts C') + (1)))) 35 (nI ((C'.length + 1) - (1)))) 38 (nI ((dpt C' + 1) - (1))))) (B := B) (n := n) (p := c.2.2.1) hK (show MT (m_give s1 f C') B n from hT1.give) hM1.1 hc1) cd_Md_next rfl rfl (Nat.le_of_ble_eq_true rfl) (jm_fok (by omega)) (jm_look (by decide) (by omega)) ?_
            refine jx_aload_n d_Md_behind_340 2 rfl ?_
            refine jx_iconst (v0 := 3) d_Md_behind_341 (by decide) ?_
            obtain ⟨v2, g2, hC2, rfl, s2, rfl, hAs2, hFs2⟩ := c_Md_settle l G (d - 1) (by omega) (h := h) (a := a) (q := 3) hK (hAs1.fn hf7 hf9 hg) (by decide) (by decide)
            refine jx_callV (M2 := mm_Md_settle) rfl (md_tg hK) lk_Md_179 wi_Md_settle ws_Md_settle d_Md_behind_342 hC2 cd_Md_settle rfl rfl (Nat.le_of_ble_eq_true rfl) (jm_fok (by omega)) (jm_look (by decide) (by omega)) ?_
            refine jx_iconst (v0 := 0) d_Md_behind_345 (by decide) ?_
            exact jx_zret d_Md_behind_346 rfl (by first | rfl | decide) (⟨_, rfl, rfl, s2, rfl, hAs2, (((Fix.give hFs1).push.mi (by decide)).mi (by decide)).nx.trans hFs2⟩)
        · omega
