set_option maxHeartbeats 4000000 in
set_option maxRecDepth 100000 in
theorem c_Md_newNode (l : Launch) (G : jm_G) (d : Nat) {h : jm_H} {a : Nat} {s : MS} {k : Nat} {kd : Int32} {amt : Int64} (hK : MdK h a) (hk : s.1 32 = nI k) (hk40 : k < 40) : jm_C l G mm_Md_newNode d [.ref a, .int kd, .long amt] (mdH h a s) (some (.int (nI k))) (mdH h a (m_node s k kd amt)) := by
  refine jm_ofE (by decide) rfl (Nat.le_of_ble_eq_true rfl) ?_
  refine jx_aload_n d_Md_newNode_0 0 rfl ?_
  refine jx_get d_Md_newNode_1 fF_Md_154 (md_tg hK) ((show (mdH h a s).2.2.2 a 32 = Value.int (s.1 32) from md_ri rfl).trans (congrArg Value.int hk)) ?_
  refine jx_bipush (v0 := 40) d_Md_newNode_4 (by decide) ?_
  refine jx_icmp_neN (tgt := 20) (k) (40) d_Md_newNode_6 rfl rfl (by omega) (by omega) (by decide) (fun c1 => ?_) (fun c1 => ?_)
  ·
    refine jx_aload_n d_Md_newNode_20 0 rfl ?_
    refine jx_get d_Md_newNode_21 fF_Md_60 (md_tg hK) (md_rr hK (k := 26) (j := 17) rfl rfl rfl) ?_
    refine jx_aload_n d_Md_newNode_24 0 rfl ?_
    refine jx_get d_Md_newNode_25 fF_Md_154 (md_tg hK) ((show (mdH h a s).2.2.2 a 32 = Value.int (s.1 32) from md_ri rfl).trans (congrArg Value.int hk)) ?_
    refine jx_iload_n d_Md_newNode_28 1 rfl ?_
    refine jx_iast d_Md_newNode_29 (md_ta hK (j := 17) rfl) rfl (jm_vinN (show k < 40 by omega) (by decide)) ?_
    refine jx_ath ((jm_putN (show k < 2 ^ 31 by omega)).trans (md_wai (j := 17) (show k < 40 by omega))) ?_
    refine jx_aload_n d_Md_newNode_30 0 rfl ?_
    refine jx_get d_Md_newNode_31 fF_Md_63 (md_tg hK) (md_rr hK (k := 27) (j := 18) rfl rfl rfl) ?_
    refine jx_aload_n d_Md_newNode_34 0 rfl ?_
    refine jx_get d_Md_newNode_35 fF_Md_154 (md_tg hK) ((show (mdH h a (mai s 17 k kd)).2.2.2 a 32 = Value.int (s.1 32) from md_ri rfl).trans (congrArg Value.int hk)) ?_
    refine jx_iconst (v0 := -1) d_Md_newNode_38 (by decide) ?_
    refine jx_iast d_Md_newNode_39 (md_ta hK (j := 18) rfl) rfl (jm_vinN (show k < 40 by omega) (by decide)) ?_
    refine jx_ath ((jm_putN (show k < 2 ^ 31 by omega)).trans (md_wai (j := 18) (show k < 40 by omega))) ?_
    refine jx_aload_n d_Md_newNode_40 0 rfl ?_
    refine jx_get d_Md_newNode_41 fF_Md_66 (md_tg hK) (md_rr hK (k := 28) (j := 19) rfl rfl rfl) ?_
    refine jx_aload_n d_Md_newNode_44 0 rfl ?_
    refine jx_get d_Md_newNode_45 fF_Md_154 (md_tg hK) ((show (mdH h a (mai (mai s 17 k kd) 18 k (-1))).2.2.2 a 32 = Value.int (s.1 32) from md_ri rfl).trans (congrArg Value.int hk)) ?_
    refine jx_iconst (v0 := -1) d_Md_newNode_48 (by decide) ?_
    refine jx_iast d_Md_newNode_49 (md_ta hK (j := 19) rfl) rfl (jm_vinN (show k < 40 by omega) (by decide)) ?_
    refine jx_ath ((jm_putN (show k < 2 ^ 31 by omega)).trans (md_wai (j := 19) (show k < 40 by omega))) ?_
    refine jx_aload_n d_Md_newNode_50 0 rfl ?_
    refine jx_get d_Md_newNode_51 fF_Md_69 (md_tg hK) (md_rr hK (k := 29) (j := 20) rfl rfl rfl) ?_
    refine jx_aload_n d_Md_newNode_54 0 rfl ?_
    refine jx_get d_Md_newNode_55 fF_Md_154 (md_tg hK) ((show (mdH h a (mai (mai (mai s 17 k kd) 18 k (-1)) 19 k (-1))).2.2.2 a 32 = Value.int (s.1 32) from md_ri rfl).trans (congrArg Value.int hk)) ?_
    refine jx_iconst (v0 := -1) d_Md_newNode_58 (by decide) ?_
    refine jx_iast d_Md_newNode_59 (md_ta hK (j := 20) rfl) rfl (jm_vinN (show k < 40 by omega) (by decide)) ?_
    refine jx_ath ((jm_putN (show k < 2 ^ 31 by omega)).trans (md_wai (j := 20) (show k < 40 by omega))) ?_
    refine jx_aload_n d_Md_newNode_60 0 rfl ?_
    refine jx_get d_Md_newNode_61 fF_Md_72 (md_tg hK) (md_rr hK (k := 30) (j := 21) rfl rfl rfl) ?_
    refine jx_aload_n d_Md_newNode_64 0 rfl ?_
    refine jx_get d_Md_newNode_65 fF_Md_154 (md_tg hK) ((show (mdH h a (mai (mai (mai (mai s 17 k kd) 18 k (-1)) 19 k (-1)) 20 k (-1))).2.2.2 a 32 = Value.int (s.1 32) from md_ri rfl).trans (congrArg Value.int hk)) ?_
    refine jx_lload_n d_Md_newNode_68 2 rfl ?_
    refine jx_last d_Md_newNode_69 (md_ta hK (j := 21) rfl) rfl (jm_vinN (show k < 40 by omega) (by decide)) ?_
    refine jx_ath ((jm_putN (show k < 2 ^ 31 by omega)).trans (md_wal (j := 21) (show k < 40 by omega))) ?_
    refine jx_aload_n d_Md_newNode_70 0 rfl ?_
    refine jx_get d_Md_newNode_71 fF_Md_75 (md_tg hK) (md_rr hK (k := 31) (j := 22) rfl rfl rfl) ?_
    refine jx_aload_n d_Md_newNode_74 0 rfl ?_
    refine jx_get d_Md_newNode_75 fF_Md_154 (md_tg hK) ((show (mdH h a (mal (mai (mai (mai (mai s 17 k kd) 18 k (-1)) 19 k (-1)) 20 k (-1)) 21 k amt)).2.2.2 a 32 = Value.int (s.1 32) from md_ri rfl).trans (congrArg Value.int hk)) ?_
    refine jx_aload_n d_Md_newNode_78 0 rfl ?_
    refine jx_get d_Md_newNode_79 fF_Md_114 (md_tg hK) (show (mdH h a (mal (mai (mai (mai (mai s 17 k kd) 18 k (-1)) 19 k (-1)) 20 k (-1)) 21 k amt)).2.2.2 a 23 = Value.int (s.1 23) from md_ri rfl) ?_
    refine jx_iast d_Md_newNode_82 (md_ta hK (j := 22) rfl) rfl (jm_vinN (show k < 40 by omega) (by decide)) ?_
    refine jx_ath ((jm_putN (show k < 2 ^ 31 by omega)).trans (md_wai (j := 22) (show k < 40 by omega))) ?_
    refine jx_aload_n d_Md_newNode_83 0 rfl ?_
    refine jx_dup d_Md_newNode_84 rfl ?_
    refine jx_get d_Md_newNode_85 fF_Md_154 (md_tg hK) ((show (mdH h a (mai (mal (mai (mai (mai (mai s 17 k kd) 18 k (-1)) 19 k (-1)) 20 k (-1)) 21 k amt) 22 k (s.1 23))).2.2.2 a 32 = Value.int (s.1 32) from md_ri rfl).trans (congrArg Value.int hk)) ?_
    refine jx_iconst (v0 := 1) d_Md_newNode_88 (by decide) ?_
    refine jx_iadd d_Md_newNode_89 ?_
    refine jx_ati (nI_add (k) (1)) ?_
    refine jx_put (v0 := .int (nI ((k) + (1)))) d_Md_newNode_90 fF_Md_154 jv_Md ft_Md_newCount (md_tg hK) rfl rfl ?_
    refine jx_ath (md_wi (k := 32) rfl) ?_
    refine jx_aload_n d_Md_newNode_93 0 rfl ?_
    refine jx_get d_Md_newNode_94 fF_Md_154 (md_tg hK) (show (mdH h a (mi (mai (mal (mai (mai (mai (mai s 17 k kd) 18 k (-1)) 19 k (-1)) 20 k (-1)) 21 k amt) 22 k (s.1 23)) 32 (nI ((k) + (1))))).2.2.2 a 32 = Value.int (nI ((k) + (1))) from md_ri rfl) ?_
    refine jx_iconst (v0 := 1) d_Md_newNode_97 (by decide) ?_
    refine jx_isub d_Md_newNode_98 ?_
    refine jx_ati (pk_sub (a := (k) + (1)) (b := 1) (by omega)) ?_
    exact jx_iret d_Md_newNode_99 rfl (⟨rfl, rfl⟩)
  · omega
set_option maxHeartbeats 4000000 in
set_option maxRecDepth 100000 in
theorem c_Md_newNode_full (l : Launch) (G : jm_G) (d : Nat) (hd : 1 ≤ d) {h : jm_H} {a : Nat} {s : MS} {k : Nat} {kd : Int32} {amt : Int64} (hK : MdK h a) (hk : s.1 32 = nI k) (hk40 : k = 40) : jm_C l G mm_Md_newNode d [.ref a, .int kd, .long amt] (mdH h a s) (some (.int 0)) (mdH h a (m_fail s 3 (s.1 23))) := by
  refine jm_ofE (by decide) rfl (Nat.le_of_ble_eq_true rfl) ?_
  refine jx_aload_n d_Md_newNode_0 0 rfl ?_
  refine jx_get d_Md_newNode_1 fF_Md_154 (md_tg hK) ((show (mdH h a s).2.2.2 a 32 = Value.int (s.1 32) from md_ri rfl).trans (congrArg Value.int hk)) ?_
  refine jx_bipush (v0 := 40) d_Md_newNode_4 (by decide) ?_
  refine jx_icmp_neN (tgt := 20) (k) (40) d_Md_newNode_6 rfl rfl (by omega) (by omega) (by decide) (fun c1 => ?_) (fun c1 => ?_)
  · omega
  ·
    refine jx_aload_n d_Md_newNode_9 0 rfl ?_
    refine jx_iconst (v0 := 3) d_Md_newNode_10 (by decide) ?_
    refine jx_aload_n d_Md_newNode_11 0 rfl ?_
    refine jx_get d_Md_newNode_12 fF_Md_114 (md_tg hK) (show (mdH h a s).2.2.2 a 23 = Value.int (s.1 23) from md_ri rfl) ?_
    refine jx_callV (M2 := mm_Md_fail) rfl (md_tg hK) lk_Md_150 wi_Md_fail ws_Md_fail d_Md_newNode_15 (c_Md_fail l G (d - 1) (s := s) (c := 3) (w := s.1 23) hK) cd_Md_fail rfl rfl (Nat.le_of_ble_eq_true rfl) (jm_fok (by omega)) (jm_look (by decide) (by omega)) ?_
    refine jx_iconst (v0 := 0) d_Md_newNode_18 (by decide) ?_
    exact jx_iret d_Md_newNode_19 rfl (⟨rfl, rfl⟩)
set_option maxHeartbeats 4000000 in
set_option maxRecDepth 100000 in
theorem c_Md_await (l : Launch) (G : jm_G) (d : Nat) {h : jm_H} {a : Nat} {s : MS} {w : Nat} {nd : Int32} (hK : MdK h a) (hw : s.1 35 = nI w) (hw99 : w < 100) : jm_C l G mm_Md_await d [.ref a, .int nd] (mdH h a s) none (mdH h a (m_await s w nd)) := by
  refine jm_ofE (by decide) rfl (Nat.le_of_ble_eq_true rfl) ?_
  refine jx_aload_n d_Md_await_0 0 rfl ?_
  refine jx_get d_Md_await_1 fF_Md_78 (md_tg hK) (md_rr hK (k := 33) (j := 23) rfl rfl rfl) ?_
  refine jx_aload_n d_Md_await_4 0 rfl ?_
  refine jx_get d_Md_await_5 fF_Md_157 (md_tg hK) ((show (mdH h a s).2.2.2 a 35 = Value.int (s.1 35) from md_ri rfl).trans (congrArg Value.int hw)) ?_
  refine jx_iload_n d_Md_await_8 1 rfl ?_
  refine jx_iast d_Md_await_9 (md_ta hK (j := 23) rfl) rfl (jm_vinN (show w < 100 by omega) (by decide)) ?_
  refine jx_ath ((jm_putN (show w < 2 ^ 31 by omega)).trans (md_wai (j := 23) (show w < 100 by omega))) ?_
  refine jx_aload_n d_Md_await_10 0 rfl ?_
  refine jx_get d_Md_await_11 fF_Md_81 (md_tg hK) (md_rr hK (k := 34) (j := 24) rfl rfl rfl) ?_
  refine jx_aload_n d_Md_await_14 0 rfl ?_
  refine jx_get d_Md_await_15 fF_Md_157 (md_tg hK) ((show (mdH h a (mai s 23 w nd)).2.2.2 a 35 = Value.int (s.1 35) from md_ri rfl).trans (congrArg Value.int hw)) ?_
  refine jx_iconst (v0 := 0) d_Md_await_18 (by decide) ?_
  refine jx_iast d_Md_await_19 (md_ta hK (j := 24) rfl) rfl (jm_vinN (show w < 100 by omega) (by decide)) ?_
  refine jx_ath ((jm_putN (show w < 2 ^ 31 by omega)).trans (md_wai (j := 24) (show w < 100 by omega))) ?_
  refine jx_aload_n d_Md_await_20 0 rfl ?_
  refine jx_dup d_Md_await_21 rfl ?_
  refine jx_get d_Md_await_22 fF_Md_157 (md_tg hK) ((show (mdH h a (mai (mai s 23 w nd) 24 w 0)).2.2.2 a 35 = Value.int (s.1 35) from md_ri rfl).trans (congrArg Value.int hw)) ?_
  refine jx_iconst (v0 := 1) d_Md_await_25 (by decide) ?_
  refine jx_iadd d_Md_await_26 ?_
  refine jx_ati (nI_add (w) (1)) ?_
  refine jx_put (v0 := .int (nI ((w) + (1)))) d_Md_await_27 fF_Md_157 jv_Md ft_Md_waitingCount (md_tg hK) rfl rfl ?_
  refine jx_ath (md_wi (k := 35) rfl) ?_
  exact jx_vret d_Md_await_30 rfl (⟨rfl, rfl⟩)
set_option maxHeartbeats 4000000 in
set_option maxRecDepth 100000 in
theorem c_Md_deeper (l : Launch) (G : jm_G) (d : Nat) {h : jm_H} {a : Nat} {s : MS} {p : Nat} (hK : MdK h a) (hp : s.1 38 = nI p) (hp20 : p < 20) : jm_C l G mm_Md_deeper d [.ref a] (mdH h a s) none (mdH h a (mi s 38 (nI (p + 1)))) := by
  refine jm_ofE (by decide) rfl (Nat.le_of_ble_eq_true rfl) ?_
  refine jx_aload_n d_Md_deeper_0 0 rfl ?_
  refine jx_get d_Md_deeper_1 fF_Md_169 (md_tg hK) ((show (mdH h a s).2.2.2 a 38 = Value.int (s.1 38) from md_ri rfl).trans (congrArg Value.int hp)) ?_
  refine jx_bipush (v0 := 20) d_Md_deeper_4 (by decide) ?_
  refine jx_icmp_neN (tgt := 18) (p) (20) d_Md_deeper_6 rfl rfl (by omega) (by omega) (by decide) (fun c1 => ?_) (fun c1 => ?_)
  ·
    refine jx_aload_n d_Md_deeper_18 0 rfl ?_
    refine jx_dup d_Md_deeper_19 rfl ?_
    refine jx_get d_Md_deeper_20 fF_Md_169 (md_tg hK) ((show (mdH h a s).2.2.2 a 38 = Value.int (s.1 38) from md_ri rfl).trans (congrArg Value.int hp)) ?_
    refine jx_iconst (v0 := 1) d_Md_deeper_23 (by decide) ?_
    refine jx_iadd d_Md_deeper_24 ?_
    refine jx_ati (nI_add (p) (1)) ?_
    refine jx_put (v0 := .int (nI ((p) + (1)))) d_Md_deeper_25 fF_Md_169 jv_Md ft_Md_depth (md_tg hK) rfl rfl ?_
    refine jx_ath (md_wi (k := 38) rfl) ?_
    exact jx_vret d_Md_deeper_28 rfl (⟨rfl, rfl⟩)
  · omega
set_option maxHeartbeats 4000000 in
set_option maxRecDepth 100000 in
theorem c_Md_deeper_full (l : Launch) (G : jm_G) (d : Nat) (hd : 1 ≤ d) {h : jm_H} {a : Nat} {s : MS} {p : Nat} (hK : MdK h a) (hp : s.1 38 = nI p) (hp20 : p = 20) : jm_C l G mm_Md_deeper d [.ref a] (mdH h a s) none (mdH h a (mi (m_fail s 3 (s.1 23)) 38 (nI (p + 1)))) := by
  refine jm_ofE (by decide) rfl (Nat.le_of_ble_eq_true rfl) ?_
  refine jx_aload_n d_Md_deeper_0 0 rfl ?_
  refine jx_get d_Md_deeper_1 fF_Md_169 (md_tg hK) ((show (mdH h a s).2.2.2 a 38 = Value.int (s.1 38) from md_ri rfl).trans (congrArg Value.int hp)) ?_
  refine jx_bipush (v0 := 20) d_Md_deeper_4 (by decide) ?_
  refine jx_icmp_neN (tgt := 18) (p) (20) d_Md_deeper_6 rfl rfl (by omega) (by omega) (by decide) (fun c1 => ?_) (fun c1 => ?_)
  · omega
  ·
    refine jx_aload_n d_Md_deeper_9 0 rfl ?_
    refine jx_iconst (v0 := 3) d_Md_deeper_10 (by decide) ?_
    refine jx_aload_n d_Md_deeper_11 0 rfl ?_
    refine jx_get d_Md_deeper_12 fF_Md_114 (md_tg hK) (show (mdH h a s).2.2.2 a 23 = Value.int (s.1 23) from md_ri rfl) ?_
    refine jx_callV (M2 := mm_Md_fail) rfl (md_tg hK) lk_Md_150 wi_Md_fail ws_Md_fail d_Md_deeper_15 (c_Md_fail l G (d - 1) (s := s) (c := 3) (w := s.1 23) hK) cd_Md_fail rfl rfl (Nat.le_of_ble_eq_true rfl) (jm_fok (by omega)) (jm_look (by decide) (by omega)) ?_
    refine jx_aload_n d_Md_deeper_18 0 rfl ?_
    refine jx_dup d_Md_deeper_19 rfl ?_
    refine jx_get d_Md_deeper_20 fF_Md_169 (md_tg hK) ((show (mdH h a (m_fail s 3 (s.1 23))).2.2.2 a 38 = Value.int ((m_fail s 3 (s.1 23)).1 38) from md_ri rfl).trans (congrArg Value.int (by unfold m_fail; split <;> exact hp))) ?_
    refine jx_iconst (v0 := 1) d_Md_deeper_23 (by decide) ?_
    refine jx_iadd d_Md_deeper_24 ?_
    refine jx_ati (nI_add (p) (1)) ?_
    refine jx_put (v0 := .int (nI ((p) + (1)))) d_Md_deeper_25 fF_Md_169 jv_Md ft_Md_depth (md_tg hK) rfl rfl ?_
    refine jx_ath (md_wi (k := 38) rfl) ?_
    exact jx_vret d_Md_deeper_28 rfl (⟨rfl, rfl⟩)
set_option maxHeartbeats 4000000 in
set_option maxRecDepth 100000 in
theorem c_Md_isOp1 (l : Launch) (G : jm_G) (d : Nat) {h : jm_H} {a : Nat} {s : MS} {i kd : Nat} (hK : MdK h a) (hk : s.2.2.1 17 i = nI kd) (hi : i < 40) (h2 : 2 ≤ kd) (h6 : kd ≤ 6) : jm_C l G mm_Md_isOperator d [.ref a, .int (nI i)] (mdH h a s) (some (.int 1)) (mdH h a s) := by
  refine jm_ofE (by decide) rfl (Nat.le_of_ble_eq_true rfl) ?_
  refine jx_iload_n d_Md_isOperator_0 1 rfl ?_
  refine jx_if_ltN (tgt := 29) (i) d_Md_isOperator_1 rfl (by omega) (by decide) (fun c1 => ?_) (fun c1 => ?_)
  · omega
  ·
    refine jx_aload_n d_Md_isOperator_4 0 rfl ?_
    refine jx_get d_Md_isOperator_5 fF_Md_60 (md_tg hK) (md_rr hK (k := 26) (j := 17) rfl rfl rfl) ?_
    refine jx_iload_n d_Md_isOperator_8 1 rfl ?_
    refine jx_iald d_Md_isOperator_9 (md_ta hK (j := 17) rfl) rfl (jm_vinN (show i < 40 by omega) (by decide)) (jm_atN (show i < 2 ^ 31 by omega) ((show (mdH h a s).2.2.2 (a + 17) i = Value.int (s.2.2.1 17 i) from md_rai (j := 17) (show i < 40 by omega)).trans (congrArg Value.int hk))) ?_
    refine jx_iconst (v0 := 2) d_Md_isOperator_10 (by decide) ?_
    refine jx_icmp_ltN (tgt := 29) (kd) (2) d_Md_isOperator_11 rfl rfl (by omega) (by omega) (by decide) (fun c2 => ?_) (fun c2 => ?_)
    · omega
    ·
      refine jx_aload_n d_Md_isOperator_14 0 rfl ?_
      refine jx_get d_Md_isOperator_15 fF_Md_60 (md_tg hK) (md_rr hK (k := 26) (j := 17) rfl rfl rfl) ?_
      refine jx_iload_n d_Md_isOperator_18 1 rfl ?_
      refine jx_iald d_Md_isOperator_19 (md_ta hK (j := 17) rfl) rfl (jm_vinN (show i < 40 by omega) (by decide)) (jm_atN (show i < 2 ^ 31 by omega) ((show (mdH h a s).2.2.2 (a + 17) i = Value.int (s.2.2.1 17 i) from md_rai (j := 17) (show i < 40 by omega)).trans (congrArg Value.int hk))) ?_
      refine jx_bipush (v0 := 6) d_Md_isOperator_20 (by decide) ?_
      refine jx_icmp_gtN (tgt := 29) (kd) (6) d_Md_isOperator_22 rfl rfl (by omega) (by omega) (by decide) (fun c3 => ?_) (fun c3 => ?_)
      · omega
      ·
        refine jx_iconst (v0 := 1) d_Md_isOperator_25 (by decide) ?_
        refine jx_goto (tgt := 30) d_Md_isOperator_26 (by decide) ?_
        exact jx_zret d_Md_isOperator_30 rfl (by first | rfl | decide) (⟨rfl, rfl⟩)
set_option maxHeartbeats 4000000 in
set_option maxRecDepth 100000 in
theorem c_Md_isOp0 (l : Launch) (G : jm_G) (d : Nat) {h : jm_H} {a : Nat} {s : MS} {i kd : Nat} (hK : MdK h a) (hk : s.2.2.1 17 i = nI kd) (hi : i < 40) (h6 : 7 ≤ kd) (h6b : kd < 100) : jm_C l G mm_Md_isOperator d [.ref a, .int (nI i)] (mdH h a s) (some (.int 0)) (mdH h a s) := by
  refine jm_ofE (by decide) rfl (Nat.le_of_ble_eq_true rfl) ?_
  refine jx_iload_n d_Md_isOperator_0 1 rfl ?_
  refine jx_if_ltN (tgt := 29) (i) d_Md_isOperator_1 rfl (by omega) (by decide) (fun c1 => ?_) (fun c1 => ?_)
  · omega
  ·
    refine jx_aload_n d_Md_isOperator_4 0 rfl ?_
    refine jx_get d_Md_isOperator_5 fF_Md_60 (md_tg hK) (md_rr hK (k := 26) (j := 17) rfl rfl rfl) ?_
    refine jx_iload_n d_Md_isOperator_8 1 rfl ?_
    refine jx_iald d_Md_isOperator_9 (md_ta hK (j := 17) rfl) rfl (jm_vinN (show i < 40 by omega) (by decide)) (jm_atN (show i < 2 ^ 31 by omega) ((show (mdH h a s).2.2.2 (a + 17) i = Value.int (s.2.2.1 17 i) from md_rai (j := 17) (show i < 40 by omega)).trans (congrArg Value.int hk))) ?_
    refine jx_iconst (v0 := 2) d_Md_isOperator_10 (by decide) ?_
    refine jx_icmp_ltN (tgt := 29) (kd) (2) d_Md_isOperator_11 rfl rfl (by omega) (by omega) (by decide) (fun c2 => ?_) (fun c2 => ?_)
    · omega
    ·
      refine jx_aload_n d_Md_isOperator_14 0 rfl ?_
      refine jx_get d_Md_isOperator_15 fF_Md_60 (md_tg hK) (md_rr hK (k := 26) (j := 17) rfl rfl rfl) ?_
      refine jx_iload_n d_Md_isOperator_18 1 rfl ?_
      refine jx_iald d_Md_isOperator_19 (md_ta hK (j := 17) rfl) rfl (jm_vinN (show i < 40 by omega) (by decide)) (jm_atN (show i < 2 ^ 31 by omega) ((show (mdH h a s).2.2.2 (a + 17) i = Value.int (s.2.2.1 17 i) from md_rai (j := 17) (show i < 40 by omega)).trans (congrArg Value.int hk))) ?_
      refine jx_bipush (v0 := 6) d_Md_isOperator_20 (by decide) ?_
      refine jx_icmp_gtN (tgt := 29) (kd) (6) d_Md_isOperator_22 rfl rfl (by omega) (by omega) (by decide) (fun c3 => ?_) (fun c3 => ?_)
      ·
        refine jx_iconst (v0 := 0) d_Md_isOperator_29 (by decide) ?_
        exact jx_zret d_Md_isOperator_30 rfl (by first | rfl | decide) (⟨rfl, rfl⟩)
      · omega
set_option maxHeartbeats 4000000 in
set_option maxRecDepth 100000 in
theorem c_Md_isOpn (l : Launch) (G : jm_G) (d : Nat) {h : jm_H} {a : Nat} {s : MS} (hK : MdK h a) : jm_C l G mm_Md_isOperator d [.ref a, .int (-1)] (mdH h a s) (some (.int 0)) (mdH h a s) := by
  refine jm_ofE (by decide) rfl (Nat.le_of_ble_eq_true rfl) ?_
  refine jx_iload_n d_Md_isOperator_0 1 rfl ?_
  refine jx_if_lt (tgt := 29) d_Md_isOperator_1 (by decide) (fun c1 => ?_) (fun c1 => absurd c1 (by decide))
  refine jx_iconst (v0 := 0) d_Md_isOperator_29 (by decide) ?_
  exact jx_zret d_Md_isOperator_30 rfl (by first | rfl | decide) (⟨rfl, rfl⟩)
def m_str (kd : Nat) : Nat := if kd = 6 then 3 else if kd = 4 ∨ kd = 5 then 2 else 1
def m_wants (kd : Nat) : Nat := if kd = 9 then 3 else 2
set_option maxHeartbeats 4000000 in
set_option maxRecDepth 100000 in
theorem c_Md_strength (l : Launch) (G : jm_G) (d : Nat) {h : jm_H} {kd : Nat} (hkd : kd < 100) : jm_C l G mm_Md_strength d [.int (nI kd)] h (some (.int (nI (m_str kd)))) h := by
  refine jm_ofE (by decide) rfl (Nat.le_of_ble_eq_true rfl) ?_
  refine jx_iload_n d_Md_strength_0 0 rfl ?_
  refine jx_bipush (v0 := 6) d_Md_strength_1 (by decide) ?_
  refine jx_icmp_neN (tgt := 10) (kd) (6) d_Md_strength_3 rfl rfl (by omega) (by omega) (by decide) (fun c1 => ?_) (fun c1 => ?_)
  ·
    refine jx_iload_n d_Md_strength_10 0 rfl ?_
    refine jx_iconst (v0 := 4) d_Md_strength_11 (by decide) ?_
    refine jx_icmp_eqN (tgt := 20) (kd) (4) d_Md_strength_12 rfl rfl (by omega) (by omega) (by decide) (fun c2 => ?_) (fun c2 => ?_)
    ·
      refine jx_iconst (v0 := 2) d_Md_strength_20 (by decide) ?_
      refine jx_goto (tgt := 25) d_Md_strength_21 (by decide) ?_
      exact jx_iret d_Md_strength_25 rfl (⟨by rw [show m_str kd = 2 by unfold m_str; (repeat' split) <;> omega]; rfl, rfl⟩)
    ·
      refine jx_iload_n d_Md_strength_15 0 rfl ?_
      refine jx_iconst (v0 := 5) d_Md_strength_16 (by decide) ?_
      refine jx_icmp_neN (tgt := 24) (kd) (5) d_Md_strength_17 rfl rfl (by omega) (by omega) (by decide) (fun c3 => ?_) (fun c3 => ?_)
      ·
        refine jx_iconst (v0 := 1) d_Md_strength_24 (by decide) ?_
        exact jx_iret d_Md_strength_25 rfl (⟨by rw [show m_str kd = 1 by unfold m_str; (repeat' split) <;> omega]; rfl, rfl⟩)
      ·
        refine jx_iconst (v0 := 2) d_Md_strength_20 (by decide) ?_
        refine jx_goto (tgt := 25) d_Md_strength_21 (by decide) ?_
        exact jx_iret d_Md_strength_25 rfl (⟨by rw [show m_str kd = 2 by unfold m_str; (repeat' split) <;> omega]; rfl, rfl⟩)
  ·
    refine jx_iconst (v0 := 3) d_Md_strength_6 (by decide) ?_
    refine jx_goto (tgt := 25) d_Md_strength_7 (by decide) ?_
    exact jx_iret d_Md_strength_25 rfl (⟨by rw [show m_str kd = 3 by unfold m_str; (repeat' split) <;> omega]; rfl, rfl⟩)
set_option maxHeartbeats 4000000 in
set_option maxRecDepth 100000 in
theorem c_Md_wants (l : Launch) (G : jm_G) (d : Nat) {h : jm_H} {kd : Nat} (hkd : kd < 100) : jm_C l G mm_Md_wants d [.int (nI kd)] h (some (.int (nI (m_wants kd)))) h := by
  refine jm_ofE (by decide) rfl (Nat.le_of_ble_eq_true rfl) ?_
  refine jx_iload_n d_Md_wants_0 0 rfl ?_
  refine jx_bipush (v0 := 9) d_Md_wants_1 (by decide) ?_
  refine jx_icmp_neN (tgt := 10) (kd) (9) d_Md_wants_3 rfl rfl (by omega) (by omega) (by decide) (fun c1 => ?_) (fun c1 => ?_)
  ·
    refine jx_iconst (v0 := 2) d_Md_wants_10 (by decide) ?_
    exact jx_iret d_Md_wants_11 rfl (⟨by rw [show m_wants kd = 2 by unfold m_wants; (repeat' split) <;> omega]; rfl, rfl⟩)
  ·
    refine jx_iconst (v0 := 3) d_Md_wants_6 (by decide) ?_
    refine jx_goto (tgt := 11) d_Md_wants_7 (by decide) ?_
    exact jx_iret d_Md_wants_11 rfl (⟨by rw [show m_wants kd = 3 by unfold m_wants; (repeat' split) <;> omega]; rfl, rfl⟩)
/-- what settling wants of a state -/
def WSt (s : MS) (C : List Fr) (nx : Nat) : Prop := s.1 35 = nI C.length ∧ s.1 37 = nI (lfts C + 1) ∧ s.1 38 = nI (dpt C) ∧ dpt C ≤ 20 ∧ nx ≤ 40 ∧ Ctx s C nx
theorem ASt.weak {s : MS} {B : Nat → Int32} {n : Nat} {c : Cur} {k : Nat} {C : List Fr} {t : Term} (h : ASt s B n c k C t) : ∃ nx, WSt s C nx := by
  obtain ⟨⟨hT, hM, hc, hk', hk40, hd, hd20, hw, hz⟩, hp, i, lo, hi, hR, hX⟩ := h
  have := hR.lt
  exact ⟨lo, hw, hp, hd, hd20, by omega, hX⟩
theorem f_str_m {f : Fr} (h2 : 2 ≤ f.1) (h6 : f.1 ≤ 6) : f_str f = m_str f.1 := by
  unfold f_str m_str
  repeat' split
  all_goals first | rfl | omega
theorem f_str_0 {f : Fr} (h7 : 7 ≤ f.1) : f_str f = 0 := by
  unfold f_str
  rw [if_neg (by omega), if_neg (by omega), if_neg (by omega)]
set_option maxHeartbeats 4000000 in
set_option maxRecDepth 100000 in
theorem lp_Md_settle (l : Launch) (G : jm_G) {h : jm_H} {a q : Nat} {n0 s0 d : Nat} {Post : jm_r → jm_H → Prop} (hd : 1 ≤ d) (hK : MdK h a) (h1 : 1 ≤ q) (h3 : q ≤ 3) (Q : MS → List Fr → Term → Prop) (hQW : ∀ s C t, Q s C t → ∃ nx, WSt s C nx) (hn : ∀ s f C t, Q s (f :: C) t → f.1 = 6 → Q (m_sneg s f C) C (f_mk f t)) (hb : ∀ s f C t, Q s (f :: C) t → f_op f = true → Q (m_sbin s f C) C (f_mk f t)) (C : List Fr) : ∀ {s : MS} {t : Term}, Q s C t → (∀ {s' : MS}, Q s' (stl q C t).1 (stl q C t).2 → jm_X l G mm_Md_settle n0 s0 (jm_zn G d n0 s0) Post 170 [(0, .ref a), (1, .int (nI q))] [] (mdH h a s')) → jm_X l G mm_Md_settle n0 s0 (jm_zn G d n0 s0) Post 0 [(0, .ref a), (1, .int (nI q))] [] (mdH h a s) := by
  induction C with
  | nil =>
    intro s t hQ kk
    obtain ⟨nx, hW⟩ := hQW _ _ _ hQ
    refine jx_aload_n d_Md_settle_0 0 rfl ?_
    refine jx_get d_Md_settle_1 fF_Md_157 (md_tg hK) ((show (mdH h a s).2.2.2 a 35 = Value.int (s.1 35) from md_ri rfl).trans (congrArg Value.int hW.1)) ?_
    refine jx_if_le (tgt := 170) d_Md_settle_4 (by decide) (fun c1 => ?_) (fun c1 => absurd c1 (by decide))
    exact kk hQ
  | cons f C ih =>
    intro s t hQ kk
    obtain ⟨nx, hw, hp, hdp, hd20, hnx, hF, hX⟩ := hQW _ _ _ hQ
    have hw : s.1 35 = nI (C.length + 1) := hw
    have hlf := hX.lf
    have hg := hF.ge
    have hls := lfts_dpt (f :: C)
    have hlen : (f :: C).length = C.length + 1 := rfl
    have hl40 : lfts (f :: C) ≤ 40 := Nat.le_trans (Ctx.lf (s := s) (C := f :: C) ⟨hF, hX⟩) hnx
    have hlC := lfts_dpt C
    have hCl : C.length < 99 := by omega
    have hms : m_str f.1 ≤ 3 := by unfold m_str; (repeat' split) <;> omega
    have es : stl q (f :: C) t = if q ≤ f_str f then stl q C (f_mk f t) else (f :: C, t) := rfl
    rw [es] at kk
    rcases hF with ⟨a1, a1', a2, a3, a4, -⟩ | ⟨a1, a2, a3, a4, a5⟩ | ⟨a1, a2, a3⟩ | ⟨a1, a1', a2, a3, a5, a6, a7⟩
    · have hop : f_op f = true := fop_iff.mpr ⟨a1, a1'⟩
      have hi40 : f.2.1 < 40 := by omega
      rw [lfts_op hop] at hp hl40
      rw [f_str_m a1 (by omega)] at kk
      by_cases hq : q ≤ m_str f.1
      · rw [if_pos hq] at kk
        refine jx_aload_n d_Md_settle_0 0 rfl ?_
        refine jx_get d_Md_settle_1 fF_Md_157 (md_tg hK) ((show (mdH h a s).2.2.2 a 35 = Value.int (s.1 35) from md_ri rfl).trans (congrArg Value.int hw)) ?_
        refine jx_if_leN (tgt := 170) (C.length + 1) d_Md_settle_4 rfl (by omega) (by decide) (fun c1 => ?_) (fun c1 => ?_)
        · omega
        ·
          refine jx_aload_n d_Md_settle_7 0 rfl ?_
          refine jx_aload_n d_Md_settle_8 0 rfl ?_
          refine jx_get d_Md_settle_9 fF_Md_78 (md_tg hK) (md_rr hK (k := 33) (j := 23) rfl rfl rfl) ?_
          refine jx_aload_n d_Md_settle_12 0 rfl ?_
          refine jx_get d_Md_settle_13 fF_Md_157 (md_tg hK) ((show (mdH h a s).2.2.2 a 35 = Value.int (s.1 35) from md_ri rfl).trans (congrArg Value.int hw)) ?_
          refine jx_iconst (v0 := 1) d_Md_settle_16 (by decide) ?_
          refine jx_isub d_Md_settle_17 ?_
          refine jx_ati (pk_sub (a := C.length + 1) (b := 1) (by omega)) ?_
          refine jx_iald d_Md_settle_18 (md_ta hK (j := 23) rfl) rfl (jm_vinN (show (C.length + 1) - (1) < 100 by omega) (by decide)) (jm_atN (show (C.length + 1) - (1) < 2 ^ 31 by omega) ((show (mdH h a s).2.2.2 (a + 23) ((C.length + 1) - (1)) = Value.int (s.2.2.1 23 ((C.length + 1) - (1))) from md_rai (j := 23) (show (C.length + 1) - (1) < 100 by omega)).trans (congrArg Value.int a2))) ?_
          refine jx_callV (M2 := mm_Md_isOperator) rfl (md_tg hK) lk_Md_160 wi_Md_isOperator ws_Md_isOperator d_Md_settle_19 (c_Md_isOp1 l G (d - 1) hK (i := f.2.1) (kd := f.1) a3 hi40 a1 (by omega) (s := s)) cd_Md_isOperator rfl rfl (Nat.le_of_ble_eq_true rfl) (jm_fok (by omega)) (jm_look (by decide) (by omega)) ?_
          refine jx_if_eq (tgt := 170) d_Md_settle_22 (by decide) (fun c2 => absurd c2 (by decide)) (fun c2 => ?_)
          refine jx_aload_n d_Md_settle_25 0 rfl ?_
          refine jx_get d_Md_settle_26 fF_Md_60 (md_tg hK) (md_rr hK (k := 26) (j := 17) rfl rfl rfl) ?_
          refine jx_aload_n d_Md_settle_29 0 rfl ?_
          refine jx_get d_Md_settle_30 fF_Md_78 (md_tg hK) (md_rr hK (k := 33) (j := 23) rfl rfl rfl) ?_
          refine jx_aload_n d_Md_settle_33 0 rfl ?_
          refine jx_get d_Md_settle_34 fF_Md_157 (md_tg hK) ((show (mdH h a s).2.2.2 a 35 = Value.int (s.1 35) from md_ri rfl).trans (congrArg Value.int hw)) ?_
          refine jx_iconst (v0 := 1) d_Md_settle_37 (by decide) ?_
          refine jx_isub d_Md_settle_38 ?_
          refine jx_ati (pk_sub (a := C.length + 1) (b := 1) (by omega)) ?_
          refine jx_iald d_Md_settle_39 (md_ta hK (j := 23) rfl) rfl (jm_vinN (show (C.length + 1) - (1) < 100 by omega) (by decide)) (jm_atN (show (C.length + 1) - (1) < 2 ^ 31 by omega) ((show (mdH h a s).2.2.2 (a + 23) ((C.length + 1) - (1)) = Value.int (s.2.2.1 23 ((C.length + 1) - (1))) from md_rai (j := 23) (show (C.length + 1) - (1) < 100 by omega)).trans (congrArg Value.int a2))) ?_
          refine jx_iald d_Md_settle_40 (md_ta hK (j := 17) rfl) rfl (jm_vinN (show f.2.1 < 40 by omega) (by decide)) (jm_atN (show f.2.1 < 2 ^ 31 by omega) ((show (mdH h a s).2.2.2 (a + 17) (f.2.1) = Value.int (s.2.2.1 17 (f.2.1)) from md_rai (j := 17) (show f.2.1 < 40 by omega)).trans (congrArg Value.int a3))) ?_
          refine jx_callS (M2 := mm_Md_strength) lk_Md_163 wt_Md_strength d_Md_settle_41 (c_Md_strength l G (d - 1) (kd := f.1) (by omega)) cd_Md_strength rfl rfl (Nat.le_of_ble_eq_true rfl) (jm_fok (by omega)) (jm_look (by decide) (by omega)) ?_
          refine jx_iload_n d_Md_settle_44 1 rfl ?_
          refine jx_icmp_ltN (tgt := 170) (m_str (f.1)) (q) d_Md_settle_45 rfl rfl (by omega) (by omega) (by decide) (fun c3 => ?_) (fun c3 => ?_)
          · omega
          ·
            refine jx_aload_n d_Md_settle_48 0 rfl ?_
            refine jx_get d_Md_settle_49 fF_Md_78 (md_tg hK) (md_rr hK (k := 33) (j := 23) rfl rfl rfl) ?_
            refine jx_aload_n d_Md_settle_52 0 rfl ?_
            refine jx_get d_Md_settle_53 fF_Md_157 (md_tg hK) ((show (mdH h a s).2.2.2 a 35 = Value.int (s.1 35) from md_ri rfl).trans (congrArg Value.int hw)) ?_
            refine jx_iconst (v0 := 1) d_Md_settle_56 (by decide) ?_
            refine jx_isub d_Md_settle_57 ?_
            refine jx_ati (pk_sub (a := C.length + 1) (b := 1) (by omega)) ?_
            refine jx_iald d_Md_settle_58 (md_ta hK (j := 23) rfl) rfl (jm_vinN (show (C.length + 1) - (1) < 100 by omega) (by decide)) (jm_atN (show (C.length + 1) - (1) < 2 ^ 31 by omega) ((show (mdH h a s).2.2.2 (a + 23) ((C.length + 1) - (1)) = Value.int (s.2.2.1 23 ((C.length + 1) - (1))) from md_rai (j := 23) (show (C.length + 1) - (1) < 100 by omega)).trans (congrArg Value.int a2))) ?_
            refine jx_istore_n (lv' := [(2, .int (nI (f.2.1))), (0, .ref (a)), (1, .int (nI (q)))]) d_Md_settle_59 (by decide) rfl ?_
            refine jx_aload_n d_Md_settle_60 1 rfl ?_
            refine jx_dup d_Md_settle_61 rfl ?_
            refine jx_get d_Md_settle_62 fF_Md_157 (md_tg hK) ((show (mdH h a s).2.2.2 a 35 = Value.int (s.1 35) from md_ri rfl).trans (congrArg Value.int hw)) ?_
            refine jx_iconst (v0 := 1) d_Md_settle_65 (by decide) ?_
            refine jx_isub d_Md_settle_66 ?_
            refine jx_ati (pk_sub (a := C.length + 1) (b := 1) (by omega)) ?_
            refine jx_put (v0 := .int (nI ((C.length + 1) - (1)))) d_Md_settle_67 fF_Md_157 jv_Md ft_Md_waitingCount (md_tg hK) rfl rfl ?_
            refine jx_ath (md_wi (k := 35) rfl) ?_
            refine jx_aload_n d_Md_settle_70 1 rfl ?_
            refine jx_get d_Md_settle_71 fF_Md_60 (md_tg hK) (md_rr hK (k := 26) (j := 17) rfl rfl rfl) ?_
            refine jx_iload_n d_Md_settle_74 0 rfl ?_
            refine jx_iald d_Md_settle_75 (md_ta hK (j := 17) rfl) rfl (jm_vinN (show f.2.1 < 40 by omega) (by decide)) (jm_atN (show f.2.1 < 2 ^ 31 by omega) ((show (mdH h a (mi s 35 (nI ((C.length + 1) - (1))))).2.2.2 (a + 17) (f.2.1) = Value.int (s.2.2.1 17 (f.2.1)) from md_rai (j := 17) (show f.2.1 < 40 by omega)).trans (congrArg Value.int a3))) ?_
            refine jx_bipush (v0 := 6) d_Md_settle_76 (by decide) ?_
            refine jx_icmp_neN (tgt := 111) (f.1) (6) d_Md_settle_78 rfl rfl (by omega) (by omega) (by decide) (fun c4 => ?_) (fun c4 => ?_)
            ·
              refine jx_aload_n d_Md_settle_111 1 rfl ?_
              refine jx_get d_Md_settle_112 fF_Md_66 (md_tg hK) (md_rr hK (k := 28) (j := 19) rfl rfl rfl) ?_
              refine jx_iload_n d_Md_settle_115 0 rfl ?_
              refine jx_aload_n d_Md_settle_116 1 rfl ?_
              refine jx_get d_Md_settle_117 fF_Md_84 (md_tg hK) (md_rr hK (k := 36) (j := 25) rfl rfl rfl) ?_
              refine jx_aload_n d_Md_settle_120 1 rfl ?_
              refine jx_get d_Md_settle_121 fF_Md_166 (md_tg hK) ((show (mdH h a (mi s 35 (nI ((C.length + 1) - (1))))).2.2.2 a 37 = Value.int (s.1 37) from md_ri rfl).trans (congrArg Value.int hp)) ?_
              refine jx_iconst (v0 := 1) d_Md_settle_124 (by decide) ?_
              refine jx_isub d_Md_settle_125 ?_
              refine jx_ati (pk_sub (a := lfts C + 1 + 1) (b := 1) (by omega)) ?_
              refine jx_iald d_Md_settle_126 (md_ta hK (j := 25) rfl) rfl (jm_vinN (show (lfts C + 1 + 1) - (1) < 100 by omega) (by decide)) (jm_atN (show (lfts C + 1 + 1) - (1) < 2 ^ 31 by omega) (show (mdH h a (mi s 35 (nI ((C.length + 1) - (1))))).2.2.2 (a + 25) ((lfts C + 1 + 1) - (1)) = Value.int (s.2.2.1 25 ((lfts C + 1 + 1) - (1))) from md_rai (j := 25) (show (lfts C + 1 + 1) - (1) < 100 by omega))) ?_
              refine jx_iast d_Md_settle_127 (md_ta hK (j := 19) rfl) rfl (jm_vinN (show f.2.1 < 40 by omega) (by decide)) ?_
              refine jx_ath ((jm_putN (show f.2.1 < 2 ^ 31 by omega)).trans (md_wai (j := 19) (show f.2.1 < 40 by omega))) ?_
              refine jx_aload_n d_Md_settle_128 1 rfl ?_
              refine jx_dup d_Md_settle_129 rfl ?_
              refine jx_get d_Md_settle_130 fF_Md_166 (md_tg hK) ((show (mdH h a (mai (mi s 35 (nI ((C.length + 1) - (1)))) 19 (f.2.1) (s.2.2.1 25 ((lfts C + 1 + 1) - (1))))).2.2.2 a 37 = Value.int (s.1 37) from md_ri rfl).trans (congrArg Value.int hp)) ?_
              refine jx_iconst (v0 := 1) d_Md_settle_133 (by decide) ?_
              refine jx_isub d_Md_settle_134 ?_
              refine jx_ati (pk_sub (a := lfts C + 1 + 1) (b := 1) (by omega)) ?_
              refine jx_put (v0 := .int (nI ((lfts C + 1 + 1) - (1)))) d_Md_settle_135 fF_Md_166 jv_Md ft_Md_partCount (md_tg hK) rfl rfl ?_
              refine jx_ath (md_wi (k := 37) rfl) ?_
              refine jx_aload_n d_Md_settle_138 1 rfl ?_
              refine jx_get d_Md_settle_139 fF_Md_63 (md_tg hK) (md_rr hK (k := 27) (j := 18) rfl rfl rfl) ?_
              refine jx_iload_n d_Md_settle_142 0 rfl ?_
              refine jx_aload_n d_Md_settle_143 1 rfl ?_
              refine jx_get d_Md_settle_144 fF_Md_84 (md_tg hK) (md_rr hK (k := 36) (j := 25) rfl rfl rfl) ?_
              refine jx_aload_n d_Md_settle_147 1 rfl ?_
              refine jx_get d_Md_settle_148 fF_Md_166 (md_tg hK) (show (mdH h a (mi (mai (mi s 35 (nI ((C.length + 1) - (1)))) 19 (f.2.1) (s.2.2.1 25 ((lfts C + 1 + 1) - (1)))) 37 (nI ((lfts C + 1 + 1) - (1))))).2.2.2 a 37 = Value.int (nI ((lfts C + 1 + 1) - (1))) from md_ri rfl) ?_
              refine jx_iconst (v0 := 1) d_Md_settle_151 (by decide) ?_
              refine jx_isub d_Md_settle_152 ?_
              refine jx_ati (pk_sub (a := (lfts C + 1 + 1) - (1)) (b := 1) (by omega)) ?_
              refine jx_iald d_Md_settle_153 (md_ta hK (j := 25) rfl) rfl (jm_vinN (show ((lfts C + 1 + 1) - (1)) - (1) < 100 by omega) (by decide)) (jm_atN (show ((lfts C + 1 + 1) - (1)) - (1) < 2 ^ 31 by omega) (show (mdH h a (mi (mai (mi s 35 (nI ((C.length + 1) - (1)))) 19 (f.2.1) (s.2.2.1 25 ((lfts C + 1 + 1) - (1)))) 37 (nI ((lfts C + 1 + 1) - (1))))).2.2.2 (a + 25) (((lfts C + 1 + 1) - (1)) - (1)) = Value.int (s.2.2.1 25 (((lfts C + 1 + 1) - (1)) - (1))) from md_rai (j := 25) (show ((lfts C + 1 + 1) - (1)) - (1) < 100 by omega))) ?_
              refine jx_iast d_Md_settle_154 (md_ta hK (j := 18) rfl) rfl (jm_vinN (show f.2.1 < 40 by omega) (by decide)) ?_
              refine jx_ath ((jm_putN (show f.2.1 < 2 ^ 31 by omega)).trans (md_wai (j := 18) (show f.2.1 < 40 by omega))) ?_
              refine jx_aload_n d_Md_settle_155 1 rfl ?_
              refine jx_get d_Md_settle_156 fF_Md_84 (md_tg hK) (md_rr hK (k := 36) (j := 25) rfl rfl rfl) ?_
              refine jx_aload_n d_Md_settle_159 1 rfl ?_
              refine jx_get d_Md_settle_160 fF_Md_166 (md_tg hK) (show (mdH h a (mai (mi (mai (mi s 35 (nI ((C.length + 1) - (1)))) 19 (f.2.1) (s.2.2.1 25 ((lfts C + 1 + 1) - (1)))) 37 (nI ((lfts C + 1 + 1) - (1)))) 18 (f.2.1) (s.2.2.1 25 (((lfts C + 1 + 1) - (1)) - (1))))).2.2.2 a 37 = Value.int (nI ((lfts C + 1 + 1) - (1))) from md_ri rfl) ?_
              refine jx_iconst (v0 := 1) d_Md_settle_163 (by decide) ?_
              refine jx_isub d_Md_settle_164 ?_
              refine jx_ati (pk_sub (a := (lfts C + 1 + 1) - (1)) (b := 1) (by omega)) ?_
              refine jx_iload_n d_Md_settle_165 0 rfl ?_
              refine jx_iast d_Md_settle_166 (md_ta hK (j := 25) rfl) rfl (jm_vinN (show ((lfts C + 1 + 1) - (1)) - (1) < 100 by omega) (by decide)) ?_
              refine jx_ath ((jm_putN (show ((lfts C + 1 + 1) - (1)) - (1) < 2 ^ 31 by omega)).trans (md_wai (j := 25) (show ((lfts C + 1 + 1) - (1)) - (1) < 100 by omega))) ?_
              refine jx_goto (tgt := 0) d_Md_settle_167 (by decide) ?_
              refine jx_lv [1, 2] rfl ?_
              exact ih (hb _ _ _ _ hQ hop) kk
            · omega
      · rw [if_neg hq] at kk
        refine jx_aload_n d_Md_settle_0 0 rfl ?_
        refine jx_get d_Md_settle_1 fF_Md_157 (md_tg hK) ((show (mdH h a s).2.2.2 a 35 = Value.int (s.1 35) from md_ri rfl).trans (congrArg Value.int hw)) ?_
        refine jx_if_leN (tgt := 170) (C.length + 1) d_Md_settle_4 rfl (by omega) (by decide) (fun c1 => ?_) (fun c1 => ?_)
        · omega
        ·
          refine jx_aload_n d_Md_settle_7 0 rfl ?_
          refine jx_aload_n d_Md_settle_8 0 rfl ?_
          refine jx_get d_Md_settle_9 fF_Md_78 (md_tg hK) (md_rr hK (k := 33) (j := 23) rfl rfl rfl) ?_
          refine jx_aload_n d_Md_settle_12 0 rfl ?_
          refine jx_get d_Md_settle_13 fF_Md_157 (md_tg hK) ((show (mdH h a s).2.2.2 a 35 = Value.int (s.1 35) from md_ri rfl).trans (congrArg Value.int hw)) ?_
          refine jx_iconst (v0 := 1) d_Md_settle_16 (by decide) ?_
          refine jx_isub d_Md_settle_17 ?_
          refine jx_ati (pk_sub (a := C.length + 1) (b := 1) (by omega)) ?_
          refine jx_iald d_Md_settle_18 (md_ta hK (j := 23) rfl) rfl (jm_vinN (show (C.length + 1) - (1) < 100 by omega) (by decide)) (jm_atN (show (C.length + 1) - (1) < 2 ^ 31 by omega) ((show (mdH h a s).2.2.2 (a + 23) ((C.length + 1) - (1)) = Value.int (s.2.2.1 23 ((C.length + 1) - (1))) from md_rai (j := 23) (show (C.length + 1) - (1) < 100 by omega)).trans (congrArg Value.int a2))) ?_
          refine jx_callV (M2 := mm_Md_isOperator) rfl (md_tg hK) lk_Md_160 wi_Md_isOperator ws_Md_isOperator d_Md_settle_19 (c_Md_isOp1 l G (d - 1) hK (i := f.2.1) (kd := f.1) a3 hi40 a1 (by omega) (s := s)) cd_Md_isOperator rfl rfl (Nat.le_of_ble_eq_true rfl) (jm_fok (by omega)) (jm_look (by decide) (by omega)) ?_
          refine jx_if_eq (tgt := 170) d_Md_settle_22 (by decide) (fun c2 => absurd c2 (by decide)) (fun c2 => ?_)
          refine jx_aload_n d_Md_settle_25 0 rfl ?_
          refine jx_get d_Md_settle_26 fF_Md_60 (md_tg hK) (md_rr hK (k := 26) (j := 17) rfl rfl rfl) ?_
          refine jx_aload_n d_Md_settle_29 0 rfl ?_
          refine jx_get d_Md_settle_30 fF_Md_78 (md_tg hK) (md_rr hK (k := 33) (j := 23) rfl rfl rfl) ?_
          refine jx_aload_n d_Md_settle_33 0 rfl ?_
          refine jx_get d_Md_settle_34 fF_Md_157 (md_tg hK) ((show (mdH h a s).2.2.2 a 35 = Value.int (s.1 35) from md_ri rfl).trans (congrArg Value.int hw)) ?_
          refine jx_iconst (v0 := 1) d_Md_settle_37 (by decide) ?_
          refine jx_isub d_Md_settle_38 ?_
          refine jx_ati (pk_sub (a := C.length + 1) (b := 1) (by omega)) ?_
          refine jx_iald d_Md_settle_39 (md_ta hK (j := 23) rfl) rfl (jm_vinN (show (C.length + 1) - (1) < 100 by omega) (by decide)) (jm_atN (show (C.length + 1) - (1) < 2 ^ 31 by omega) ((show (mdH h a s).2.2.2 (a + 23) ((C.length + 1) - (1)) = Value.int (s.2.2.1 23 ((C.length + 1) - (1))) from md_rai (j := 23) (show (C.length + 1) - (1) < 100 by omega)).trans (congrArg Value.int a2))) ?_
          refine jx_iald d_Md_settle_40 (md_ta hK (j := 17) rfl) rfl (jm_vinN (show f.2.1 < 40 by omega) (by decide)) (jm_atN (show f.2.1 < 2 ^ 31 by omega) ((show (mdH h a s).2.2.2 (a + 17) (f.2.1) = Value.int (s.2.2.1 17 (f.2.1)) from md_rai (j := 17) (show f.2.1 < 40 by omega)).trans (congrArg Value.int a3))) ?_
          refine jx_callS (M2 := mm_Md_strength) lk_Md_163 wt_Md_strength d_Md_settle_41 (c_Md_strength l G (d - 1) (kd := f.1) (by omega)) cd_Md_strength rfl rfl (Nat.le_of_ble_eq_true rfl) (jm_fok (by omega)) (jm_look (by decide) (by omega)) ?_
          refine jx_iload_n d_Md_settle_44 1 rfl ?_
          refine jx_icmp_ltN (tgt := 170) (m_str (f.1)) (q) d_Md_settle_45 rfl rfl (by omega) (by omega) (by decide) (fun c3 => ?_) (fun c3 => ?_)
          ·
            exact kk hQ
          · omega
    · have hop : ¬ f_op f = true := by rw [fop_iff]; omega
      have hi40 : f.2.1 < 40 := by omega
      rw [lfts_no hop] at hp hl40
      rw [dpt_no hop] at hdp
      rw [f_str_m (by omega) (by omega), a1, if_pos (show q ≤ m_str 6 from h3)] at kk
      have hq : q ≤ 3 := h3
      have hm6 : m_str 6 = 3 := rfl
      refine jx_aload_n d_Md_settle_0 0 rfl ?_
      refine jx_get d_Md_settle_1 fF_Md_157 (md_tg hK) ((show (mdH h a s).2.2.2 a 35 = Value.int (s.1 35) from md_ri rfl).trans (congrArg Value.int hw)) ?_
      refine jx_if_leN (tgt := 170) (C.length + 1) d_Md_settle_4 rfl (by omega) (by decide) (fun c1 => ?_) (fun c1 => ?_)
      · omega
      ·
        refine jx_aload_n d_Md_settle_7 0 rfl ?_
        refine jx_aload_n d_Md_settle_8 0 rfl ?_
        refine jx_get d_Md_settle_9 fF_Md_78 (md_tg hK) (md_rr hK (k := 33) (j := 23) rfl rfl rfl) ?_
        refine jx_aload_n d_Md_settle_12 0 rfl ?_
        refine jx_get d_Md_settle_13 fF_Md_157 (md_tg hK) ((show (mdH h a s).2.2.2 a 35 = Value.int (s.1 35) from md_ri rfl).trans (congrArg Value.int hw)) ?_
        refine jx_iconst (v0 := 1) d_Md_settle_16 (by decide) ?_
        refine jx_isub d_Md_settle_17 ?_
        refine jx_ati (pk_sub (a := C.length + 1) (b := 1) (by omega)) ?_
        refine jx_iald d_Md_settle_18 (md_ta hK (j := 23) rfl) rfl (jm_vinN (show (C.length + 1) - (1) < 100 by omega) (by decide)) (jm_atN (show (C.length + 1) - (1) < 2 ^ 31 by omega) ((show (mdH h a s).2.2.2 (a + 23) ((C.length + 1) - (1)) = Value.int (s.2.2.1 23 ((C.length + 1) - (1))) from md_rai (j := 23) (show (C.length + 1) - (1) < 100 by omega)).trans (congrArg Value.int a2))) ?_
        refine jx_callV (M2 := mm_Md_isOperator) rfl (md_tg hK) lk_Md_160 wi_Md_isOperator ws_Md_isOperator d_Md_settle_19 (c_Md_isOp1 l G (d - 1) hK (i := f.2.1) (kd := 6) a3 hi40 (by decide) (by decide) (s := s)) cd_Md_isOperator rfl rfl (Nat.le_of_ble_eq_true rfl) (jm_fok (by omega)) (jm_look (by decide) (by omega)) ?_
        refine jx_if_eq (tgt := 170) d_Md_settle_22 (by decide) (fun c2 => absurd c2 (by decide)) (fun c2 => ?_)
        refine jx_aload_n d_Md_settle_25 0 rfl ?_
        refine jx_get d_Md_settle_26 fF_Md_60 (md_tg hK) (md_rr hK (k := 26) (j := 17) rfl rfl rfl) ?_
        refine jx_aload_n d_Md_settle_29 0 rfl ?_
        refine jx_get d_Md_settle_30 fF_Md_78 (md_tg hK) (md_rr hK (k := 33) (j := 23) rfl rfl rfl) ?_
        refine jx_aload_n d_Md_settle_33 0 rfl ?_
        refine jx_get d_Md_settle_34 fF_Md_157 (md_tg hK) ((show (mdH h a s).2.2.2 a 35 = Value.int (s.1 35) from md_ri rfl).trans (congrArg Value.int hw)) ?_
        refine jx_iconst (v0 := 1) d_Md_settle_37 (by decide) ?_
        refine jx_isub d_Md_settle_38 ?_
        refine jx_ati (pk_sub (a := C.length + 1) (b := 1) (by omega)) ?_
        refine jx_iald d_Md_settle_39 (md_ta hK (j := 23) rfl) rfl (jm_vinN (show (C.length + 1) - (1) < 100 by omega) (by decide)) (jm_atN (show (C.length + 1) - (1) < 2 ^ 31 by omega) ((show (mdH h a s).2.2.2 (a + 23) ((C.length + 1) - (1)) = Value.int (s.2.2.1 23 ((C.length + 1) - (1))) from md_rai (j := 23) (show (C.length + 1) - (1) < 100 by omega)).trans (congrArg Value.int a2))) ?_
        refine jx_iald d_Md_settle_40 (md_ta hK (j := 17) rfl) rfl (jm_vinN (show f.2.1 < 40 by omega) (by decide)) (jm_atN (show f.2.1 < 2 ^ 31 by omega) ((show (mdH h a s).2.2.2 (a + 17) (f.2.1) = Value.int (s.2.2.1 17 (f.2.1)) from md_rai (j := 17) (show f.2.1 < 40 by omega)).trans (congrArg Value.int a3))) ?_
        refine jx_callS (M2 := mm_Md_strength) lk_Md_163 wt_Md_strength d_Md_settle_41 (c_Md_strength l G (d - 1) (kd := 6) (by omega)) cd_Md_strength rfl rfl (Nat.le_of_ble_eq_true rfl) (jm_fok (by omega)) (jm_look (by decide) (by omega)) ?_
        refine jx_iload_n d_Md_settle_44 1 rfl ?_
        refine jx_icmp_ltN (tgt := 170) (m_str 6) (q) d_Md_settle_45 rfl rfl (by omega) (by omega) (by decide) (fun c3 => ?_) (fun c3 => ?_)
        · exact absurd (show q ≤ 3 from hq) (by have : m_str 6 = 3 := rfl; omega)
        ·
          refine jx_aload_n d_Md_settle_48 0 rfl ?_
          refine jx_get d_Md_settle_49 fF_Md_78 (md_tg hK) (md_rr hK (k := 33) (j := 23) rfl rfl rfl) ?_
          refine jx_aload_n d_Md_settle_52 0 rfl ?_
          refine jx_get d_Md_settle_53 fF_Md_157 (md_tg hK) ((show (mdH h a s).2.2.2 a 35 = Value.int (s.1 35) from md_ri rfl).trans (congrArg Value.int hw)) ?_
          refine jx_iconst (v0 := 1) d_Md_settle_56 (by decide) ?_
          refine jx_isub d_Md_settle_57 ?_
          refine jx_ati (pk_sub (a := C.length + 1) (b := 1) (by omega)) ?_
          refine jx_iald d_Md_settle_58 (md_ta hK (j := 23) rfl) rfl (jm_vinN (show (C.length + 1) - (1) < 100 by omega) (by decide)) (jm_atN (show (C.length + 1) - (1) < 2 ^ 31 by omega) ((show (mdH h a s).2.2.2 (a + 23) ((C.length + 1) - (1)) = Value.int (s.2.2.1 23 ((C.length + 1) - (1))) from md_rai (j := 23) (show (C.length + 1) - (1) < 100 by omega)).trans (congrArg Value.int a2))) ?_
          refine jx_istore_n (lv' := [(2, .int (nI (f.2.1))), (0, .ref (a)), (1, .int (nI (q)))]) d_Md_settle_59 (by decide) rfl ?_
          refine jx_aload_n d_Md_settle_60 1 rfl ?_
          refine jx_dup d_Md_settle_61 rfl ?_
          refine jx_get d_Md_settle_62 fF_Md_157 (md_tg hK) ((show (mdH h a s).2.2.2 a 35 = Value.int (s.1 35) from md_ri rfl).trans (congrArg Value.int hw)) ?_
          refine jx_iconst (v0 := 1) d_Md_settle_65 (by decide) ?_
          refine jx_isub d_Md_settle_66 ?_
          refine jx_ati (pk_sub (a := C.length + 1) (b := 1) (by omega)) ?_
          refine jx_put (v0 := .int (nI ((C.length + 1) - (1)))) d_Md_settle_67 fF_Md_157 jv_Md ft_Md_waitingCount (md_tg hK) rfl rfl ?_
          refine jx_ath (md_wi (k := 35) rfl) ?_
          refine jx_aload_n d_Md_settle_70 1 rfl ?_
          refine jx_get d_Md_settle_71 fF_Md_60 (md_tg hK) (md_rr hK (k := 26) (j := 17) rfl rfl rfl) ?_
          refine jx_iload_n d_Md_settle_74 0 rfl ?_
          refine jx_iald d_Md_settle_75 (md_ta hK (j := 17) rfl) rfl (jm_vinN (show f.2.1 < 40 by omega) (by decide)) (jm_atN (show f.2.1 < 2 ^ 31 by omega) ((show (mdH h a (mi s 35 (nI ((C.length + 1) - (1))))).2.2.2 (a + 17) (f.2.1) = Value.int (s.2.2.1 17 (f.2.1)) from md_rai (j := 17) (show f.2.1 < 40 by omega)).trans (congrArg Value.int a3))) ?_
          refine jx_bipush (v0 := 6) d_Md_settle_76 (by decide) ?_
          refine jx_icmp_ne (tgt := 111) d_Md_settle_78 (by decide) (fun c4 => absurd c4 (by decide)) (fun c4 => ?_)
          refine jx_aload_n d_Md_settle_81 1 rfl ?_
          refine jx_get d_Md_settle_82 fF_Md_63 (md_tg hK) (md_rr hK (k := 27) (j := 18) rfl rfl rfl) ?_
          refine jx_iload_n d_Md_settle_85 0 rfl ?_
          refine jx_aload_n d_Md_settle_86 1 rfl ?_
          refine jx_get d_Md_settle_87 fF_Md_84 (md_tg hK) (md_rr hK (k := 36) (j := 25) rfl rfl rfl) ?_
          refine jx_aload_n d_Md_settle_90 1 rfl ?_
          refine jx_get d_Md_settle_91 fF_Md_166 (md_tg hK) ((show (mdH h a (mi s 35 (nI ((C.length + 1) - (1))))).2.2.2 a 37 = Value.int (s.1 37) from md_ri rfl).trans (congrArg Value.int hp)) ?_
          refine jx_iconst (v0 := 1) d_Md_settle_94 (by decide) ?_
          refine jx_isub d_Md_settle_95 ?_
          refine jx_ati (pk_sub (a := lfts C + 1) (b := 1) (by omega)) ?_
          refine jx_iald d_Md_settle_96 (md_ta hK (j := 25) rfl) rfl (jm_vinN (show (lfts C + 1) - (1) < 100 by omega) (by decide)) (jm_atN (show (lfts C + 1) - (1) < 2 ^ 31 by omega) (show (mdH h a (mi s 35 (nI ((C.length + 1) - (1))))).2.2.2 (a + 25) ((lfts C + 1) - (1)) = Value.int (s.2.2.1 25 ((lfts C + 1) - (1))) from md_rai (j := 25) (show (lfts C + 1) - (1) < 100 by omega))) ?_
          refine jx_iast d_Md_settle_97 (md_ta hK (j := 18) rfl) rfl (jm_vinN (show f.2.1 < 40 by omega) (by decide)) ?_
          refine jx_ath ((jm_putN (show f.2.1 < 2 ^ 31 by omega)).trans (md_wai (j := 18) (show f.2.1 < 40 by omega))) ?_
          refine jx_aload_n d_Md_settle_98 1 rfl ?_
          refine jx_dup d_Md_settle_99 rfl ?_
          refine jx_get d_Md_settle_100 fF_Md_169 (md_tg hK) ((show (mdH h a (mai (mi s 35 (nI ((C.length + 1) - (1)))) 18 (f.2.1) (s.2.2.1 25 ((lfts C + 1) - (1))))).2.2.2 a 38 = Value.int (s.1 38) from md_ri rfl).trans (congrArg Value.int hdp)) ?_
          refine jx_iconst (v0 := 1) d_Md_settle_103 (by decide) ?_
          refine jx_isub d_Md_settle_104 ?_
          refine jx_ati (pk_sub (a := dpt C + 1) (b := 1) (by omega)) ?_
          refine jx_put (v0 := .int (nI ((dpt C + 1) - (1)))) d_Md_settle_105 fF_Md_169 jv_Md ft_Md_depth (md_tg hK) rfl rfl ?_
          refine jx_ath (md_wi (k := 38) rfl) ?_
          refine jx_goto (tgt := 155) d_Md_settle_108 (by decide) ?_
          refine jx_aload_n d_Md_settle_155 1 rfl ?_
          refine jx_get d_Md_settle_156 fF_Md_84 (md_tg hK) (md_rr hK (k := 36) (j := 25) rfl rfl rfl) ?_
          refine jx_aload_n d_Md_settle_159 1 rfl ?_
          refine jx_get d_Md_settle_160 fF_Md_166 (md_tg hK) ((show (mdH h a (mi (mai (mi s 35 (nI ((C.length + 1) - (1)))) 18 (f.2.1) (s.2.2.1 25 ((lfts C + 1) - (1)))) 38 (nI ((dpt C + 1) - (1))))).2.2.2 a 37 = Value.int (s.1 37) from md_ri rfl).trans (congrArg Value.int hp)) ?_
          refine jx_iconst (v0 := 1) d_Md_settle_163 (by decide) ?_
          refine jx_isub d_Md_settle_164 ?_
          refine jx_ati (pk_sub (a := lfts C + 1) (b := 1) (by omega)) ?_
          refine jx_iload_n d_Md_settle_165 0 rfl ?_
          refine jx_iast d_Md_settle_166 (md_ta hK (j := 25) rfl) rfl (jm_vinN (show (lfts C + 1) - (1) < 100 by omega) (by decide)) ?_
          refine jx_ath ((jm_putN (show (lfts C + 1) - (1) < 2 ^ 31 by omega)).trans (md_wai (j := 25) (show (lfts C + 1) - (1) < 100 by omega))) ?_
          refine jx_goto (tgt := 0) d_Md_settle_167 (by decide) ?_
          refine jx_lv [1, 2] rfl ?_
          exact ih (hn _ _ _ _ hQ a1) kk
    · rw [f_str_0 (by omega), if_neg (by omega)] at kk
      refine jx_aload_n d_Md_settle_0 0 rfl ?_
      refine jx_get d_Md_settle_1 fF_Md_157 (md_tg hK) ((show (mdH h a s).2.2.2 a 35 = Value.int (s.1 35) from md_ri rfl).trans (congrArg Value.int hw)) ?_
      refine jx_if_leN (tgt := 170) (C.length + 1) d_Md_settle_4 rfl (by omega) (by decide) (fun c1 => ?_) (fun c1 => ?_)
      · omega
      ·
        refine jx_aload_n d_Md_settle_7 0 rfl ?_
        refine jx_aload_n d_Md_settle_8 0 rfl ?_
        refine jx_get d_Md_settle_9 fF_Md_78 (md_tg hK) (md_rr hK (k := 33) (j := 23) rfl rfl rfl) ?_
        refine jx_aload_n d_Md_settle_12 0 rfl ?_
        refine jx_get d_Md_settle_13 fF_Md_157 (md_tg hK) ((show (mdH h a s).2.2.2 a 35 = Value.int (s.1 35) from md_ri rfl).trans (congrArg Value.int hw)) ?_
        refine jx_iconst (v0 := 1) d_Md_settle_16 (by decide) ?_
        refine jx_isub d_Md_settle_17 ?_
        refine jx_ati (pk_sub (a := C.length + 1) (b := 1) (by omega)) ?_
        refine jx_iald d_Md_settle_18 (md_ta hK (j := 23) rfl) rfl (jm_vinN (show (C.length + 1) - (1) < 100 by omega) (by decide)) (jm_atN (show (C.length + 1) - (1) < 2 ^ 31 by omega) ((show (mdH h a s).2.2.2 (a + 23) ((C.length + 1) - (1)) = Value.int (s.2.2.1 23 ((C.length + 1) - (1))) from md_rai (j := 23) (show (C.length + 1) - (1) < 100 by omega)).trans (congrArg Value.int a2))) ?_
        refine jx_callV (M2 := mm_Md_isOperator) rfl (md_tg hK) lk_Md_160 wi_Md_isOperator ws_Md_isOperator d_Md_settle_19 (c_Md_isOpn l G (d - 1) hK (s := s)) cd_Md_isOperator rfl rfl (Nat.le_of_ble_eq_true rfl) (jm_fok (by omega)) (jm_look (by decide) (by omega)) ?_
        refine jx_if_eq (tgt := 170) d_Md_settle_22 (by decide) (fun c2 => ?_) (fun c2 => absurd c2 (by decide))
        exact kk hQ
    · have hi40 : f.2.1 < 40 := by have := a7.ge; omega
      rw [f_str_0 (by omega), if_neg (by omega)] at kk
      refine jx_aload_n d_Md_settle_0 0 rfl ?_
      refine jx_get d_Md_settle_1 fF_Md_157 (md_tg hK) ((show (mdH h a s).2.2.2 a 35 = Value.int (s.1 35) from md_ri rfl).trans (congrArg Value.int hw)) ?_
      refine jx_if_leN (tgt := 170) (C.length + 1) d_Md_settle_4 rfl (by omega) (by decide) (fun c1 => ?_) (fun c1 => ?_)
      · omega
      ·
        refine jx_aload_n d_Md_settle_7 0 rfl ?_
        refine jx_aload_n d_Md_settle_8 0 rfl ?_
        refine jx_get d_Md_settle_9 fF_Md_78 (md_tg hK) (md_rr hK (k := 33) (j := 23) rfl rfl rfl) ?_
        refine jx_aload_n d_Md_settle_12 0 rfl ?_
        refine jx_get d_Md_settle_13 fF_Md_157 (md_tg hK) ((show (mdH h a s).2.2.2 a 35 = Value.int (s.1 35) from md_ri rfl).trans (congrArg Value.int hw)) ?_
        refine jx_iconst (v0 := 1) d_Md_settle_16 (by decide) ?_
        refine jx_isub d_Md_settle_17 ?_
        refine jx_ati (pk_sub (a := C.length + 1) (b := 1) (by omega)) ?_
        refine jx_iald d_Md_settle_18 (md_ta hK (j := 23) rfl) rfl (jm_vinN (show (C.length + 1) - (1) < 100 by omega) (by decide)) (jm_atN (show (C.length + 1) - (1) < 2 ^ 31 by omega) ((show (mdH h a s).2.2.2 (a + 23) ((C.length + 1) - (1)) = Value.int (s.2.2.1 23 ((C.length + 1) - (1))) from md_rai (j := 23) (show (C.length + 1) - (1) < 100 by omega)).trans (congrArg Value.int a2))) ?_
        refine jx_callV (M2 := mm_Md_isOperator) rfl (md_tg hK) lk_Md_160 wi_Md_isOperator ws_Md_isOperator d_Md_settle_19 (c_Md_isOp0 l G (d - 1) hK (i := f.2.1) (kd := f.1) a3 hi40 a1 (by omega) (s := s)) cd_Md_isOperator rfl rfl (Nat.le_of_ble_eq_true rfl) (jm_fok (by omega)) (jm_look (by decide) (by omega)) ?_
        refine jx_if_eq (tgt := 170) d_Md_settle_22 (by decide) (fun c2 => ?_) (fun c2 => absurd c2 (by decide))
        exact kk hQ
