set_option maxHeartbeats 4000000 in
set_option maxRecDepth 100000 in
theorem dg_flt (l : Launch) (G : jm_G) {h : jm_H} {a : Nat} {s : MS} {x : Int64} {n0 s0 d : Nat} {Post : jm_r → jm_H → Prop} (hK : MdK h a) (hz : ¬ s.1 3 = 0) (hp : ¬ s.1 3 ≤ 0) (kk : Post (.inl (some (.int (s.1 4)))) (mdH h a (mi s 2 0))) : jm_X l G mm_Md_define n0 s0 (jm_zn G d n0 s0) Post 80 [(1, .long (x)), (0, .ref (a))] [] (mdH h a s) := by
  refine jx_aload_n d_Md_define_80 1 rfl ?_
  refine jx_get d_Md_define_81 fF_Md_144 (md_tg hK) (show (mdH h a s).2.2.2 a 3 = Value.int (s.1 3) from md_ri rfl) ?_
  refine jx_if_ne (tgt := 95) d_Md_define_84 (by decide) (fun c1 => ?_) (fun c1 => ?_)
  ·
    refine jx_iconst (v0 := -1) d_Md_define_95 (by decide) ?_
    refine jx_istore_n (lv' := [(3, .int (-1)), (1, .long (x)), (0, .ref (a))]) d_Md_define_96 (by decide) rfl ?_
    refine jx_aload_n d_Md_define_97 2 rfl ?_
    refine jx_get d_Md_define_98 fF_Md_144 (md_tg hK) (show (mdH h a s).2.2.2 a 3 = Value.int (s.1 3) from md_ri rfl) ?_
    refine jx_if_ne (tgt := 123) d_Md_define_101 (by decide) (fun c2 => ?_) (fun c2 => ?_)
    ·
      refine jx_aload_n d_Md_define_123 2 rfl ?_
      refine jx_get d_Md_define_124 fF_Md_144 (md_tg hK) (show (mdH h a s).2.2.2 a 3 = Value.int (s.1 3) from md_ri rfl) ?_
      refine jx_if_ne (tgt := 138) d_Md_define_127 (by decide) (fun c3 => ?_) (fun c3 => ?_)
      ·
        refine jx_lconst (v0 := 0) d_Md_define_138 (by decide) ?_
        refine jx_lstore (lv' := [(4, .long (0)), (3, .int (-1)), (1, .long (x)), (0, .ref (a))]) d_Md_define_139 (by decide) rfl ?_
        refine jx_iconst (v0 := -1) d_Md_define_141 (by decide) ?_
        refine jx_istore (lv' := [(6, .int (-1)), (4, .long (0)), (3, .int (-1)), (1, .long (x)), (0, .ref (a))]) d_Md_define_142 (by decide) rfl ?_
        refine jx_iconst (v0 := 0) d_Md_define_144 (by decide) ?_
        refine jx_istore (lv' := [(7, .int (0)), (6, .int (-1)), (4, .long (0)), (3, .int (-1)), (1, .long (x)), (0, .ref (a))]) d_Md_define_145 (by decide) rfl ?_
        refine jx_aload_n d_Md_define_147 5 rfl ?_
        refine jx_get d_Md_define_148 fF_Md_144 (md_tg hK) (show (mdH h a s).2.2.2 a 3 = Value.int (s.1 3) from md_ri rfl) ?_
        refine jx_if_ne (tgt := 265) d_Md_define_151 (by decide) (fun c4 => ?_) (fun c4 => ?_)
        ·
          refine jx_iload d_Md_define_265 1 rfl ?_
          refine jx_if_lt (tgt := 277) d_Md_define_267 (by decide) (fun c5 => ?_) (fun c5 => absurd c5 (by decide))
          refine jx_aload_n d_Md_define_277 5 rfl ?_
          refine jx_iconst (v0 := 0) d_Md_define_278 (by decide) ?_
          refine jx_put (v0 := .int (0)) d_Md_define_279 fF_Md_100 jv_Md ft_Md_tapeSize (md_tg hK) rfl rfl ?_
          refine jx_ath (md_wi (k := 2) rfl) ?_
          refine jx_aload_n d_Md_define_282 5 rfl ?_
          refine jx_get d_Md_define_283 fF_Md_144 (md_tg hK) (show (mdH h a (mi s 2 0)).2.2.2 a 3 = Value.int (s.1 3) from md_ri rfl) ?_
          refine jx_if_le (tgt := 294) d_Md_define_286 (by decide) (fun c6 => ?_) (fun c6 => ?_)
          · exact absurd c6 hp
          ·
            refine jx_aload_n d_Md_define_289 5 rfl ?_
            refine jx_get d_Md_define_290 fF_Md_147 (md_tg hK) (show (mdH h a (mi s 2 0)).2.2.2 a 4 = Value.int (s.1 4) from md_ri rfl) ?_
            exact jx_iret d_Md_define_293 rfl (kk)
        · exact absurd c4 hz
      · exact absurd c3 hz
    · exact absurd c2 hz
  · exact absurd c1 hz
set_option maxHeartbeats 4000000 in
set_option maxRecDepth 100000 in
theorem dg_room (l : Launch) (G : jm_G) {h : jm_H} {a : Nat} {s : MS} {x : Int64} {n0 s0 d : Nat} {Post : jm_r → jm_H → Prop} (hd : 1 ≤ d) (hK : MdK h a) (hz : s.1 3 = 0) (hcl : m_cell s x = none) (hcn : cnt (tM s) 64 = 64) (kk : Post (.inl (some (.int 0))) (mdH h a (mi (mi (mi s 3 4) 4 0) 2 0))) : jm_X l G mm_Md_define n0 s0 (jm_zn G d n0 s0) Post 80 [(1, .long (x)), (0, .ref (a))] [] (mdH h a s) := by
  refine jx_aload_n d_Md_define_80 1 rfl ?_
  refine jx_get d_Md_define_81 fF_Md_144 (md_tg hK) ((show (mdH h a s).2.2.2 a 3 = Value.int (s.1 3) from md_ri rfl).trans (congrArg Value.int hz)) ?_
  refine jx_if_ne (tgt := 95) d_Md_define_84 (by decide) (fun c1 => absurd c1 (by decide)) (fun c1 => ?_)
  refine jx_aload_n d_Md_define_87 1 rfl ?_
  refine jx_lload_n d_Md_define_88 0 rfl ?_
  have hCc := c_Md_cellOf l G (d - 1) (h := h) (a := a) (s := s) (u := x) hK
  rw [hcl] at hCc
  refine jx_callV (M2 := mm_Md_cellOf) rfl (md_tg hK) lk_Md_214 wi_Md_cellOf ws_Md_cellOf d_Md_define_89 hCc cd_Md_cellOf rfl rfl (Nat.le_of_ble_eq_true rfl) (jm_fok (by omega)) (jm_look (by decide) (by omega)) ?_
  refine jx_goto (tgt := 96) d_Md_define_92 (by decide) ?_
  refine jx_istore_n (lv' := [(3, .int (-1)), (1, .long (x)), (0, .ref (a))]) d_Md_define_96 (by decide) rfl ?_
  refine jx_aload_n d_Md_define_97 2 rfl ?_
  refine jx_get d_Md_define_98 fF_Md_144 (md_tg hK) ((show (mdH h a s).2.2.2 a 3 = Value.int (s.1 3) from md_ri rfl).trans (congrArg Value.int hz)) ?_
  refine jx_if_ne (tgt := 123) d_Md_define_101 (by decide) (fun c2 => absurd c2 (by decide)) (fun c2 => ?_)
  refine jx_iload_n d_Md_define_104 0 rfl ?_
  refine jx_if_ge (tgt := 123) d_Md_define_105 (by decide) (fun c3 => absurd c3 (by decide)) (fun c3 => ?_)
  refine jx_aload_n d_Md_define_108 2 rfl ?_
  refine jx_callV (M2 := mm_Md_cellCount) rfl (md_tg hK) lk_Md_218 wi_Md_cellCount ws_Md_cellCount d_Md_define_109 (c_Md_cellCount l G (d - 1) (s := s) hK) cd_Md_cellCount rfl rfl (Nat.le_of_ble_eq_true rfl) (jm_fok (by omega)) (jm_look (by decide) (by omega)) ?_
  refine jx_bipush (v0 := 64) d_Md_define_112 (by decide) ?_
  refine jx_icmp_neN (tgt := 123) (cnt (tM s) 64) (64) d_Md_define_114 rfl rfl (by omega) (by omega) (by decide) (fun c4 => ?_) (fun c4 => ?_)
  · omega
  ·
    refine jx_aload_n d_Md_define_117 2 rfl ?_
    refine jx_iconst (v0 := 4) d_Md_define_118 (by decide) ?_
    refine jx_iconst (v0 := 0) d_Md_define_119 (by decide) ?_
    have hfl := c_Md_fail l G (d - 1) (h := h) (a := a) (s := s) (c := 4) (w := 0) hK
    rw [m_fail_of (s := s) hz] at hfl
    refine jx_callV (M2 := mm_Md_fail) rfl (md_tg hK) lk_Md_150 wi_Md_fail ws_Md_fail d_Md_define_120 hfl cd_Md_fail rfl rfl (Nat.le_of_ble_eq_true rfl) (jm_fok (by omega)) (jm_look (by decide) (by omega)) ?_
    refine jx_aload_n d_Md_define_123 2 rfl ?_
    refine jx_get d_Md_define_124 fF_Md_144 (md_tg hK) (show (mdH h a (mi (mi s 3 4) 4 0)).2.2.2 a 3 = Value.int (4) from md_ri rfl) ?_
    refine jx_if_ne (tgt := 138) d_Md_define_127 (by decide) (fun c5 => ?_) (fun c5 => absurd c5 (by decide))
    refine jx_lconst (v0 := 0) d_Md_define_138 (by decide) ?_
    refine jx_lstore (lv' := [(4, .long (0)), (3, .int (-1)), (1, .long (x)), (0, .ref (a))]) d_Md_define_139 (by decide) rfl ?_
    refine jx_iconst (v0 := -1) d_Md_define_141 (by decide) ?_
    refine jx_istore (lv' := [(6, .int (-1)), (4, .long (0)), (3, .int (-1)), (1, .long (x)), (0, .ref (a))]) d_Md_define_142 (by decide) rfl ?_
    refine jx_iconst (v0 := 0) d_Md_define_144 (by decide) ?_
    refine jx_istore (lv' := [(7, .int (0)), (6, .int (-1)), (4, .long (0)), (3, .int (-1)), (1, .long (x)), (0, .ref (a))]) d_Md_define_145 (by decide) rfl ?_
    refine jx_aload_n d_Md_define_147 5 rfl ?_
    refine jx_get d_Md_define_148 fF_Md_144 (md_tg hK) (show (mdH h a (mi (mi s 3 4) 4 0)).2.2.2 a 3 = Value.int (4) from md_ri rfl) ?_
    refine jx_if_ne (tgt := 265) d_Md_define_151 (by decide) (fun c6 => ?_) (fun c6 => absurd c6 (by decide))
    refine jx_iload d_Md_define_265 1 rfl ?_
    refine jx_if_lt (tgt := 277) d_Md_define_267 (by decide) (fun c7 => ?_) (fun c7 => absurd c7 (by decide))
    refine jx_aload_n d_Md_define_277 5 rfl ?_
    refine jx_iconst (v0 := 0) d_Md_define_278 (by decide) ?_
    refine jx_put (v0 := .int (0)) d_Md_define_279 fF_Md_100 jv_Md ft_Md_tapeSize (md_tg hK) rfl rfl ?_
    refine jx_ath (md_wi (k := 2) rfl) ?_
    refine jx_aload_n d_Md_define_282 5 rfl ?_
    refine jx_get d_Md_define_283 fF_Md_144 (md_tg hK) (show (mdH h a (mi (mi (mi s 3 4) 4 0) 2 0)).2.2.2 a 3 = Value.int (4) from md_ri rfl) ?_
    refine jx_if_le (tgt := 294) d_Md_define_286 (by decide) (fun c8 => absurd c8 (by decide)) (fun c8 => ?_)
    refine jx_aload_n d_Md_define_289 5 rfl ?_
    refine jx_get d_Md_define_290 fF_Md_147 (md_tg hK) (show (mdH h a (mi (mi (mi s 3 4) 4 0) 2 0)).2.2.2 a 4 = Value.int (0) from md_ri rfl) ?_
    exact jx_iret d_Md_define_293 rfl (kk)
set_option maxHeartbeats 4000000 in
set_option maxRecDepth 100000 in
theorem dg_new (l : Launch) (G : jm_G) {h : jm_H} {a : Nat} {s : MS} {x all : Int64} {n0 s0 d : Nat} {Post : jm_r → jm_H → Prop} (hd : 1 ≤ d) (hK : MdK h a) (hz : s.1 3 = 0) (hcl : m_cell s x = none) (hcn : cnt (tM s) 64 < 64) (hC2 : jm_C l G mm_Md_readersOf (d - 1) [.ref a, .long x] (mdH h a s) (some (.long all)) (mdH h a s)) (kk : jm_X l G mm_Md_define n0 s0 (jm_zn G d n0 s0) Post 147 [(7, .int (nI 0)), (6, .int (-1)), (4, .long (all)), (3, .int (-1)), (1, .long (x)), (0, .ref (a))] [] (mdH h a s)) : jm_X l G mm_Md_define n0 s0 (jm_zn G d n0 s0) Post 80 [(1, .long (x)), (0, .ref (a))] [] (mdH h a s) := by
  refine jx_aload_n d_Md_define_80 1 rfl ?_
  refine jx_get d_Md_define_81 fF_Md_144 (md_tg hK) ((show (mdH h a s).2.2.2 a 3 = Value.int (s.1 3) from md_ri rfl).trans (congrArg Value.int hz)) ?_
  refine jx_if_ne (tgt := 95) d_Md_define_84 (by decide) (fun c1 => absurd c1 (by decide)) (fun c1 => ?_)
  refine jx_aload_n d_Md_define_87 1 rfl ?_
  refine jx_lload_n d_Md_define_88 0 rfl ?_
  have hCc := c_Md_cellOf l G (d - 1) (h := h) (a := a) (s := s) (u := x) hK
  rw [hcl] at hCc
  refine jx_callV (M2 := mm_Md_cellOf) rfl (md_tg hK) lk_Md_214 wi_Md_cellOf ws_Md_cellOf d_Md_define_89 hCc cd_Md_cellOf rfl rfl (Nat.le_of_ble_eq_true rfl) (jm_fok (by omega)) (jm_look (by decide) (by omega)) ?_
  refine jx_goto (tgt := 96) d_Md_define_92 (by decide) ?_
  refine jx_istore_n (lv' := [(3, .int (-1)), (1, .long (x)), (0, .ref (a))]) d_Md_define_96 (by decide) rfl ?_
  refine jx_aload_n d_Md_define_97 2 rfl ?_
  refine jx_get d_Md_define_98 fF_Md_144 (md_tg hK) ((show (mdH h a s).2.2.2 a 3 = Value.int (s.1 3) from md_ri rfl).trans (congrArg Value.int hz)) ?_
  refine jx_if_ne (tgt := 123) d_Md_define_101 (by decide) (fun c2 => absurd c2 (by decide)) (fun c2 => ?_)
  refine jx_iload_n d_Md_define_104 0 rfl ?_
  refine jx_if_ge (tgt := 123) d_Md_define_105 (by decide) (fun c3 => absurd c3 (by decide)) (fun c3 => ?_)
  refine jx_aload_n d_Md_define_108 2 rfl ?_
  refine jx_callV (M2 := mm_Md_cellCount) rfl (md_tg hK) lk_Md_218 wi_Md_cellCount ws_Md_cellCount d_Md_define_109 (c_Md_cellCount l G (d - 1) (s := s) hK) cd_Md_cellCount rfl rfl (Nat.le_of_ble_eq_true rfl) (jm_fok (by omega)) (jm_look (by decide) (by omega)) ?_
  refine jx_bipush (v0 := 64) d_Md_define_112 (by decide) ?_
  refine jx_icmp_neN (tgt := 123) (cnt (tM s) 64) (64) d_Md_define_114 rfl rfl (by omega) (by omega) (by decide) (fun c4 => ?_) (fun c4 => ?_)
  ·
    refine jx_aload_n d_Md_define_123 2 rfl ?_
    refine jx_get d_Md_define_124 fF_Md_144 (md_tg hK) ((show (mdH h a s).2.2.2 a 3 = Value.int (s.1 3) from md_ri rfl).trans (congrArg Value.int hz)) ?_
    refine jx_if_ne (tgt := 138) d_Md_define_127 (by decide) (fun c5 => absurd c5 (by decide)) (fun c5 => ?_)
    refine jx_aload_n d_Md_define_130 2 rfl ?_
    refine jx_lload_n d_Md_define_131 1 rfl ?_
    refine jx_callV (M2 := mm_Md_readersOf) rfl (md_tg hK) lk_Md_221 wi_Md_readersOf ws_Md_readersOf d_Md_define_132 hC2 cd_Md_readersOf rfl rfl (Nat.le_of_ble_eq_true rfl) (jm_fok (by omega)) (jm_look (by decide) (by omega)) ?_
    refine jx_goto (tgt := 139) d_Md_define_135 (by decide) ?_
    refine jx_lstore (lv' := [(4, .long (all)), (3, .int (-1)), (1, .long (x)), (0, .ref (a))]) d_Md_define_139 (by decide) rfl ?_
    refine jx_iconst (v0 := -1) d_Md_define_141 (by decide) ?_
    refine jx_istore (lv' := [(6, .int (-1)), (4, .long (all)), (3, .int (-1)), (1, .long (x)), (0, .ref (a))]) d_Md_define_142 (by decide) rfl ?_
    refine jx_iconst (v0 := 0) d_Md_define_144 (by decide) ?_
    refine jx_istore (lv' := [(7, .int (0)), (6, .int (-1)), (4, .long (all)), (3, .int (-1)), (1, .long (x)), (0, .ref (a))]) d_Md_define_145 (by decide) rfl ?_
    exact kk
  · omega
set_option maxHeartbeats 4000000 in
set_option maxRecDepth 100000 in
theorem dg_old (l : Launch) (G : jm_G) {h : jm_H} {a : Nat} {s : MS} {x all : Int64} {n0 s0 d : Nat} {Post : jm_r → jm_H → Prop} (hd : 1 ≤ d) (hK : MdK h a) (hz : s.1 3 = 0) {c : Nat} (hcl : m_cell s x = some c) (hc : c < 64) (hC2 : jm_C l G mm_Md_readersOf (d - 1) [.ref a, .long x] (mdH h a s) (some (.long all)) (mdH h a s)) (kk : jm_X l G mm_Md_define n0 s0 (jm_zn G d n0 s0) Post 147 [(7, .int (nI 0)), (6, .int (-1)), (4, .long (all)), (3, .int (nI (c))), (1, .long (x)), (0, .ref (a))] [] (mdH h a s)) : jm_X l G mm_Md_define n0 s0 (jm_zn G d n0 s0) Post 80 [(1, .long (x)), (0, .ref (a))] [] (mdH h a s) := by
  refine jx_aload_n d_Md_define_80 1 rfl ?_
  refine jx_get d_Md_define_81 fF_Md_144 (md_tg hK) ((show (mdH h a s).2.2.2 a 3 = Value.int (s.1 3) from md_ri rfl).trans (congrArg Value.int hz)) ?_
  refine jx_if_ne (tgt := 95) d_Md_define_84 (by decide) (fun c1 => absurd c1 (by decide)) (fun c1 => ?_)
  refine jx_aload_n d_Md_define_87 1 rfl ?_
  refine jx_lload_n d_Md_define_88 0 rfl ?_
  have hCc := c_Md_cellOf l G (d - 1) (h := h) (a := a) (s := s) (u := x) hK
  rw [hcl] at hCc
  refine jx_callV (M2 := mm_Md_cellOf) rfl (md_tg hK) lk_Md_214 wi_Md_cellOf ws_Md_cellOf d_Md_define_89 hCc cd_Md_cellOf rfl rfl (Nat.le_of_ble_eq_true rfl) (jm_fok (by omega)) (jm_look (by decide) (by omega)) ?_
  refine jx_goto (tgt := 96) d_Md_define_92 (by decide) ?_
  refine jx_istore_n (lv' := [(3, .int (nI (c))), (1, .long (x)), (0, .ref (a))]) d_Md_define_96 (by decide) rfl ?_
  refine jx_aload_n d_Md_define_97 2 rfl ?_
  refine jx_get d_Md_define_98 fF_Md_144 (md_tg hK) ((show (mdH h a s).2.2.2 a 3 = Value.int (s.1 3) from md_ri rfl).trans (congrArg Value.int hz)) ?_
  refine jx_if_ne (tgt := 123) d_Md_define_101 (by decide) (fun c2 => absurd c2 (by decide)) (fun c2 => ?_)
  refine jx_iload_n d_Md_define_104 0 rfl ?_
  refine jx_if_geN (tgt := 123) (c) d_Md_define_105 rfl (by omega) (by decide) (fun c3 => ?_) (fun c3 => ?_)
  ·
    refine jx_aload_n d_Md_define_123 2 rfl ?_
    refine jx_get d_Md_define_124 fF_Md_144 (md_tg hK) ((show (mdH h a s).2.2.2 a 3 = Value.int (s.1 3) from md_ri rfl).trans (congrArg Value.int hz)) ?_
    refine jx_if_ne (tgt := 138) d_Md_define_127 (by decide) (fun c4 => absurd c4 (by decide)) (fun c4 => ?_)
    refine jx_aload_n d_Md_define_130 2 rfl ?_
    refine jx_lload_n d_Md_define_131 1 rfl ?_
    refine jx_callV (M2 := mm_Md_readersOf) rfl (md_tg hK) lk_Md_221 wi_Md_readersOf ws_Md_readersOf d_Md_define_132 hC2 cd_Md_readersOf rfl rfl (Nat.le_of_ble_eq_true rfl) (jm_fok (by omega)) (jm_look (by decide) (by omega)) ?_
    refine jx_goto (tgt := 139) d_Md_define_135 (by decide) ?_
    refine jx_lstore (lv' := [(4, .long (all)), (3, .int (nI (c))), (1, .long (x)), (0, .ref (a))]) d_Md_define_139 (by decide) rfl ?_
    refine jx_iconst (v0 := -1) d_Md_define_141 (by decide) ?_
    refine jx_istore (lv' := [(6, .int (-1)), (4, .long (all)), (3, .int (nI (c))), (1, .long (x)), (0, .ref (a))]) d_Md_define_142 (by decide) rfl ?_
    refine jx_iconst (v0 := 0) d_Md_define_144 (by decide) ?_
    refine jx_istore (lv' := [(7, .int (0)), (6, .int (-1)), (4, .long (all)), (3, .int (nI (c))), (1, .long (x)), (0, .ref (a))]) d_Md_define_145 (by decide) rfl ?_
    exact kk
  · omega
/-- node k is a name that closes a circle -/
def bkM (s : MS) (x all : Int64) (k : Nat) : Bool := decide (s.2.2.1 17 k = 1) && (decide (s.2.2.2.1 21 k = x) || match m_cell s (s.2.2.2.1 21 k) with
  | none => false
  | some c => bt all c)
def m_fst (s : MS) (x all : Int64) : Nat → Int32
  | 0 => -1
  | k + 1 => if bkM s x all k = true ∧ (m_fst s x all k < 0 ∨ s.2.2.1 22 k < m_fst s x all k) then s.2.2.1 22 k else m_fst s x all k
theorem m_fst_f {s : MS} {x all : Int64} {k : Nat} (h : bkM s x all k = false) : m_fst s x all k = m_fst s x all (k + 1) := by
  show _ = if bkM s x all k = true ∧ _ then _ else _
  rw [if_neg (fun q => by rw [h] at q; exact absurd q.1 (by decide))]
theorem m_fst_t {s : MS} {x all : Int64} {k : Nat} (h : bkM s x all k = true) (q : m_fst s x all k < 0 ∨ s.2.2.1 22 k < m_fst s x all k) : s.2.2.1 22 k = m_fst s x all (k + 1) := by
  show _ = if bkM s x all k = true ∧ _ then _ else _
  rw [if_pos ⟨h, q⟩]
theorem m_fst_n {s : MS} {x all : Int64} {k : Nat} (q1 : ¬ m_fst s x all k < 0) (q2 : ¬ s.2.2.1 22 k < m_fst s x all k) : m_fst s x all k = m_fst s x all (k + 1) := by
  show _ = if bkM s x all k = true ∧ _ then _ else _
  rw [if_neg (fun q => by rcases q.2 with e | e; exact q1 e; exact q2 e)]
theorem bkM_f0 {s : MS} {x all : Int64} {k : Nat} (h : ¬ s.2.2.1 17 k = 1) : bkM s x all k = false := by
  unfold bkM
  rw [decide_eq_false h]
  rfl
theorem bkM_t0 {s : MS} {x all : Int64} {k : Nat} (h : s.2.2.1 17 k = 1) (h2 : s.2.2.2.1 21 k = x) : bkM s x all k = true := by
  unfold bkM
  rw [decide_eq_true h, decide_eq_true h2]
  rfl
theorem bkM_n {s : MS} {x all : Int64} {k : Nat} (h : s.2.2.1 17 k = 1) (h2 : ¬ s.2.2.2.1 21 k = x) (e : m_cell s (s.2.2.2.1 21 k) = none) : bkM s x all k = false := by
  unfold bkM
  rw [decide_eq_true h, decide_eq_false h2, e]
  rfl
theorem bkM_s {s : MS} {x all : Int64} {k c : Nat} (h : s.2.2.1 17 k = 1) (h2 : ¬ s.2.2.2.1 21 k = x) (e : m_cell s (s.2.2.2.1 21 k) = some c) : bkM s x all k = bt all c := by
  unfold bkM
  rw [decide_eq_true h, decide_eq_false h2, e]
  rfl
set_option maxHeartbeats 4000000 in
set_option maxRecDepth 100000 in
theorem lp_Md_define1 (l : Launch) (G : jm_G) {h : jm_H} {a : Nat} {s : MS} {x all : Int64} {cl : Int32} {kc : Nat} {n0 s0 d : Nat} {Post : jm_r → jm_H → Prop} (hd : 1 ≤ d) (hK : MdK h a) (hz : s.1 3 = 0) (hkc : s.1 32 = nI kc) (hk40 : kc ≤ 40) (kk : jm_X l G mm_Md_define n0 s0 (jm_zn G d n0 s0) Post 265 [(6, .int (m_fst s x all kc)), (4, .long (all)), (3, .int (cl)), (1, .long (x)), (0, .ref (a))] [] (mdH h a s)) (t : Nat) : ∀ (k : Nat) (v : Int32), kc - k < t → k ≤ kc → v = m_fst s x all k → jm_X l G mm_Md_define n0 s0 (jm_zn G d n0 s0) Post 147 [(7, .int (nI (k))), (6, .int (v)), (4, .long (all)), (3, .int (cl)), (1, .long (x)), (0, .ref (a))] [] (mdH h a s) := by
  induction t with
  | zero => intro k v hm; omega
  | succ t ih =>
    intro k v hm hk hv
    subst hv
    refine jx_aload_n d_Md_define_147 5 rfl ?_
    refine jx_get d_Md_define_148 fF_Md_144 (md_tg hK) ((show (mdH h a s).2.2.2 a 3 = Value.int (s.1 3) from md_ri rfl).trans (congrArg Value.int hz)) ?_
    refine jx_if_ne (tgt := 265) d_Md_define_151 (by decide) (fun c1 => absurd c1 (by decide)) (fun c1 => ?_)
    refine jx_iload d_Md_define_154 0 rfl ?_
    refine jx_aload_n d_Md_define_156 5 rfl ?_
    refine jx_get d_Md_define_157 fF_Md_154 (md_tg hK) ((show (mdH h a s).2.2.2 a 32 = Value.int (s.1 32) from md_ri rfl).trans (congrArg Value.int hkc)) ?_
    refine jx_icmp_geN (tgt := 265) (k) (kc) d_Md_define_160 rfl rfl (by omega) (by omega) (by decide) (fun c2 => ?_) (fun c2 => ?_)
    ·
      refine jx_lv [1, 2, 3, 4, 5] rfl ?_
      rw [show k = kc by omega]
      exact kk
    ·
      refine jx_aload_n d_Md_define_163 5 rfl ?_
      refine jx_get d_Md_define_164 fF_Md_60 (md_tg hK) (md_rr hK (k := 26) (j := 17) rfl rfl rfl) ?_
      refine jx_iload d_Md_define_167 0 rfl ?_
      refine jx_iald d_Md_define_169 (md_ta hK (j := 17) rfl) rfl (jm_vinN (show k < 40 by omega) (by decide)) (jm_atN (show k < 2 ^ 31 by omega) (show (mdH h a s).2.2.2 (a + 17) k = Value.int (s.2.2.1 17 k) from md_rai (j := 17) (show k < 40 by omega))) ?_
      refine jx_iconst (v0 := 1) d_Md_define_170 (by decide) ?_
      refine jx_icmp_ne (tgt := 259) d_Md_define_171 (by decide) (fun c3 => ?_) (fun c3 => ?_)
      ·
        refine jx_iinc (v0 := nI (k + 1)) (lv' := [(7, .int (nI (k + 1))), (6, .int (m_fst s x all k)), (4, .long (all)), (3, .int (cl)), (1, .long (x)), (0, .ref (a))]) d_Md_define_259 0 rfl (nI_add _ 1) (by decide) rfl ?_
        refine jx_goto (tgt := 147) d_Md_define_262 (by decide) ?_
        exact ih (k + 1) _ (by omega) (by omega) (m_fst_f (bkM_f0 c3))
      ·
        refine jx_aload_n d_Md_define_174 5 rfl ?_
        refine jx_aload_n d_Md_define_175 5 rfl ?_
        refine jx_get d_Md_define_176 fF_Md_72 (md_tg hK) (md_rr hK (k := 30) (j := 21) rfl rfl rfl) ?_
        refine jx_iload d_Md_define_179 0 rfl ?_
        refine jx_lald d_Md_define_181 (md_ta hK (j := 21) rfl) rfl (jm_vinN (show k < 40 by omega) (by decide)) (jm_atN (show k < 2 ^ 31 by omega) (show (mdH h a s).2.2.2 (a + 21) k = Value.long (s.2.2.2.1 21 k) from md_ral (j := 21) (show k < 40 by omega))) ?_
        cases ec : m_cell s (s.2.2.2.1 21 k) with
        | none =>
          have hCc := c_Md_cellOf l G (d - 1) (h := h) (a := a) (s := s) (u := s.2.2.2.1 21 k) hK
          rw [ec] at hCc
          refine jx_callV (M2 := mm_Md_cellOf) rfl (md_tg hK) lk_Md_214 wi_Md_cellOf ws_Md_cellOf d_Md_define_182 hCc cd_Md_cellOf rfl rfl (Nat.le_of_ble_eq_true rfl) (jm_fok (by omega)) (jm_look (by decide) (by omega)) ?_
          refine jx_istore (lv' := [(8, .int (-1)), (7, .int (nI (k))), (6, .int (m_fst s x all k)), (4, .long (all)), (3, .int (cl)), (1, .long (x)), (0, .ref (a))]) d_Md_define_185 (by decide) rfl ?_
          refine jx_aload_n d_Md_define_187 6 rfl ?_
          refine jx_get d_Md_define_188 fF_Md_72 (md_tg hK) (md_rr hK (k := 30) (j := 21) rfl rfl rfl) ?_
          refine jx_iload d_Md_define_191 1 rfl ?_
          refine jx_lald d_Md_define_193 (md_ta hK (j := 21) rfl) rfl (jm_vinN (show k < 40 by omega) (by decide)) (jm_atN (show k < 2 ^ 31 by omega) (show (mdH h a s).2.2.2 (a + 21) k = Value.long (s.2.2.2.1 21 k) from md_ral (j := 21) (show k < 40 by omega))) ?_
          refine jx_lload_n d_Md_define_194 5 rfl ?_
          refine jx_lcmp d_Md_define_195 ?_
          refine jx_if_eqL (tgt := 216) d_Md_define_196 (by decide) (fun c4 => ?_) (fun c4 => ?_)
          ·
            refine jx_iconst (v0 := 1) d_Md_define_216 (by decide) ?_
            refine jx_goto (tgt := 221) d_Md_define_217 (by decide) ?_
            refine jx_istore (lv' := [(9, .int (1)), (8, .int (-1)), (7, .int (nI (k))), (6, .int (m_fst s x all k)), (4, .long (all)), (3, .int (cl)), (1, .long (x)), (0, .ref (a))]) d_Md_define_221 (by decide) rfl ?_
            refine jx_iload d_Md_define_223 0 rfl ?_
            refine jx_if_eq (tgt := 255) d_Md_define_225 (by decide) (fun c5 => absurd c5 (by decide)) (fun c5 => ?_)
            refine jx_iload d_Md_define_228 3 rfl ?_
            refine jx_if_lt (tgt := 245) d_Md_define_230 (by decide) (fun c6 => ?_) (fun c6 => ?_)
            ·
              refine jx_aload_n d_Md_define_245 7 rfl ?_
              refine jx_get d_Md_define_246 fF_Md_75 (md_tg hK) (md_rr hK (k := 31) (j := 22) rfl rfl rfl) ?_
              refine jx_iload d_Md_define_249 2 rfl ?_
              refine jx_iald d_Md_define_251 (md_ta hK (j := 22) rfl) rfl (jm_vinN (show k < 40 by omega) (by decide)) (jm_atN (show k < 2 ^ 31 by omega) (show (mdH h a s).2.2.2 (a + 22) k = Value.int (s.2.2.1 22 k) from md_rai (j := 22) (show k < 40 by omega))) ?_
              refine jx_goto (tgt := 257) d_Md_define_252 (by decide) ?_
              refine jx_istore (lv' := [(6, .int (s.2.2.1 22 k)), (9, .int (1)), (8, .int (-1)), (7, .int (nI (k))), (4, .long (all)), (3, .int (cl)), (1, .long (x)), (0, .ref (a))]) d_Md_define_257 (by decide) rfl ?_
              refine jx_iinc (v0 := nI (k + 1)) (lv' := [(7, .int (nI (k + 1))), (6, .int (s.2.2.1 22 k)), (9, .int (1)), (8, .int (-1)), (4, .long (all)), (3, .int (cl)), (1, .long (x)), (0, .ref (a))]) d_Md_define_259 3 rfl (nI_add _ 1) (by decide) rfl ?_
              refine jx_goto (tgt := 147) d_Md_define_262 (by decide) ?_
              refine jx_lv [0, 1, 4, 5, 6, 7] rfl ?_
              exact ih (k + 1) _ (by omega) (by omega) (m_fst_t (bkM_t0 c3 c4) (Or.inl c6))
            ·
              refine jx_aload_n d_Md_define_233 7 rfl ?_
              refine jx_get d_Md_define_234 fF_Md_75 (md_tg hK) (md_rr hK (k := 31) (j := 22) rfl rfl rfl) ?_
              refine jx_iload d_Md_define_237 2 rfl ?_
              refine jx_iald d_Md_define_239 (md_ta hK (j := 22) rfl) rfl (jm_vinN (show k < 40 by omega) (by decide)) (jm_atN (show k < 2 ^ 31 by omega) (show (mdH h a s).2.2.2 (a + 22) k = Value.int (s.2.2.1 22 k) from md_rai (j := 22) (show k < 40 by omega))) ?_
              refine jx_iload d_Md_define_240 3 rfl ?_
              refine jx_icmp_ge (tgt := 255) d_Md_define_242 (by decide) (fun c7 => ?_) (fun c7 => ?_)
              ·
                refine jx_iload d_Md_define_255 3 rfl ?_
                refine jx_istore (lv' := [(6, .int (m_fst s x all k)), (9, .int (1)), (8, .int (-1)), (7, .int (nI (k))), (4, .long (all)), (3, .int (cl)), (1, .long (x)), (0, .ref (a))]) d_Md_define_257 (by decide) rfl ?_
                refine jx_iinc (v0 := nI (k + 1)) (lv' := [(7, .int (nI (k + 1))), (6, .int (m_fst s x all k)), (9, .int (1)), (8, .int (-1)), (4, .long (all)), (3, .int (cl)), (1, .long (x)), (0, .ref (a))]) d_Md_define_259 3 rfl (nI_add _ 1) (by decide) rfl ?_
                refine jx_goto (tgt := 147) d_Md_define_262 (by decide) ?_
                refine jx_lv [0, 1, 4, 5, 6, 7] rfl ?_
                exact ih (k + 1) _ (by omega) (by omega) (m_fst_n c6 (Int32.not_lt.mpr c7))
              ·
                refine jx_aload_n d_Md_define_245 7 rfl ?_
                refine jx_get d_Md_define_246 fF_Md_75 (md_tg hK) (md_rr hK (k := 31) (j := 22) rfl rfl rfl) ?_
                refine jx_iload d_Md_define_249 2 rfl ?_
                refine jx_iald d_Md_define_251 (md_ta hK (j := 22) rfl) rfl (jm_vinN (show k < 40 by omega) (by decide)) (jm_atN (show k < 2 ^ 31 by omega) (show (mdH h a s).2.2.2 (a + 22) k = Value.int (s.2.2.1 22 k) from md_rai (j := 22) (show k < 40 by omega))) ?_
                refine jx_goto (tgt := 257) d_Md_define_252 (by decide) ?_
                refine jx_istore (lv' := [(6, .int (s.2.2.1 22 k)), (9, .int (1)), (8, .int (-1)), (7, .int (nI (k))), (4, .long (all)), (3, .int (cl)), (1, .long (x)), (0, .ref (a))]) d_Md_define_257 (by decide) rfl ?_
                refine jx_iinc (v0 := nI (k + 1)) (lv' := [(7, .int (nI (k + 1))), (6, .int (s.2.2.1 22 k)), (9, .int (1)), (8, .int (-1)), (4, .long (all)), (3, .int (cl)), (1, .long (x)), (0, .ref (a))]) d_Md_define_259 3 rfl (nI_add _ 1) (by decide) rfl ?_
                refine jx_goto (tgt := 147) d_Md_define_262 (by decide) ?_
                refine jx_lv [0, 1, 4, 5, 6, 7] rfl ?_
                exact ih (k + 1) _ (by omega) (by omega) (m_fst_t (bkM_t0 c3 c4) (Or.inr (Int32.not_le.mp c7)))
          ·
            refine jx_iload d_Md_define_199 0 rfl ?_
            refine jx_if_lt (tgt := 220) d_Md_define_201 (by decide) (fun c8 => ?_) (fun c8 => absurd c8 (by decide))
            refine jx_iconst (v0 := 0) d_Md_define_220 (by decide) ?_
            refine jx_istore (lv' := [(9, .int (0)), (8, .int (-1)), (7, .int (nI (k))), (6, .int (m_fst s x all k)), (4, .long (all)), (3, .int (cl)), (1, .long (x)), (0, .ref (a))]) d_Md_define_221 (by decide) rfl ?_
            refine jx_iload d_Md_define_223 0 rfl ?_
            refine jx_if_eq (tgt := 255) d_Md_define_225 (by decide) (fun c9 => ?_) (fun c9 => absurd c9 (by decide))
            refine jx_iload d_Md_define_255 3 rfl ?_
            refine jx_istore (lv' := [(6, .int (m_fst s x all k)), (9, .int (0)), (8, .int (-1)), (7, .int (nI (k))), (4, .long (all)), (3, .int (cl)), (1, .long (x)), (0, .ref (a))]) d_Md_define_257 (by decide) rfl ?_
            refine jx_iinc (v0 := nI (k + 1)) (lv' := [(7, .int (nI (k + 1))), (6, .int (m_fst s x all k)), (9, .int (0)), (8, .int (-1)), (4, .long (all)), (3, .int (cl)), (1, .long (x)), (0, .ref (a))]) d_Md_define_259 3 rfl (nI_add _ 1) (by decide) rfl ?_
            refine jx_goto (tgt := 147) d_Md_define_262 (by decide) ?_
            refine jx_lv [0, 1, 4, 5, 6, 7] rfl ?_
            exact ih (k + 1) _ (by omega) (by omega) (m_fst_f (bkM_n c3 c4 ec))
        | some p =>
          have hp := m_cell_s ec
          have hCc := c_Md_cellOf l G (d - 1) (h := h) (a := a) (s := s) (u := s.2.2.2.1 21 k) hK
          rw [ec] at hCc
          refine jx_callV (M2 := mm_Md_cellOf) rfl (md_tg hK) lk_Md_214 wi_Md_cellOf ws_Md_cellOf d_Md_define_182 hCc cd_Md_cellOf rfl rfl (Nat.le_of_ble_eq_true rfl) (jm_fok (by omega)) (jm_look (by decide) (by omega)) ?_
          refine jx_istore (lv' := [(8, .int (nI (p))), (7, .int (nI (k))), (6, .int (m_fst s x all k)), (4, .long (all)), (3, .int (cl)), (1, .long (x)), (0, .ref (a))]) d_Md_define_185 (by decide) rfl ?_
          refine jx_aload_n d_Md_define_187 6 rfl ?_
          refine jx_get d_Md_define_188 fF_Md_72 (md_tg hK) (md_rr hK (k := 30) (j := 21) rfl rfl rfl) ?_
          refine jx_iload d_Md_define_191 1 rfl ?_
          refine jx_lald d_Md_define_193 (md_ta hK (j := 21) rfl) rfl (jm_vinN (show k < 40 by omega) (by decide)) (jm_atN (show k < 2 ^ 31 by omega) (show (mdH h a s).2.2.2 (a + 21) k = Value.long (s.2.2.2.1 21 k) from md_ral (j := 21) (show k < 40 by omega))) ?_
          refine jx_lload_n d_Md_define_194 5 rfl ?_
          refine jx_lcmp d_Md_define_195 ?_
          refine jx_if_eqL (tgt := 216) d_Md_define_196 (by decide) (fun c10 => ?_) (fun c10 => ?_)
          ·
            refine jx_iconst (v0 := 1) d_Md_define_216 (by decide) ?_
            refine jx_goto (tgt := 221) d_Md_define_217 (by decide) ?_
            refine jx_istore (lv' := [(9, .int (1)), (8, .int (nI (p))), (7, .int (nI (k))), (6, .int (m_fst s x all k)), (4, .long (all)), (3, .int (cl)), (1, .long (x)), (0, .ref (a))]) d_Md_define_221 (by decide) rfl ?_
            refine jx_iload d_Md_define_223 0 rfl ?_
            refine jx_if_eq (tgt := 255) d_Md_define_225 (by decide) (fun c11 => absurd c11 (by decide)) (fun c11 => ?_)
            refine jx_iload d_Md_define_228 3 rfl ?_
            refine jx_if_lt (tgt := 245) d_Md_define_230 (by decide) (fun c12 => ?_) (fun c12 => ?_)
            ·
              refine jx_aload_n d_Md_define_245 7 rfl ?_
              refine jx_get d_Md_define_246 fF_Md_75 (md_tg hK) (md_rr hK (k := 31) (j := 22) rfl rfl rfl) ?_
              refine jx_iload d_Md_define_249 2 rfl ?_
              refine jx_iald d_Md_define_251 (md_ta hK (j := 22) rfl) rfl (jm_vinN (show k < 40 by omega) (by decide)) (jm_atN (show k < 2 ^ 31 by omega) (show (mdH h a s).2.2.2 (a + 22) k = Value.int (s.2.2.1 22 k) from md_rai (j := 22) (show k < 40 by omega))) ?_
              refine jx_goto (tgt := 257) d_Md_define_252 (by decide) ?_
              refine jx_istore (lv' := [(6, .int (s.2.2.1 22 k)), (9, .int (1)), (8, .int (nI (p))), (7, .int (nI (k))), (4, .long (all)), (3, .int (cl)), (1, .long (x)), (0, .ref (a))]) d_Md_define_257 (by decide) rfl ?_
              refine jx_iinc (v0 := nI (k + 1)) (lv' := [(7, .int (nI (k + 1))), (6, .int (s.2.2.1 22 k)), (9, .int (1)), (8, .int (nI (p))), (4, .long (all)), (3, .int (cl)), (1, .long (x)), (0, .ref (a))]) d_Md_define_259 3 rfl (nI_add _ 1) (by decide) rfl ?_
              refine jx_goto (tgt := 147) d_Md_define_262 (by decide) ?_
              refine jx_lv [0, 1, 4, 5, 6, 7] rfl ?_
              exact ih (k + 1) _ (by omega) (by omega) (m_fst_t (bkM_t0 c3 c10) (Or.inl c12))
            ·
              refine jx_aload_n d_Md_define_233 7 rfl ?_
              refine jx_get d_Md_define_234 fF_Md_75 (md_tg hK) (md_rr hK (k := 31) (j := 22) rfl rfl rfl) ?_
              refine jx_iload d_Md_define_237 2 rfl ?_
              refine jx_iald d_Md_define_239 (md_ta hK (j := 22) rfl) rfl (jm_vinN (show k < 40 by omega) (by decide)) (jm_atN (show k < 2 ^ 31 by omega) (show (mdH h a s).2.2.2 (a + 22) k = Value.int (s.2.2.1 22 k) from md_rai (j := 22) (show k < 40 by omega))) ?_
              refine jx_iload d_Md_define_240 3 rfl ?_
              refine jx_icmp_ge (tgt := 255) d_Md_define_242 (by decide) (fun c13 => ?_) (fun c13 => ?_)
              ·
                refine jx_iload d_Md_define_255 3 rfl ?_
                refine jx_istore (lv' := [(6, .int (m_fst s x all k)), (9, .int (1)), (8, .int (nI (p))), (7, .int (nI (k))), (4, .long (all)), (3, .int (cl)), (1, .long (x)), (0, .ref (a))]) d_Md_define_257 (by decide) rfl ?_
                refine jx_iinc (v0 := nI (k + 1)) (lv' := [(7, .int (nI (k + 1))), (6, .int (m_fst s x all k)), (9, .int (1)), (8, .int (nI (p))), (4, .long (all)), (3, .int (cl)), (1, .long (x)), (0, .ref (a))]) d_Md_define_259 3 rfl (nI_add _ 1) (by decide) rfl ?_
                refine jx_goto (tgt := 147) d_Md_define_262 (by decide) ?_
                refine jx_lv [0, 1, 4, 5, 6, 7] rfl ?_
                exact ih (k + 1) _ (by omega) (by omega) (m_fst_n c12 (Int32.not_lt.mpr c13))
              ·
                refine jx_aload_n d_Md_define_245 7 rfl ?_
                refine jx_get d_Md_define_246 fF_Md_75 (md_tg hK) (md_rr hK (k := 31) (j := 22) rfl rfl rfl) ?_
                refine jx_iload d_Md_define_249 2 rfl ?_
                refine jx_iald d_Md_define_251 (md_ta hK (j := 22) rfl) rfl (jm_vinN (show k < 40 by omega) (by decide)) (jm_atN (show k < 2 ^ 31 by omega) (show (mdH h a s).2.2.2 (a + 22) k = Value.int (s.2.2.1 22 k) from md_rai (j := 22) (show k < 40 by omega))) ?_
                refine jx_goto (tgt := 257) d_Md_define_252 (by decide) ?_
                refine jx_istore (lv' := [(6, .int (s.2.2.1 22 k)), (9, .int (1)), (8, .int (nI (p))), (7, .int (nI (k))), (4, .long (all)), (3, .int (cl)), (1, .long (x)), (0, .ref (a))]) d_Md_define_257 (by decide) rfl ?_
                refine jx_iinc (v0 := nI (k + 1)) (lv' := [(7, .int (nI (k + 1))), (6, .int (s.2.2.1 22 k)), (9, .int (1)), (8, .int (nI (p))), (4, .long (all)), (3, .int (cl)), (1, .long (x)), (0, .ref (a))]) d_Md_define_259 3 rfl (nI_add _ 1) (by decide) rfl ?_
                refine jx_goto (tgt := 147) d_Md_define_262 (by decide) ?_
                refine jx_lv [0, 1, 4, 5, 6, 7] rfl ?_
                exact ih (k + 1) _ (by omega) (by omega) (m_fst_t (bkM_t0 c3 c10) (Or.inr (Int32.not_le.mp c13)))
          ·
            refine jx_iload d_Md_define_199 0 rfl ?_
            refine jx_if_ltN (tgt := 220) (p) d_Md_define_201 rfl (by omega) (by decide) (fun c14 => ?_) (fun c14 => ?_)
            · omega
            ·
              refine jx_lload d_Md_define_204 3 rfl ?_
              refine jx_iload d_Md_define_206 0 rfl ?_
              refine jx_lshr d_Md_define_208 ?_
              refine jx_lconst (v0 := 1) d_Md_define_209 (by decide) ?_
              refine jx_land d_Md_define_210 ?_
              refine jx_lconst (v0 := 1) d_Md_define_211 (by decide) ?_
              refine jx_lcmp d_Md_define_212 ?_
              refine jx_if_neL (tgt := 220) d_Md_define_213 (by decide) (fun c15 => ?_) (fun c15 => ?_)
              ·
                refine jx_iconst (v0 := 0) d_Md_define_220 (by decide) ?_
                refine jx_istore (lv' := [(9, .int (0)), (8, .int (nI (p))), (7, .int (nI (k))), (6, .int (m_fst s x all k)), (4, .long (all)), (3, .int (cl)), (1, .long (x)), (0, .ref (a))]) d_Md_define_221 (by decide) rfl ?_
                refine jx_iload d_Md_define_223 0 rfl ?_
                refine jx_if_eq (tgt := 255) d_Md_define_225 (by decide) (fun c16 => ?_) (fun c16 => absurd c16 (by decide))
                refine jx_iload d_Md_define_255 3 rfl ?_
                refine jx_istore (lv' := [(6, .int (m_fst s x all k)), (9, .int (0)), (8, .int (nI (p))), (7, .int (nI (k))), (4, .long (all)), (3, .int (cl)), (1, .long (x)), (0, .ref (a))]) d_Md_define_257 (by decide) rfl ?_
                refine jx_iinc (v0 := nI (k + 1)) (lv' := [(7, .int (nI (k + 1))), (6, .int (m_fst s x all k)), (9, .int (0)), (8, .int (nI (p))), (4, .long (all)), (3, .int (cl)), (1, .long (x)), (0, .ref (a))]) d_Md_define_259 3 rfl (nI_add _ 1) (by decide) rfl ?_
                refine jx_goto (tgt := 147) d_Md_define_262 (by decide) ?_
                refine jx_lv [0, 1, 4, 5, 6, 7] rfl ?_
                exact ih (k + 1) _ (by omega) (by omega) (m_fst_f ((bkM_s c3 c10 ec).trans (Bool.eq_false_iff.mpr (fun q => c15 ((bt_shr1 (by omega)).mpr q)))))
              ·
                refine jx_iconst (v0 := 1) d_Md_define_216 (by decide) ?_
                refine jx_goto (tgt := 221) d_Md_define_217 (by decide) ?_
                refine jx_istore (lv' := [(9, .int (1)), (8, .int (nI (p))), (7, .int (nI (k))), (6, .int (m_fst s x all k)), (4, .long (all)), (3, .int (cl)), (1, .long (x)), (0, .ref (a))]) d_Md_define_221 (by decide) rfl ?_
                refine jx_iload d_Md_define_223 0 rfl ?_
                refine jx_if_eq (tgt := 255) d_Md_define_225 (by decide) (fun c17 => absurd c17 (by decide)) (fun c17 => ?_)
                refine jx_iload d_Md_define_228 3 rfl ?_
                refine jx_if_lt (tgt := 245) d_Md_define_230 (by decide) (fun c18 => ?_) (fun c18 => ?_)
                ·
                  refine jx_aload_n d_Md_define_245 7 rfl ?_
                  refine jx_get d_Md_define_246 fF_Md_75 (md_tg hK) (md_rr hK (k := 31) (j := 22) rfl rfl rfl) ?_
                  refine jx_iload d_Md_define_249 2 rfl ?_
                  refine jx_iald d_Md_define_251 (md_ta hK (j := 22) rfl) rfl (jm_vinN (show k < 40 by omega) (by decide)) (jm_atN (show k < 2 ^ 31 by omega) (show (mdH h a s).2.2.2 (a + 22) k = Value.int (s.2.2.1 22 k) from md_rai (j := 22) (show k < 40 by omega))) ?_
                  refine jx_goto (tgt := 257) d_Md_define_252 (by decide) ?_
                  refine jx_istore (lv' := [(6, .int (s.2.2.1 22 k)), (9, .int (1)), (8, .int (nI (p))), (7, .int (nI (k))), (4, .long (all)), (3, .int (cl)), (1, .long (x)), (0, .ref (a))]) d_Md_define_257 (by decide) rfl ?_
                  refine jx_iinc (v0 := nI (k + 1)) (lv' := [(7, .int (nI (k + 1))), (6, .int (s.2.2.1 22 k)), (9, .int (1)), (8, .int (nI (p))), (4, .long (all)), (3, .int (cl)), (1, .long (x)), (0, .ref (a))]) d_Md_define_259 3 rfl (nI_add _ 1) (by decide) rfl ?_
                  refine jx_goto (tgt := 147) d_Md_define_262 (by decide) ?_
                  refine jx_lv [0, 1, 4, 5, 6, 7] rfl ?_
                  exact ih (k + 1) _ (by omega) (by omega) (m_fst_t ((bkM_s c3 c10 ec).trans ((bt_shr1 (by omega)).mp c15)) (Or.inl c18))
                ·
                  refine jx_aload_n d_Md_define_233 7 rfl ?_
                  refine jx_get d_Md_define_234 fF_Md_75 (md_tg hK) (md_rr hK (k := 31) (j := 22) rfl rfl rfl) ?_
                  refine jx_iload d_Md_define_237 2 rfl ?_
                  refine jx_iald d_Md_define_239 (md_ta hK (j := 22) rfl) rfl (jm_vinN (show k < 40 by omega) (by decide)) (jm_atN (show k < 2 ^ 31 by omega) (show (mdH h a s).2.2.2 (a + 22) k = Value.int (s.2.2.1 22 k) from md_rai (j := 22) (show k < 40 by omega))) ?_
                  refine jx_iload d_Md_define_240 3 rfl ?_
                  refine jx_icmp_ge (tgt := 255) d_Md_define_242 (by decide) (fun c19 => ?_) (fun c19 => ?_)
                  ·
                    refine jx_iload d_Md_define_255 3 rfl ?_
                    refine jx_istore (lv' := [(6, .int (m_fst s x all k)), (9, .int (1)), (8, .int (nI (p))), (7, .int (nI (k))), (4, .long (all)), (3, .int (cl)), (1, .long (x)), (0, .ref (a))]) d_Md_define_257 (by decide) rfl ?_
                    refine jx_iinc (v0 := nI (k + 1)) (lv' := [(7, .int (nI (k + 1))), (6, .int (m_fst s x all k)), (9, .int (1)), (8, .int (nI (p))), (4, .long (all)), (3, .int (cl)), (1, .long (x)), (0, .ref (a))]) d_Md_define_259 3 rfl (nI_add _ 1) (by decide) rfl ?_
                    refine jx_goto (tgt := 147) d_Md_define_262 (by decide) ?_
                    refine jx_lv [0, 1, 4, 5, 6, 7] rfl ?_
                    exact ih (k + 1) _ (by omega) (by omega) (m_fst_n c18 (Int32.not_lt.mpr c19))
                  ·
                    refine jx_aload_n d_Md_define_245 7 rfl ?_
                    refine jx_get d_Md_define_246 fF_Md_75 (md_tg hK) (md_rr hK (k := 31) (j := 22) rfl rfl rfl) ?_
                    refine jx_iload d_Md_define_249 2 rfl ?_
                    refine jx_iald d_Md_define_251 (md_ta hK (j := 22) rfl) rfl (jm_vinN (show k < 40 by omega) (by decide)) (jm_atN (show k < 2 ^ 31 by omega) (show (mdH h a s).2.2.2 (a + 22) k = Value.int (s.2.2.1 22 k) from md_rai (j := 22) (show k < 40 by omega))) ?_
                    refine jx_goto (tgt := 257) d_Md_define_252 (by decide) ?_
                    refine jx_istore (lv' := [(6, .int (s.2.2.1 22 k)), (9, .int (1)), (8, .int (nI (p))), (7, .int (nI (k))), (4, .long (all)), (3, .int (cl)), (1, .long (x)), (0, .ref (a))]) d_Md_define_257 (by decide) rfl ?_
                    refine jx_iinc (v0 := nI (k + 1)) (lv' := [(7, .int (nI (k + 1))), (6, .int (s.2.2.1 22 k)), (9, .int (1)), (8, .int (nI (p))), (4, .long (all)), (3, .int (cl)), (1, .long (x)), (0, .ref (a))]) d_Md_define_259 3 rfl (nI_add _ 1) (by decide) rfl ?_
                    refine jx_goto (tgt := 147) d_Md_define_262 (by decide) ?_
                    refine jx_lv [0, 1, 4, 5, 6, 7] rfl ?_
                    exact ih (k + 1) _ (by omega) (by omega) (m_fst_t ((bkM_s c3 c10 ec).trans ((bt_shr1 (by omega)).mp c15)) (Or.inr (Int32.not_le.mp c19)))
set_option maxHeartbeats 4000000 in
set_option maxRecDepth 100000 in
theorem dg_circ (l : Launch) (G : jm_G) {h : jm_H} {a : Nat} {s : MS} {x all : Int64} {cl v : Int32} {n0 s0 d : Nat} {Post : jm_r → jm_H → Prop} (hd : 1 ≤ d) (hK : MdK h a) (hz : s.1 3 = 0) (hf : ¬ v < 0) (kk : Post (.inl (some (.int v))) (mdH h a (mi (mi (mi s 3 5) 4 v) 2 0))) : jm_X l G mm_Md_define n0 s0 (jm_zn G d n0 s0) Post 265 [(6, .int (v)), (4, .long (all)), (3, .int (cl)), (1, .long (x)), (0, .ref (a))] [] (mdH h a s) := by
  refine jx_iload d_Md_define_265 0 rfl ?_
  refine jx_if_lt (tgt := 277) d_Md_define_267 (by decide) (fun c1 => ?_) (fun c1 => ?_)
  · exact absurd c1 hf
  ·
    refine jx_aload_n d_Md_define_270 4 rfl ?_
    refine jx_iconst (v0 := 5) d_Md_define_271 (by decide) ?_
    refine jx_iload d_Md_define_272 0 rfl ?_
    have hfl := c_Md_fail l G (d - 1) (h := h) (a := a) (s := s) (c := 5) (w := v) hK
    rw [m_fail_of (s := s) hz] at hfl
    refine jx_callV (M2 := mm_Md_fail) rfl (md_tg hK) lk_Md_150 wi_Md_fail ws_Md_fail d_Md_define_274 hfl cd_Md_fail rfl rfl (Nat.le_of_ble_eq_true rfl) (jm_fok (by omega)) (jm_look (by decide) (by omega)) ?_
    refine jx_aload_n d_Md_define_277 4 rfl ?_
    refine jx_iconst (v0 := 0) d_Md_define_278 (by decide) ?_
    refine jx_put (v0 := .int (0)) d_Md_define_279 fF_Md_100 jv_Md ft_Md_tapeSize (md_tg hK) rfl rfl ?_
    refine jx_ath (md_wi (k := 2) rfl) ?_
    refine jx_aload_n d_Md_define_282 4 rfl ?_
    refine jx_get d_Md_define_283 fF_Md_144 (md_tg hK) (show (mdH h a (mi (mi (mi s 3 5) 4 v) 2 0)).2.2.2 a 3 = Value.int (5) from md_ri rfl) ?_
    refine jx_if_le (tgt := 294) d_Md_define_286 (by decide) (fun c2 => absurd c2 (by decide)) (fun c2 => ?_)
    refine jx_aload_n d_Md_define_289 4 rfl ?_
    refine jx_get d_Md_define_290 fF_Md_147 (md_tg hK) (show (mdH h a (mi (mi (mi s 3 5) 4 v) 2 0)).2.2.2 a 4 = Value.int (v) from md_ri rfl) ?_
    exact jx_iret d_Md_define_293 rfl (kk)
set_option maxHeartbeats 4000000 in
set_option maxRecDepth 100000 in
theorem dh_old (l : Launch) (G : jm_G) {h : jm_H} {a : Nat} {s : MS} {x all : Int64} {v : Int32} {c : Nat} {n0 s0 d : Nat} {Post : jm_r → jm_H → Prop} (hK : MdK h a) (hz : s.1 3 = 0) (hc : c < 64) (hf : v < 0) (kk : jm_X l G mm_Md_define n0 s0 (jm_zn G d n0 s0) Post 343 [(3, .int (nI (c))), (1, .long (x)), (0, .ref (a))] [] (mdH h a (mi s 2 0))) : jm_X l G mm_Md_define n0 s0 (jm_zn G d n0 s0) Post 265 [(6, .int (v)), (4, .long (all)), (3, .int (nI (c))), (1, .long (x)), (0, .ref (a))] [] (mdH h a s) := by
  refine jx_iload d_Md_define_265 0 rfl ?_
  refine jx_if_lt (tgt := 277) d_Md_define_267 (by decide) (fun c1 => ?_) (fun c1 => ?_)
  ·
    refine jx_aload_n d_Md_define_277 4 rfl ?_
    refine jx_iconst (v0 := 0) d_Md_define_278 (by decide) ?_
    refine jx_put (v0 := .int (0)) d_Md_define_279 fF_Md_100 jv_Md ft_Md_tapeSize (md_tg hK) rfl rfl ?_
    refine jx_ath (md_wi (k := 2) rfl) ?_
    refine jx_aload_n d_Md_define_282 4 rfl ?_
    refine jx_get d_Md_define_283 fF_Md_144 (md_tg hK) ((show (mdH h a (mi s 2 0)).2.2.2 a 3 = Value.int (s.1 3) from md_ri rfl).trans (congrArg Value.int hz)) ?_
    refine jx_if_le (tgt := 294) d_Md_define_286 (by decide) (fun c2 => ?_) (fun c2 => absurd c2 (by decide))
    refine jx_iload_n d_Md_define_294 2 rfl ?_
    refine jx_if_geN (tgt := 343) (c) d_Md_define_295 rfl (by omega) (by decide) (fun c3 => ?_) (fun c3 => ?_)
    ·
      refine jx_lv [2, 3, 4] rfl ?_
      exact kk
    · omega
  · exact absurd hf c1
set_option maxHeartbeats 4000000 in
set_option maxRecDepth 100000 in
theorem dh_new (l : Launch) (G : jm_G) {h : jm_H} {a : Nat} {s : MS} {x all : Int64} {v : Int32} {n0 s0 d : Nat} {Post : jm_r → jm_H → Prop} (hK : MdK h a) (hz : s.1 3 = 0) (hf : v < 0) (kk : jm_X l G mm_Md_define n0 s0 (jm_zn G d n0 s0) Post 300 [(3, .int (nI 0)), (1, .long (x)), (0, .ref (a))] [] (mdH h a (mi s 2 0))) : jm_X l G mm_Md_define n0 s0 (jm_zn G d n0 s0) Post 265 [(6, .int (v)), (4, .long (all)), (3, .int (-1)), (1, .long (x)), (0, .ref (a))] [] (mdH h a s) := by
  refine jx_iload d_Md_define_265 0 rfl ?_
  refine jx_if_lt (tgt := 277) d_Md_define_267 (by decide) (fun c1 => ?_) (fun c1 => ?_)
  ·
    refine jx_aload_n d_Md_define_277 4 rfl ?_
    refine jx_iconst (v0 := 0) d_Md_define_278 (by decide) ?_
    refine jx_put (v0 := .int (0)) d_Md_define_279 fF_Md_100 jv_Md ft_Md_tapeSize (md_tg hK) rfl rfl ?_
    refine jx_ath (md_wi (k := 2) rfl) ?_
    refine jx_aload_n d_Md_define_282 4 rfl ?_
    refine jx_get d_Md_define_283 fF_Md_144 (md_tg hK) ((show (mdH h a (mi s 2 0)).2.2.2 a 3 = Value.int (s.1 3) from md_ri rfl).trans (congrArg Value.int hz)) ?_
    refine jx_if_le (tgt := 294) d_Md_define_286 (by decide) (fun c2 => ?_) (fun c2 => absurd c2 (by decide))
    refine jx_iload_n d_Md_define_294 2 rfl ?_
    refine jx_if_ge (tgt := 343) d_Md_define_295 (by decide) (fun c3 => absurd c3 (by decide)) (fun c3 => ?_)
    refine jx_iconst (v0 := 0) d_Md_define_298 (by decide) ?_
    refine jx_istore_n (lv' := [(3, .int (0)), (6, .int (v)), (4, .long (all)), (1, .long (x)), (0, .ref (a))]) d_Md_define_299 (by decide) rfl ?_
    refine jx_lv [0, 3, 4] rfl ?_
    exact kk
  · exact absurd hf c1
set_option maxHeartbeats 4000000 in
set_option maxRecDepth 100000 in
theorem di_full (l : Launch) (G : jm_G) {h : jm_H} {a : Nat} {s : MS} {x : Int64} {c : Nat} {n0 s0 d : Nat} {Post : jm_r → jm_H → Prop} (hK : MdK h a) (hc : c < 64) (ht : tM s c = true) (kk : jm_X l G mm_Md_define n0 s0 (jm_zn G d n0 s0) Post 300 [(3, .int (nI (c + 1))), (1, .long (x)), (0, .ref (a))] [] (mdH h a s)) : jm_X l G mm_Md_define n0 s0 (jm_zn G d n0 s0) Post 300 [(3, .int (nI (c))), (1, .long (x)), (0, .ref (a))] [] (mdH h a s) := by
  refine jx_aload_n d_Md_define_300 2 rfl ?_
  refine jx_get d_Md_define_301 fF_Md_13 (md_tg hK) (md_rr hK (k := 5) (j := 2) rfl rfl rfl) ?_
  refine jx_iload_n d_Md_define_304 0 rfl ?_
  refine jx_zald d_Md_define_305 (md_ta hK (j := 2) rfl) rfl (jm_vinN (show c < 64 by omega) (by decide)) (jm_atN (show c < 2 ^ 31 by omega) (show (mdH h a s).2.2.2 (a + 2) c = Value.int (jb (s.2.2.2.2 2 c)) from md_raz (j := 2) (show c < 64 by omega))) ?_
  refine jx_if_eq (tgt := 315) d_Md_define_306 (by decide) (fun c1 => ?_) (fun c1 => ?_)
  · exact absurd (jb0 c1) (by rw [show s.2.2.2.2 2 c = true from ht]; decide)
  ·
    refine jx_iinc (v0 := nI (c + 1)) (lv' := [(3, .int (nI (c + 1))), (1, .long (x)), (0, .ref (a))]) d_Md_define_309 0 rfl (nI_add _ 1) (by decide) rfl ?_
    refine jx_goto (tgt := 300) d_Md_define_312 (by decide) ?_
    exact kk
set_option maxHeartbeats 4000000 in
set_option maxRecDepth 100000 in
theorem di_free (l : Launch) (G : jm_G) {h : jm_H} {a : Nat} {s : MS} {x : Int64} {c : Nat} {n0 s0 d : Nat} {Post : jm_r → jm_H → Prop} (hK : MdK h a) (hc : c < 64) (ht : tM s c = false) (kk : jm_X l G mm_Md_define n0 s0 (jm_zn G d n0 s0) Post 343 [(3, .int (nI (c))), (1, .long (x)), (0, .ref (a))] [] (mdH h a (mal (mai (mal (maz s 2 c true) 3 c x) 4 c 0) 5 c 0))) : jm_X l G mm_Md_define n0 s0 (jm_zn G d n0 s0) Post 300 [(3, .int (nI (c))), (1, .long (x)), (0, .ref (a))] [] (mdH h a s) := by
  refine jx_aload_n d_Md_define_300 2 rfl ?_
  refine jx_get d_Md_define_301 fF_Md_13 (md_tg hK) (md_rr hK (k := 5) (j := 2) rfl rfl rfl) ?_
  refine jx_iload_n d_Md_define_304 0 rfl ?_
  refine jx_zald d_Md_define_305 (md_ta hK (j := 2) rfl) rfl (jm_vinN (show c < 64 by omega) (by decide)) (jm_atN (show c < 2 ^ 31 by omega) (show (mdH h a s).2.2.2 (a + 2) c = Value.int (jb (s.2.2.2.2 2 c)) from md_raz (j := 2) (show c < 64 by omega))) ?_
  refine jx_if_eq (tgt := 315) d_Md_define_306 (by decide) (fun c1 => ?_) (fun c1 => ?_)
  ·
    refine jx_aload_n d_Md_define_315 2 rfl ?_
    refine jx_get d_Md_define_316 fF_Md_13 (md_tg hK) (md_rr hK (k := 5) (j := 2) rfl rfl rfl) ?_
    refine jx_iload_n d_Md_define_319 0 rfl ?_
    refine jx_iconst (v0 := 1) d_Md_define_320 (by decide) ?_
    refine jx_zast d_Md_define_321 (md_ta hK (j := 2) rfl) rfl (jm_vinN (show c < 64 by omega) (by decide)) ?_
    refine jx_ath ((jm_putN (show c < 2 ^ 31 by omega)).trans (show jm_put (mdH h a s) (a + 2) c (narrow .boolean (.int 1)) = mdH h a (maz s 2 c true) from md_waz (j := 2) (v := true) (show c < 64 by omega))) ?_
    refine jx_aload_n d_Md_define_322 2 rfl ?_
    refine jx_get d_Md_define_323 fF_Md_17 (md_tg hK) (md_rr hK (k := 6) (j := 3) rfl rfl rfl) ?_
    refine jx_iload_n d_Md_define_326 0 rfl ?_
    refine jx_lload_n d_Md_define_327 1 rfl ?_
    refine jx_last d_Md_define_328 (md_ta hK (j := 3) rfl) rfl (jm_vinN (show c < 64 by omega) (by decide)) ?_
    refine jx_ath ((jm_putN (show c < 2 ^ 31 by omega)).trans (md_wal (j := 3) (show c < 64 by omega))) ?_
    refine jx_aload_n d_Md_define_329 2 rfl ?_
    refine jx_get d_Md_define_330 fF_Md_21 (md_tg hK) (md_rr hK (k := 7) (j := 4) rfl rfl rfl) ?_
    refine jx_iload_n d_Md_define_333 0 rfl ?_
    refine jx_iconst (v0 := 0) d_Md_define_334 (by decide) ?_
    refine jx_iast d_Md_define_335 (md_ta hK (j := 4) rfl) rfl (jm_vinN (show c < 64 by omega) (by decide)) ?_
    refine jx_ath ((jm_putN (show c < 2 ^ 31 by omega)).trans (md_wai (j := 4) (show c < 64 by omega))) ?_
    refine jx_aload_n d_Md_define_336 2 rfl ?_
    refine jx_get d_Md_define_337 fF_Md_24 (md_tg hK) (md_rr hK (k := 8) (j := 5) rfl rfl rfl) ?_
    refine jx_iload_n d_Md_define_340 0 rfl ?_
    refine jx_lconst (v0 := 0) d_Md_define_341 (by decide) ?_
    refine jx_last d_Md_define_342 (md_ta hK (j := 5) rfl) rfl (jm_vinN (show c < 64 by omega) (by decide)) ?_
    refine jx_ath ((jm_putN (show c < 2 ^ 31 by omega)).trans (md_wal (j := 5) (show c < 64 by omega))) ?_
    exact kk
  · exact absurd (by rw [show s.2.2.2.2 2 c = false from ht]; rfl) c1
set_option maxHeartbeats 4000000 in
set_option maxRecDepth 100000 in
theorem dj_head (l : Launch) (G : jm_G) {h : jm_H} {a : Nat} {s : MS} {x : Int64} {c kc : Nat} {n0 s0 d : Nat} {Post : jm_r → jm_H → Prop} (hK : MdK h a) (hc : c < 64) (hkc : s.1 32 = nI kc) (kk : jm_X l G mm_Md_define n0 s0 (jm_zn G d n0 s0) Post 375 [(7, .int (nI 0)), (3, .int (nI (c))), (0, .ref (a))] [] (mdH h a (mai (mai (maz s 6 c false) 8 c (nI kc)) 7 c (s.2.2.1 25 0)))) : jm_X l G mm_Md_define n0 s0 (jm_zn G d n0 s0) Post 343 [(3, .int (nI (c))), (1, .long (x)), (0, .ref (a))] [] (mdH h a s) := by
  refine jx_aload_n d_Md_define_343 2 rfl ?_
  refine jx_get d_Md_define_344 fF_Md_27 (md_tg hK) (md_rr hK (k := 9) (j := 6) rfl rfl rfl) ?_
  refine jx_iload_n d_Md_define_347 0 rfl ?_
  refine jx_iconst (v0 := 0) d_Md_define_348 (by decide) ?_
  refine jx_zast d_Md_define_349 (md_ta hK (j := 6) rfl) rfl (jm_vinN (show c < 64 by omega) (by decide)) ?_
  refine jx_ath ((jm_putN (show c < 2 ^ 31 by omega)).trans (show jm_put (mdH h a s) (a + 6) c (narrow .boolean (.int 0)) = mdH h a (maz s 6 c false) from md_waz (j := 6) (v := false) (show c < 64 by omega))) ?_
  refine jx_aload_n d_Md_define_350 2 rfl ?_
  refine jx_get d_Md_define_351 fF_Md_33 (md_tg hK) (md_rr hK (k := 11) (j := 8) rfl rfl rfl) ?_
  refine jx_iload_n d_Md_define_354 0 rfl ?_
  refine jx_aload_n d_Md_define_355 2 rfl ?_
  refine jx_get d_Md_define_356 fF_Md_154 (md_tg hK) ((show (mdH h a (maz s 6 c false)).2.2.2 a 32 = Value.int (s.1 32) from md_ri rfl).trans (congrArg Value.int hkc)) ?_
  refine jx_iast d_Md_define_359 (md_ta hK (j := 8) rfl) rfl (jm_vinN (show c < 64 by omega) (by decide)) ?_
  refine jx_ath ((jm_putN (show c < 2 ^ 31 by omega)).trans (md_wai (j := 8) (show c < 64 by omega))) ?_
  refine jx_aload_n d_Md_define_360 2 rfl ?_
  refine jx_get d_Md_define_361 fF_Md_30 (md_tg hK) (md_rr hK (k := 10) (j := 7) rfl rfl rfl) ?_
  refine jx_iload_n d_Md_define_364 0 rfl ?_
  refine jx_aload_n d_Md_define_365 2 rfl ?_
  refine jx_get d_Md_define_366 fF_Md_84 (md_tg hK) (md_rr hK (k := 36) (j := 25) rfl rfl rfl) ?_
  refine jx_iconst (v0 := 0) d_Md_define_369 (by decide) ?_
  refine jx_iald d_Md_define_370 (md_ta hK (j := 25) rfl) rfl (jm_vinN (show 0 < 100 by omega) (by decide)) (jm_atN (show 0 < 2 ^ 31 by omega) (show (mdH h a (mai (maz s 6 c false) 8 c (nI kc))).2.2.2 (a + 25) 0 = Value.int (s.2.2.1 25 0) from md_rai (j := 25) (show 0 < 100 by omega))) ?_
  refine jx_iast d_Md_define_371 (md_ta hK (j := 7) rfl) rfl (jm_vinN (show c < 64 by omega) (by decide)) ?_
  refine jx_ath ((jm_putN (show c < 2 ^ 31 by omega)).trans (md_wai (j := 7) (show c < 64 by omega))) ?_
  refine jx_iconst (v0 := 0) d_Md_define_372 (by decide) ?_
  refine jx_istore (lv' := [(7, .int (0)), (3, .int (nI (c))), (1, .long (x)), (0, .ref (a))]) d_Md_define_373 (by decide) rfl ?_
  refine jx_lv [0, 1, 3] rfl ?_
  exact kk
set_option maxHeartbeats 4000000 in
set_option maxRecDepth 100000 in
theorem dj_copy (l : Launch) (G : jm_G) {h : jm_H} {a : Nat} {s : MS} {c k kc : Nat} {n0 s0 d : Nat} {Post : jm_r → jm_H → Prop} (hK : MdK h a) (hc : c < 64) (hkc : s.1 32 = nI kc) (hk40 : kc ≤ 40) (hk : k < kc) (kk : jm_X l G mm_Md_define n0 s0 (jm_zn G d n0 s0) Post 375 [(7, .int (nI (k + 1))), (3, .int (nI (c))), (0, .ref (a))] [] (mdH h a (mal (mai (mai (mai (mai s 9 (40 * c + k) (s.2.2.1 17 k)) 10 (40 * c + k) (s.2.2.1 18 k)) 11 (40 * c + k) (s.2.2.1 19 k)) 12 (40 * c + k) (s.2.2.1 20 k)) 13 (40 * c + k) (s.2.2.2.1 21 k)))) : jm_X l G mm_Md_define n0 s0 (jm_zn G d n0 s0) Post 375 [(7, .int (nI (k))), (3, .int (nI (c))), (0, .ref (a))] [] (mdH h a s) := by
  refine jx_iload d_Md_define_375 0 rfl ?_
  refine jx_aload_n d_Md_define_377 2 rfl ?_
  refine jx_get d_Md_define_378 fF_Md_154 (md_tg hK) ((show (mdH h a s).2.2.2 a 32 = Value.int (s.1 32) from md_ri rfl).trans (congrArg Value.int hkc)) ?_
  refine jx_icmp_geN (tgt := 469) (k) (kc) d_Md_define_381 rfl rfl (by omega) (by omega) (by decide) (fun c1 => ?_) (fun c1 => ?_)
  · omega
  ·
    refine jx_bipush (v0 := 40) d_Md_define_384 (by decide) ?_
    refine jx_iload_n d_Md_define_386 1 rfl ?_
    refine jx_imul d_Md_define_387 ?_
    refine jx_ati (pk_mul (40) (c)) ?_
    refine jx_iload d_Md_define_388 0 rfl ?_
    refine jx_iadd d_Md_define_390 ?_
    refine jx_ati (nI_add ((40) * (c)) (k)) ?_
    refine jx_istore (lv' := [(8, .int (nI (((40) * (c)) + (k)))), (7, .int (nI (k))), (3, .int (nI (c))), (0, .ref (a))]) d_Md_define_391 (by decide) rfl ?_
    refine jx_aload_n d_Md_define_393 3 rfl ?_
    refine jx_get d_Md_define_394 fF_Md_36 (md_tg hK) (md_rr hK (k := 12) (j := 9) rfl rfl rfl) ?_
    refine jx_iload d_Md_define_397 0 rfl ?_
    refine jx_aload_n d_Md_define_399 3 rfl ?_
    refine jx_get d_Md_define_400 fF_Md_60 (md_tg hK) (md_rr hK (k := 26) (j := 17) rfl rfl rfl) ?_
    refine jx_iload d_Md_define_403 1 rfl ?_
    refine jx_iald d_Md_define_405 (md_ta hK (j := 17) rfl) rfl (jm_vinN (show k < 40 by omega) (by decide)) (jm_atN (show k < 2 ^ 31 by omega) (show (mdH h a s).2.2.2 (a + 17) k = Value.int (s.2.2.1 17 k) from md_rai (j := 17) (show k < 40 by omega))) ?_
    refine jx_iast d_Md_define_406 (md_ta hK (j := 9) rfl) rfl (jm_vinN (show ((40) * (c)) + (k) < 2560 by omega) (by decide)) ?_
    refine jx_ath ((jm_putN (show ((40) * (c)) + (k) < 2 ^ 31 by omega)).trans (md_wai (j := 9) (show ((40) * (c)) + (k) < 2560 by omega))) ?_
    refine jx_aload_n d_Md_define_407 3 rfl ?_
    refine jx_get d_Md_define_408 fF_Md_39 (md_tg hK) (md_rr hK (k := 13) (j := 10) rfl rfl rfl) ?_
    refine jx_iload d_Md_define_411 0 rfl ?_
    refine jx_aload_n d_Md_define_413 3 rfl ?_
    refine jx_get d_Md_define_414 fF_Md_63 (md_tg hK) (md_rr hK (k := 27) (j := 18) rfl rfl rfl) ?_
    refine jx_iload d_Md_define_417 1 rfl ?_
    refine jx_iald d_Md_define_419 (md_ta hK (j := 18) rfl) rfl (jm_vinN (show k < 40 by omega) (by decide)) (jm_atN (show k < 2 ^ 31 by omega) (show (mdH h a (mai s 9 (((40) * (c)) + (k)) (s.2.2.1 17 k))).2.2.2 (a + 18) k = Value.int (s.2.2.1 18 k) from md_rai (j := 18) (show k < 40 by omega))) ?_
    refine jx_iast d_Md_define_420 (md_ta hK (j := 10) rfl) rfl (jm_vinN (show ((40) * (c)) + (k) < 2560 by omega) (by decide)) ?_
    refine jx_ath ((jm_putN (show ((40) * (c)) + (k) < 2 ^ 31 by omega)).trans (md_wai (j := 10) (show ((40) * (c)) + (k) < 2560 by omega))) ?_
    refine jx_aload_n d_Md_define_421 3 rfl ?_
    refine jx_get d_Md_define_422 fF_Md_42 (md_tg hK) (md_rr hK (k := 14) (j := 11) rfl rfl rfl) ?_
    refine jx_iload d_Md_define_425 0 rfl ?_
    refine jx_aload_n d_Md_define_427 3 rfl ?_
    refine jx_get d_Md_define_428 fF_Md_66 (md_tg hK) (md_rr hK (k := 28) (j := 19) rfl rfl rfl) ?_
    refine jx_iload d_Md_define_431 1 rfl ?_
    refine jx_iald d_Md_define_433 (md_ta hK (j := 19) rfl) rfl (jm_vinN (show k < 40 by omega) (by decide)) (jm_atN (show k < 2 ^ 31 by omega) (show (mdH h a (mai (mai s 9 (((40) * (c)) + (k)) (s.2.2.1 17 k)) 10 (((40) * (c)) + (k)) (s.2.2.1 18 k))).2.2.2 (a + 19) k = Value.int (s.2.2.1 19 k) from md_rai (j := 19) (show k < 40 by omega))) ?_
    refine jx_iast d_Md_define_434 (md_ta hK (j := 11) rfl) rfl (jm_vinN (show ((40) * (c)) + (k) < 2560 by omega) (by decide)) ?_
    refine jx_ath ((jm_putN (show ((40) * (c)) + (k) < 2 ^ 31 by omega)).trans (md_wai (j := 11) (show ((40) * (c)) + (k) < 2560 by omega))) ?_
    refine jx_aload_n d_Md_define_435 3 rfl ?_
    refine jx_get d_Md_define_436 fF_Md_45 (md_tg hK) (md_rr hK (k := 15) (j := 12) rfl rfl rfl) ?_
    refine jx_iload d_Md_define_439 0 rfl ?_
    refine jx_aload_n d_Md_define_441 3 rfl ?_
    refine jx_get d_Md_define_442 fF_Md_69 (md_tg hK) (md_rr hK (k := 29) (j := 20) rfl rfl rfl) ?_
    refine jx_iload d_Md_define_445 1 rfl ?_
    refine jx_iald d_Md_define_447 (md_ta hK (j := 20) rfl) rfl (jm_vinN (show k < 40 by omega) (by decide)) (jm_atN (show k < 2 ^ 31 by omega) (show (mdH h a (mai (mai (mai s 9 (((40) * (c)) + (k)) (s.2.2.1 17 k)) 10 (((40) * (c)) + (k)) (s.2.2.1 18 k)) 11 (((40) * (c)) + (k)) (s.2.2.1 19 k))).2.2.2 (a + 20) k = Value.int (s.2.2.1 20 k) from md_rai (j := 20) (show k < 40 by omega))) ?_
    refine jx_iast d_Md_define_448 (md_ta hK (j := 12) rfl) rfl (jm_vinN (show ((40) * (c)) + (k) < 2560 by omega) (by decide)) ?_
    refine jx_ath ((jm_putN (show ((40) * (c)) + (k) < 2 ^ 31 by omega)).trans (md_wai (j := 12) (show ((40) * (c)) + (k) < 2560 by omega))) ?_
    refine jx_aload_n d_Md_define_449 3 rfl ?_
    refine jx_get d_Md_define_450 fF_Md_48 (md_tg hK) (md_rr hK (k := 16) (j := 13) rfl rfl rfl) ?_
    refine jx_iload d_Md_define_453 0 rfl ?_
    refine jx_aload_n d_Md_define_455 3 rfl ?_
    refine jx_get d_Md_define_456 fF_Md_72 (md_tg hK) (md_rr hK (k := 30) (j := 21) rfl rfl rfl) ?_
    refine jx_iload d_Md_define_459 1 rfl ?_
    refine jx_lald d_Md_define_461 (md_ta hK (j := 21) rfl) rfl (jm_vinN (show k < 40 by omega) (by decide)) (jm_atN (show k < 2 ^ 31 by omega) (show (mdH h a (mai (mai (mai (mai s 9 (((40) * (c)) + (k)) (s.2.2.1 17 k)) 10 (((40) * (c)) + (k)) (s.2.2.1 18 k)) 11 (((40) * (c)) + (k)) (s.2.2.1 19 k)) 12 (((40) * (c)) + (k)) (s.2.2.1 20 k))).2.2.2 (a + 21) k = Value.long (s.2.2.2.1 21 k) from md_ral (j := 21) (show k < 40 by omega))) ?_
    refine jx_last d_Md_define_462 (md_ta hK (j := 13) rfl) rfl (jm_vinN (show ((40) * (c)) + (k) < 2560 by omega) (by decide)) ?_
    refine jx_ath ((jm_putN (show ((40) * (c)) + (k) < 2 ^ 31 by omega)).trans (md_wal (j := 13) (show ((40) * (c)) + (k) < 2560 by omega))) ?_
    refine jx_iinc (v0 := nI (k + 1)) (lv' := [(7, .int (nI (k + 1))), (8, .int (nI (((40) * (c)) + (k)))), (3, .int (nI (c))), (0, .ref (a))]) d_Md_define_463 1 rfl (nI_add _ 1) (by decide) rfl ?_
    refine jx_goto (tgt := 375) d_Md_define_466 (by decide) ?_
    refine jx_lv [0, 2, 3] rfl ?_
    exact kk
set_option maxHeartbeats 4000000 in
set_option maxRecDepth 100000 in
theorem dj_end (l : Launch) (G : jm_G) {h : jm_H} {a : Nat} {s : MS} {c kc : Nat} {n0 s0 d : Nat} {Post : jm_r → jm_H → Prop} (hK : MdK h a) (hkc : s.1 32 = nI kc) (hk40 : kc ≤ 40) (kk : Post (.inl (some (.int (-1)))) (mdH h a s)) : jm_X l G mm_Md_define n0 s0 (jm_zn G d n0 s0) Post 375 [(7, .int (nI (kc))), (3, .int (nI (c))), (0, .ref (a))] [] (mdH h a s) := by
  refine jx_iload d_Md_define_375 0 rfl ?_
  refine jx_aload_n d_Md_define_377 2 rfl ?_
  refine jx_get d_Md_define_378 fF_Md_154 (md_tg hK) ((show (mdH h a s).2.2.2 a 32 = Value.int (s.1 32) from md_ri rfl).trans (congrArg Value.int hkc)) ?_
  refine jx_icmp_geN (tgt := 469) (kc) (kc) d_Md_define_381 rfl rfl (by omega) (by omega) (by decide) (fun c1 => ?_) (fun c1 => ?_)
  ·
    refine jx_iconst (v0 := -1) d_Md_define_469 (by decide) ?_
    exact jx_iret d_Md_define_470 rfl (kk)
  · omega
