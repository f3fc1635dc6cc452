/-! the law: each case of its switch, its loop, its start -/
theorem LI.tx {sc len : Nat} {S : Nat → Int32} {x j z0 : Nat} {h : jm_H} (hL : LI sc len S x j z0 h) : h.2.2.1 x = (jm_o 0, 3) := by
  obtain ⟨-, ⟨s, N, n, B, fc, fp, m, R, T, ls, tot, LT, -, hI, -⟩, -⟩ := hL
  exact hI.1.1
theorem LI.up {sc len : Nat} {S : Nat → Int32} {x j z0 : Nat} {h : jm_H} (hL : LI sc len S x j z0 h) : LI sc len S x (j + 1) z0 h := ⟨hL.1, hL.2.1, by have := hL.2.2.1; omega, by have := hL.2.2.2; omega⟩
set_option maxHeartbeats 4000000 in
set_option maxRecDepth 100000 in
theorem lc_feed {l : Launch} {G : jm_G} {d n0 s0 : Nat} {Post : jm_r → jm_H → Prop} {sc len : Nat} {S : Nat → Int32} {x j i z0 : Nat} {h : jm_H} (hl : l.stackTraces = false) (hd : 96 ≤ d) (hsb : sc < G.2.2) (hL : LI sc len S x j z0 h) (hi : i + 6 ≤ len) (hlen : len ≤ 3072) (kk : ∀ h2, LI sc len S x (j + 1) z0 h2 → jm_X l G mm_Lw_law n0 s0 (jm_zn G d n0 s0) Post 661 [(4, .int (nI i)), (3, .ref (x + 47)), (2, .ref (x + 18)), (1, .ref x), (0, .ref sc)] [] h2) : jm_X l G mm_Lw_law n0 s0 (jm_zn G d n0 s0) Post 104 [(4, .int (nI i)), (3, .ref (x + 47)), (2, .ref (x + 18)), (1, .ref x), (0, .ref sc)] [] h := by
  obtain ⟨k, b, h1, h2, hC1, hC2, hC3, ⟨bb, hb⟩, hk, hO1, ta1, ta2, hL2⟩ := op_feed (l := l) (G := G) (d := d - 1) hl (by omega) (wa := S (i + 1)) (wb := S (i + 2)) (wc := S (i + 3)) (wd := S (i + 4)) (we := S (i + 5)) hL
  subst hb
  rcases hk with ⟨hk, ow⟩ | hk
  · subst hk
    refine jx_aload_n d_Lw_law_104 3 rfl ?_
    refine jx_aload_n d_Lw_law_105 4 rfl ?_
    refine jx_iload d_Lw_law_106 0 rfl ?_
    refine jx_iconst (v0 := 1) d_Lw_law_108 (by decide) ?_
    refine jx_iadd d_Lw_law_109 ?_
    refine jx_ati (nI_add (i) (1)) ?_
    refine jx_sald d_Lw_law_110 hsb hL.1.1 (jm_vinN (n := (i) + (1)) (show (i) + (1) < len by omega) (show len < 2 ^ 31 by omega)) (jm_atN (n := (i) + (1)) (show (i) + (1) < 2 ^ 31 by omega) (hL.1.2.1 ((i) + (1)) (by omega))) ?_
    refine jx_aload_n d_Lw_law_111 4 rfl ?_
    refine jx_iload d_Lw_law_112 0 rfl ?_
    refine jx_iconst (v0 := 2) d_Lw_law_114 (by decide) ?_
    refine jx_iadd d_Lw_law_115 ?_
    refine jx_ati (nI_add (i) (2)) ?_
    refine jx_sald d_Lw_law_116 hsb hL.1.1 (jm_vinN (n := (i) + (2)) (show (i) + (2) < len by omega) (show len < 2 ^ 31 by omega)) (jm_atN (n := (i) + (2)) (show (i) + (2) < 2 ^ 31 by omega) (hL.1.2.1 ((i) + (2)) (by omega))) ?_
    refine jx_aload_n d_Lw_law_117 4 rfl ?_
    refine jx_iload d_Lw_law_118 0 rfl ?_
    refine jx_iconst (v0 := 3) d_Lw_law_120 (by decide) ?_
    refine jx_iadd d_Lw_law_121 ?_
    refine jx_ati (nI_add (i) (3)) ?_
    refine jx_sald d_Lw_law_122 hsb hL.1.1 (jm_vinN (n := (i) + (3)) (show (i) + (3) < len by omega) (show len < 2 ^ 31 by omega)) (jm_atN (n := (i) + (3)) (show (i) + (3) < 2 ^ 31 by omega) (hL.1.2.1 ((i) + (3)) (by omega))) ?_
    refine jx_aload_n d_Lw_law_123 4 rfl ?_
    refine jx_iload d_Lw_law_124 0 rfl ?_
    refine jx_iconst (v0 := 4) d_Lw_law_126 (by decide) ?_
    refine jx_iadd d_Lw_law_127 ?_
    refine jx_ati (nI_add (i) (4)) ?_
    refine jx_sald d_Lw_law_128 hsb hL.1.1 (jm_vinN (n := (i) + (4)) (show (i) + (4) < len by omega) (show len < 2 ^ 31 by omega)) (jm_atN (n := (i) + (4)) (show (i) + (4) < 2 ^ 31 by omega) (hL.1.2.1 ((i) + (4)) (by omega))) ?_
    refine jx_aload_n d_Lw_law_129 4 rfl ?_
    refine jx_iload d_Lw_law_130 0 rfl ?_
    refine jx_iconst (v0 := 5) d_Lw_law_132 (by decide) ?_
    refine jx_iadd d_Lw_law_133 ?_
    refine jx_ati (nI_add (i) (5)) ?_
    refine jx_sald d_Lw_law_134 hsb hL.1.1 (jm_vinN (n := (i) + (5)) (show (i) + (5) < len by omega) (show len < 2 ^ 31 by omega)) (jm_atN (n := (i) + (5)) (show (i) + (5) < 2 ^ 31 by omega) (hL.1.2.1 ((i) + (5)) (by omega))) ?_
    refine jx_aload_n d_Lw_law_135 1 rfl ?_
    refine jx_callSW (M2 := mm_Lw_feed) (n := 7) lk_Lw_56 wt_Lw_feed d_Lw_law_136 hC1 wc_Lw_feed wn_Lw ⟨by decide, by decide, by decide +kernel⟩ rfl rfl (Nat.le_of_ble_eq_true rfl) (jm_fok (by omega)) (jm_look (by decide) (by omega)) ?_
    refine jx_istore (lv' := [(5, .int (0)), (4, .int (nI (i))), (3, .ref (x + 47)), (2, .ref (x + 18)), (1, .ref (x)), (0, .ref (sc))]) d_Lw_law_139 (by decide) rfl ?_
    refine jx_aload_n d_Lw_law_141 3 rfl ?_
    refine jx_aload_n d_Lw_law_142 5 rfl ?_
    refine jx_iload d_Lw_law_143 1 rfl ?_
    refine jx_iconst (v0 := 1) d_Lw_law_145 (by decide) ?_
    refine jx_iadd d_Lw_law_146 ?_
    refine jx_ati (nI_add (i) (1)) ?_
    refine jx_sald d_Lw_law_147 hsb hO1.1 (jm_vinN (n := (i) + (1)) (show (i) + (1) < len by omega) (show len < 2 ^ 31 by omega)) (jm_atN (n := (i) + (1)) (show (i) + (1) < 2 ^ 31 by omega) (hO1.2.1 ((i) + (1)) (by omega))) ?_
    refine jx_aload_n d_Lw_law_148 5 rfl ?_
    refine jx_iload d_Lw_law_149 1 rfl ?_
    refine jx_iconst (v0 := 2) d_Lw_law_151 (by decide) ?_
    refine jx_iadd d_Lw_law_152 ?_
    refine jx_ati (nI_add (i) (2)) ?_
    refine jx_sald d_Lw_law_153 hsb hO1.1 (jm_vinN (n := (i) + (2)) (show (i) + (2) < len by omega) (show len < 2 ^ 31 by omega)) (jm_atN (n := (i) + (2)) (show (i) + (2) < 2 ^ 31 by omega) (hO1.2.1 ((i) + (2)) (by omega))) ?_
    refine jx_aload_n d_Lw_law_154 5 rfl ?_
    refine jx_iload d_Lw_law_155 1 rfl ?_
    refine jx_iconst (v0 := 3) d_Lw_law_157 (by decide) ?_
    refine jx_iadd d_Lw_law_158 ?_
    refine jx_ati (nI_add (i) (3)) ?_
    refine jx_sald d_Lw_law_159 hsb hO1.1 (jm_vinN (n := (i) + (3)) (show (i) + (3) < len by omega) (show len < 2 ^ 31 by omega)) (jm_atN (n := (i) + (3)) (show (i) + (3) < 2 ^ 31 by omega) (hO1.2.1 ((i) + (3)) (by omega))) ?_
    refine jx_aload_n d_Lw_law_160 5 rfl ?_
    refine jx_iload d_Lw_law_161 1 rfl ?_
    refine jx_iconst (v0 := 4) d_Lw_law_163 (by decide) ?_
    refine jx_iadd d_Lw_law_164 ?_
    refine jx_ati (nI_add (i) (4)) ?_
    refine jx_sald d_Lw_law_165 hsb hO1.1 (jm_vinN (n := (i) + (4)) (show (i) + (4) < len by omega) (show len < 2 ^ 31 by omega)) (jm_atN (n := (i) + (4)) (show (i) + (4) < 2 ^ 31 by omega) (hO1.2.1 ((i) + (4)) (by omega))) ?_
    refine jx_aload_n d_Lw_law_166 5 rfl ?_
    refine jx_iload d_Lw_law_167 1 rfl ?_
    refine jx_iconst (v0 := 5) d_Lw_law_169 (by decide) ?_
    refine jx_iadd d_Lw_law_170 ?_
    refine jx_ati (nI_add (i) (5)) ?_
    refine jx_sald d_Lw_law_171 hsb hO1.1 (jm_vinN (n := (i) + (5)) (show (i) + (5) < len by omega) (show len < 2 ^ 31 by omega)) (jm_atN (n := (i) + (5)) (show (i) + (5) < 2 ^ 31 by omega) (hO1.2.1 ((i) + (5)) (by omega))) ?_
    refine jx_callV (M2 := mm_Md_feed) rfl ta1 lk_Lw_61 wi_Md_feed ws_Md_feed d_Lw_law_172 hC2 cd_Md_feed rfl rfl (Nat.le_of_ble_eq_true rfl) (jm_fok (by omega)) (jm_look (by decide) (by omega)) ?_
    refine jx_istore (lv' := [(6, .int (bb)), (5, .int (0)), (4, .int (nI (i))), (3, .ref (x + 47)), (2, .ref (x + 18)), (1, .ref (x)), (0, .ref (sc))]) d_Lw_law_175 (by decide) rfl ?_
    refine jx_aload_n d_Lw_law_177 4 rfl ?_
    refine jx_callV (M2 := mm_Md_thrown) rfl ta2 lk_Lw_62 wi_Md_thrown ws_Md_thrown d_Lw_law_178 hC3 cd_Md_thrown rfl rfl (Nat.le_of_ble_eq_true rfl) (jm_fok (by omega)) (jm_look (by decide) (by omega)) ?_
    refine jx_iload d_Lw_law_181 1 rfl ?_
    refine jx_icmp_eq (tgt := 188) d_Lw_law_183 (by decide) (fun c1 => ?_) (fun c1 => absurd c1 (by decide))
    refine jx_iload d_Lw_law_188 1 rfl ?_
    refine jx_if_ne (tgt := 205) d_Lw_law_190 (by decide) (fun c2 => absurd c2 (by decide)) (fun c2 => ?_)
    refine jx_aload_n d_Lw_law_193 3 rfl ?_
    refine jx_iconst (v0 := 0) d_Lw_law_194 (by decide) ?_
    refine jx_lald d_Lw_law_195 hL2.1.2.2.2.1 rfl (jm_vinN (n := 0) (show 0 < 1 by omega) (by decide)) (jm_atN (n := 0) (by decide) (show h2.2.2.2 (x + 47) 0 = Value.long (Int32.toInt64 bb) from ow)) ?_
    refine jx_iload d_Lw_law_196 0 rfl ?_
    refine jx_i2l d_Lw_law_198 ?_
    refine jx_lcmp d_Lw_law_199 ?_
    refine jx_if_eqL (tgt := 205) d_Lw_law_200 (by decide) (fun c3 => ?_) (fun c3 => ?_)
    ·
      refine jx_goto (tgt := 661) d_Lw_law_205 (by decide) ?_
      refine jx_lv [2, 3, 4, 5, 6] rfl ?_
      exact kk h2 hL2
    · exact absurd rfl c3
  · subst hk
    refine jx_aload_n d_Lw_law_104 3 rfl ?_
    refine jx_aload_n d_Lw_law_105 4 rfl ?_
    refine jx_iload d_Lw_law_106 0 rfl ?_
    refine jx_iconst (v0 := 1) d_Lw_law_108 (by decide) ?_
    refine jx_iadd d_Lw_law_109 ?_
    refine jx_ati (nI_add (i) (1)) ?_
    refine jx_sald d_Lw_law_110 hsb hL.1.1 (jm_vinN (n := (i) + (1)) (show (i) + (1) < len by omega) (show len < 2 ^ 31 by omega)) (jm_atN (n := (i) + (1)) (show (i) + (1) < 2 ^ 31 by omega) (hL.1.2.1 ((i) + (1)) (by omega))) ?_
    refine jx_aload_n d_Lw_law_111 4 rfl ?_
    refine jx_iload d_Lw_law_112 0 rfl ?_
    refine jx_iconst (v0 := 2) d_Lw_law_114 (by decide) ?_
    refine jx_iadd d_Lw_law_115 ?_
    refine jx_ati (nI_add (i) (2)) ?_
    refine jx_sald d_Lw_law_116 hsb hL.1.1 (jm_vinN (n := (i) + (2)) (show (i) + (2) < len by omega) (show len < 2 ^ 31 by omega)) (jm_atN (n := (i) + (2)) (show (i) + (2) < 2 ^ 31 by omega) (hL.1.2.1 ((i) + (2)) (by omega))) ?_
    refine jx_aload_n d_Lw_law_117 4 rfl ?_
    refine jx_iload d_Lw_law_118 0 rfl ?_
    refine jx_iconst (v0 := 3) d_Lw_law_120 (by decide) ?_
    refine jx_iadd d_Lw_law_121 ?_
    refine jx_ati (nI_add (i) (3)) ?_
    refine jx_sald d_Lw_law_122 hsb hL.1.1 (jm_vinN (n := (i) + (3)) (show (i) + (3) < len by omega) (show len < 2 ^ 31 by omega)) (jm_atN (n := (i) + (3)) (show (i) + (3) < 2 ^ 31 by omega) (hL.1.2.1 ((i) + (3)) (by omega))) ?_
    refine jx_aload_n d_Lw_law_123 4 rfl ?_
    refine jx_iload d_Lw_law_124 0 rfl ?_
    refine jx_iconst (v0 := 4) d_Lw_law_126 (by decide) ?_
    refine jx_iadd d_Lw_law_127 ?_
    refine jx_ati (nI_add (i) (4)) ?_
    refine jx_sald d_Lw_law_128 hsb hL.1.1 (jm_vinN (n := (i) + (4)) (show (i) + (4) < len by omega) (show len < 2 ^ 31 by omega)) (jm_atN (n := (i) + (4)) (show (i) + (4) < 2 ^ 31 by omega) (hL.1.2.1 ((i) + (4)) (by omega))) ?_
    refine jx_aload_n d_Lw_law_129 4 rfl ?_
    refine jx_iload d_Lw_law_130 0 rfl ?_
    refine jx_iconst (v0 := 5) d_Lw_law_132 (by decide) ?_
    refine jx_iadd d_Lw_law_133 ?_
    refine jx_ati (nI_add (i) (5)) ?_
    refine jx_sald d_Lw_law_134 hsb hL.1.1 (jm_vinN (n := (i) + (5)) (show (i) + (5) < len by omega) (show len < 2 ^ 31 by omega)) (jm_atN (n := (i) + (5)) (show (i) + (5) < 2 ^ 31 by omega) (hL.1.2.1 ((i) + (5)) (by omega))) ?_
    refine jx_aload_n d_Lw_law_135 1 rfl ?_
    refine jx_callSW (M2 := mm_Lw_feed) (n := 7) lk_Lw_56 wt_Lw_feed d_Lw_law_136 hC1 wc_Lw_feed wn_Lw ⟨by decide, by decide, by decide +kernel⟩ rfl rfl (Nat.le_of_ble_eq_true rfl) (jm_fok (by omega)) (jm_look (by decide) (by omega)) ?_
    refine jx_istore (lv' := [(5, .int (1)), (4, .int (nI (i))), (3, .ref (x + 47)), (2, .ref (x + 18)), (1, .ref (x)), (0, .ref (sc))]) d_Lw_law_139 (by decide) rfl ?_
    refine jx_aload_n d_Lw_law_141 3 rfl ?_
    refine jx_aload_n d_Lw_law_142 5 rfl ?_
    refine jx_iload d_Lw_law_143 1 rfl ?_
    refine jx_iconst (v0 := 1) d_Lw_law_145 (by decide) ?_
    refine jx_iadd d_Lw_law_146 ?_
    refine jx_ati (nI_add (i) (1)) ?_
    refine jx_sald d_Lw_law_147 hsb hO1.1 (jm_vinN (n := (i) + (1)) (show (i) + (1) < len by omega) (show len < 2 ^ 31 by omega)) (jm_atN (n := (i) + (1)) (show (i) + (1) < 2 ^ 31 by omega) (hO1.2.1 ((i) + (1)) (by omega))) ?_
    refine jx_aload_n d_Lw_law_148 5 rfl ?_
    refine jx_iload d_Lw_law_149 1 rfl ?_
    refine jx_iconst (v0 := 2) d_Lw_law_151 (by decide) ?_
    refine jx_iadd d_Lw_law_152 ?_
    refine jx_ati (nI_add (i) (2)) ?_
    refine jx_sald d_Lw_law_153 hsb hO1.1 (jm_vinN (n := (i) + (2)) (show (i) + (2) < len by omega) (show len < 2 ^ 31 by omega)) (jm_atN (n := (i) + (2)) (show (i) + (2) < 2 ^ 31 by omega) (hO1.2.1 ((i) + (2)) (by omega))) ?_
    refine jx_aload_n d_Lw_law_154 5 rfl ?_
    refine jx_iload d_Lw_law_155 1 rfl ?_
    refine jx_iconst (v0 := 3) d_Lw_law_157 (by decide) ?_
    refine jx_iadd d_Lw_law_158 ?_
    refine jx_ati (nI_add (i) (3)) ?_
    refine jx_sald d_Lw_law_159 hsb hO1.1 (jm_vinN (n := (i) + (3)) (show (i) + (3) < len by omega) (show len < 2 ^ 31 by omega)) (jm_atN (n := (i) + (3)) (show (i) + (3) < 2 ^ 31 by omega) (hO1.2.1 ((i) + (3)) (by omega))) ?_
    refine jx_aload_n d_Lw_law_160 5 rfl ?_
    refine jx_iload d_Lw_law_161 1 rfl ?_
    refine jx_iconst (v0 := 4) d_Lw_law_163 (by decide) ?_
    refine jx_iadd d_Lw_law_164 ?_
    refine jx_ati (nI_add (i) (4)) ?_
    refine jx_sald d_Lw_law_165 hsb hO1.1 (jm_vinN (n := (i) + (4)) (show (i) + (4) < len by omega) (show len < 2 ^ 31 by omega)) (jm_atN (n := (i) + (4)) (show (i) + (4) < 2 ^ 31 by omega) (hO1.2.1 ((i) + (4)) (by omega))) ?_
    refine jx_aload_n d_Lw_law_166 5 rfl ?_
    refine jx_iload d_Lw_law_167 1 rfl ?_
    refine jx_iconst (v0 := 5) d_Lw_law_169 (by decide) ?_
    refine jx_iadd d_Lw_law_170 ?_
    refine jx_ati (nI_add (i) (5)) ?_
    refine jx_sald d_Lw_law_171 hsb hO1.1 (jm_vinN (n := (i) + (5)) (show (i) + (5) < len by omega) (show len < 2 ^ 31 by omega)) (jm_atN (n := (i) + (5)) (show (i) + (5) < 2 ^ 31 by omega) (hO1.2.1 ((i) + (5)) (by omega))) ?_
    refine jx_callV (M2 := mm_Md_feed) rfl ta1 lk_Lw_61 wi_Md_feed ws_Md_feed d_Lw_law_172 hC2 cd_Md_feed rfl rfl (Nat.le_of_ble_eq_true rfl) (jm_fok (by omega)) (jm_look (by decide) (by omega)) ?_
    refine jx_istore (lv' := [(6, .int (bb)), (5, .int (1)), (4, .int (nI (i))), (3, .ref (x + 47)), (2, .ref (x + 18)), (1, .ref (x)), (0, .ref (sc))]) d_Lw_law_175 (by decide) rfl ?_
    refine jx_aload_n d_Lw_law_177 4 rfl ?_
    refine jx_callV (M2 := mm_Md_thrown) rfl ta2 lk_Lw_62 wi_Md_thrown ws_Md_thrown d_Lw_law_178 hC3 cd_Md_thrown rfl rfl (Nat.le_of_ble_eq_true rfl) (jm_fok (by omega)) (jm_look (by decide) (by omega)) ?_
    refine jx_iload d_Lw_law_181 1 rfl ?_
    refine jx_icmp_eq (tgt := 188) d_Lw_law_183 (by decide) (fun c1 => ?_) (fun c1 => absurd c1 (by decide))
    refine jx_iload d_Lw_law_188 1 rfl ?_
    refine jx_if_ne (tgt := 205) d_Lw_law_190 (by decide) (fun c2 => ?_) (fun c2 => absurd c2 (by decide))
    refine jx_goto (tgt := 661) d_Lw_law_205 (by decide) ?_
    refine jx_lv [2, 3, 4, 5, 6] rfl ?_
    exact kk h2 hL2
set_option maxHeartbeats 4000000 in
set_option maxRecDepth 100000 in
theorem lc_end {l : Launch} {G : jm_G} {d n0 s0 : Nat} {Post : jm_r → jm_H → Prop} {sc len : Nat} {S : Nat → Int32} {x j i z0 : Nat} {h : jm_H} (hl : l.stackTraces = false) (hd : 96 ≤ d) (hsb : sc < G.2.2) (hL : LI sc len S x j z0 h) (hi : i + 6 ≤ len) (hlen : len ≤ 3072) (kk : ∀ h2, LI sc len S x (j + 1) z0 h2 → jm_X l G mm_Lw_law n0 s0 (jm_zn G d n0 s0) Post 661 [(4, .int (nI i)), (3, .ref (x + 47)), (2, .ref (x + 18)), (1, .ref x), (0, .ref sc)] [] h2) : jm_X l G mm_Lw_law n0 s0 (jm_zn G d n0 s0) Post 208 [(4, .int (nI i)), (3, .ref (x + 47)), (2, .ref (x + 18)), (1, .ref x), (0, .ref sc)] [] h := by
  obtain ⟨k, h1, h2, hC1, hC2, hC3, hk, hO1, ta1, ta2, hL2⟩ := op_end (l := l) (G := G) (d := d - 1) hl (by omega) (wa := S (i + 1)) hL
  rcases hk with hk | hk
  · subst hk
    refine jx_aload_n d_Lw_law_208 3 rfl ?_
    refine jx_aload_n d_Lw_law_209 4 rfl ?_
    refine jx_iload d_Lw_law_210 0 rfl ?_
    refine jx_iconst (v0 := 1) d_Lw_law_212 (by decide) ?_
    refine jx_iadd d_Lw_law_213 ?_
    refine jx_ati (nI_add (i) (1)) ?_
    refine jx_sald d_Lw_law_214 hsb hL.1.1 (jm_vinN (n := (i) + (1)) (show (i) + (1) < len by omega) (show len < 2 ^ 31 by omega)) (jm_atN (n := (i) + (1)) (show (i) + (1) < 2 ^ 31 by omega) (hL.1.2.1 ((i) + (1)) (by omega))) ?_
    refine jx_callSW (M2 := mm_Lw_end) (n := 2) lk_Lw_65 wt_Lw_end d_Lw_law_215 hC1 wc_Lw_end wn_Lw ⟨by decide, by decide, by decide +kernel⟩ rfl rfl (Nat.le_of_ble_eq_true rfl) (jm_fok (by omega)) (jm_look (by decide) (by omega)) ?_
    refine jx_istore (lv' := [(5, .int (0)), (4, .int (nI (i))), (3, .ref (x + 47)), (2, .ref (x + 18)), (1, .ref (x)), (0, .ref (sc))]) d_Lw_law_218 (by decide) rfl ?_
    refine jx_aload_n d_Lw_law_220 3 rfl ?_
    refine jx_aload_n d_Lw_law_221 5 rfl ?_
    refine jx_iload d_Lw_law_222 1 rfl ?_
    refine jx_iconst (v0 := 1) d_Lw_law_224 (by decide) ?_
    refine jx_iadd d_Lw_law_225 ?_
    refine jx_ati (nI_add (i) (1)) ?_
    refine jx_sald d_Lw_law_226 hsb hO1.1 (jm_vinN (n := (i) + (1)) (show (i) + (1) < len by omega) (show len < 2 ^ 31 by omega)) (jm_atN (n := (i) + (1)) (show (i) + (1) < 2 ^ 31 by omega) (hO1.2.1 ((i) + (1)) (by omega))) ?_
    refine jx_callV (M2 := mm_Md_end) rfl ta1 lk_Lw_68 wi_Md_end ws_Md_end d_Lw_law_227 hC2 cd_Md_end rfl rfl (Nat.le_of_ble_eq_true rfl) (jm_fok (by omega)) (jm_look (by decide) (by omega)) ?_
    refine jx_aload_n d_Lw_law_230 3 rfl ?_
    refine jx_callV (M2 := mm_Md_thrown) rfl ta2 lk_Lw_62 wi_Md_thrown ws_Md_thrown d_Lw_law_231 hC3 cd_Md_thrown rfl rfl (Nat.le_of_ble_eq_true rfl) (jm_fok (by omega)) (jm_look (by decide) (by omega)) ?_
    refine jx_iload d_Lw_law_234 0 rfl ?_
    refine jx_icmp_eq (tgt := 241) d_Lw_law_236 (by decide) (fun c1 => ?_) (fun c1 => absurd c1 (by decide))
    refine jx_goto (tgt := 661) d_Lw_law_241 (by decide) ?_
    refine jx_lv [1, 2, 3, 4, 5] rfl ?_
    exact kk h2 hL2
  · subst hk
    refine jx_aload_n d_Lw_law_208 3 rfl ?_
    refine jx_aload_n d_Lw_law_209 4 rfl ?_
    refine jx_iload d_Lw_law_210 0 rfl ?_
    refine jx_iconst (v0 := 1) d_Lw_law_212 (by decide) ?_
    refine jx_iadd d_Lw_law_213 ?_
    refine jx_ati (nI_add (i) (1)) ?_
    refine jx_sald d_Lw_law_214 hsb hL.1.1 (jm_vinN (n := (i) + (1)) (show (i) + (1) < len by omega) (show len < 2 ^ 31 by omega)) (jm_atN (n := (i) + (1)) (show (i) + (1) < 2 ^ 31 by omega) (hL.1.2.1 ((i) + (1)) (by omega))) ?_
    refine jx_callSW (M2 := mm_Lw_end) (n := 2) lk_Lw_65 wt_Lw_end d_Lw_law_215 hC1 wc_Lw_end wn_Lw ⟨by decide, by decide, by decide +kernel⟩ rfl rfl (Nat.le_of_ble_eq_true rfl) (jm_fok (by omega)) (jm_look (by decide) (by omega)) ?_
    refine jx_istore (lv' := [(5, .int (1)), (4, .int (nI (i))), (3, .ref (x + 47)), (2, .ref (x + 18)), (1, .ref (x)), (0, .ref (sc))]) d_Lw_law_218 (by decide) rfl ?_
    refine jx_aload_n d_Lw_law_220 3 rfl ?_
    refine jx_aload_n d_Lw_law_221 5 rfl ?_
    refine jx_iload d_Lw_law_222 1 rfl ?_
    refine jx_iconst (v0 := 1) d_Lw_law_224 (by decide) ?_
    refine jx_iadd d_Lw_law_225 ?_
    refine jx_ati (nI_add (i) (1)) ?_
    refine jx_sald d_Lw_law_226 hsb hO1.1 (jm_vinN (n := (i) + (1)) (show (i) + (1) < len by omega) (show len < 2 ^ 31 by omega)) (jm_atN (n := (i) + (1)) (show (i) + (1) < 2 ^ 31 by omega) (hO1.2.1 ((i) + (1)) (by omega))) ?_
    refine jx_callV (M2 := mm_Md_end) rfl ta1 lk_Lw_68 wi_Md_end ws_Md_end d_Lw_law_227 hC2 cd_Md_end rfl rfl (Nat.le_of_ble_eq_true rfl) (jm_fok (by omega)) (jm_look (by decide) (by omega)) ?_
    refine jx_aload_n d_Lw_law_230 3 rfl ?_
    refine jx_callV (M2 := mm_Md_thrown) rfl ta2 lk_Lw_62 wi_Md_thrown ws_Md_thrown d_Lw_law_231 hC3 cd_Md_thrown rfl rfl (Nat.le_of_ble_eq_true rfl) (jm_fok (by omega)) (jm_look (by decide) (by omega)) ?_
    refine jx_iload d_Lw_law_234 0 rfl ?_
    refine jx_icmp_eq (tgt := 241) d_Lw_law_236 (by decide) (fun c1 => ?_) (fun c1 => absurd c1 (by decide))
    refine jx_goto (tgt := 661) d_Lw_law_241 (by decide) ?_
    refine jx_lv [1, 2, 3, 4, 5] rfl ?_
    exact kk h2 hL2
set_option maxHeartbeats 4000000 in
set_option maxRecDepth 100000 in
theorem lc_define {l : Launch} {G : jm_G} {d n0 s0 : Nat} {Post : jm_r → jm_H → Prop} {sc len : Nat} {S : Nat → Int32} {x j i z0 : Nat} {h : jm_H} (hl : l.stackTraces = false) (hd : 96 ≤ d) (hsb : sc < G.2.2) (hL : LI sc len S x j z0 h) (hi : i + 6 ≤ len) (hlen : len ≤ 3072) (kk : ∀ h2, LI sc len S x (j + 1) z0 h2 → jm_X l G mm_Lw_law n0 s0 (jm_zn G d n0 s0) Post 661 [(4, .int (nI i)), (3, .ref (x + 47)), (2, .ref (x + 18)), (1, .ref x), (0, .ref sc)] [] h2) : jm_X l G mm_Lw_law n0 s0 (jm_zn G d n0 s0) Post 244 [(4, .int (nI i)), (3, .ref (x + 47)), (2, .ref (x + 18)), (1, .ref x), (0, .ref sc)] [] h := by
  obtain ⟨b, h1, h2, hC1, hC2, ta1, hL2⟩ := op_define (l := l) (G := G) (d := d - 1) (by omega) hL
  have tx := hL.tx
  refine jx_aload_n d_Lw_law_244 3 rfl ?_
  refine jx_callV (M2 := mm_CW_define) rfl tx lk_Lw_69 wi_CW_define ws_CW_define d_Lw_law_245 hC1 cd_CW_define rfl rfl (Nat.le_of_ble_eq_true rfl) (jm_fok (by omega)) (jm_look (by decide) (by omega)) ?_
  refine jx_aload_n d_Lw_law_248 2 rfl ?_
  refine jx_callV (M2 := mm_Md_define) rfl ta1 lk_Lw_72 wi_Md_define ws_Md_define d_Lw_law_249 hC2 cd_Md_define rfl rfl (Nat.le_of_ble_eq_true rfl) (jm_fok (by omega)) (jm_look (by decide) (by omega)) ?_
  refine jx_icmp_eq (tgt := 661) d_Lw_law_252 (by decide) (fun c1 => ?_) (fun c1 => ?_)
  ·
    exact kk h2 hL2
  · exact absurd rfl c1
set_option maxHeartbeats 4000000 in
set_option maxRecDepth 100000 in
theorem lc_fault {l : Launch} {G : jm_G} {d n0 s0 : Nat} {Post : jm_r → jm_H → Prop} {sc len : Nat} {S : Nat → Int32} {x j i z0 : Nat} {h : jm_H} (hl : l.stackTraces = false) (hd : 96 ≤ d) (hsb : sc < G.2.2) (hL : LI sc len S x j z0 h) (hi : i + 6 ≤ len) (hlen : len ≤ 3072) (kk : ∀ h2, LI sc len S x (j + 1) z0 h2 → jm_X l G mm_Lw_law n0 s0 (jm_zn G d n0 s0) Post 661 [(4, .int (nI i)), (3, .ref (x + 47)), (2, .ref (x + 18)), (1, .ref x), (0, .ref sc)] [] h2) : jm_X l G mm_Lw_law n0 s0 (jm_zn G d n0 s0) Post 257 [(4, .int (nI i)), (3, .ref (x + 47)), (2, .ref (x + 18)), (1, .ref x), (0, .ref sc)] [] h := by
  obtain ⟨b, h1, h2, hC1, hC2, ta1, hL2⟩ := op_fault (l := l) (G := G) (d := d - 1) hL
  have tx := hL.tx
  refine jx_aload_n d_Lw_law_257 3 rfl ?_
  refine jx_callV (M2 := mm_CW_fault) rfl tx lk_Lw_73 wi_CW_fault ws_CW_fault d_Lw_law_258 hC1 cd_CW_fault rfl rfl (Nat.le_of_ble_eq_true rfl) (jm_fok (by omega)) (jm_look (by decide) (by omega)) ?_
  refine jx_aload_n d_Lw_law_261 2 rfl ?_
  refine jx_callV (M2 := mm_Md_fault) rfl ta1 lk_Lw_76 wi_Md_fault ws_Md_fault d_Lw_law_262 hC2 cd_Md_fault rfl rfl (Nat.le_of_ble_eq_true rfl) (jm_fok (by omega)) (jm_look (by decide) (by omega)) ?_
  refine jx_icmp_eq (tgt := 661) d_Lw_law_265 (by decide) (fun c1 => ?_) (fun c1 => ?_)
  ·
    exact kk h2 hL2
  · exact absurd rfl c1
set_option maxHeartbeats 4000000 in
set_option maxRecDepth 100000 in
theorem lc_remove {l : Launch} {G : jm_G} {d n0 s0 : Nat} {Post : jm_r → jm_H → Prop} {sc len : Nat} {S : Nat → Int32} {x j i z0 : Nat} {h : jm_H} (hl : l.stackTraces = false) (hd : 96 ≤ d) (hsb : sc < G.2.2) (hL : LI sc len S x j z0 h) (hi : i + 6 ≤ len) (hlen : len ≤ 3072) (kk : ∀ h2, LI sc len S x (j + 1) z0 h2 → jm_X l G mm_Lw_law n0 s0 (jm_zn G d n0 s0) Post 661 [(4, .int (nI i)), (3, .ref (x + 47)), (2, .ref (x + 18)), (1, .ref x), (0, .ref sc)] [] h2) : jm_X l G mm_Lw_law n0 s0 (jm_zn G d n0 s0) Post 270 [(4, .int (nI i)), (3, .ref (x + 47)), (2, .ref (x + 18)), (1, .ref x), (0, .ref sc)] [] h := by
  obtain ⟨k, b, h1, h2, hC1, hC2, hC3, hb, hk, hO1, ta1, ta2, hL2⟩ := op_remove (l := l) (G := G) (d := d - 1) hl (by omega) hL
  rcases hb with hb | hb
  · subst hb
    rcases hk with ⟨hk, ow⟩ | hk
    · subst hk
      refine jx_aload_n d_Lw_law_270 3 rfl ?_
      refine jx_aload_n d_Lw_law_271 1 rfl ?_
      refine jx_callSW (M2 := mm_Lw_remove) (n := 2) lk_Lw_77 wt_Lw_remove d_Lw_law_272 hC1 wc_Lw_remove wn_Lw ⟨by decide, by decide, by decide +kernel⟩ rfl rfl (Nat.le_of_ble_eq_true rfl) (jm_fok (by omega)) (jm_look (by decide) (by omega)) ?_
      refine jx_istore (lv' := [(5, .int (0)), (4, .int (nI (i))), (3, .ref (x + 47)), (2, .ref (x + 18)), (1, .ref (x)), (0, .ref (sc))]) d_Lw_law_275 (by decide) rfl ?_
      refine jx_aload_n d_Lw_law_277 3 rfl ?_
      refine jx_callV (M2 := mm_Md_remove) rfl ta1 lk_Lw_80 wi_Md_remove ws_Md_remove d_Lw_law_278 hC2 cd_Md_remove rfl rfl (Nat.le_of_ble_eq_true rfl) (jm_fok (by omega)) (jm_look (by decide) (by omega)) ?_
      refine jx_istore (lv' := [(6, .int (0)), (5, .int (0)), (4, .int (nI (i))), (3, .ref (x + 47)), (2, .ref (x + 18)), (1, .ref (x)), (0, .ref (sc))]) d_Lw_law_281 (by decide) rfl ?_
      refine jx_aload_n d_Lw_law_283 4 rfl ?_
      refine jx_callV (M2 := mm_Md_thrown) rfl ta2 lk_Lw_62 wi_Md_thrown ws_Md_thrown d_Lw_law_284 hC3 cd_Md_thrown rfl rfl (Nat.le_of_ble_eq_true rfl) (jm_fok (by omega)) (jm_look (by decide) (by omega)) ?_
      refine jx_iload d_Lw_law_287 1 rfl ?_
      refine jx_icmp_eq (tgt := 294) d_Lw_law_289 (by decide) (fun c1 => ?_) (fun c1 => absurd c1 (by decide))
      refine jx_iload d_Lw_law_294 1 rfl ?_
      refine jx_if_ne (tgt := 318) d_Lw_law_296 (by decide) (fun c2 => absurd c2 (by decide)) (fun c2 => ?_)
      refine jx_aload_n d_Lw_law_299 3 rfl ?_
      refine jx_iconst (v0 := 0) d_Lw_law_300 (by decide) ?_
      refine jx_lald d_Lw_law_301 hL2.1.2.2.2.1 rfl (jm_vinN (n := 0) (show 0 < 1 by omega) (by decide)) (jm_atN (n := 0) (by decide) (ow.trans (congrArg Value.long (show vL (.int 0) = 0 by decide)))) ?_
      refine jx_iload d_Lw_law_302 0 rfl ?_
      refine jx_if_eq (tgt := 311) d_Lw_law_304 (by decide) (fun c3 => ?_) (fun c3 => absurd c3 (by decide))
      refine jx_lconst (v0 := 0) d_Lw_law_311 (by decide) ?_
      refine jx_lcmp d_Lw_law_312 ?_
      refine jx_if_eqL (tgt := 318) d_Lw_law_313 (by decide) (fun c4 => ?_) (fun c4 => ?_)
      ·
        refine jx_goto (tgt := 661) d_Lw_law_318 (by decide) ?_
        refine jx_lv [2, 3, 4, 5, 6] rfl ?_
        exact kk h2 hL2
      · exact absurd rfl c4
    · subst hk
      refine jx_aload_n d_Lw_law_270 3 rfl ?_
      refine jx_aload_n d_Lw_law_271 1 rfl ?_
      refine jx_callSW (M2 := mm_Lw_remove) (n := 2) lk_Lw_77 wt_Lw_remove d_Lw_law_272 hC1 wc_Lw_remove wn_Lw ⟨by decide, by decide, by decide +kernel⟩ rfl rfl (Nat.le_of_ble_eq_true rfl) (jm_fok (by omega)) (jm_look (by decide) (by omega)) ?_
      refine jx_istore (lv' := [(5, .int (1)), (4, .int (nI (i))), (3, .ref (x + 47)), (2, .ref (x + 18)), (1, .ref (x)), (0, .ref (sc))]) d_Lw_law_275 (by decide) rfl ?_
      refine jx_aload_n d_Lw_law_277 3 rfl ?_
      refine jx_callV (M2 := mm_Md_remove) rfl ta1 lk_Lw_80 wi_Md_remove ws_Md_remove d_Lw_law_278 hC2 cd_Md_remove rfl rfl (Nat.le_of_ble_eq_true rfl) (jm_fok (by omega)) (jm_look (by decide) (by omega)) ?_
      refine jx_istore (lv' := [(6, .int (0)), (5, .int (1)), (4, .int (nI (i))), (3, .ref (x + 47)), (2, .ref (x + 18)), (1, .ref (x)), (0, .ref (sc))]) d_Lw_law_281 (by decide) rfl ?_
      refine jx_aload_n d_Lw_law_283 4 rfl ?_
      refine jx_callV (M2 := mm_Md_thrown) rfl ta2 lk_Lw_62 wi_Md_thrown ws_Md_thrown d_Lw_law_284 hC3 cd_Md_thrown rfl rfl (Nat.le_of_ble_eq_true rfl) (jm_fok (by omega)) (jm_look (by decide) (by omega)) ?_
      refine jx_iload d_Lw_law_287 1 rfl ?_
      refine jx_icmp_eq (tgt := 294) d_Lw_law_289 (by decide) (fun c1 => ?_) (fun c1 => absurd c1 (by decide))
      refine jx_iload d_Lw_law_294 1 rfl ?_
      refine jx_if_ne (tgt := 318) d_Lw_law_296 (by decide) (fun c2 => ?_) (fun c2 => absurd c2 (by decide))
      refine jx_goto (tgt := 661) d_Lw_law_318 (by decide) ?_
      refine jx_lv [2, 3, 4, 5, 6] rfl ?_
      exact kk h2 hL2
  · subst hb
    rcases hk with ⟨hk, ow⟩ | hk
    · subst hk
      refine jx_aload_n d_Lw_law_270 3 rfl ?_
      refine jx_aload_n d_Lw_law_271 1 rfl ?_
      refine jx_callSW (M2 := mm_Lw_remove) (n := 2) lk_Lw_77 wt_Lw_remove d_Lw_law_272 hC1 wc_Lw_remove wn_Lw ⟨by decide, by decide, by decide +kernel⟩ rfl rfl (Nat.le_of_ble_eq_true rfl) (jm_fok (by omega)) (jm_look (by decide) (by omega)) ?_
      refine jx_istore (lv' := [(5, .int (0)), (4, .int (nI (i))), (3, .ref (x + 47)), (2, .ref (x + 18)), (1, .ref (x)), (0, .ref (sc))]) d_Lw_law_275 (by decide) rfl ?_
      refine jx_aload_n d_Lw_law_277 3 rfl ?_
      refine jx_callV (M2 := mm_Md_remove) rfl ta1 lk_Lw_80 wi_Md_remove ws_Md_remove d_Lw_law_278 hC2 cd_Md_remove rfl rfl (Nat.le_of_ble_eq_true rfl) (jm_fok (by omega)) (jm_look (by decide) (by omega)) ?_
      refine jx_istore (lv' := [(6, .int (1)), (5, .int (0)), (4, .int (nI (i))), (3, .ref (x + 47)), (2, .ref (x + 18)), (1, .ref (x)), (0, .ref (sc))]) d_Lw_law_281 (by decide) rfl ?_
      refine jx_aload_n d_Lw_law_283 4 rfl ?_
      refine jx_callV (M2 := mm_Md_thrown) rfl ta2 lk_Lw_62 wi_Md_thrown ws_Md_thrown d_Lw_law_284 hC3 cd_Md_thrown rfl rfl (Nat.le_of_ble_eq_true rfl) (jm_fok (by omega)) (jm_look (by decide) (by omega)) ?_
      refine jx_iload d_Lw_law_287 1 rfl ?_
      refine jx_icmp_eq (tgt := 294) d_Lw_law_289 (by decide) (fun c1 => ?_) (fun c1 => absurd c1 (by decide))
      refine jx_iload d_Lw_law_294 1 rfl ?_
      refine jx_if_ne (tgt := 318) d_Lw_law_296 (by decide) (fun c2 => absurd c2 (by decide)) (fun c2 => ?_)
      refine jx_aload_n d_Lw_law_299 3 rfl ?_
      refine jx_iconst (v0 := 0) d_Lw_law_300 (by decide) ?_
      refine jx_lald d_Lw_law_301 hL2.1.2.2.2.1 rfl (jm_vinN (n := 0) (show 0 < 1 by omega) (by decide)) (jm_atN (n := 0) (by decide) (ow.trans (congrArg Value.long (show vL (.int 1) = 1 by decide)))) ?_
      refine jx_iload d_Lw_law_302 0 rfl ?_
      refine jx_if_eq (tgt := 311) d_Lw_law_304 (by decide) (fun c3 => absurd c3 (by decide)) (fun c3 => ?_)
      refine jx_lconst (v0 := 1) d_Lw_law_307 (by decide) ?_
      refine jx_goto (tgt := 312) d_Lw_law_308 (by decide) ?_
      refine jx_lcmp d_Lw_law_312 ?_
      refine jx_if_eqL (tgt := 318) d_Lw_law_313 (by decide) (fun c4 => ?_) (fun c4 => ?_)
      ·
        refine jx_goto (tgt := 661) d_Lw_law_318 (by decide) ?_
        refine jx_lv [2, 3, 4, 5, 6] rfl ?_
        exact kk h2 hL2
      · exact absurd rfl c4
    · subst hk
      refine jx_aload_n d_Lw_law_270 3 rfl ?_
      refine jx_aload_n d_Lw_law_271 1 rfl ?_
      refine jx_callSW (M2 := mm_Lw_remove) (n := 2) lk_Lw_77 wt_Lw_remove d_Lw_law_272 hC1 wc_Lw_remove wn_Lw ⟨by decide, by decide, by decide +kernel⟩ rfl rfl (Nat.le_of_ble_eq_true rfl) (jm_fok (by omega)) (jm_look (by decide) (by omega)) ?_
      refine jx_istore (lv' := [(5, .int (1)), (4, .int (nI (i))), (3, .ref (x + 47)), (2, .ref (x + 18)), (1, .ref (x)), (0, .ref (sc))]) d_Lw_law_275 (by decide) rfl ?_
      refine jx_aload_n d_Lw_law_277 3 rfl ?_
      refine jx_callV (M2 := mm_Md_remove) rfl ta1 lk_Lw_80 wi_Md_remove ws_Md_remove d_Lw_law_278 hC2 cd_Md_remove rfl rfl (Nat.le_of_ble_eq_true rfl) (jm_fok (by omega)) (jm_look (by decide) (by omega)) ?_
      refine jx_istore (lv' := [(6, .int (1)), (5, .int (1)), (4, .int (nI (i))), (3, .ref (x + 47)), (2, .ref (x + 18)), (1, .ref (x)), (0, .ref (sc))]) d_Lw_law_281 (by decide) rfl ?_
      refine jx_aload_n d_Lw_law_283 4 rfl ?_
      refine jx_callV (M2 := mm_Md_thrown) rfl ta2 lk_Lw_62 wi_Md_thrown ws_Md_thrown d_Lw_law_284 hC3 cd_Md_thrown rfl rfl (Nat.le_of_ble_eq_true rfl) (jm_fok (by omega)) (jm_look (by decide) (by omega)) ?_
      refine jx_iload d_Lw_law_287 1 rfl ?_
      refine jx_icmp_eq (tgt := 294) d_Lw_law_289 (by decide) (fun c1 => ?_) (fun c1 => absurd c1 (by decide))
      refine jx_iload d_Lw_law_294 1 rfl ?_
      refine jx_if_ne (tgt := 318) d_Lw_law_296 (by decide) (fun c2 => ?_) (fun c2 => absurd c2 (by decide))
      refine jx_goto (tgt := 661) d_Lw_law_318 (by decide) ?_
      refine jx_lv [2, 3, 4, 5, 6] rfl ?_
      exact kk h2 hL2
set_option maxHeartbeats 4000000 in
set_option maxRecDepth 100000 in
theorem lc_build {l : Launch} {G : jm_G} {d n0 s0 : Nat} {Post : jm_r → jm_H → Prop} {sc len : Nat} {S : Nat → Int32} {x j i z0 : Nat} {h : jm_H} (hl : l.stackTraces = false) (hd : 96 ≤ d) (hsb : sc < G.2.2) (hL : LI sc len S x j z0 h) (hi : i + 6 ≤ len) (hlen : len ≤ 3072) (kk : ∀ h2, LI sc len S x (j + 1) z0 h2 → jm_X l G mm_Lw_law n0 s0 (jm_zn G d n0 s0) Post 661 [(4, .int (nI i)), (3, .ref (x + 47)), (2, .ref (x + 18)), (1, .ref x), (0, .ref sc)] [] h2) : jm_X l G mm_Lw_law n0 s0 (jm_zn G d n0 s0) Post 321 [(4, .int (nI i)), (3, .ref (x + 47)), (2, .ref (x + 18)), (1, .ref x), (0, .ref sc)] [] h := by
  obtain ⟨k, b, h1, h2, hC1, hC2, hC3, ⟨bb, hb⟩, hk, hO1, ta1, ta2, hL2⟩ := op_build (l := l) (G := G) (d := d - 1) hl (by omega) hL
  subst hb
  rcases hk with ⟨hk, ow⟩ | hk
  · subst hk
    refine jx_aload_n d_Lw_law_321 3 rfl ?_
    refine jx_aload_n d_Lw_law_322 1 rfl ?_
    refine jx_callSW (M2 := mm_Lw_build) (n := 2) lk_Lw_81 wt_Lw_build d_Lw_law_323 hC1 wc_Lw_build wn_Lw ⟨by decide, by decide, by decide +kernel⟩ rfl rfl (Nat.le_of_ble_eq_true rfl) (jm_fok (by omega)) (jm_look (by decide) (by omega)) ?_
    refine jx_istore (lv' := [(5, .int (0)), (4, .int (nI (i))), (3, .ref (x + 47)), (2, .ref (x + 18)), (1, .ref (x)), (0, .ref (sc))]) d_Lw_law_326 (by decide) rfl ?_
    refine jx_aload_n d_Lw_law_328 3 rfl ?_
    refine jx_callV (M2 := mm_Md_build) rfl ta1 lk_Lw_83 wi_Md_build ws_Md_build d_Lw_law_329 hC2 cd_Md_build rfl rfl (Nat.le_of_ble_eq_true rfl) (jm_fok (by omega)) (jm_look (by decide) (by omega)) ?_
    refine jx_istore (lv' := [(6, .int (bb)), (5, .int (0)), (4, .int (nI (i))), (3, .ref (x + 47)), (2, .ref (x + 18)), (1, .ref (x)), (0, .ref (sc))]) d_Lw_law_332 (by decide) rfl ?_
    refine jx_aload_n d_Lw_law_334 4 rfl ?_
    refine jx_callV (M2 := mm_Md_thrown) rfl ta2 lk_Lw_62 wi_Md_thrown ws_Md_thrown d_Lw_law_335 hC3 cd_Md_thrown rfl rfl (Nat.le_of_ble_eq_true rfl) (jm_fok (by omega)) (jm_look (by decide) (by omega)) ?_
    refine jx_iload d_Lw_law_338 1 rfl ?_
    refine jx_icmp_eq (tgt := 345) d_Lw_law_340 (by decide) (fun c1 => ?_) (fun c1 => absurd c1 (by decide))
    refine jx_iload d_Lw_law_345 1 rfl ?_
    refine jx_if_ne (tgt := 362) d_Lw_law_347 (by decide) (fun c2 => absurd c2 (by decide)) (fun c2 => ?_)
    refine jx_aload_n d_Lw_law_350 3 rfl ?_
    refine jx_iconst (v0 := 0) d_Lw_law_351 (by decide) ?_
    refine jx_lald d_Lw_law_352 hL2.1.2.2.2.1 rfl (jm_vinN (n := 0) (show 0 < 1 by omega) (by decide)) (jm_atN (n := 0) (by decide) (show h2.2.2.2 (x + 47) 0 = Value.long (Int32.toInt64 bb) from ow)) ?_
    refine jx_iload d_Lw_law_353 0 rfl ?_
    refine jx_i2l d_Lw_law_355 ?_
    refine jx_lcmp d_Lw_law_356 ?_
    refine jx_if_eqL (tgt := 362) d_Lw_law_357 (by decide) (fun c3 => ?_) (fun c3 => ?_)
    ·
      refine jx_goto (tgt := 661) d_Lw_law_362 (by decide) ?_
      refine jx_lv [2, 3, 4, 5, 6] rfl ?_
      exact kk h2 hL2
    · exact absurd rfl c3
  · subst hk
    refine jx_aload_n d_Lw_law_321 3 rfl ?_
    refine jx_aload_n d_Lw_law_322 1 rfl ?_
    refine jx_callSW (M2 := mm_Lw_build) (n := 2) lk_Lw_81 wt_Lw_build d_Lw_law_323 hC1 wc_Lw_build wn_Lw ⟨by decide, by decide, by decide +kernel⟩ rfl rfl (Nat.le_of_ble_eq_true rfl) (jm_fok (by omega)) (jm_look (by decide) (by omega)) ?_
    refine jx_istore (lv' := [(5, .int (1)), (4, .int (nI (i))), (3, .ref (x + 47)), (2, .ref (x + 18)), (1, .ref (x)), (0, .ref (sc))]) d_Lw_law_326 (by decide) rfl ?_
    refine jx_aload_n d_Lw_law_328 3 rfl ?_
    refine jx_callV (M2 := mm_Md_build) rfl ta1 lk_Lw_83 wi_Md_build ws_Md_build d_Lw_law_329 hC2 cd_Md_build rfl rfl (Nat.le_of_ble_eq_true rfl) (jm_fok (by omega)) (jm_look (by decide) (by omega)) ?_
    refine jx_istore (lv' := [(6, .int (bb)), (5, .int (1)), (4, .int (nI (i))), (3, .ref (x + 47)), (2, .ref (x + 18)), (1, .ref (x)), (0, .ref (sc))]) d_Lw_law_332 (by decide) rfl ?_
    refine jx_aload_n d_Lw_law_334 4 rfl ?_
    refine jx_callV (M2 := mm_Md_thrown) rfl ta2 lk_Lw_62 wi_Md_thrown ws_Md_thrown d_Lw_law_335 hC3 cd_Md_thrown rfl rfl (Nat.le_of_ble_eq_true rfl) (jm_fok (by omega)) (jm_look (by decide) (by omega)) ?_
    refine jx_iload d_Lw_law_338 1 rfl ?_
    refine jx_icmp_eq (tgt := 345) d_Lw_law_340 (by decide) (fun c1 => ?_) (fun c1 => absurd c1 (by decide))
    refine jx_iload d_Lw_law_345 1 rfl ?_
    refine jx_if_ne (tgt := 362) d_Lw_law_347 (by decide) (fun c2 => ?_) (fun c2 => absurd c2 (by decide))
    refine jx_goto (tgt := 661) d_Lw_law_362 (by decide) ?_
    refine jx_lv [2, 3, 4, 5, 6] rfl ?_
    exact kk h2 hL2
set_option maxHeartbeats 4000000 in
set_option maxRecDepth 100000 in
theorem lc_buildAll {l : Launch} {G : jm_G} {d n0 s0 : Nat} {Post : jm_r → jm_H → Prop} {sc len : Nat} {S : Nat → Int32} {x j i z0 : Nat} {h : jm_H} (hl : l.stackTraces = false) (hd : 96 ≤ d) (hsb : sc < G.2.2) (hL : LI sc len S x j z0 h) (hi : i + 6 ≤ len) (hlen : len ≤ 3072) (kk : ∀ h2, LI sc len S x (j + 1) z0 h2 → jm_X l G mm_Lw_law n0 s0 (jm_zn G d n0 s0) Post 661 [(4, .int (nI i)), (3, .ref (x + 47)), (2, .ref (x + 18)), (1, .ref x), (0, .ref sc)] [] h2) : jm_X l G mm_Lw_law n0 s0 (jm_zn G d n0 s0) Post 365 [(4, .int (nI i)), (3, .ref (x + 47)), (2, .ref (x + 18)), (1, .ref x), (0, .ref sc)] [] h := by
  obtain ⟨b, h1, h2, hC1, hC2, ta1, hL2⟩ := op_buildAll (l := l) (G := G) (d := d - 1) (by omega) hL
  have tx := hL.tx
  refine jx_aload_n d_Lw_law_365 3 rfl ?_
  refine jx_callV (M2 := mm_CW_buildAll) rfl tx lk_Lw_84 wi_CW_buildAll ws_CW_buildAll d_Lw_law_366 hC1 cd_CW_buildAll rfl rfl (Nat.le_of_ble_eq_true rfl) (jm_fok (by omega)) (jm_look (by decide) (by omega)) ?_
  refine jx_aload_n d_Lw_law_369 2 rfl ?_
  refine jx_callV (M2 := mm_Md_buildAll) rfl ta1 lk_Lw_87 wi_Md_buildAll ws_Md_buildAll d_Lw_law_370 hC2 cd_Md_buildAll rfl rfl (Nat.le_of_ble_eq_true rfl) (jm_fok (by omega)) (jm_look (by decide) (by omega)) ?_
  refine jx_icmp_eq (tgt := 661) d_Lw_law_373 (by decide) (fun c1 => ?_) (fun c1 => ?_)
  ·
    exact kk h2 hL2
  · exact absurd rfl c1
set_option maxHeartbeats 4000000 in
set_option maxRecDepth 100000 in
theorem lc_value {l : Launch} {G : jm_G} {d n0 s0 : Nat} {Post : jm_r → jm_H → Prop} {sc len : Nat} {S : Nat → Int32} {x j i z0 : Nat} {h : jm_H} (hl : l.stackTraces = false) (hd : 96 ≤ d) (hsb : sc < G.2.2) (hL : LI sc len S x j z0 h) (hi : i + 6 ≤ len) (hlen : len ≤ 3072) (kk : ∀ h2, LI sc len S x (j + 1) z0 h2 → jm_X l G mm_Lw_law n0 s0 (jm_zn G d n0 s0) Post 661 [(4, .int (nI i)), (3, .ref (x + 47)), (2, .ref (x + 18)), (1, .ref x), (0, .ref sc)] [] h2) : jm_X l G mm_Lw_law n0 s0 (jm_zn G d n0 s0) Post 378 [(4, .int (nI i)), (3, .ref (x + 47)), (2, .ref (x + 18)), (1, .ref x), (0, .ref sc)] [] h := by
  obtain ⟨k, b, h1, h2, hC1, hC2, hC3, ⟨bb, hb⟩, hk, hO1, ta1, ta2, hL2⟩ := op_value (l := l) (G := G) (d := d - 1) hl (by omega) hL
  subst hb
  rcases hk with ⟨hk, ow⟩ | hk
  · subst hk
    refine jx_aload_n d_Lw_law_378 3 rfl ?_
    refine jx_aload_n d_Lw_law_379 1 rfl ?_
    refine jx_callSW (M2 := mm_Lw_value) (n := 2) lk_Lw_88 wt_Lw_value d_Lw_law_380 hC1 wc_Lw_value wn_Lw ⟨by decide, by decide, by decide +kernel⟩ rfl rfl (Nat.le_of_ble_eq_true rfl) (jm_fok (by omega)) (jm_look (by decide) (by omega)) ?_
    refine jx_istore (lv' := [(5, .int (0)), (4, .int (nI (i))), (3, .ref (x + 47)), (2, .ref (x + 18)), (1, .ref (x)), (0, .ref (sc))]) d_Lw_law_383 (by decide) rfl ?_
    refine jx_aload_n d_Lw_law_385 3 rfl ?_
    refine jx_callV (M2 := mm_Md_value) rfl ta1 lk_Lw_90 wi_Md_value ws_Md_value d_Lw_law_386 hC2 cd_Md_value rfl rfl (Nat.le_of_ble_eq_true rfl) (jm_fok (by omega)) (jm_look (by decide) (by omega)) ?_
    refine jx_lstore (lv' := [(6, .long (bb)), (5, .int (0)), (4, .int (nI (i))), (3, .ref (x + 47)), (2, .ref (x + 18)), (1, .ref (x)), (0, .ref (sc))]) d_Lw_law_389 (by decide) rfl ?_
    refine jx_aload_n d_Lw_law_391 4 rfl ?_
    refine jx_callV (M2 := mm_Md_thrown) rfl ta2 lk_Lw_62 wi_Md_thrown ws_Md_thrown d_Lw_law_392 hC3 cd_Md_thrown rfl rfl (Nat.le_of_ble_eq_true rfl) (jm_fok (by omega)) (jm_look (by decide) (by omega)) ?_
    refine jx_iload d_Lw_law_395 1 rfl ?_
    refine jx_icmp_eq (tgt := 402) d_Lw_law_397 (by decide) (fun c1 => ?_) (fun c1 => absurd c1 (by decide))
    refine jx_iload d_Lw_law_402 1 rfl ?_
    refine jx_if_ne (tgt := 418) d_Lw_law_404 (by decide) (fun c2 => absurd c2 (by decide)) (fun c2 => ?_)
    refine jx_aload_n d_Lw_law_407 3 rfl ?_
    refine jx_iconst (v0 := 0) d_Lw_law_408 (by decide) ?_
    refine jx_lald d_Lw_law_409 hL2.1.2.2.2.1 rfl (jm_vinN (n := 0) (show 0 < 1 by omega) (by decide)) (jm_atN (n := 0) (by decide) (show h2.2.2.2 (x + 47) 0 = Value.long bb from ow)) ?_
    refine jx_lload d_Lw_law_410 0 rfl ?_
    refine jx_lcmp d_Lw_law_412 ?_
    refine jx_if_eqL (tgt := 418) d_Lw_law_413 (by decide) (fun c3 => ?_) (fun c3 => ?_)
    ·
      refine jx_goto (tgt := 661) d_Lw_law_418 (by decide) ?_
      refine jx_lv [2, 3, 4, 5, 6] rfl ?_
      exact kk h2 hL2
    · exact absurd rfl c3
  · subst hk
    refine jx_aload_n d_Lw_law_378 3 rfl ?_
    refine jx_aload_n d_Lw_law_379 1 rfl ?_
    refine jx_callSW (M2 := mm_Lw_value) (n := 2) lk_Lw_88 wt_Lw_value d_Lw_law_380 hC1 wc_Lw_value wn_Lw ⟨by decide, by decide, by decide +kernel⟩ rfl rfl (Nat.le_of_ble_eq_true rfl) (jm_fok (by omega)) (jm_look (by decide) (by omega)) ?_
    refine jx_istore (lv' := [(5, .int (1)), (4, .int (nI (i))), (3, .ref (x + 47)), (2, .ref (x + 18)), (1, .ref (x)), (0, .ref (sc))]) d_Lw_law_383 (by decide) rfl ?_
    refine jx_aload_n d_Lw_law_385 3 rfl ?_
    refine jx_callV (M2 := mm_Md_value) rfl ta1 lk_Lw_90 wi_Md_value ws_Md_value d_Lw_law_386 hC2 cd_Md_value rfl rfl (Nat.le_of_ble_eq_true rfl) (jm_fok (by omega)) (jm_look (by decide) (by omega)) ?_
    refine jx_lstore (lv' := [(6, .long (bb)), (5, .int (1)), (4, .int (nI (i))), (3, .ref (x + 47)), (2, .ref (x + 18)), (1, .ref (x)), (0, .ref (sc))]) d_Lw_law_389 (by decide) rfl ?_
    refine jx_aload_n d_Lw_law_391 4 rfl ?_
    refine jx_callV (M2 := mm_Md_thrown) rfl ta2 lk_Lw_62 wi_Md_thrown ws_Md_thrown d_Lw_law_392 hC3 cd_Md_thrown rfl rfl (Nat.le_of_ble_eq_true rfl) (jm_fok (by omega)) (jm_look (by decide) (by omega)) ?_
    refine jx_iload d_Lw_law_395 1 rfl ?_
    refine jx_icmp_eq (tgt := 402) d_Lw_law_397 (by decide) (fun c1 => ?_) (fun c1 => absurd c1 (by decide))
    refine jx_iload d_Lw_law_402 1 rfl ?_
    refine jx_if_ne (tgt := 418) d_Lw_law_404 (by decide) (fun c2 => ?_) (fun c2 => absurd c2 (by decide))
    refine jx_goto (tgt := 661) d_Lw_law_418 (by decide) ?_
    refine jx_lv [2, 3, 4, 5, 6] rfl ?_
    exact kk h2 hL2
set_option maxHeartbeats 4000000 in
set_option maxRecDepth 100000 in
theorem lc_state {l : Launch} {G : jm_G} {d n0 s0 : Nat} {Post : jm_r → jm_H → Prop} {sc len : Nat} {S : Nat → Int32} {x j i z0 : Nat} {h : jm_H} (hl : l.stackTraces = false) (hd : 96 ≤ d) (hsb : sc < G.2.2) (hL : LI sc len S x j z0 h) (hi : i + 6 ≤ len) (hlen : len ≤ 3072) (kk : ∀ h2, LI sc len S x (j + 1) z0 h2 → jm_X l G mm_Lw_law n0 s0 (jm_zn G d n0 s0) Post 661 [(4, .int (nI i)), (3, .ref (x + 47)), (2, .ref (x + 18)), (1, .ref x), (0, .ref sc)] [] h2) : jm_X l G mm_Lw_law n0 s0 (jm_zn G d n0 s0) Post 421 [(4, .int (nI i)), (3, .ref (x + 47)), (2, .ref (x + 18)), (1, .ref x), (0, .ref sc)] [] h := by
  obtain ⟨k, b, h1, h2, hC1, hC2, hC3, ⟨bb, hb⟩, hk, hO1, ta1, ta2, hL2⟩ := op_state (l := l) (G := G) (d := d - 1) hl (by omega) hL
  subst hb
  rcases hk with ⟨hk, ow⟩ | hk
  · subst hk
    refine jx_aload_n d_Lw_law_421 3 rfl ?_
    refine jx_aload_n d_Lw_law_422 1 rfl ?_
    refine jx_callSW (M2 := mm_Lw_state) (n := 2) lk_Lw_91 wt_Lw_state d_Lw_law_423 hC1 wc_Lw_state wn_Lw ⟨by decide, by decide, by decide +kernel⟩ rfl rfl (Nat.le_of_ble_eq_true rfl) (jm_fok (by omega)) (jm_look (by decide) (by omega)) ?_
    refine jx_istore (lv' := [(5, .int (0)), (4, .int (nI (i))), (3, .ref (x + 47)), (2, .ref (x + 18)), (1, .ref (x)), (0, .ref (sc))]) d_Lw_law_426 (by decide) rfl ?_
    refine jx_aload_n d_Lw_law_428 3 rfl ?_
    refine jx_callV (M2 := mm_Md_state) rfl ta1 lk_Lw_93 wi_Md_state ws_Md_state d_Lw_law_429 hC2 cd_Md_state rfl rfl (Nat.le_of_ble_eq_true rfl) (jm_fok (by omega)) (jm_look (by decide) (by omega)) ?_
    refine jx_istore (lv' := [(6, .int (bb)), (5, .int (0)), (4, .int (nI (i))), (3, .ref (x + 47)), (2, .ref (x + 18)), (1, .ref (x)), (0, .ref (sc))]) d_Lw_law_432 (by decide) rfl ?_
    refine jx_aload_n d_Lw_law_434 4 rfl ?_
    refine jx_callV (M2 := mm_Md_thrown) rfl ta2 lk_Lw_62 wi_Md_thrown ws_Md_thrown d_Lw_law_435 hC3 cd_Md_thrown rfl rfl (Nat.le_of_ble_eq_true rfl) (jm_fok (by omega)) (jm_look (by decide) (by omega)) ?_
    refine jx_iload d_Lw_law_438 1 rfl ?_
    refine jx_icmp_eq (tgt := 445) d_Lw_law_440 (by decide) (fun c1 => ?_) (fun c1 => absurd c1 (by decide))
    refine jx_iload d_Lw_law_445 1 rfl ?_
    refine jx_if_ne (tgt := 462) d_Lw_law_447 (by decide) (fun c2 => absurd c2 (by decide)) (fun c2 => ?_)
    refine jx_aload_n d_Lw_law_450 3 rfl ?_
    refine jx_iconst (v0 := 0) d_Lw_law_451 (by decide) ?_
    refine jx_lald d_Lw_law_452 hL2.1.2.2.2.1 rfl (jm_vinN (n := 0) (show 0 < 1 by omega) (by decide)) (jm_atN (n := 0) (by decide) (show h2.2.2.2 (x + 47) 0 = Value.long (Int32.toInt64 bb) from ow)) ?_
    refine jx_iload d_Lw_law_453 0 rfl ?_
    refine jx_i2l d_Lw_law_455 ?_
    refine jx_lcmp d_Lw_law_456 ?_
    refine jx_if_eqL (tgt := 462) d_Lw_law_457 (by decide) (fun c3 => ?_) (fun c3 => ?_)
    ·
      refine jx_goto (tgt := 661) d_Lw_law_462 (by decide) ?_
      refine jx_lv [2, 3, 4, 5, 6] rfl ?_
      exact kk h2 hL2
    · exact absurd rfl c3
  · subst hk
    refine jx_aload_n d_Lw_law_421 3 rfl ?_
    refine jx_aload_n d_Lw_law_422 1 rfl ?_
    refine jx_callSW (M2 := mm_Lw_state) (n := 2) lk_Lw_91 wt_Lw_state d_Lw_law_423 hC1 wc_Lw_state wn_Lw ⟨by decide, by decide, by decide +kernel⟩ rfl rfl (Nat.le_of_ble_eq_true rfl) (jm_fok (by omega)) (jm_look (by decide) (by omega)) ?_
    refine jx_istore (lv' := [(5, .int (1)), (4, .int (nI (i))), (3, .ref (x + 47)), (2, .ref (x + 18)), (1, .ref (x)), (0, .ref (sc))]) d_Lw_law_426 (by decide) rfl ?_
    refine jx_aload_n d_Lw_law_428 3 rfl ?_
    refine jx_callV (M2 := mm_Md_state) rfl ta1 lk_Lw_93 wi_Md_state ws_Md_state d_Lw_law_429 hC2 cd_Md_state rfl rfl (Nat.le_of_ble_eq_true rfl) (jm_fok (by omega)) (jm_look (by decide) (by omega)) ?_
    refine jx_istore (lv' := [(6, .int (bb)), (5, .int (1)), (4, .int (nI (i))), (3, .ref (x + 47)), (2, .ref (x + 18)), (1, .ref (x)), (0, .ref (sc))]) d_Lw_law_432 (by decide) rfl ?_
    refine jx_aload_n d_Lw_law_434 4 rfl ?_
    refine jx_callV (M2 := mm_Md_thrown) rfl ta2 lk_Lw_62 wi_Md_thrown ws_Md_thrown d_Lw_law_435 hC3 cd_Md_thrown rfl rfl (Nat.le_of_ble_eq_true rfl) (jm_fok (by omega)) (jm_look (by decide) (by omega)) ?_
    refine jx_iload d_Lw_law_438 1 rfl ?_
    refine jx_icmp_eq (tgt := 445) d_Lw_law_440 (by decide) (fun c1 => ?_) (fun c1 => absurd c1 (by decide))
    refine jx_iload d_Lw_law_445 1 rfl ?_
    refine jx_if_ne (tgt := 462) d_Lw_law_447 (by decide) (fun c2 => ?_) (fun c2 => absurd c2 (by decide))
    refine jx_goto (tgt := 661) d_Lw_law_462 (by decide) ?_
    refine jx_lv [2, 3, 4, 5, 6] rfl ?_
    exact kk h2 hL2
set_option maxHeartbeats 4000000 in
set_option maxRecDepth 100000 in
theorem lc_readers {l : Launch} {G : jm_G} {d n0 s0 : Nat} {Post : jm_r → jm_H → Prop} {sc len : Nat} {S : Nat → Int32} {x j i z0 : Nat} {h : jm_H} (hl : l.stackTraces = false) (hd : 96 ≤ d) (hsb : sc < G.2.2) (hL : LI sc len S x j z0 h) (hi : i + 6 ≤ len) (hlen : len ≤ 3072) (kk : ∀ h2, LI sc len S x (j + 1) z0 h2 → jm_X l G mm_Lw_law n0 s0 (jm_zn G d n0 s0) Post 661 [(4, .int (nI i)), (3, .ref (x + 47)), (2, .ref (x + 18)), (1, .ref x), (0, .ref sc)] [] h2) : jm_X l G mm_Lw_law n0 s0 (jm_zn G d n0 s0) Post 465 [(4, .int (nI i)), (3, .ref (x + 47)), (2, .ref (x + 18)), (1, .ref x), (0, .ref sc)] [] h := by
  by_cases c0 : S (i + 1) = 0
  ·
    obtain ⟨k, b, h1, h2, hC1, hC2, hC3, ⟨bb, hb⟩, hk, hO1, ta1, ta2, hL2⟩ := op_readers (l := l) (G := G) (d := d - 1) hl (by omega) (wa := 0) hL
    subst hb
    rcases hk with ⟨hk, ow⟩ | hk
    · subst hk
      refine jx_aload_n d_Lw_law_465 3 rfl ?_
      refine jx_aload_n d_Lw_law_466 4 rfl ?_
      refine jx_iload d_Lw_law_467 0 rfl ?_
      refine jx_iconst (v0 := 1) d_Lw_law_469 (by decide) ?_
      refine jx_iadd d_Lw_law_470 ?_
      refine jx_ati (nI_add (i) (1)) ?_
      refine jx_sald d_Lw_law_471 hsb hL.1.1 (jm_vinN (n := (i) + (1)) (show (i) + (1) < len by omega) (show len < 2 ^ 31 by omega)) (jm_atN (n := (i) + (1)) (show (i) + (1) < 2 ^ 31 by omega) (hL.1.2.1 ((i) + (1)) (by omega))) ?_
      refine jx_if_eq (tgt := 479) d_Lw_law_472 (by decide) (fun c1 => ?_) (fun c1 => ?_)
      ·
        refine jx_iconst (v0 := 0) d_Lw_law_479 (by decide) ?_
        refine jx_aload_n d_Lw_law_480 1 rfl ?_
        refine jx_callSW (M2 := mm_Lw_readers) (n := 3) lk_Lw_94 wt_Lw_readers d_Lw_law_481 hC1 wc_Lw_readers wn_Lw ⟨by decide, by decide, by decide +kernel⟩ rfl rfl (Nat.le_of_ble_eq_true rfl) (jm_fok (by omega)) (jm_look (by decide) (by omega)) ?_
        refine jx_istore (lv' := [(5, .int (0)), (4, .int (nI (i))), (3, .ref (x + 47)), (2, .ref (x + 18)), (1, .ref (x)), (0, .ref (sc))]) d_Lw_law_484 (by decide) rfl ?_
        refine jx_aload_n d_Lw_law_486 3 rfl ?_
        refine jx_aload_n d_Lw_law_487 5 rfl ?_
        refine jx_iload d_Lw_law_488 1 rfl ?_
        refine jx_iconst (v0 := 1) d_Lw_law_490 (by decide) ?_
        refine jx_iadd d_Lw_law_491 ?_
        refine jx_ati (nI_add (i) (1)) ?_
        refine jx_sald d_Lw_law_492 hsb hO1.1 (jm_vinN (n := (i) + (1)) (show (i) + (1) < len by omega) (show len < 2 ^ 31 by omega)) (jm_atN (n := (i) + (1)) (show (i) + (1) < 2 ^ 31 by omega) (hO1.2.1 ((i) + (1)) (by omega))) ?_
        refine jx_if_eq (tgt := 500) d_Lw_law_493 (by decide) (fun c2 => ?_) (fun c2 => ?_)
        ·
          refine jx_iconst (v0 := 0) d_Lw_law_500 (by decide) ?_
          refine jx_callV (M2 := mm_Md_readers) rfl ta1 lk_Lw_97 wi_Md_readers ws_Md_readers d_Lw_law_501 hC2 cd_Md_readers rfl rfl (Nat.le_of_ble_eq_true rfl) (jm_fok (by omega)) (jm_look (by decide) (by omega)) ?_
          refine jx_istore (lv' := [(6, .int (bb)), (5, .int (0)), (4, .int (nI (i))), (3, .ref (x + 47)), (2, .ref (x + 18)), (1, .ref (x)), (0, .ref (sc))]) d_Lw_law_504 (by decide) rfl ?_
          refine jx_aload_n d_Lw_law_506 4 rfl ?_
          refine jx_callV (M2 := mm_Md_thrown) rfl ta2 lk_Lw_62 wi_Md_thrown ws_Md_thrown d_Lw_law_507 hC3 cd_Md_thrown rfl rfl (Nat.le_of_ble_eq_true rfl) (jm_fok (by omega)) (jm_look (by decide) (by omega)) ?_
          refine jx_iload d_Lw_law_510 1 rfl ?_
          refine jx_icmp_eq (tgt := 517) d_Lw_law_512 (by decide) (fun c3 => ?_) (fun c3 => absurd c3 (by decide))
          refine jx_iload d_Lw_law_517 1 rfl ?_
          refine jx_if_ne (tgt := 534) d_Lw_law_519 (by decide) (fun c4 => absurd c4 (by decide)) (fun c4 => ?_)
          refine jx_aload_n d_Lw_law_522 3 rfl ?_
          refine jx_iconst (v0 := 0) d_Lw_law_523 (by decide) ?_
          refine jx_lald d_Lw_law_524 hL2.1.2.2.2.1 rfl (jm_vinN (n := 0) (show 0 < 1 by omega) (by decide)) (jm_atN (n := 0) (by decide) (show h2.2.2.2 (x + 47) 0 = Value.long (Int32.toInt64 bb) from ow)) ?_
          refine jx_iload d_Lw_law_525 0 rfl ?_
          refine jx_i2l d_Lw_law_527 ?_
          refine jx_lcmp d_Lw_law_528 ?_
          refine jx_if_eqL (tgt := 534) d_Lw_law_529 (by decide) (fun c5 => ?_) (fun c5 => ?_)
          ·
            refine jx_goto (tgt := 661) d_Lw_law_534 (by decide) ?_
            refine jx_lv [2, 3, 4, 5, 6] rfl ?_
            exact kk h2 hL2
          · exact absurd rfl c5
        · exact absurd c0 c2
      · exact absurd c0 c1
    · subst hk
      refine jx_aload_n d_Lw_law_465 3 rfl ?_
      refine jx_aload_n d_Lw_law_466 4 rfl ?_
      refine jx_iload d_Lw_law_467 0 rfl ?_
      refine jx_iconst (v0 := 1) d_Lw_law_469 (by decide) ?_
      refine jx_iadd d_Lw_law_470 ?_
      refine jx_ati (nI_add (i) (1)) ?_
      refine jx_sald d_Lw_law_471 hsb hL.1.1 (jm_vinN (n := (i) + (1)) (show (i) + (1) < len by omega) (show len < 2 ^ 31 by omega)) (jm_atN (n := (i) + (1)) (show (i) + (1) < 2 ^ 31 by omega) (hL.1.2.1 ((i) + (1)) (by omega))) ?_
      refine jx_if_eq (tgt := 479) d_Lw_law_472 (by decide) (fun c1 => ?_) (fun c1 => ?_)
      ·
        refine jx_iconst (v0 := 0) d_Lw_law_479 (by decide) ?_
        refine jx_aload_n d_Lw_law_480 1 rfl ?_
        refine jx_callSW (M2 := mm_Lw_readers) (n := 3) lk_Lw_94 wt_Lw_readers d_Lw_law_481 hC1 wc_Lw_readers wn_Lw ⟨by decide, by decide, by decide +kernel⟩ rfl rfl (Nat.le_of_ble_eq_true rfl) (jm_fok (by omega)) (jm_look (by decide) (by omega)) ?_
        refine jx_istore (lv' := [(5, .int (1)), (4, .int (nI (i))), (3, .ref (x + 47)), (2, .ref (x + 18)), (1, .ref (x)), (0, .ref (sc))]) d_Lw_law_484 (by decide) rfl ?_
        refine jx_aload_n d_Lw_law_486 3 rfl ?_
        refine jx_aload_n d_Lw_law_487 5 rfl ?_
        refine jx_iload d_Lw_law_488 1 rfl ?_
        refine jx_iconst (v0 := 1) d_Lw_law_490 (by decide) ?_
        refine jx_iadd d_Lw_law_491 ?_
        refine jx_ati (nI_add (i) (1)) ?_
        refine jx_sald d_Lw_law_492 hsb hO1.1 (jm_vinN (n := (i) + (1)) (show (i) + (1) < len by omega) (show len < 2 ^ 31 by omega)) (jm_atN (n := (i) + (1)) (show (i) + (1) < 2 ^ 31 by omega) (hO1.2.1 ((i) + (1)) (by omega))) ?_
        refine jx_if_eq (tgt := 500) d_Lw_law_493 (by decide) (fun c2 => ?_) (fun c2 => ?_)
        ·
          refine jx_iconst (v0 := 0) d_Lw_law_500 (by decide) ?_
          refine jx_callV (M2 := mm_Md_readers) rfl ta1 lk_Lw_97 wi_Md_readers ws_Md_readers d_Lw_law_501 hC2 cd_Md_readers rfl rfl (Nat.le_of_ble_eq_true rfl) (jm_fok (by omega)) (jm_look (by decide) (by omega)) ?_
          refine jx_istore (lv' := [(6, .int (bb)), (5, .int (1)), (4, .int (nI (i))), (3, .ref (x + 47)), (2, .ref (x + 18)), (1, .ref (x)), (0, .ref (sc))]) d_Lw_law_504 (by decide) rfl ?_
          refine jx_aload_n d_Lw_law_506 4 rfl ?_
          refine jx_callV (M2 := mm_Md_thrown) rfl ta2 lk_Lw_62 wi_Md_thrown ws_Md_thrown d_Lw_law_507 hC3 cd_Md_thrown rfl rfl (Nat.le_of_ble_eq_true rfl) (jm_fok (by omega)) (jm_look (by decide) (by omega)) ?_
          refine jx_iload d_Lw_law_510 1 rfl ?_
          refine jx_icmp_eq (tgt := 517) d_Lw_law_512 (by decide) (fun c3 => ?_) (fun c3 => absurd c3 (by decide))
          refine jx_iload d_Lw_law_517 1 rfl ?_
          refine jx_if_ne (tgt := 534) d_Lw_law_519 (by decide) (fun c4 => ?_) (fun c4 => absurd c4 (by decide))
          refine jx_goto (tgt := 661) d_Lw_law_534 (by decide) ?_
          refine jx_lv [2, 3, 4, 5, 6] rfl ?_
          exact kk h2 hL2
        · exact absurd c0 c2
      · exact absurd c0 c1
  ·
    obtain ⟨k, b, h1, h2, hC1, hC2, hC3, ⟨bb, hb⟩, hk, hO1, ta1, ta2, hL2⟩ := op_readers (l := l) (G := G) (d := d - 1) hl (by omega) (wa := 1) hL
    subst hb
    rcases hk with ⟨hk, ow⟩ | hk
    · subst hk
      refine jx_aload_n d_Lw_law_465 3 rfl ?_
      refine jx_aload_n d_Lw_law_466 4 rfl ?_
      refine jx_iload d_Lw_law_467 0 rfl ?_
      refine jx_iconst (v0 := 1) d_Lw_law_469 (by decide) ?_
      refine jx_iadd d_Lw_law_470 ?_
      refine jx_ati (nI_add (i) (1)) ?_
      refine jx_sald d_Lw_law_471 hsb hL.1.1 (jm_vinN (n := (i) + (1)) (show (i) + (1) < len by omega) (show len < 2 ^ 31 by omega)) (jm_atN (n := (i) + (1)) (show (i) + (1) < 2 ^ 31 by omega) (hL.1.2.1 ((i) + (1)) (by omega))) ?_
      refine jx_if_eq (tgt := 479) d_Lw_law_472 (by decide) (fun c1 => ?_) (fun c1 => ?_)
      · exact absurd c1 c0
      ·
        refine jx_iconst (v0 := 1) d_Lw_law_475 (by decide) ?_
        refine jx_goto (tgt := 480) d_Lw_law_476 (by decide) ?_
        refine jx_aload_n d_Lw_law_480 1 rfl ?_
        refine jx_callSW (M2 := mm_Lw_readers) (n := 3) lk_Lw_94 wt_Lw_readers d_Lw_law_481 hC1 wc_Lw_readers wn_Lw ⟨by decide, by decide, by decide +kernel⟩ rfl rfl (Nat.le_of_ble_eq_true rfl) (jm_fok (by omega)) (jm_look (by decide) (by omega)) ?_
        refine jx_istore (lv' := [(5, .int (0)), (4, .int (nI (i))), (3, .ref (x + 47)), (2, .ref (x + 18)), (1, .ref (x)), (0, .ref (sc))]) d_Lw_law_484 (by decide) rfl ?_
        refine jx_aload_n d_Lw_law_486 3 rfl ?_
        refine jx_aload_n d_Lw_law_487 5 rfl ?_
        refine jx_iload d_Lw_law_488 1 rfl ?_
        refine jx_iconst (v0 := 1) d_Lw_law_490 (by decide) ?_
        refine jx_iadd d_Lw_law_491 ?_
        refine jx_ati (nI_add (i) (1)) ?_
        refine jx_sald d_Lw_law_492 hsb hO1.1 (jm_vinN (n := (i) + (1)) (show (i) + (1) < len by omega) (show len < 2 ^ 31 by omega)) (jm_atN (n := (i) + (1)) (show (i) + (1) < 2 ^ 31 by omega) (hO1.2.1 ((i) + (1)) (by omega))) ?_
        refine jx_if_eq (tgt := 500) d_Lw_law_493 (by decide) (fun c2 => ?_) (fun c2 => ?_)
        · exact absurd c2 c0
        ·
          refine jx_iconst (v0 := 1) d_Lw_law_496 (by decide) ?_
          refine jx_goto (tgt := 501) d_Lw_law_497 (by decide) ?_
          refine jx_callV (M2 := mm_Md_readers) rfl ta1 lk_Lw_97 wi_Md_readers ws_Md_readers d_Lw_law_501 hC2 cd_Md_readers rfl rfl (Nat.le_of_ble_eq_true rfl) (jm_fok (by omega)) (jm_look (by decide) (by omega)) ?_
          refine jx_istore (lv' := [(6, .int (bb)), (5, .int (0)), (4, .int (nI (i))), (3, .ref (x + 47)), (2, .ref (x + 18)), (1, .ref (x)), (0, .ref (sc))]) d_Lw_law_504 (by decide) rfl ?_
          refine jx_aload_n d_Lw_law_506 4 rfl ?_
          refine jx_callV (M2 := mm_Md_thrown) rfl ta2 lk_Lw_62 wi_Md_thrown ws_Md_thrown d_Lw_law_507 hC3 cd_Md_thrown rfl rfl (Nat.le_of_ble_eq_true rfl) (jm_fok (by omega)) (jm_look (by decide) (by omega)) ?_
          refine jx_iload d_Lw_law_510 1 rfl ?_
          refine jx_icmp_eq (tgt := 517) d_Lw_law_512 (by decide) (fun c3 => ?_) (fun c3 => absurd c3 (by decide))
          refine jx_iload d_Lw_law_517 1 rfl ?_
          refine jx_if_ne (tgt := 534) d_Lw_law_519 (by decide) (fun c4 => absurd c4 (by decide)) (fun c4 => ?_)
          refine jx_aload_n d_Lw_law_522 3 rfl ?_
          refine jx_iconst (v0 := 0) d_Lw_law_523 (by decide) ?_
          refine jx_lald d_Lw_law_524 hL2.1.2.2.2.1 rfl (jm_vinN (n := 0) (show 0 < 1 by omega) (by decide)) (jm_atN (n := 0) (by decide) (show h2.2.2.2 (x + 47) 0 = Value.long (Int32.toInt64 bb) from ow)) ?_
          refine jx_iload d_Lw_law_525 0 rfl ?_
          refine jx_i2l d_Lw_law_527 ?_
          refine jx_lcmp d_Lw_law_528 ?_
          refine jx_if_eqL (tgt := 534) d_Lw_law_529 (by decide) (fun c5 => ?_) (fun c5 => ?_)
          ·
            refine jx_goto (tgt := 661) d_Lw_law_534 (by decide) ?_
            refine jx_lv [2, 3, 4, 5, 6] rfl ?_
            exact kk h2 hL2
          · exact absurd rfl c5
    · subst hk
      refine jx_aload_n d_Lw_law_465 3 rfl ?_
      refine jx_aload_n d_Lw_law_466 4 rfl ?_
      refine jx_iload d_Lw_law_467 0 rfl ?_
      refine jx_iconst (v0 := 1) d_Lw_law_469 (by decide) ?_
      refine jx_iadd d_Lw_law_470 ?_
      refine jx_ati (nI_add (i) (1)) ?_
      refine jx_sald d_Lw_law_471 hsb hL.1.1 (jm_vinN (n := (i) + (1)) (show (i) + (1) < len by omega) (show len < 2 ^ 31 by omega)) (jm_atN (n := (i) + (1)) (show (i) + (1) < 2 ^ 31 by omega) (hL.1.2.1 ((i) + (1)) (by omega))) ?_
      refine jx_if_eq (tgt := 479) d_Lw_law_472 (by decide) (fun c1 => ?_) (fun c1 => ?_)
      · exact absurd c1 c0
      ·
        refine jx_iconst (v0 := 1) d_Lw_law_475 (by decide) ?_
        refine jx_goto (tgt := 480) d_Lw_law_476 (by decide) ?_
        refine jx_aload_n d_Lw_law_480 1 rfl ?_
        refine jx_callSW (M2 := mm_Lw_readers) (n := 3) lk_Lw_94 wt_Lw_readers d_Lw_law_481 hC1 wc_Lw_readers wn_Lw ⟨by decide, by decide, by decide +kernel⟩ rfl rfl (Nat.le_of_ble_eq_true rfl) (jm_fok (by omega)) (jm_look (by decide) (by omega)) ?_
        refine jx_istore (lv' := [(5, .int (1)), (4, .int (nI (i))), (3, .ref (x + 47)), (2, .ref (x + 18)), (1, .ref (x)), (0, .ref (sc))]) d_Lw_law_484 (by decide) rfl ?_
        refine jx_aload_n d_Lw_law_486 3 rfl ?_
        refine jx_aload_n d_Lw_law_487 5 rfl ?_
        refine jx_iload d_Lw_law_488 1 rfl ?_
        refine jx_iconst (v0 := 1) d_Lw_law_490 (by decide) ?_
        refine jx_iadd d_Lw_law_491 ?_
        refine jx_ati (nI_add (i) (1)) ?_
        refine jx_sald d_Lw_law_492 hsb hO1.1 (jm_vinN (n := (i) + (1)) (show (i) + (1) < len by omega) (show len < 2 ^ 31 by omega)) (jm_atN (n := (i) + (1)) (show (i) + (1) < 2 ^ 31 by omega) (hO1.2.1 ((i) + (1)) (by omega))) ?_
        refine jx_if_eq (tgt := 500) d_Lw_law_493 (by decide) (fun c2 => ?_) (fun c2 => ?_)
        · exact absurd c2 c0
        ·
          refine jx_iconst (v0 := 1) d_Lw_law_496 (by decide) ?_
          refine jx_goto (tgt := 501) d_Lw_law_497 (by decide) ?_
          refine jx_callV (M2 := mm_Md_readers) rfl ta1 lk_Lw_97 wi_Md_readers ws_Md_readers d_Lw_law_501 hC2 cd_Md_readers rfl rfl (Nat.le_of_ble_eq_true rfl) (jm_fok (by omega)) (jm_look (by decide) (by omega)) ?_
          refine jx_istore (lv' := [(6, .int (bb)), (5, .int (1)), (4, .int (nI (i))), (3, .ref (x + 47)), (2, .ref (x + 18)), (1, .ref (x)), (0, .ref (sc))]) d_Lw_law_504 (by decide) rfl ?_
          refine jx_aload_n d_Lw_law_506 4 rfl ?_
          refine jx_callV (M2 := mm_Md_thrown) rfl ta2 lk_Lw_62 wi_Md_thrown ws_Md_thrown d_Lw_law_507 hC3 cd_Md_thrown rfl rfl (Nat.le_of_ble_eq_true rfl) (jm_fok (by omega)) (jm_look (by decide) (by omega)) ?_
          refine jx_iload d_Lw_law_510 1 rfl ?_
          refine jx_icmp_eq (tgt := 517) d_Lw_law_512 (by decide) (fun c3 => ?_) (fun c3 => absurd c3 (by decide))
          refine jx_iload d_Lw_law_517 1 rfl ?_
          refine jx_if_ne (tgt := 534) d_Lw_law_519 (by decide) (fun c4 => ?_) (fun c4 => absurd c4 (by decide))
          refine jx_goto (tgt := 661) d_Lw_law_534 (by decide) ?_
          refine jx_lv [2, 3, 4, 5, 6] rfl ?_
          exact kk h2 hL2
set_option maxHeartbeats 4000000 in
set_option maxRecDepth 100000 in
theorem lc_built {l : Launch} {G : jm_G} {d n0 s0 : Nat} {Post : jm_r → jm_H → Prop} {sc len : Nat} {S : Nat → Int32} {x j i z0 : Nat} {h : jm_H} (hl : l.stackTraces = false) (hd : 96 ≤ d) (hsb : sc < G.2.2) (hL : LI sc len S x j z0 h) (hi : i + 6 ≤ len) (hlen : len ≤ 3072) (kk : ∀ h2, LI sc len S x (j + 1) z0 h2 → jm_X l G mm_Lw_law n0 s0 (jm_zn G d n0 s0) Post 661 [(4, .int (nI i)), (3, .ref (x + 47)), (2, .ref (x + 18)), (1, .ref x), (0, .ref sc)] [] h2) : jm_X l G mm_Lw_law n0 s0 (jm_zn G d n0 s0) Post 537 [(4, .int (nI i)), (3, .ref (x + 47)), (2, .ref (x + 18)), (1, .ref x), (0, .ref sc)] [] h := by
  obtain ⟨k, b, h1, h2, hC1, hC2, hC3, ⟨bb, hb⟩, hk, hO1, ta1, ta2, hL2⟩ := op_built (l := l) (G := G) (d := d - 1) hl (by omega) (wa := S (i + 1)) (wb := S (i + 2)) hL
  subst hb
  rcases hk with ⟨hk, ow⟩ | hk
  · subst hk
    refine jx_aload_n d_Lw_law_537 3 rfl ?_
    refine jx_aload_n d_Lw_law_538 4 rfl ?_
    refine jx_iload d_Lw_law_539 0 rfl ?_
    refine jx_iconst (v0 := 1) d_Lw_law_541 (by decide) ?_
    refine jx_iadd d_Lw_law_542 ?_
    refine jx_ati (nI_add (i) (1)) ?_
    refine jx_sald d_Lw_law_543 hsb hL.1.1 (jm_vinN (n := (i) + (1)) (show (i) + (1) < len by omega) (show len < 2 ^ 31 by omega)) (jm_atN (n := (i) + (1)) (show (i) + (1) < 2 ^ 31 by omega) (hL.1.2.1 ((i) + (1)) (by omega))) ?_
    refine jx_aload_n d_Lw_law_544 4 rfl ?_
    refine jx_iload d_Lw_law_545 0 rfl ?_
    refine jx_iconst (v0 := 2) d_Lw_law_547 (by decide) ?_
    refine jx_iadd d_Lw_law_548 ?_
    refine jx_ati (nI_add (i) (2)) ?_
    refine jx_sald d_Lw_law_549 hsb hL.1.1 (jm_vinN (n := (i) + (2)) (show (i) + (2) < len by omega) (show len < 2 ^ 31 by omega)) (jm_atN (n := (i) + (2)) (show (i) + (2) < 2 ^ 31 by omega) (hL.1.2.1 ((i) + (2)) (by omega))) ?_
    refine jx_aload_n d_Lw_law_550 1 rfl ?_
    refine jx_callSW (M2 := mm_Lw_built) (n := 4) lk_Lw_98 wt_Lw_built d_Lw_law_551 hC1 wc_Lw_built wn_Lw ⟨by decide, by decide, by decide +kernel⟩ rfl rfl (Nat.le_of_ble_eq_true rfl) (jm_fok (by omega)) (jm_look (by decide) (by omega)) ?_
    refine jx_istore (lv' := [(5, .int (0)), (4, .int (nI (i))), (3, .ref (x + 47)), (2, .ref (x + 18)), (1, .ref (x)), (0, .ref (sc))]) d_Lw_law_554 (by decide) rfl ?_
    refine jx_aload_n d_Lw_law_556 3 rfl ?_
    refine jx_aload_n d_Lw_law_557 5 rfl ?_
    refine jx_iload d_Lw_law_558 1 rfl ?_
    refine jx_iconst (v0 := 1) d_Lw_law_560 (by decide) ?_
    refine jx_iadd d_Lw_law_561 ?_
    refine jx_ati (nI_add (i) (1)) ?_
    refine jx_sald d_Lw_law_562 hsb hO1.1 (jm_vinN (n := (i) + (1)) (show (i) + (1) < len by omega) (show len < 2 ^ 31 by omega)) (jm_atN (n := (i) + (1)) (show (i) + (1) < 2 ^ 31 by omega) (hO1.2.1 ((i) + (1)) (by omega))) ?_
    refine jx_aload_n d_Lw_law_563 5 rfl ?_
    refine jx_iload d_Lw_law_564 1 rfl ?_
    refine jx_iconst (v0 := 2) d_Lw_law_566 (by decide) ?_
    refine jx_iadd d_Lw_law_567 ?_
    refine jx_ati (nI_add (i) (2)) ?_
    refine jx_sald d_Lw_law_568 hsb hO1.1 (jm_vinN (n := (i) + (2)) (show (i) + (2) < len by omega) (show len < 2 ^ 31 by omega)) (jm_atN (n := (i) + (2)) (show (i) + (2) < 2 ^ 31 by omega) (hO1.2.1 ((i) + (2)) (by omega))) ?_
    refine jx_callV (M2 := mm_Md_built) rfl ta1 lk_Lw_101 wi_Md_built ws_Md_built d_Lw_law_569 hC2 cd_Md_built rfl rfl (Nat.le_of_ble_eq_true rfl) (jm_fok (by omega)) (jm_look (by decide) (by omega)) ?_
    refine jx_istore (lv' := [(6, .int (bb)), (5, .int (0)), (4, .int (nI (i))), (3, .ref (x + 47)), (2, .ref (x + 18)), (1, .ref (x)), (0, .ref (sc))]) d_Lw_law_572 (by decide) rfl ?_
    refine jx_aload_n d_Lw_law_574 4 rfl ?_
    refine jx_callV (M2 := mm_Md_thrown) rfl ta2 lk_Lw_62 wi_Md_thrown ws_Md_thrown d_Lw_law_575 hC3 cd_Md_thrown rfl rfl (Nat.le_of_ble_eq_true rfl) (jm_fok (by omega)) (jm_look (by decide) (by omega)) ?_
    refine jx_iload d_Lw_law_578 1 rfl ?_
    refine jx_icmp_eq (tgt := 585) d_Lw_law_580 (by decide) (fun c1 => ?_) (fun c1 => absurd c1 (by decide))
    refine jx_iload d_Lw_law_585 1 rfl ?_
    refine jx_if_ne (tgt := 602) d_Lw_law_587 (by decide) (fun c2 => absurd c2 (by decide)) (fun c2 => ?_)
    refine jx_aload_n d_Lw_law_590 3 rfl ?_
    refine jx_iconst (v0 := 0) d_Lw_law_591 (by decide) ?_
    refine jx_lald d_Lw_law_592 hL2.1.2.2.2.1 rfl (jm_vinN (n := 0) (show 0 < 1 by omega) (by decide)) (jm_atN (n := 0) (by decide) (show h2.2.2.2 (x + 47) 0 = Value.long (Int32.toInt64 bb) from ow)) ?_
    refine jx_iload d_Lw_law_593 0 rfl ?_
    refine jx_i2l d_Lw_law_595 ?_
    refine jx_lcmp d_Lw_law_596 ?_
    refine jx_if_eqL (tgt := 602) d_Lw_law_597 (by decide) (fun c3 => ?_) (fun c3 => ?_)
    ·
      refine jx_goto (tgt := 661) d_Lw_law_602 (by decide) ?_
      refine jx_lv [2, 3, 4, 5, 6] rfl ?_
      exact kk h2 hL2
    · exact absurd rfl c3
  · subst hk
    refine jx_aload_n d_Lw_law_537 3 rfl ?_
    refine jx_aload_n d_Lw_law_538 4 rfl ?_
    refine jx_iload d_Lw_law_539 0 rfl ?_
    refine jx_iconst (v0 := 1) d_Lw_law_541 (by decide) ?_
    refine jx_iadd d_Lw_law_542 ?_
    refine jx_ati (nI_add (i) (1)) ?_
    refine jx_sald d_Lw_law_543 hsb hL.1.1 (jm_vinN (n := (i) + (1)) (show (i) + (1) < len by omega) (show len < 2 ^ 31 by omega)) (jm_atN (n := (i) + (1)) (show (i) + (1) < 2 ^ 31 by omega) (hL.1.2.1 ((i) + (1)) (by omega))) ?_
    refine jx_aload_n d_Lw_law_544 4 rfl ?_
    refine jx_iload d_Lw_law_545 0 rfl ?_
    refine jx_iconst (v0 := 2) d_Lw_law_547 (by decide) ?_
    refine jx_iadd d_Lw_law_548 ?_
    refine jx_ati (nI_add (i) (2)) ?_
    refine jx_sald d_Lw_law_549 hsb hL.1.1 (jm_vinN (n := (i) + (2)) (show (i) + (2) < len by omega) (show len < 2 ^ 31 by omega)) (jm_atN (n := (i) + (2)) (show (i) + (2) < 2 ^ 31 by omega) (hL.1.2.1 ((i) + (2)) (by omega))) ?_
    refine jx_aload_n d_Lw_law_550 1 rfl ?_
    refine jx_callSW (M2 := mm_Lw_built) (n := 4) lk_Lw_98 wt_Lw_built d_Lw_law_551 hC1 wc_Lw_built wn_Lw ⟨by decide, by decide, by decide +kernel⟩ rfl rfl (Nat.le_of_ble_eq_true rfl) (jm_fok (by omega)) (jm_look (by decide) (by omega)) ?_
    refine jx_istore (lv' := [(5, .int (1)), (4, .int (nI (i))), (3, .ref (x + 47)), (2, .ref (x + 18)), (1, .ref (x)), (0, .ref (sc))]) d_Lw_law_554 (by decide) rfl ?_
    refine jx_aload_n d_Lw_law_556 3 rfl ?_
    refine jx_aload_n d_Lw_law_557 5 rfl ?_
    refine jx_iload d_Lw_law_558 1 rfl ?_
    refine jx_iconst (v0 := 1) d_Lw_law_560 (by decide) ?_
    refine jx_iadd d_Lw_law_561 ?_
    refine jx_ati (nI_add (i) (1)) ?_
    refine jx_sald d_Lw_law_562 hsb hO1.1 (jm_vinN (n := (i) + (1)) (show (i) + (1) < len by omega) (show len < 2 ^ 31 by omega)) (jm_atN (n := (i) + (1)) (show (i) + (1) < 2 ^ 31 by omega) (hO1.2.1 ((i) + (1)) (by omega))) ?_
    refine jx_aload_n d_Lw_law_563 5 rfl ?_
    refine jx_iload d_Lw_law_564 1 rfl ?_
    refine jx_iconst (v0 := 2) d_Lw_law_566 (by decide) ?_
    refine jx_iadd d_Lw_law_567 ?_
    refine jx_ati (nI_add (i) (2)) ?_
    refine jx_sald d_Lw_law_568 hsb hO1.1 (jm_vinN (n := (i) + (2)) (show (i) + (2) < len by omega) (show len < 2 ^ 31 by omega)) (jm_atN (n := (i) + (2)) (show (i) + (2) < 2 ^ 31 by omega) (hO1.2.1 ((i) + (2)) (by omega))) ?_
    refine jx_callV (M2 := mm_Md_built) rfl ta1 lk_Lw_101 wi_Md_built ws_Md_built d_Lw_law_569 hC2 cd_Md_built rfl rfl (Nat.le_of_ble_eq_true rfl) (jm_fok (by omega)) (jm_look (by decide) (by omega)) ?_
    refine jx_istore (lv' := [(6, .int (bb)), (5, .int (1)), (4, .int (nI (i))), (3, .ref (x + 47)), (2, .ref (x + 18)), (1, .ref (x)), (0, .ref (sc))]) d_Lw_law_572 (by decide) rfl ?_
    refine jx_aload_n d_Lw_law_574 4 rfl ?_
    refine jx_callV (M2 := mm_Md_thrown) rfl ta2 lk_Lw_62 wi_Md_thrown ws_Md_thrown d_Lw_law_575 hC3 cd_Md_thrown rfl rfl (Nat.le_of_ble_eq_true rfl) (jm_fok (by omega)) (jm_look (by decide) (by omega)) ?_
    refine jx_iload d_Lw_law_578 1 rfl ?_
    refine jx_icmp_eq (tgt := 585) d_Lw_law_580 (by decide) (fun c1 => ?_) (fun c1 => absurd c1 (by decide))
    refine jx_iload d_Lw_law_585 1 rfl ?_
    refine jx_if_ne (tgt := 602) d_Lw_law_587 (by decide) (fun c2 => ?_) (fun c2 => absurd c2 (by decide))
    refine jx_goto (tgt := 661) d_Lw_law_602 (by decide) ?_
    refine jx_lv [2, 3, 4, 5, 6] rfl ?_
    exact kk h2 hL2
set_option maxHeartbeats 4000000 in
set_option maxRecDepth 100000 in
theorem lc_count {l : Launch} {G : jm_G} {d n0 s0 : Nat} {Post : jm_r → jm_H → Prop} {sc len : Nat} {S : Nat → Int32} {x j i z0 : Nat} {h : jm_H} (hl : l.stackTraces = false) (hd : 96 ≤ d) (hsb : sc < G.2.2) (hL : LI sc len S x j z0 h) (hi : i + 6 ≤ len) (hlen : len ≤ 3072) (kk : ∀ h2, LI sc len S x (j + 1) z0 h2 → jm_X l G mm_Lw_law n0 s0 (jm_zn G d n0 s0) Post 661 [(4, .int (nI i)), (3, .ref (x + 47)), (2, .ref (x + 18)), (1, .ref x), (0, .ref sc)] [] h2) : jm_X l G mm_Lw_law n0 s0 (jm_zn G d n0 s0) Post 605 [(4, .int (nI i)), (3, .ref (x + 47)), (2, .ref (x + 18)), (1, .ref x), (0, .ref sc)] [] h := by
  obtain ⟨k, b, h1, h2, hC1, hC2, hC3, ⟨bb, hb⟩, hk, hO1, ta1, ta2, hL2⟩ := op_count (l := l) (G := G) (d := d - 1) hl (by omega) (wa := S (i + 1)) hL
  subst hb
  rcases hk with ⟨hk, ow⟩ | hk
  · subst hk
    refine jx_aload_n d_Lw_law_605 3 rfl ?_
    refine jx_aload_n d_Lw_law_606 4 rfl ?_
    refine jx_iload d_Lw_law_607 0 rfl ?_
    refine jx_iconst (v0 := 1) d_Lw_law_609 (by decide) ?_
    refine jx_iadd d_Lw_law_610 ?_
    refine jx_ati (nI_add (i) (1)) ?_
    refine jx_sald d_Lw_law_611 hsb hL.1.1 (jm_vinN (n := (i) + (1)) (show (i) + (1) < len by omega) (show len < 2 ^ 31 by omega)) (jm_atN (n := (i) + (1)) (show (i) + (1) < 2 ^ 31 by omega) (hL.1.2.1 ((i) + (1)) (by omega))) ?_
    refine jx_aload_n d_Lw_law_612 1 rfl ?_
    refine jx_callSW (M2 := mm_Lw_count) (n := 3) lk_Lw_102 wt_Lw_count d_Lw_law_613 hC1 wc_Lw_count wn_Lw ⟨by decide, by decide, by decide +kernel⟩ rfl rfl (Nat.le_of_ble_eq_true rfl) (jm_fok (by omega)) (jm_look (by decide) (by omega)) ?_
    refine jx_istore (lv' := [(5, .int (0)), (4, .int (nI (i))), (3, .ref (x + 47)), (2, .ref (x + 18)), (1, .ref (x)), (0, .ref (sc))]) d_Lw_law_616 (by decide) rfl ?_
    refine jx_aload_n d_Lw_law_618 3 rfl ?_
    refine jx_aload_n d_Lw_law_619 5 rfl ?_
    refine jx_iload d_Lw_law_620 1 rfl ?_
    refine jx_iconst (v0 := 1) d_Lw_law_622 (by decide) ?_
    refine jx_iadd d_Lw_law_623 ?_
    refine jx_ati (nI_add (i) (1)) ?_
    refine jx_sald d_Lw_law_624 hsb hO1.1 (jm_vinN (n := (i) + (1)) (show (i) + (1) < len by omega) (show len < 2 ^ 31 by omega)) (jm_atN (n := (i) + (1)) (show (i) + (1) < 2 ^ 31 by omega) (hO1.2.1 ((i) + (1)) (by omega))) ?_
    refine jx_callV (M2 := mm_Md_count) rfl ta1 lk_Lw_105 wi_Md_count ws_Md_count d_Lw_law_625 hC2 cd_Md_count rfl rfl (Nat.le_of_ble_eq_true rfl) (jm_fok (by omega)) (jm_look (by decide) (by omega)) ?_
    refine jx_istore (lv' := [(6, .int (bb)), (5, .int (0)), (4, .int (nI (i))), (3, .ref (x + 47)), (2, .ref (x + 18)), (1, .ref (x)), (0, .ref (sc))]) d_Lw_law_628 (by decide) rfl ?_
    refine jx_aload_n d_Lw_law_630 4 rfl ?_
    refine jx_callV (M2 := mm_Md_thrown) rfl ta2 lk_Lw_62 wi_Md_thrown ws_Md_thrown d_Lw_law_631 hC3 cd_Md_thrown rfl rfl (Nat.le_of_ble_eq_true rfl) (jm_fok (by omega)) (jm_look (by decide) (by omega)) ?_
    refine jx_iload d_Lw_law_634 1 rfl ?_
    refine jx_icmp_eq (tgt := 641) d_Lw_law_636 (by decide) (fun c1 => ?_) (fun c1 => absurd c1 (by decide))
    refine jx_iload d_Lw_law_641 1 rfl ?_
    refine jx_if_ne (tgt := 658) d_Lw_law_643 (by decide) (fun c2 => absurd c2 (by decide)) (fun c2 => ?_)
    refine jx_aload_n d_Lw_law_646 3 rfl ?_
    refine jx_iconst (v0 := 0) d_Lw_law_647 (by decide) ?_
    refine jx_lald d_Lw_law_648 hL2.1.2.2.2.1 rfl (jm_vinN (n := 0) (show 0 < 1 by omega) (by decide)) (jm_atN (n := 0) (by decide) (show h2.2.2.2 (x + 47) 0 = Value.long (Int32.toInt64 bb) from ow)) ?_
    refine jx_iload d_Lw_law_649 0 rfl ?_
    refine jx_i2l d_Lw_law_651 ?_
    refine jx_lcmp d_Lw_law_652 ?_
    refine jx_if_eqL (tgt := 658) d_Lw_law_653 (by decide) (fun c3 => ?_) (fun c3 => ?_)
    ·
      refine jx_goto (tgt := 661) d_Lw_law_658 (by decide) ?_
      refine jx_lv [2, 3, 4, 5, 6] rfl ?_
      exact kk h2 hL2
    · exact absurd rfl c3
  · subst hk
    refine jx_aload_n d_Lw_law_605 3 rfl ?_
    refine jx_aload_n d_Lw_law_606 4 rfl ?_
    refine jx_iload d_Lw_law_607 0 rfl ?_
    refine jx_iconst (v0 := 1) d_Lw_law_609 (by decide) ?_
    refine jx_iadd d_Lw_law_610 ?_
    refine jx_ati (nI_add (i) (1)) ?_
    refine jx_sald d_Lw_law_611 hsb hL.1.1 (jm_vinN (n := (i) + (1)) (show (i) + (1) < len by omega) (show len < 2 ^ 31 by omega)) (jm_atN (n := (i) + (1)) (show (i) + (1) < 2 ^ 31 by omega) (hL.1.2.1 ((i) + (1)) (by omega))) ?_
    refine jx_aload_n d_Lw_law_612 1 rfl ?_
    refine jx_callSW (M2 := mm_Lw_count) (n := 3) lk_Lw_102 wt_Lw_count d_Lw_law_613 hC1 wc_Lw_count wn_Lw ⟨by decide, by decide, by decide +kernel⟩ rfl rfl (Nat.le_of_ble_eq_true rfl) (jm_fok (by omega)) (jm_look (by decide) (by omega)) ?_
    refine jx_istore (lv' := [(5, .int (1)), (4, .int (nI (i))), (3, .ref (x + 47)), (2, .ref (x + 18)), (1, .ref (x)), (0, .ref (sc))]) d_Lw_law_616 (by decide) rfl ?_
    refine jx_aload_n d_Lw_law_618 3 rfl ?_
    refine jx_aload_n d_Lw_law_619 5 rfl ?_
    refine jx_iload d_Lw_law_620 1 rfl ?_
    refine jx_iconst (v0 := 1) d_Lw_law_622 (by decide) ?_
    refine jx_iadd d_Lw_law_623 ?_
    refine jx_ati (nI_add (i) (1)) ?_
    refine jx_sald d_Lw_law_624 hsb hO1.1 (jm_vinN (n := (i) + (1)) (show (i) + (1) < len by omega) (show len < 2 ^ 31 by omega)) (jm_atN (n := (i) + (1)) (show (i) + (1) < 2 ^ 31 by omega) (hO1.2.1 ((i) + (1)) (by omega))) ?_
    refine jx_callV (M2 := mm_Md_count) rfl ta1 lk_Lw_105 wi_Md_count ws_Md_count d_Lw_law_625 hC2 cd_Md_count rfl rfl (Nat.le_of_ble_eq_true rfl) (jm_fok (by omega)) (jm_look (by decide) (by omega)) ?_
    refine jx_istore (lv' := [(6, .int (bb)), (5, .int (1)), (4, .int (nI (i))), (3, .ref (x + 47)), (2, .ref (x + 18)), (1, .ref (x)), (0, .ref (sc))]) d_Lw_law_628 (by decide) rfl ?_
    refine jx_aload_n d_Lw_law_630 4 rfl ?_
    refine jx_callV (M2 := mm_Md_thrown) rfl ta2 lk_Lw_62 wi_Md_thrown ws_Md_thrown d_Lw_law_631 hC3 cd_Md_thrown rfl rfl (Nat.le_of_ble_eq_true rfl) (jm_fok (by omega)) (jm_look (by decide) (by omega)) ?_
    refine jx_iload d_Lw_law_634 1 rfl ?_
    refine jx_icmp_eq (tgt := 641) d_Lw_law_636 (by decide) (fun c1 => ?_) (fun c1 => absurd c1 (by decide))
    refine jx_iload d_Lw_law_641 1 rfl ?_
    refine jx_if_ne (tgt := 658) d_Lw_law_643 (by decide) (fun c2 => ?_) (fun c2 => absurd c2 (by decide))
    refine jx_goto (tgt := 661) d_Lw_law_658 (by decide) ?_
    refine jx_lv [2, 3, 4, 5, 6] rfl ?_
    exact kk h2 hL2
