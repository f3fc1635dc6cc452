theorem ev2_er9 {p q : Int32 × Int64} {f : Int64 → Int64 → Int32 × Int64} (hp : p.1 ≠ 1 → p.2 = 0 ∧ (p.1 = 2 ∨ p.1 = 3)) (hq : q.1 ≠ 1 → q.2 = 0 ∧ (q.1 = 2 ∨ q.1 = 3)) (hf : ∀ x y, (f x y).1 ≠ 1 → (f x y).2 = 0 ∧ ((f x y).1 = 2 ∨ (f x y).1 = 3)) : (ev2 p q f).1 ≠ 1 → (ev2 p q f).2 = 0 ∧ ((ev2 p q f).1 = 2 ∨ (ev2 p q f).1 = 3) := by
  unfold ev2
  split
  · split
    · exact hf _ _
    · exact hq
  · exact hp
/-- an error has no value -/
theorem ev_err0 {ρ : Int64 → Int32 × Int64} (t : Term) (ht : Tree t) : (ev ρ t).1 ≠ 1 → (ev ρ t).2 = 0 ∧ ((ev ρ t).1 = 2 ∨ (ev ρ t).1 = 3) := by
  refine Tree.rec9 (P := fun t => (ev ρ t).1 ≠ 1 → (ev ρ t).2 = 0 ∧ ((ev ρ t).1 = 2 ∨ (ev ρ t).1 = 3)) ?_ ?_ ?_ ?_ ?_ ?_ ?_ ?_ ?_ ?_ t ht
  · intro v h; exact absurd rfl h
  · intro u p
    show (if (ρ u).1 = 1 then ((1 : Int32), (ρ u).2) else (3, 0)).1 ≠ 1 → (if (ρ u).1 = 1 then ((1 : Int32), (ρ u).2) else (3, 0)).2 = 0 ∧ ((if (ρ u).1 = 1 then ((1 : Int32), (ρ u).2) else (3, 0)).1 = 2 ∨ (if (ρ u).1 = 1 then ((1 : Int32), (ρ u).2) else (3, 0)).1 = 3)
    split
    · intro h; exact absurd rfl h
    · intro _; exact ⟨rfl, Or.inr rfl⟩
  · intro t _ ih
    show (if (ev ρ t).1 = 1 then ((1 : Int32), -(ev ρ t).2) else ev ρ t).1 ≠ 1 → (if (ev ρ t).1 = 1 then ((1 : Int32), -(ev ρ t).2) else ev ρ t).2 = 0 ∧ ((if (ev ρ t).1 = 1 then ((1 : Int32), -(ev ρ t).2) else ev ρ t).1 = 2 ∨ (if (ev ρ t).1 = 1 then ((1 : Int32), -(ev ρ t).2) else ev ρ t).1 = 3)
    split
    · intro h; exact absurd rfl h
    · exact ih
  · intro a b _ _ ia ib; exact ev2_er9 ia ib fun x y h => absurd rfl h
  · intro a b _ _ ia ib; exact ev2_er9 ia ib fun x y h => absurd rfl h
  · intro a b _ _ ia ib; exact ev2_er9 ia ib fun x y h => absurd rfl h
  · intro a b _ _ ia ib
    refine ev2_er9 ia ib fun x y => ?_
    show (if y = 0 then ((2 : Int32), (0 : Int64)) else (1, x / y)).1 ≠ 1 → (if y = 0 then ((2 : Int32), (0 : Int64)) else (1, x / y)).2 = 0 ∧ ((if y = 0 then ((2 : Int32), (0 : Int64)) else (1, x / y)).1 = 2 ∨ (if y = 0 then ((2 : Int32), (0 : Int64)) else (1, x / y)).1 = 3)
    split
    · intro _; exact ⟨rfl, Or.inl rfl⟩
    · intro h; exact absurd rfl h
  · intro a b _ _ ia ib; exact ev2_er9 ia ib fun x y h => absurd rfl h
  · intro o a b _ _ ia ib; exact ev2_er9 ia ib fun x y h => absurd rfl h
  · intro a b c _ _ _ ia ib ic
    show (if (ev ρ a).1 = 1 then (if 0 < (ev ρ a).2 then ev ρ b else ev ρ c) else ev ρ a).1 ≠ 1 → (if (ev ρ a).1 = 1 then (if 0 < (ev ρ a).2 then ev ρ b else ev ρ c) else ev ρ a).2 = 0 ∧ ((if (ev ρ a).1 = 1 then (if 0 < (ev ρ a).2 then ev ρ b else ev ρ c) else ev ρ a).1 = 2 ∨ (if (ev ρ a).1 = 1 then (if 0 < (ev ρ a).2 then ev ρ b else ev ρ c) else ev ρ a).1 = 3)
    split
    · split
      · exact ib
      · exact ic
    · exact ia
set_option maxHeartbeats 4000000 in
set_option maxRecDepth 100000 in
theorem wx_Md_work0 (l : Launch) (G : jm_G) {h : jm_H} {a : Nat} {s : MS} {c : Nat} {n0 s0 d : Nat} {Post : jm_r → jm_H → Prop} (hK : MdK h a) (he : s.1 39 = 0) (kk : Post (.inl (some (.long (s.2.1 44)))) (mdH h a s)) : XWE l G n0 s0 d Post h a c s := by
  unfold XWE
  refine jx_aload_n d_Md_work_278 0 rfl ?_
  refine jx_get d_Md_work_279 fF_Md_231 (md_tg hK) ((show (mdH h a s).2.2.2 a 39 = Value.int (s.1 39) from md_ri rfl).trans (congrArg Value.int he)) ?_
  refine jx_if_le (tgt := 289) d_Md_work_282 (by decide) (fun c1 => ?_) (fun c1 => absurd c1 (by decide))
  refine jx_aload_n d_Md_work_289 0 rfl ?_
  refine jx_get d_Md_work_290 fF_Md_237 (md_tg hK) (show (mdH h a s).2.2.2 a 44 = Value.long (s.2.1 44) from md_rl rfl) ?_
  exact jx_lret d_Md_work_293 rfl (kk)
set_option maxHeartbeats 4000000 in
set_option maxRecDepth 100000 in
theorem wx_Md_work2 (l : Launch) (G : jm_G) {h : jm_H} {a : Nat} {s : MS} {c : Nat} {n0 s0 d : Nat} {Post : jm_r → jm_H → Prop} (hK : MdK h a) (he : s.1 39 = 2) (kk : Post (.inl (some (.long (0)))) (mdH h a s)) : XWE l G n0 s0 d Post h a c s := by
  unfold XWE
  refine jx_aload_n d_Md_work_278 0 rfl ?_
  refine jx_get d_Md_work_279 fF_Md_231 (md_tg hK) ((show (mdH h a s).2.2.2 a 39 = Value.int (s.1 39) from md_ri rfl).trans (congrArg Value.int he)) ?_
  refine jx_if_le (tgt := 289) d_Md_work_282 (by decide) (fun c1 => absurd c1 (by decide)) (fun c1 => ?_)
  refine jx_lconst (v0 := 0) d_Md_work_285 (by decide) ?_
  refine jx_goto (tgt := 293) d_Md_work_286 (by decide) ?_
  exact jx_lret d_Md_work_293 rfl (kk)
set_option maxHeartbeats 4000000 in
set_option maxRecDepth 100000 in
theorem wx_Md_work3 (l : Launch) (G : jm_G) {h : jm_H} {a : Nat} {s : MS} {c : Nat} {n0 s0 d : Nat} {Post : jm_r → jm_H → Prop} (hK : MdK h a) (he : s.1 39 = 3) (kk : Post (.inl (some (.long (0)))) (mdH h a s)) : XWE l G n0 s0 d Post h a c s := by
  unfold XWE
  refine jx_aload_n d_Md_work_278 0 rfl ?_
  refine jx_get d_Md_work_279 fF_Md_231 (md_tg hK) ((show (mdH h a s).2.2.2 a 39 = Value.int (s.1 39) from md_ri rfl).trans (congrArg Value.int he)) ?_
  refine jx_if_le (tgt := 289) d_Md_work_282 (by decide) (fun c1 => absurd c1 (by decide)) (fun c1 => ?_)
  refine jx_lconst (v0 := 0) d_Md_work_285 (by decide) ?_
  refine jx_goto (tgt := 293) d_Md_work_286 (by decide) ?_
  exact jx_lret d_Md_work_293 rfl (kk)
set_option maxHeartbeats 4000000 in
set_option maxRecDepth 100000 in
theorem c_Md_work (l : Launch) (G : jm_G) (d : Nat) (hd : 3 ≤ d) {h : jm_H} {a : Nat} {s : MS} {c i n : Nat} {PL : Nat → Int32} {t : Term} (hK : MdK h a) (hc : c < 64) (he : s.1 39 = 0) (hrt : s.2.2.1 7 c = nI i) (ht : Tree t) (hR : RepC s c PL t i 0 n) (hn : n ≤ 40) : jm_CP l G mm_Md_work d [.ref a, .int (nI c)] (mdH h a s) (fun v h9 => v = some (.long (ev (m_res s) t).2) ∧ ∃ s', h9 = mdH h a s' ∧ FixW s s' ∧ s'.1 39 = if (ev (m_res s) t).1 = 1 then 0 else (ev (m_res s) t).1) := by
  refine jm_of (by decide) rfl (Nat.le_of_ble_eq_true rfl) ?_
  refine jx_aload_n d_Md_work_0 0 rfl ?_
  refine jx_iconst (v0 := 0) d_Md_work_1 (by decide) ?_
  refine jx_put (v0 := .int (0)) d_Md_work_2 fF_Md_225 jv_Md ft_Md_high (md_tg hK) rfl rfl ?_
  refine jx_ath (md_wi (k := 43) rfl) ?_
  refine jx_aload_n d_Md_work_5 0 rfl ?_
  refine jx_aload_n d_Md_work_6 0 rfl ?_
  refine jx_get d_Md_work_7 fF_Md_30 (md_tg hK) (md_rr hK (k := 10) (j := 7) rfl rfl rfl) ?_
  refine jx_iload_n d_Md_work_10 1 rfl ?_
  refine jx_iald d_Md_work_11 (md_ta hK (j := 7) rfl) rfl (jm_vinN (show c < 64 by omega) (by decide)) (jm_atN (show c < 2 ^ 31 by omega) (show (mdH h a (mi s 43 0)).2.2.2 (a + 7) c = Value.int (s.2.2.1 7 c) from md_rai (j := 7) (show c < 64 by omega))) ?_
  refine jx_callV (M2 := mm_Md_push) rfl (md_tg hK) lk_Md_228 wi_Md_push ws_Md_push d_Md_work_12 (c_Md_push l G (d - 1) (s := mi s 43 0) (H := 0) (nd := s.2.2.1 7 c) hK rfl (by decide)) cd_Md_push rfl rfl (Nat.le_of_ble_eq_true rfl) (jm_fok (by omega)) (jm_look (by decide) (by omega)) ?_
  rw [hrt]
  refine evM hd hK hc t ht i 0 n hR hn _ 0 ⟨(FixW.rf.mi (by decide)).psh, rfl, he, by simp [m_psh, mai, mi, jm_up], by simp [m_psh, mai, mi, jm_up]; rfl⟩ (by omega) (fun e s' g1 g2 g3 g4 g5 => ?_) (fun e s' g1 g2 => ?_)
  · exact it_fin l G hK g2 (wx_Md_work0 l G hK g3 ⟨_, rfl, by rw [g4], s', rfl, g1, by rw [if_pos e]; exact g3⟩)
  · obtain ⟨z0, z1 | z1⟩ := ev_err0 t ht e
    · exact wx_Md_work2 l G hK (g2.trans z1) ⟨_, rfl, by rw [z0], s', rfl, g1, by rw [if_neg e]; exact g2⟩
    · exact wx_Md_work3 l G hK (g2.trans z1) ⟨_, rfl, by rw [z0], s', rfl, g1, by rw [if_neg e]; exact g2⟩
/-- what is seen at node k -/
def m_see (s : MS) (q : Nat) : MS := mal (mai s 14 q (if s.2.2.1 9 q = 1 then (m_res s (s.2.2.2.1 13 q)).1 else 0)) 15 q (if s.2.2.1 9 q = 1 then (m_res s (s.2.2.2.1 13 q)).2 else 0)
set_option maxHeartbeats 4000000 in
set_option maxRecDepth 100000 in
theorem wq_Md_workOut1 (l : Launch) (G : jm_G) {h : jm_H} {a : Nat} {s : MS} {N : Nat → Nat} {c i : Nat} {x : Int64} {n0 s0 d : Nat} {Post : jm_r → jm_H → Prop} (hd : 2 ≤ d) (hK : MdK h a) (hN : NcOK s N) (hc : c < 64) (hi : i < N c) (c9 : s.2.2.1 9 (40 * c + i) = 1) (kk : jm_X l G mm_Md_workOut n0 s0 (jm_zn G d n0 s0) Post 63 [(4, .int (nI (40 * c + (i + 1)))), (2, .long (x)), (0, .ref (a)), (1, .int (nI (c)))] [] (mdH h a (m_see s (40 * c + i)))) : jm_X l G mm_Md_workOut n0 s0 (jm_zn G d n0 s0) Post 63 [(4, .int (nI (40 * c + i))), (2, .long (x)), (0, .ref (a)), (1, .int (nI (c)))] [] (mdH h a s) := by
  have hNc := (hN c hc).2
  refine jx_iload d_Md_workOut_63 0 rfl ?_
  refine jx_bipush (v0 := 40) d_Md_workOut_65 (by decide) ?_
  refine jx_iload_n d_Md_workOut_67 3 rfl ?_
  refine jx_imul d_Md_workOut_68 ?_
  refine jx_ati (pk_mul (40) (c)) ?_
  refine jx_aload_n d_Md_workOut_69 2 rfl ?_
  refine jx_get d_Md_workOut_70 fF_Md_33 (md_tg hK) (md_rr hK (k := 11) (j := 8) rfl rfl rfl) ?_
  refine jx_iload_n d_Md_workOut_73 3 rfl ?_
  refine jx_iald d_Md_workOut_74 (md_ta hK (j := 8) rfl) rfl (jm_vinN (show c < 64 by omega) (by decide)) (jm_atN (show c < 2 ^ 31 by omega) ((show (mdH h a s).2.2.2 (a + 8) c = Value.int (s.2.2.1 8 c) from md_rai (j := 8) (show c < 64 by omega)).trans (congrArg Value.int (hN c hc).1))) ?_
  refine jx_iadd d_Md_workOut_75 ?_
  refine jx_ati (nI_add ((40) * (c)) (N c)) ?_
  refine jx_icmp_geN (tgt := 151) (40 * c + i) (((40) * (c)) + (N c)) d_Md_workOut_76 rfl rfl (by omega) (by omega) (by decide) (fun c1 => ?_) (fun c1 => ?_)
  · omega
  ·
    refine jx_aload_n d_Md_workOut_79 2 rfl ?_
    refine jx_get d_Md_workOut_80 fF_Md_51 (md_tg hK) (md_rr hK (k := 17) (j := 14) rfl rfl rfl) ?_
    refine jx_iload d_Md_workOut_83 0 rfl ?_
    refine jx_aload_n d_Md_workOut_85 2 rfl ?_
    refine jx_get d_Md_workOut_86 fF_Md_36 (md_tg hK) (md_rr hK (k := 12) (j := 9) rfl rfl rfl) ?_
    refine jx_iload d_Md_workOut_89 0 rfl ?_
    refine jx_iald d_Md_workOut_91 (md_ta hK (j := 9) rfl) rfl (jm_vinN (show 40 * c + i < 2560 by omega) (by decide)) (jm_atN (show 40 * c + i < 2 ^ 31 by omega) (show (mdH h a s).2.2.2 (a + 9) (40 * c + i) = Value.int (s.2.2.1 9 (40 * c + i)) from md_rai (j := 9) (show 40 * c + i < 2560 by omega))) ?_
    refine jx_iconst (v0 := 1) d_Md_workOut_92 (by decide) ?_
    refine jx_icmp_ne (tgt := 110) d_Md_workOut_93 (by decide) (fun c2 => ?_) (fun c2 => ?_)
    · exact absurd c9 c2
    ·
      refine jx_aload_n d_Md_workOut_96 2 rfl ?_
      refine jx_aload_n d_Md_workOut_97 2 rfl ?_
      refine jx_get d_Md_workOut_98 fF_Md_48 (md_tg hK) (md_rr hK (k := 16) (j := 13) rfl rfl rfl) ?_
      refine jx_iload d_Md_workOut_101 0 rfl ?_
      refine jx_lald d_Md_workOut_103 (md_ta hK (j := 13) rfl) rfl (jm_vinN (show 40 * c + i < 2560 by omega) (by decide)) (jm_atN (show 40 * c + i < 2 ^ 31 by omega) (show (mdH h a s).2.2.2 (a + 13) (40 * c + i) = Value.long (s.2.2.2.1 13 (40 * c + i)) from md_ral (j := 13) (show 40 * c + i < 2560 by omega))) ?_
      have hcr : jm_C l G mm_Md_resultOf (d - 1) [.ref a, .long (s.2.2.2.1 13 (40 * c + i))] (mdH h a s) (some (.int (m_res s (s.2.2.2.1 13 (40 * c + i))).1)) (mdH h a s) := c_Md_resultOf l G (d - 1) (by omega) hK
      refine jx_callV (M2 := mm_Md_resultOf) rfl (md_tg hK) lk_Md_244 wi_Md_resultOf ws_Md_resultOf d_Md_workOut_104 hcr cd_Md_resultOf rfl rfl (Nat.le_of_ble_eq_true rfl) (jm_fok (by omega)) (jm_look (by decide) (by omega)) ?_
      refine jx_goto (tgt := 111) d_Md_workOut_107 (by decide) ?_
      refine jx_iast d_Md_workOut_111 (md_ta hK (j := 14) rfl) rfl (jm_vinN (show 40 * c + i < 2560 by omega) (by decide)) ?_
      refine jx_ath ((jm_putN (show 40 * c + i < 2 ^ 31 by omega)).trans (md_wai (j := 14) (show 40 * c + i < 2560 by omega))) ?_
      refine jx_aload_n d_Md_workOut_112 2 rfl ?_
      refine jx_get d_Md_workOut_113 fF_Md_54 (md_tg hK) (md_rr hK (k := 18) (j := 15) rfl rfl rfl) ?_
      refine jx_iload d_Md_workOut_116 0 rfl ?_
      refine jx_aload_n d_Md_workOut_118 2 rfl ?_
      refine jx_get d_Md_workOut_119 fF_Md_36 (md_tg hK) (md_rr hK (k := 12) (j := 9) rfl rfl rfl) ?_
      refine jx_iload d_Md_workOut_122 0 rfl ?_
      refine jx_iald d_Md_workOut_124 (md_ta hK (j := 9) rfl) rfl (jm_vinN (show 40 * c + i < 2560 by omega) (by decide)) (jm_atN (show 40 * c + i < 2 ^ 31 by omega) (show (mdH h a (mai s 14 (40 * c + i) ((m_res s (s.2.2.2.1 13 (40 * c + i))).1))).2.2.2 (a + 9) (40 * c + i) = Value.int (s.2.2.1 9 (40 * c + i)) from md_rai (j := 9) (show 40 * c + i < 2560 by omega))) ?_
      refine jx_iconst (v0 := 1) d_Md_workOut_125 (by decide) ?_
      refine jx_icmp_ne (tgt := 143) d_Md_workOut_126 (by decide) (fun c3 => ?_) (fun c3 => ?_)
      · exact absurd c9 c3
      ·
        refine jx_aload_n d_Md_workOut_129 2 rfl ?_
        refine jx_aload_n d_Md_workOut_130 2 rfl ?_
        refine jx_get d_Md_workOut_131 fF_Md_48 (md_tg hK) (md_rr hK (k := 16) (j := 13) rfl rfl rfl) ?_
        refine jx_iload d_Md_workOut_134 0 rfl ?_
        refine jx_lald d_Md_workOut_136 (md_ta hK (j := 13) rfl) rfl (jm_vinN (show 40 * c + i < 2560 by omega) (by decide)) (jm_atN (show 40 * c + i < 2 ^ 31 by omega) (show (mdH h a (mai s 14 (40 * c + i) ((m_res s (s.2.2.2.1 13 (40 * c + i))).1))).2.2.2 (a + 13) (40 * c + i) = Value.long (s.2.2.2.1 13 (40 * c + i)) from md_ral (j := 13) (show 40 * c + i < 2560 by omega))) ?_
        have hcv := c_Md_valueOf l G (d - 1) (by omega) (h := h) (a := a) (s := (mai s 14 (40 * c + i) ((m_res s (s.2.2.2.1 13 (40 * c + i))).1))) (u := s.2.2.2.1 13 (40 * c + i)) hK
        rw [m_res_k (s := s) (s' := (mai s 14 (40 * c + i) ((m_res s (s.2.2.2.1 13 (40 * c + i))).1))) rfl rfl rfl rfl] at hcv
        refine jx_callV (M2 := mm_Md_valueOf) rfl (md_tg hK) lk_Md_247 wi_Md_valueOf ws_Md_valueOf d_Md_workOut_137 hcv cd_Md_valueOf rfl rfl (Nat.le_of_ble_eq_true rfl) (jm_fok (by omega)) (jm_look (by decide) (by omega)) ?_
        refine jx_goto (tgt := 144) d_Md_workOut_140 (by decide) ?_
        refine jx_last d_Md_workOut_144 (md_ta hK (j := 15) rfl) rfl (jm_vinN (show 40 * c + i < 2560 by omega) (by decide)) ?_
        refine jx_ath ((jm_putN (show 40 * c + i < 2 ^ 31 by omega)).trans (md_wal (j := 15) (show 40 * c + i < 2560 by omega))) ?_
        refine jx_iinc (v0 := nI (40 * c + i + 1)) (lv' := [(4, .int (nI (40 * c + i + 1))), (2, .long (x)), (0, .ref (a)), (1, .int (nI (c)))]) d_Md_workOut_145 0 rfl (nI_add _ 1) (by decide) rfl ?_
        refine jx_goto (tgt := 63) d_Md_workOut_148 (by decide) ?_
        have e7 : m_see s (40 * c + i) = (mal (mai s 14 (40 * c + i) ((m_res s (s.2.2.2.1 13 (40 * c + i))).1)) 15 (40 * c + i) ((m_res s (s.2.2.2.1 13 (40 * c + i))).2)) := by unfold m_see; rw [if_pos c9, if_pos c9]
        rw [← e7]
        exact kk
set_option maxHeartbeats 4000000 in
set_option maxRecDepth 100000 in
theorem wq_Md_workOut0 (l : Launch) (G : jm_G) {h : jm_H} {a : Nat} {s : MS} {N : Nat → Nat} {c i : Nat} {x : Int64} {n0 s0 d : Nat} {Post : jm_r → jm_H → Prop} (hd : 2 ≤ d) (hK : MdK h a) (hN : NcOK s N) (hc : c < 64) (hi : i < N c) (c9 : ¬ s.2.2.1 9 (40 * c + i) = 1) (kk : jm_X l G mm_Md_workOut n0 s0 (jm_zn G d n0 s0) Post 63 [(4, .int (nI (40 * c + (i + 1)))), (2, .long (x)), (0, .ref (a)), (1, .int (nI (c)))] [] (mdH h a (m_see s (40 * c + i)))) : jm_X l G mm_Md_workOut n0 s0 (jm_zn G d n0 s0) Post 63 [(4, .int (nI (40 * c + i))), (2, .long (x)), (0, .ref (a)), (1, .int (nI (c)))] [] (mdH h a s) := by
  have hNc := (hN c hc).2
  refine jx_iload d_Md_workOut_63 0 rfl ?_
  refine jx_bipush (v0 := 40) d_Md_workOut_65 (by decide) ?_
  refine jx_iload_n d_Md_workOut_67 3 rfl ?_
  refine jx_imul d_Md_workOut_68 ?_
  refine jx_ati (pk_mul (40) (c)) ?_
  refine jx_aload_n d_Md_workOut_69 2 rfl ?_
  refine jx_get d_Md_workOut_70 fF_Md_33 (md_tg hK) (md_rr hK (k := 11) (j := 8) rfl rfl rfl) ?_
  refine jx_iload_n d_Md_workOut_73 3 rfl ?_
  refine jx_iald d_Md_workOut_74 (md_ta hK (j := 8) rfl) rfl (jm_vinN (show c < 64 by omega) (by decide)) (jm_atN (show c < 2 ^ 31 by omega) ((show (mdH h a s).2.2.2 (a + 8) c = Value.int (s.2.2.1 8 c) from md_rai (j := 8) (show c < 64 by omega)).trans (congrArg Value.int (hN c hc).1))) ?_
  refine jx_iadd d_Md_workOut_75 ?_
  refine jx_ati (nI_add ((40) * (c)) (N c)) ?_
  refine jx_icmp_geN (tgt := 151) (40 * c + i) (((40) * (c)) + (N c)) d_Md_workOut_76 rfl rfl (by omega) (by omega) (by decide) (fun c1 => ?_) (fun c1 => ?_)
  · omega
  ·
    refine jx_aload_n d_Md_workOut_79 2 rfl ?_
    refine jx_get d_Md_workOut_80 fF_Md_51 (md_tg hK) (md_rr hK (k := 17) (j := 14) rfl rfl rfl) ?_
    refine jx_iload d_Md_workOut_83 0 rfl ?_
    refine jx_aload_n d_Md_workOut_85 2 rfl ?_
    refine jx_get d_Md_workOut_86 fF_Md_36 (md_tg hK) (md_rr hK (k := 12) (j := 9) rfl rfl rfl) ?_
    refine jx_iload d_Md_workOut_89 0 rfl ?_
    refine jx_iald d_Md_workOut_91 (md_ta hK (j := 9) rfl) rfl (jm_vinN (show 40 * c + i < 2560 by omega) (by decide)) (jm_atN (show 40 * c + i < 2 ^ 31 by omega) (show (mdH h a s).2.2.2 (a + 9) (40 * c + i) = Value.int (s.2.2.1 9 (40 * c + i)) from md_rai (j := 9) (show 40 * c + i < 2560 by omega))) ?_
    refine jx_iconst (v0 := 1) d_Md_workOut_92 (by decide) ?_
    refine jx_icmp_ne (tgt := 110) d_Md_workOut_93 (by decide) (fun c2 => ?_) (fun c2 => ?_)
    ·
      refine jx_iconst (v0 := 0) d_Md_workOut_110 (by decide) ?_
      refine jx_iast d_Md_workOut_111 (md_ta hK (j := 14) rfl) rfl (jm_vinN (show 40 * c + i < 2560 by omega) (by decide)) ?_
      refine jx_ath ((jm_putN (show 40 * c + i < 2 ^ 31 by omega)).trans (md_wai (j := 14) (show 40 * c + i < 2560 by omega))) ?_
      refine jx_aload_n d_Md_workOut_112 2 rfl ?_
      refine jx_get d_Md_workOut_113 fF_Md_54 (md_tg hK) (md_rr hK (k := 18) (j := 15) rfl rfl rfl) ?_
      refine jx_iload d_Md_workOut_116 0 rfl ?_
      refine jx_aload_n d_Md_workOut_118 2 rfl ?_
      refine jx_get d_Md_workOut_119 fF_Md_36 (md_tg hK) (md_rr hK (k := 12) (j := 9) rfl rfl rfl) ?_
      refine jx_iload d_Md_workOut_122 0 rfl ?_
      refine jx_iald d_Md_workOut_124 (md_ta hK (j := 9) rfl) rfl (jm_vinN (show 40 * c + i < 2560 by omega) (by decide)) (jm_atN (show 40 * c + i < 2 ^ 31 by omega) (show (mdH h a (mai s 14 (40 * c + i) 0)).2.2.2 (a + 9) (40 * c + i) = Value.int (s.2.2.1 9 (40 * c + i)) from md_rai (j := 9) (show 40 * c + i < 2560 by omega))) ?_
      refine jx_iconst (v0 := 1) d_Md_workOut_125 (by decide) ?_
      refine jx_icmp_ne (tgt := 143) d_Md_workOut_126 (by decide) (fun c3 => ?_) (fun c3 => ?_)
      ·
        refine jx_lconst (v0 := 0) d_Md_workOut_143 (by decide) ?_
        refine jx_last d_Md_workOut_144 (md_ta hK (j := 15) rfl) rfl (jm_vinN (show 40 * c + i < 2560 by omega) (by decide)) ?_
        refine jx_ath ((jm_putN (show 40 * c + i < 2 ^ 31 by omega)).trans (md_wal (j := 15) (show 40 * c + i < 2560 by omega))) ?_
        refine jx_iinc (v0 := nI (40 * c + i + 1)) (lv' := [(4, .int (nI (40 * c + i + 1))), (2, .long (x)), (0, .ref (a)), (1, .int (nI (c)))]) d_Md_workOut_145 0 rfl (nI_add _ 1) (by decide) rfl ?_
        refine jx_goto (tgt := 63) d_Md_workOut_148 (by decide) ?_
        have e7 : m_see s (40 * c + i) = (mal (mai s 14 (40 * c + i) 0) 15 (40 * c + i) 0) := by unfold m_see; rw [if_neg c9, if_neg c9]
        rw [← e7]
        exact kk
      · exact absurd c3 c9
    · exact absurd c2 c9
set_option maxHeartbeats 4000000 in
set_option maxRecDepth 100000 in
theorem we_Md_workOut (l : Launch) (G : jm_G) {h : jm_H} {a : Nat} {s : MS} {N : Nat → Nat} {c : Nat} {x : Int64} {n0 s0 d : Nat} {Post : jm_r → jm_H → Prop} (hK : MdK h a) (hN : NcOK s N) (hc : c < 64) (kk : jm_X l G mm_Md_workOut n0 s0 (jm_zn G d n0 s0) Post 151 [(0, .ref a), (1, .int (nI c))] [] (mdH h a s)) : jm_X l G mm_Md_workOut n0 s0 (jm_zn G d n0 s0) Post 63 [(4, .int (nI (40 * c + N c))), (2, .long (x)), (0, .ref (a)), (1, .int (nI (c)))] [] (mdH h a s) := by
  have hNc := (hN c hc).2
  refine jx_iload d_Md_workOut_63 0 rfl ?_
  refine jx_bipush (v0 := 40) d_Md_workOut_65 (by decide) ?_
  refine jx_iload_n d_Md_workOut_67 3 rfl ?_
  refine jx_imul d_Md_workOut_68 ?_
  refine jx_ati (pk_mul (40) (c)) ?_
  refine jx_aload_n d_Md_workOut_69 2 rfl ?_
  refine jx_get d_Md_workOut_70 fF_Md_33 (md_tg hK) (md_rr hK (k := 11) (j := 8) rfl rfl rfl) ?_
  refine jx_iload_n d_Md_workOut_73 3 rfl ?_
  refine jx_iald d_Md_workOut_74 (md_ta hK (j := 8) rfl) rfl (jm_vinN (show c < 64 by omega) (by decide)) (jm_atN (show c < 2 ^ 31 by omega) ((show (mdH h a s).2.2.2 (a + 8) c = Value.int (s.2.2.1 8 c) from md_rai (j := 8) (show c < 64 by omega)).trans (congrArg Value.int (hN c hc).1))) ?_
  refine jx_iadd d_Md_workOut_75 ?_
  refine jx_ati (nI_add ((40) * (c)) (N c)) ?_
  refine jx_icmp_geN (tgt := 151) (40 * c + N c) (((40) * (c)) + (N c)) d_Md_workOut_76 rfl rfl (by omega) (by omega) (by decide) (fun c1 => ?_) (fun c1 => ?_)
  ·
    refine jx_lv [2, 3] rfl ?_
    exact kk
  · omega
set_option maxHeartbeats 4000000 in
set_option maxRecDepth 100000 in
theorem wj_Md_workOut (l : Launch) (G : jm_G) {h : jm_H} {a : Nat} {s : MS} {c k : Nat} {n0 s0 d : Nat} {Post : jm_r → jm_H → Prop} (hK : MdK h a) (hc : c < 64) (hk : k < 63) (hgt : s.2.2.2.1 3 c < s.2.2.2.1 16 k) (kk : jm_X l G mm_Md_workOut n0 s0 (jm_zn G d n0 s0) Post 167 [(4, .int (nI (k))), (0, .ref (a)), (1, .int (nI (c)))] [] (mdH h a (mal s 16 (k + 1) (s.2.2.2.1 16 k)))) : jm_X l G mm_Md_workOut n0 s0 (jm_zn G d n0 s0) Post 167 [(4, .int (nI (k + 1))), (0, .ref (a)), (1, .int (nI (c)))] [] (mdH h a s) := by
  refine jx_iload d_Md_workOut_167 0 rfl ?_
  refine jx_if_leN (tgt := 213) (k + 1) d_Md_workOut_169 rfl (by omega) (by decide) (fun c1 => ?_) (fun c1 => ?_)
  · omega
  ·
    refine jx_aload_n d_Md_workOut_172 1 rfl ?_
    refine jx_get d_Md_workOut_173 fF_Md_57 (md_tg hK) (md_rr hK (k := 20) (j := 16) rfl rfl rfl) ?_
    refine jx_iload d_Md_workOut_176 0 rfl ?_
    refine jx_iconst (v0 := 1) d_Md_workOut_178 (by decide) ?_
    refine jx_isub d_Md_workOut_179 ?_
    refine jx_ati (pk_sub (a := k + 1) (b := 1) (by omega)) ?_
    refine jx_lald d_Md_workOut_180 (md_ta hK (j := 16) rfl) rfl (jm_vinN (show (k + 1) - (1) < 64 by omega) (by decide)) (jm_atN (show (k + 1) - (1) < 2 ^ 31 by omega) (show (mdH h a s).2.2.2 (a + 16) ((k + 1) - (1)) = Value.long (s.2.2.2.1 16 ((k + 1) - (1))) from md_ral (j := 16) (show (k + 1) - (1) < 64 by omega))) ?_
    refine jx_aload_n d_Md_workOut_181 1 rfl ?_
    refine jx_get d_Md_workOut_182 fF_Md_17 (md_tg hK) (md_rr hK (k := 6) (j := 3) rfl rfl rfl) ?_
    refine jx_iload_n d_Md_workOut_185 2 rfl ?_
    refine jx_lald d_Md_workOut_186 (md_ta hK (j := 3) rfl) rfl (jm_vinN (show c < 64 by omega) (by decide)) (jm_atN (show c < 2 ^ 31 by omega) (show (mdH h a s).2.2.2 (a + 3) c = Value.long (s.2.2.2.1 3 c) from md_ral (j := 3) (show c < 64 by omega))) ?_
    refine jx_lcmp d_Md_workOut_187 ?_
    refine jx_if_leL (tgt := 213) d_Md_workOut_188 (by decide) (fun c2 => ?_) (fun c2 => ?_)
    · exact absurd hgt (Int64.not_lt.mpr c2)
    ·
      refine jx_aload_n d_Md_workOut_191 1 rfl ?_
      refine jx_get d_Md_workOut_192 fF_Md_57 (md_tg hK) (md_rr hK (k := 20) (j := 16) rfl rfl rfl) ?_
      refine jx_iload d_Md_workOut_195 0 rfl ?_
      refine jx_aload_n d_Md_workOut_197 1 rfl ?_
      refine jx_get d_Md_workOut_198 fF_Md_57 (md_tg hK) (md_rr hK (k := 20) (j := 16) rfl rfl rfl) ?_
      refine jx_iload d_Md_workOut_201 0 rfl ?_
      refine jx_iconst (v0 := 1) d_Md_workOut_203 (by decide) ?_
      refine jx_isub d_Md_workOut_204 ?_
      refine jx_ati (pk_sub (a := k + 1) (b := 1) (by omega)) ?_
      refine jx_lald d_Md_workOut_205 (md_ta hK (j := 16) rfl) rfl (jm_vinN (show (k + 1) - (1) < 64 by omega) (by decide)) (jm_atN (show (k + 1) - (1) < 2 ^ 31 by omega) (show (mdH h a s).2.2.2 (a + 16) ((k + 1) - (1)) = Value.long (s.2.2.2.1 16 ((k + 1) - (1))) from md_ral (j := 16) (show (k + 1) - (1) < 64 by omega))) ?_
      refine jx_last d_Md_workOut_206 (md_ta hK (j := 16) rfl) rfl (jm_vinN (show k + 1 < 64 by omega) (by decide)) ?_
      refine jx_ath ((jm_putN (show k + 1 < 2 ^ 31 by omega)).trans (md_wal (j := 16) (show k + 1 < 64 by omega))) ?_
      refine jx_iinc (v0 := nI (k + 1 - 1)) (lv' := [(4, .int (nI (k + 1 - 1))), (0, .ref (a)), (1, .int (nI (c)))]) d_Md_workOut_207 0 rfl (nI_dec (by omega)) (by decide) rfl ?_
      refine jx_goto (tgt := 167) d_Md_workOut_210 (by decide) ?_
      exact kk
set_option maxHeartbeats 4000000 in
set_option maxRecDepth 100000 in
theorem wf_Md_workOut0 (l : Launch) (G : jm_G) {h : jm_H} {a : Nat} {s : MS} {c ls : Nat} {n0 s0 d : Nat} {Post : jm_r → jm_H → Prop} (hK : MdK h a) (hc : c < 64) (hls : s.1 21 = nI ls) (kk : Post (.inl none) (mdH h a (mi (mal s 16 (0) (s.2.2.2.1 3 c)) 21 (nI (ls + 1))))) : jm_X l G mm_Md_workOut n0 s0 (jm_zn G d n0 s0) Post 167 [(4, .int (nI 0)), (0, .ref (a)), (1, .int (nI (c)))] [] (mdH h a s) := by
  refine jx_iload d_Md_workOut_167 0 rfl ?_
  refine jx_if_le (tgt := 213) d_Md_workOut_169 (by decide) (fun c1 => ?_) (fun c1 => absurd c1 (by decide))
  refine jx_aload_n d_Md_workOut_213 1 rfl ?_
  refine jx_get d_Md_workOut_214 fF_Md_57 (md_tg hK) (md_rr hK (k := 20) (j := 16) rfl rfl rfl) ?_
  refine jx_iload d_Md_workOut_217 0 rfl ?_
  refine jx_aload_n d_Md_workOut_219 1 rfl ?_
  refine jx_get d_Md_workOut_220 fF_Md_17 (md_tg hK) (md_rr hK (k := 6) (j := 3) rfl rfl rfl) ?_
  refine jx_iload_n d_Md_workOut_223 2 rfl ?_
  refine jx_lald d_Md_workOut_224 (md_ta hK (j := 3) rfl) rfl (jm_vinN (show c < 64 by omega) (by decide)) (jm_atN (show c < 2 ^ 31 by omega) (show (mdH h a s).2.2.2 (a + 3) c = Value.long (s.2.2.2.1 3 c) from md_ral (j := 3) (show c < 64 by omega))) ?_
  refine jx_last d_Md_workOut_225 (md_ta hK (j := 16) rfl) rfl (jm_vinN (show 0 < 64 by omega) (by decide)) ?_
  refine jx_ath ((jm_putN (show 0 < 2 ^ 31 by omega)).trans (md_wal (j := 16) (show 0 < 64 by omega))) ?_
  refine jx_aload_n d_Md_workOut_226 1 rfl ?_
  refine jx_dup d_Md_workOut_227 rfl ?_
  refine jx_get d_Md_workOut_228 fF_Md_257 (md_tg hK) ((show (mdH h a (mal s 16 0 (s.2.2.2.1 3 c))).2.2.2 a 21 = Value.int (s.1 21) from md_ri rfl).trans (congrArg Value.int hls)) ?_
  refine jx_iconst (v0 := 1) d_Md_workOut_231 (by decide) ?_
  refine jx_iadd d_Md_workOut_232 ?_
  refine jx_ati (nI_add (ls) (1)) ?_
  refine jx_put (v0 := .int (nI ((ls) + (1)))) d_Md_workOut_233 fF_Md_257 jv_Md ft_Md_builtCount (md_tg hK) rfl rfl ?_
  refine jx_ath (md_wi (k := 21) rfl) ?_
  exact jx_vret d_Md_workOut_236 rfl (kk)
set_option maxHeartbeats 4000000 in
set_option maxRecDepth 100000 in
theorem wf_Md_workOut1 (l : Launch) (G : jm_G) {h : jm_H} {a : Nat} {s : MS} {c k ls : Nat} {n0 s0 d : Nat} {Post : jm_r → jm_H → Prop} (hK : MdK h a) (hc : c < 64) (hls : s.1 21 = nI ls) (hk : k < 63) (hle : s.2.2.2.1 16 k ≤ s.2.2.2.1 3 c) (kk : Post (.inl none) (mdH h a (mi (mal s 16 (k + 1) (s.2.2.2.1 3 c)) 21 (nI (ls + 1))))) : jm_X l G mm_Md_workOut n0 s0 (jm_zn G d n0 s0) Post 167 [(4, .int (nI (k + 1))), (0, .ref (a)), (1, .int (nI (c)))] [] (mdH h a s) := by
  refine jx_iload d_Md_workOut_167 0 rfl ?_
  refine jx_if_leN (tgt := 213) (k + 1) d_Md_workOut_169 rfl (by omega) (by decide) (fun c1 => ?_) (fun c1 => ?_)
  · omega
  ·
    refine jx_aload_n d_Md_workOut_172 1 rfl ?_
    refine jx_get d_Md_workOut_173 fF_Md_57 (md_tg hK) (md_rr hK (k := 20) (j := 16) rfl rfl rfl) ?_
    refine jx_iload d_Md_workOut_176 0 rfl ?_
    refine jx_iconst (v0 := 1) d_Md_workOut_178 (by decide) ?_
    refine jx_isub d_Md_workOut_179 ?_
    refine jx_ati (pk_sub (a := k + 1) (b := 1) (by omega)) ?_
    refine jx_lald d_Md_workOut_180 (md_ta hK (j := 16) rfl) rfl (jm_vinN (show (k + 1) - (1) < 64 by omega) (by decide)) (jm_atN (show (k + 1) - (1) < 2 ^ 31 by omega) (show (mdH h a s).2.2.2 (a + 16) ((k + 1) - (1)) = Value.long (s.2.2.2.1 16 ((k + 1) - (1))) from md_ral (j := 16) (show (k + 1) - (1) < 64 by omega))) ?_
    refine jx_aload_n d_Md_workOut_181 1 rfl ?_
    refine jx_get d_Md_workOut_182 fF_Md_17 (md_tg hK) (md_rr hK (k := 6) (j := 3) rfl rfl rfl) ?_
    refine jx_iload_n d_Md_workOut_185 2 rfl ?_
    refine jx_lald d_Md_workOut_186 (md_ta hK (j := 3) rfl) rfl (jm_vinN (show c < 64 by omega) (by decide)) (jm_atN (show c < 2 ^ 31 by omega) (show (mdH h a s).2.2.2 (a + 3) c = Value.long (s.2.2.2.1 3 c) from md_ral (j := 3) (show c < 64 by omega))) ?_
    refine jx_lcmp d_Md_workOut_187 ?_
    refine jx_if_leL (tgt := 213) d_Md_workOut_188 (by decide) (fun c2 => ?_) (fun c2 => ?_)
    ·
      refine jx_aload_n d_Md_workOut_213 1 rfl ?_
      refine jx_get d_Md_workOut_214 fF_Md_57 (md_tg hK) (md_rr hK (k := 20) (j := 16) rfl rfl rfl) ?_
      refine jx_iload d_Md_workOut_217 0 rfl ?_
      refine jx_aload_n d_Md_workOut_219 1 rfl ?_
      refine jx_get d_Md_workOut_220 fF_Md_17 (md_tg hK) (md_rr hK (k := 6) (j := 3) rfl rfl rfl) ?_
      refine jx_iload_n d_Md_workOut_223 2 rfl ?_
      refine jx_lald d_Md_workOut_224 (md_ta hK (j := 3) rfl) rfl (jm_vinN (show c < 64 by omega) (by decide)) (jm_atN (show c < 2 ^ 31 by omega) (show (mdH h a s).2.2.2 (a + 3) c = Value.long (s.2.2.2.1 3 c) from md_ral (j := 3) (show c < 64 by omega))) ?_
      refine jx_last d_Md_workOut_225 (md_ta hK (j := 16) rfl) rfl (jm_vinN (show k + 1 < 64 by omega) (by decide)) ?_
      refine jx_ath ((jm_putN (show k + 1 < 2 ^ 31 by omega)).trans (md_wal (j := 16) (show k + 1 < 64 by omega))) ?_
      refine jx_aload_n d_Md_workOut_226 1 rfl ?_
      refine jx_dup d_Md_workOut_227 rfl ?_
      refine jx_get d_Md_workOut_228 fF_Md_257 (md_tg hK) ((show (mdH h a (mal s 16 (k + 1) (s.2.2.2.1 3 c))).2.2.2 a 21 = Value.int (s.1 21) from md_ri rfl).trans (congrArg Value.int hls)) ?_
      refine jx_iconst (v0 := 1) d_Md_workOut_231 (by decide) ?_
      refine jx_iadd d_Md_workOut_232 ?_
      refine jx_ati (nI_add (ls) (1)) ?_
      refine jx_put (v0 := .int (nI ((ls) + (1)))) d_Md_workOut_233 fF_Md_257 jv_Md ft_Md_builtCount (md_tg hK) rfl rfl ?_
      refine jx_ath (md_wi (k := 21) rfl) ?_
      exact jx_vret d_Md_workOut_236 rfl (kk)
    · exact absurd c2 (Int64.not_lt.mpr hle)
set_option maxHeartbeats 4000000 in
set_option maxRecDepth 100000 in
theorem wm_Md_workOut (l : Launch) (G : jm_G) {h : jm_H} {a : Nat} {s : MS} {c ls : Nat} {n0 s0 d : Nat} {Post : jm_r → jm_H → Prop} (hK : MdK h a) (hls : s.1 21 = nI ls) (kk : jm_X l G mm_Md_workOut n0 s0 (jm_zn G d n0 s0) Post 167 [(4, .int (nI (ls))), (0, .ref (a)), (1, .int (nI (c)))] [] (mdH h a (mi s 19 (s.1 19 + 1)))) : jm_X l G mm_Md_workOut n0 s0 (jm_zn G d n0 s0) Post 151 [(0, .ref a), (1, .int (nI c))] [] (mdH h a s) := by
  refine jx_aload_n d_Md_workOut_151 0 rfl ?_
  refine jx_dup d_Md_workOut_152 rfl ?_
  refine jx_get d_Md_workOut_153 fF_Md_254 (md_tg hK) (show (mdH h a s).2.2.2 a 19 = Value.int (s.1 19) from md_ri rfl) ?_
  refine jx_iconst (v0 := 1) d_Md_workOut_156 (by decide) ?_
  refine jx_iadd d_Md_workOut_157 ?_
  refine jx_put (v0 := .int ((s.1 19 + 1))) d_Md_workOut_158 fF_Md_254 jv_Md ft_Md_workedInAll (md_tg hK) rfl rfl ?_
  refine jx_ath (md_wi (k := 19) rfl) ?_
  refine jx_aload_n d_Md_workOut_161 0 rfl ?_
  refine jx_get d_Md_workOut_162 fF_Md_257 (md_tg hK) ((show (mdH h a (mi s 19 (s.1 19 + 1))).2.2.2 a 21 = Value.int (s.1 21) from md_ri rfl).trans (congrArg Value.int hls)) ?_
  refine jx_istore (lv' := [(4, .int (nI ls)), (0, .ref (a)), (1, .int (nI (c)))]) d_Md_workOut_165 (by decide) rfl ?_
  exact kk
