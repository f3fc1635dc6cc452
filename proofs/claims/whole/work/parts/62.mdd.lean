theorem jb_nar (b : Bool) : narrow .boolean (.int (jb b)) = .int (jb b) := by cases b <;> rfl
theorem anyN_s (f : Nat → Bool) (i : Nat) : anyN f (i + 1) = (anyN f i || f i) := rfl
theorem bt_shr0 {s : Int64} {p : Nat} (hp : p < 64) : (s >>> (Int32.toInt64 (nI p) &&& 63)) &&& 1 = 0 ↔ bt s p = false := by
  constructor
  · intro h
    cases e : bt s p with
    | false => rfl
    | true =>
      have := (bt_shr1 hp).mpr e
      rw [h] at this
      exact absurd this (by decide)
  · intro h
    apply bt_ext
    intro q hq
    rw [bt_zero, bt_and]
    have h1 : bt 1 q = decide (q = 0) := by
      show (1#64).getLsbD q = _
      rw [BitVec.getLsbD_one]
      simp
    rw [h1]
    by_cases e : q = 0
    · subst e
      have : bt (s >>> (Int32.toInt64 (nI p) &&& 63)) 0 = bt s p := by
        unfold bt
        rw [bt_shr _ p hp, BitVec.getLsbD_sshiftRight]
        simp [hp]
      rw [this, h]
      rfl
    · simp [e]
theorem msf_t1 {s : MS} {c k : Nat} (h1 : s.2.2.1 9 (40 * c + k) = 1) (h2 : ¬ s.2.2.1 14 (40 * c + k) = (m_res s (s.2.2.2.1 13 (40 * c + k))).1) : msf s c k = true := by
  simp only [msf, Bool.and_eq_true, decide_eq_true_iff]
  exact ⟨h1, fun e => h2 (congrArg Prod.fst e)⟩
theorem msf_t2 {s : MS} {c k : Nat} (h1 : s.2.2.1 9 (40 * c + k) = 1) (h2 : ¬ s.2.2.2.1 15 (40 * c + k) = (m_res s (s.2.2.2.1 13 (40 * c + k))).2) : msf s c k = true := by
  simp only [msf, Bool.and_eq_true, decide_eq_true_iff]
  exact ⟨h1, fun e => h2 (congrArg Prod.snd e)⟩
theorem msf_f1 {s : MS} {c k : Nat} (h1 : ¬ s.2.2.1 9 (40 * c + k) = 1) : msf s c k = false := by
  unfold msf
  rw [decide_eq_false h1]
  rfl
theorem msf_f2 {s : MS} {c k : Nat} (h1 : s.2.2.1 14 (40 * c + k) = (m_res s (s.2.2.2.1 13 (40 * c + k))).1) (h2 : s.2.2.2.1 15 (40 * c + k) = (m_res s (s.2.2.2.1 13 (40 * c + k))).2) : msf s c k = false := by
  cases e : msf s c k with
  | false => rfl
  | true =>
    simp only [msf, Bool.and_eq_true, decide_eq_true_iff] at e
    exact absurd (Prod.ext h1 h2) e.2
theorem bt_shr0n {s : Int64} {p : Nat} (hp : p < 64) (h : ¬ (s >>> (Int32.toInt64 (nI p) &&& 63)) &&& 1 = 0) : bt s p = true := by
  cases e : bt s p with
  | true => rfl
  | false => exact absurd ((bt_shr0 hp).mpr e) h
set_option maxHeartbeats 4000000 in
set_option maxRecDepth 100000 in
theorem lp_Md_isStale (l : Launch) (G : jm_G) {h : jm_H} {a : Nat} {s : MS} {N : Nat → Nat} {c : Nat} {n0 s0 d : Nat} {Post : jm_r → jm_H → Prop} (hd : 2 ≤ d) (hK : MdK h a) (hN : NcOK s N) (hc : c < 64) (k1 : Post (.inl (some (.int (jb (m_stale s N c))))) (mdH h a s)) (t : Nat) : ∀ (i : Nat) (v : Int32), 40 - i < t → i ≤ N c → v = jb (!s.2.2.2.2 6 c || anyN (msf s c) i) → jm_X l G mm_Md_isStale n0 s0 (jm_zn G d n0 s0) Post 20 [(3, .int (nI (40 * c + i))), (2, .int (v)), (0, .ref (a)), (1, .int (nI (c)))] [] (mdH h a s) := by
  have hNc := (hN c hc).2
  induction t with
  | zero => intro i v hm; omega
  | succ t ih =>
    intro i v hm hi hv
    subst hv
    refine jx_iload_n d_Md_isStale_20 0 rfl ?_
    refine jx_bipush (v0 := 40) d_Md_isStale_21 (by decide) ?_
    refine jx_iload_n d_Md_isStale_23 3 rfl ?_
    refine jx_imul d_Md_isStale_24 ?_
    refine jx_ati (pk_mul (40) (c)) ?_
    refine jx_aload_n d_Md_isStale_25 2 rfl ?_
    refine jx_get d_Md_isStale_26 fF_Md_33 (md_tg hK) (md_rr hK (k := 11) (j := 8) rfl rfl rfl) ?_
    refine jx_iload_n d_Md_isStale_29 3 rfl ?_
    refine jx_iald d_Md_isStale_30 (md_ta hK (j := 8) rfl) rfl (jm_vinN (show c < 64 by omega) (by decide)) (jm_atN (show c < 2 ^ 31 by omega) ((show (mdH h a s).2.2.2 (a + 8) c = Value.int (s.2.2.1 8 c) from md_rai (j := 8) (show c < 64 by omega)).trans (congrArg Value.int (hN c hc).1))) ?_
    refine jx_iadd d_Md_isStale_31 ?_
    refine jx_ati (nI_add ((40) * (c)) (N c)) ?_
    refine jx_icmp_geN (tgt := 100) (40 * c + i) (((40) * (c)) + (N c)) d_Md_isStale_32 rfl rfl (by omega) (by omega) (by decide) (fun c1 => ?_) (fun c1 => ?_)
    ·
      refine jx_iload_n d_Md_isStale_100 1 rfl ?_
      exact jx_zret d_Md_isStale_101 rfl (by first | rfl | decide | exact jb_nar _) ((by rw [show i = N c by omega]; exact k1))
    ·
      refine jx_iload_n d_Md_isStale_35 1 rfl ?_
      refine jx_if_ne (tgt := 88) d_Md_isStale_36 (by decide) (fun c2 => ?_) (fun c2 => ?_)
      ·
        refine jx_iconst (v0 := 1) d_Md_isStale_88 (by decide) ?_
        refine jx_goto (tgt := 93) d_Md_isStale_89 (by decide) ?_
        refine jx_istore_n (lv' := [(2, .int (1)), (3, .int (nI (40 * c + i))), (0, .ref (a)), (1, .int (nI (c)))]) d_Md_isStale_93 (by decide) rfl ?_
        refine jx_iinc (v0 := nI (40 * c + i + 1)) (lv' := [(3, .int (nI (40 * c + i + 1))), (2, .int (1)), (0, .ref (a)), (1, .int (nI (c)))]) d_Md_isStale_94 1 rfl (nI_add _ 1) (by decide) rfl ?_
        refine jx_goto (tgt := 20) d_Md_isStale_97 (by decide) ?_
        exact ih (i + 1) _ (by omega) (by omega) (jb_t (by rw [anyN_s, ← Bool.or_assoc, jb1 c2]; rfl))
      ·
        refine jx_aload_n d_Md_isStale_39 2 rfl ?_
        refine jx_get d_Md_isStale_40 fF_Md_36 (md_tg hK) (md_rr hK (k := 12) (j := 9) rfl rfl rfl) ?_
        refine jx_iload_n d_Md_isStale_43 0 rfl ?_
        refine jx_iald d_Md_isStale_44 (md_ta hK (j := 9) rfl) rfl (jm_vinN (show 40 * c + i < 2560 by omega) (by decide)) (jm_atN (show 40 * c + i < 2 ^ 31 by omega) (show (mdH h a s).2.2.2 (a + 9) (40 * c + i) = Value.int (s.2.2.1 9 (40 * c + i)) from md_rai (j := 9) (show 40 * c + i < 2560 by omega))) ?_
        refine jx_iconst (v0 := 1) d_Md_isStale_45 (by decide) ?_
        refine jx_icmp_ne (tgt := 92) d_Md_isStale_46 (by decide) (fun c3 => ?_) (fun c3 => ?_)
        ·
          refine jx_iconst (v0 := 0) d_Md_isStale_92 (by decide) ?_
          refine jx_istore_n (lv' := [(2, .int (0)), (3, .int (nI (40 * c + i))), (0, .ref (a)), (1, .int (nI (c)))]) d_Md_isStale_93 (by decide) rfl ?_
          refine jx_iinc (v0 := nI (40 * c + i + 1)) (lv' := [(3, .int (nI (40 * c + i + 1))), (2, .int (0)), (0, .ref (a)), (1, .int (nI (c)))]) d_Md_isStale_94 1 rfl (nI_add _ 1) (by decide) rfl ?_
          refine jx_goto (tgt := 20) d_Md_isStale_97 (by decide) ?_
          exact ih (i + 1) _ (by omega) (by omega) (jb_f (by rw [anyN_s, ← Bool.or_assoc, jb0 c2, msf_f1 c3]; rfl))
        ·
          refine jx_aload_n d_Md_isStale_49 2 rfl ?_
          refine jx_get d_Md_isStale_50 fF_Md_51 (md_tg hK) (md_rr hK (k := 17) (j := 14) rfl rfl rfl) ?_
          refine jx_iload_n d_Md_isStale_53 0 rfl ?_
          refine jx_iald d_Md_isStale_54 (md_ta hK (j := 14) rfl) rfl (jm_vinN (show 40 * c + i < 2560 by omega) (by decide)) (jm_atN (show 40 * c + i < 2 ^ 31 by omega) (show (mdH h a s).2.2.2 (a + 14) (40 * c + i) = Value.int (s.2.2.1 14 (40 * c + i)) from md_rai (j := 14) (show 40 * c + i < 2560 by omega))) ?_
          refine jx_aload_n d_Md_isStale_55 2 rfl ?_
          refine jx_aload_n d_Md_isStale_56 2 rfl ?_
          refine jx_get d_Md_isStale_57 fF_Md_48 (md_tg hK) (md_rr hK (k := 16) (j := 13) rfl rfl rfl) ?_
          refine jx_iload_n d_Md_isStale_60 0 rfl ?_
          refine jx_lald d_Md_isStale_61 (md_ta hK (j := 13) rfl) rfl (jm_vinN (show 40 * c + i < 2560 by omega) (by decide)) (jm_atN (show 40 * c + i < 2 ^ 31 by omega) (show (mdH h a s).2.2.2 (a + 13) (40 * c + i) = Value.long (s.2.2.2.1 13 (40 * c + i)) from md_ral (j := 13) (show 40 * c + i < 2560 by omega))) ?_
          refine jx_callV (M2 := mm_Md_resultOf) rfl (md_tg hK) lk_Md_244 wi_Md_resultOf ws_Md_resultOf d_Md_isStale_62 (c_Md_resultOf l G (d - 1) (by omega) (s := s) (u := s.2.2.2.1 13 (40 * c + i)) hK) cd_Md_resultOf rfl rfl (Nat.le_of_ble_eq_true rfl) (jm_fok (by omega)) (jm_look (by decide) (by omega)) ?_
          refine jx_icmp_ne (tgt := 88) d_Md_isStale_65 (by decide) (fun c4 => ?_) (fun c4 => ?_)
          ·
            refine jx_iconst (v0 := 1) d_Md_isStale_88 (by decide) ?_
            refine jx_goto (tgt := 93) d_Md_isStale_89 (by decide) ?_
            refine jx_istore_n (lv' := [(2, .int (1)), (3, .int (nI (40 * c + i))), (0, .ref (a)), (1, .int (nI (c)))]) d_Md_isStale_93 (by decide) rfl ?_
            refine jx_iinc (v0 := nI (40 * c + i + 1)) (lv' := [(3, .int (nI (40 * c + i + 1))), (2, .int (1)), (0, .ref (a)), (1, .int (nI (c)))]) d_Md_isStale_94 1 rfl (nI_add _ 1) (by decide) rfl ?_
            refine jx_goto (tgt := 20) d_Md_isStale_97 (by decide) ?_
            exact ih (i + 1) _ (by omega) (by omega) (jb_t (by rw [anyN_s, ← Bool.or_assoc, jb0 c2, msf_t1 c3 c4]; rfl))
          ·
            refine jx_aload_n d_Md_isStale_68 2 rfl ?_
            refine jx_get d_Md_isStale_69 fF_Md_54 (md_tg hK) (md_rr hK (k := 18) (j := 15) rfl rfl rfl) ?_
            refine jx_iload_n d_Md_isStale_72 0 rfl ?_
            refine jx_lald d_Md_isStale_73 (md_ta hK (j := 15) rfl) rfl (jm_vinN (show 40 * c + i < 2560 by omega) (by decide)) (jm_atN (show 40 * c + i < 2 ^ 31 by omega) (show (mdH h a s).2.2.2 (a + 15) (40 * c + i) = Value.long (s.2.2.2.1 15 (40 * c + i)) from md_ral (j := 15) (show 40 * c + i < 2560 by omega))) ?_
            refine jx_aload_n d_Md_isStale_74 2 rfl ?_
            refine jx_aload_n d_Md_isStale_75 2 rfl ?_
            refine jx_get d_Md_isStale_76 fF_Md_48 (md_tg hK) (md_rr hK (k := 16) (j := 13) rfl rfl rfl) ?_
            refine jx_iload_n d_Md_isStale_79 0 rfl ?_
            refine jx_lald d_Md_isStale_80 (md_ta hK (j := 13) rfl) rfl (jm_vinN (show 40 * c + i < 2560 by omega) (by decide)) (jm_atN (show 40 * c + i < 2 ^ 31 by omega) (show (mdH h a s).2.2.2 (a + 13) (40 * c + i) = Value.long (s.2.2.2.1 13 (40 * c + i)) from md_ral (j := 13) (show 40 * c + i < 2560 by omega))) ?_
            refine jx_callV (M2 := mm_Md_valueOf) rfl (md_tg hK) lk_Md_247 wi_Md_valueOf ws_Md_valueOf d_Md_isStale_81 (c_Md_valueOf l G (d - 1) (by omega) (s := s) (u := s.2.2.2.1 13 (40 * c + i)) hK) cd_Md_valueOf rfl rfl (Nat.le_of_ble_eq_true rfl) (jm_fok (by omega)) (jm_look (by decide) (by omega)) ?_
            refine jx_lcmp d_Md_isStale_84 ?_
            refine jx_if_eqL (tgt := 92) d_Md_isStale_85 (by decide) (fun c5 => ?_) (fun c5 => ?_)
            ·
              refine jx_iconst (v0 := 0) d_Md_isStale_92 (by decide) ?_
              refine jx_istore_n (lv' := [(2, .int (0)), (3, .int (nI (40 * c + i))), (0, .ref (a)), (1, .int (nI (c)))]) d_Md_isStale_93 (by decide) rfl ?_
              refine jx_iinc (v0 := nI (40 * c + i + 1)) (lv' := [(3, .int (nI (40 * c + i + 1))), (2, .int (0)), (0, .ref (a)), (1, .int (nI (c)))]) d_Md_isStale_94 1 rfl (nI_add _ 1) (by decide) rfl ?_
              refine jx_goto (tgt := 20) d_Md_isStale_97 (by decide) ?_
              exact ih (i + 1) _ (by omega) (by omega) (jb_f (by rw [anyN_s, ← Bool.or_assoc, jb0 c2, msf_f2 c4 c5]; rfl))
            ·
              refine jx_iconst (v0 := 1) d_Md_isStale_88 (by decide) ?_
              refine jx_goto (tgt := 93) d_Md_isStale_89 (by decide) ?_
              refine jx_istore_n (lv' := [(2, .int (1)), (3, .int (nI (40 * c + i))), (0, .ref (a)), (1, .int (nI (c)))]) d_Md_isStale_93 (by decide) rfl ?_
              refine jx_iinc (v0 := nI (40 * c + i + 1)) (lv' := [(3, .int (nI (40 * c + i + 1))), (2, .int (1)), (0, .ref (a)), (1, .int (nI (c)))]) d_Md_isStale_94 1 rfl (nI_add _ 1) (by decide) rfl ?_
              refine jx_goto (tgt := 20) d_Md_isStale_97 (by decide) ?_
              exact ih (i + 1) _ (by omega) (by omega) (jb_t (by rw [anyN_s, ← Bool.or_assoc, jb0 c2, msf_t2 c3 c5]; rfl))
set_option maxHeartbeats 4000000 in
set_option maxRecDepth 100000 in
theorem c_Md_isStale (l : Launch) (G : jm_G) (d : Nat) (hd : 2 ≤ d) {h : jm_H} {a : Nat} {s : MS} {N : Nat → Nat} {c : Nat} (hK : MdK h a) (hN : NcOK s N) (hc : c < 64) : jm_C l G mm_Md_isStale d [.ref a, .int (nI c)] (mdH h a s) (some (.int (jb (m_stale s N c)))) (mdH h a s) := by
  refine jm_ofE (by decide) rfl (Nat.le_of_ble_eq_true rfl) ?_
  refine jx_aload_n d_Md_isStale_0 0 rfl ?_
  refine jx_get d_Md_isStale_1 fF_Md_27 (md_tg hK) (md_rr hK (k := 9) (j := 6) rfl rfl rfl) ?_
  refine jx_iload_n d_Md_isStale_4 1 rfl ?_
  refine jx_zald d_Md_isStale_5 (md_ta hK (j := 6) rfl) rfl (jm_vinN (show c < 64 by omega) (by decide)) (jm_atN (show c < 2 ^ 31 by omega) (show (mdH h a s).2.2.2 (a + 6) c = Value.int (jb (s.2.2.2.2 6 c)) from md_raz (j := 6) (show c < 64 by omega))) ?_
  refine jx_if_ne (tgt := 13) d_Md_isStale_6 (by decide) (fun c1 => ?_) (fun c1 => ?_)
  ·
    refine jx_iconst (v0 := 0) d_Md_isStale_13 (by decide) ?_
    refine jx_istore_n (lv' := [(2, .int (0)), (0, .ref (a)), (1, .int (nI (c)))]) d_Md_isStale_14 (by decide) rfl ?_
    refine jx_bipush (v0 := 40) d_Md_isStale_15 (by decide) ?_
    refine jx_iload_n d_Md_isStale_17 2 rfl ?_
    refine jx_imul d_Md_isStale_18 ?_
    refine jx_ati (pk_mul (40) (c)) ?_
    refine jx_istore_n (lv' := [(3, .int (nI ((40) * (c)))), (2, .int (0)), (0, .ref (a)), (1, .int (nI (c)))]) d_Md_isStale_19 (by decide) rfl ?_
    exact lp_Md_isStale l G hd hK hN hc ⟨rfl, rfl⟩ 41 0 _ (by omega) (by omega) (jb_f (by rw [show s.2.2.2.2 6 c = true from jb1 c1]; rfl))
  ·
    refine jx_iconst (v0 := 1) d_Md_isStale_9 (by decide) ?_
    refine jx_goto (tgt := 14) d_Md_isStale_10 (by decide) ?_
    refine jx_istore_n (lv' := [(2, .int (1)), (0, .ref (a)), (1, .int (nI (c)))]) d_Md_isStale_14 (by decide) rfl ?_
    refine jx_bipush (v0 := 40) d_Md_isStale_15 (by decide) ?_
    refine jx_iload_n d_Md_isStale_17 2 rfl ?_
    refine jx_imul d_Md_isStale_18 ?_
    refine jx_ati (pk_mul (40) (c)) ?_
    refine jx_istore_n (lv' := [(3, .int (nI ((40) * (c)))), (2, .int (1)), (0, .ref (a)), (1, .int (nI (c)))]) d_Md_isStale_19 (by decide) rfl ?_
    exact lp_Md_isStale l G hd hK hN hc ⟨rfl, rfl⟩ 41 0 _ (by omega) (by omega) (jb_t (by rw [show s.2.2.2.2 6 c = false from jb0 c1]; rfl))
def mof (s : MS) (N : Nat → Nat) (c : Nat) (u : Int64) (j : Nat) : Bool := bt u j && m_rd s N c (nM s j)
set_option maxHeartbeats 4000000 in
set_option maxRecDepth 100000 in
theorem lp_Md_isReady (l : Launch) (G : jm_G) {h : jm_H} {a : Nat} {s : MS} {N : Nat → Nat} {c : Nat} {u : Int64} {n0 s0 d : Nat} {Post : jm_r → jm_H → Prop} (hd : 1 ≤ d) (hK : MdK h a) (hN : NcOK s N) (hc : c < 64) (k1 : Post (.inl (some (.int (jb (!anyN (mof s N c u) 64))))) (mdH h a s)) (t : Nat) : ∀ (i : Nat) (v : Int32), 64 - i < t → i ≤ 64 → v = jb (!anyN (mof s N c u) i) → jm_X l G mm_Md_isReady n0 s0 (jm_zn G d n0 s0) Post 6 [(5, .int (nI (i))), (4, .int (v)), (0, .ref (a)), (1, .int (nI (c))), (2, .long (u))] [] (mdH h a s) := by
  induction t with
  | zero => intro i v hm; omega
  | succ t ih =>
    intro i v hm hi hv
    subst hv
    refine jx_iload d_Md_isReady_6 0 rfl ?_
    refine jx_bipush (v0 := 64) d_Md_isReady_8 (by decide) ?_
    refine jx_icmp_geN (tgt := 57) (i) (64) d_Md_isReady_10 rfl rfl (by omega) (by omega) (by decide) (fun c1 => ?_) (fun c1 => ?_)
    ·
      refine jx_iload d_Md_isReady_57 1 rfl ?_
      exact jx_zret d_Md_isReady_59 rfl (by first | rfl | decide | exact jb_nar _) ((by rw [show i = 64 by omega]; exact k1))
    ·
      refine jx_iload d_Md_isReady_13 1 rfl ?_
      refine jx_if_eq (tgt := 48) d_Md_isReady_15 (by decide) (fun c2 => ?_) (fun c2 => ?_)
      ·
        refine jx_iconst (v0 := 0) d_Md_isReady_48 (by decide) ?_
        refine jx_istore (lv' := [(4, .int (0)), (5, .int (nI (i))), (0, .ref (a)), (1, .int (nI (c))), (2, .long (u))]) d_Md_isReady_49 (by decide) rfl ?_
        refine jx_iinc (v0 := nI (i + 1)) (lv' := [(5, .int (nI (i + 1))), (4, .int (0)), (0, .ref (a)), (1, .int (nI (c))), (2, .long (u))]) d_Md_isReady_51 1 rfl (nI_add _ 1) (by decide) rfl ?_
        refine jx_goto (tgt := 6) d_Md_isReady_54 (by decide) ?_
        exact ih (i + 1) _ (by omega) (by omega) (jb_f (by rw [anyN_s, Bool.not_or, jb0 c2]; rfl))
      ·
        refine jx_lload_n d_Md_isReady_18 4 rfl ?_
        refine jx_iload d_Md_isReady_19 0 rfl ?_
        refine jx_lshr d_Md_isReady_21 ?_
        refine jx_lconst (v0 := 1) d_Md_isReady_22 (by decide) ?_
        refine jx_land d_Md_isReady_23 ?_
        refine jx_lconst (v0 := 0) d_Md_isReady_24 (by decide) ?_
        refine jx_lcmp d_Md_isReady_25 ?_
        refine jx_if_eqL (tgt := 44) d_Md_isReady_26 (by decide) (fun c3 => ?_) (fun c3 => ?_)
        ·
          refine jx_iconst (v0 := 1) d_Md_isReady_44 (by decide) ?_
          refine jx_goto (tgt := 49) d_Md_isReady_45 (by decide) ?_
          refine jx_istore (lv' := [(4, .int (1)), (5, .int (nI (i))), (0, .ref (a)), (1, .int (nI (c))), (2, .long (u))]) d_Md_isReady_49 (by decide) rfl ?_
          refine jx_iinc (v0 := nI (i + 1)) (lv' := [(5, .int (nI (i + 1))), (4, .int (1)), (0, .ref (a)), (1, .int (nI (c))), (2, .long (u))]) d_Md_isReady_51 1 rfl (nI_add _ 1) (by decide) rfl ?_
          refine jx_goto (tgt := 6) d_Md_isReady_54 (by decide) ?_
          exact ih (i + 1) _ (by omega) (by omega) (jb_t (by rw [anyN_s, Bool.not_or, jb1 c2]; unfold mof; rw [(bt_shr0 (by omega)).mp c3]; rfl))
        ·
          refine jx_aload_n d_Md_isReady_29 2 rfl ?_
          refine jx_iload_n d_Md_isReady_30 3 rfl ?_
          refine jx_aload_n d_Md_isReady_31 2 rfl ?_
          refine jx_get d_Md_isReady_32 fF_Md_17 (md_tg hK) (md_rr hK (k := 6) (j := 3) rfl rfl rfl) ?_
          refine jx_iload d_Md_isReady_35 0 rfl ?_
          refine jx_lald d_Md_isReady_37 (md_ta hK (j := 3) rfl) rfl (jm_vinN (show i < 64 by omega) (by decide)) (jm_atN (show i < 2 ^ 31 by omega) (show (mdH h a s).2.2.2 (a + 3) i = Value.long (s.2.2.2.1 3 i) from md_ral (j := 3) (show i < 64 by omega))) ?_
          refine jx_callV (M2 := mm_Md_reads) rfl (md_tg hK) lk_Md_207 wi_Md_reads ws_Md_reads d_Md_isReady_38 (c_Md_reads l G (d - 1) (s := s) (N := N) (c := c) (u := s.2.2.2.1 3 i) hK hN (by omega)) cd_Md_reads rfl rfl (Nat.le_of_ble_eq_true rfl) (jm_fok (by omega)) (jm_look (by decide) (by omega)) ?_
          refine jx_if_ne (tgt := 48) d_Md_isReady_41 (by decide) (fun c4 => ?_) (fun c4 => ?_)
          ·
            refine jx_iconst (v0 := 0) d_Md_isReady_48 (by decide) ?_
            refine jx_istore (lv' := [(4, .int (0)), (5, .int (nI (i))), (0, .ref (a)), (1, .int (nI (c))), (2, .long (u))]) d_Md_isReady_49 (by decide) rfl ?_
            refine jx_iinc (v0 := nI (i + 1)) (lv' := [(5, .int (nI (i + 1))), (4, .int (0)), (0, .ref (a)), (1, .int (nI (c))), (2, .long (u))]) d_Md_isReady_51 1 rfl (nI_add _ 1) (by decide) rfl ?_
            refine jx_goto (tgt := 6) d_Md_isReady_54 (by decide) ?_
            exact ih (i + 1) _ (by omega) (by omega) (jb_f (by rw [anyN_s, Bool.not_or, jb1 c2]; unfold mof nM; rw [bt_shr0n (by omega) c3, jb1 c4]; rfl))
          ·
            refine jx_iconst (v0 := 1) d_Md_isReady_44 (by decide) ?_
            refine jx_goto (tgt := 49) d_Md_isReady_45 (by decide) ?_
            refine jx_istore (lv' := [(4, .int (1)), (5, .int (nI (i))), (0, .ref (a)), (1, .int (nI (c))), (2, .long (u))]) d_Md_isReady_49 (by decide) rfl ?_
            refine jx_iinc (v0 := nI (i + 1)) (lv' := [(5, .int (nI (i + 1))), (4, .int (1)), (0, .ref (a)), (1, .int (nI (c))), (2, .long (u))]) d_Md_isReady_51 1 rfl (nI_add _ 1) (by decide) rfl ?_
            refine jx_goto (tgt := 6) d_Md_isReady_54 (by decide) ?_
            exact ih (i + 1) _ (by omega) (by omega) (jb_t (by rw [anyN_s, Bool.not_or, jb1 c2]; unfold mof nM; rw [jb0 c4, Bool.and_false]; rfl))
set_option maxHeartbeats 4000000 in
set_option maxRecDepth 100000 in
theorem c_Md_isReady (l : Launch) (G : jm_G) (d : Nat) (hd : 1 ≤ d) {h : jm_H} {a : Nat} {s : MS} {N : Nat → Nat} {c : Nat} {u : Int64} (hK : MdK h a) (hN : NcOK s N) (hc : c < 64) : jm_C l G mm_Md_isReady d [.ref a, .int (nI c), .long u] (mdH h a s) (some (.int (jb (!anyN (mof s N c u) 64)))) (mdH h a s) := by
  refine jm_ofE (by decide) rfl (Nat.le_of_ble_eq_true rfl) ?_
  refine jx_iconst (v0 := 1) d_Md_isReady_0 (by decide) ?_
  refine jx_istore (lv' := [(4, .int (1)), (0, .ref (a)), (1, .int (nI (c))), (2, .long (u))]) d_Md_isReady_1 (by decide) rfl ?_
  refine jx_iconst (v0 := 0) d_Md_isReady_3 (by decide) ?_
  refine jx_istore (lv' := [(5, .int (0)), (4, .int (1)), (0, .ref (a)), (1, .int (nI (c))), (2, .long (u))]) d_Md_isReady_4 (by decide) rfl ?_
  exact lp_Md_isReady l G hd hK hN hc ⟨rfl, rfl⟩ 65 0 _ (by omega) (by omega) rfl
def mdf (s : MS) (N : Nat → Nat) (all : Int64) (c j : Nat) : Bool := tM s c && (bt all j && m_rd s N c (nM s j))
def m_does (s : MS) (N : Nat → Nat) (u all : Int64) (c : Nat) : Bool := (tM s c && m_rd s N c u) || anyN (mdf s N all c) 64
set_option maxHeartbeats 4000000 in
set_option maxRecDepth 100000 in
theorem lp_Md_readersOf1 (l : Launch) (G : jm_G) {h : jm_H} {a : Nat} {s : MS} {N : Nat → Nat} {c : Nat} {u all bef : Int64} {n0 s0 d : Nat} {Post : jm_r → jm_H → Prop} (hd : 1 ≤ d) (hK : MdK h a) (hN : NcOK s N) (hc : c < 64) (kk : jm_X l G mm_Md_readersOf n0 s0 (jm_zn G d n0 s0) Post 119 [(8, .int (jb (m_does s N u all c))), (7, .int (nI (c))), (3, .long (all)), (5, .long (bef)), (0, .ref (a)), (1, .long (u))] [] (mdH h a s)) (t : Nat) : ∀ (i : Nat) (v : Int32), 64 - i < t → i ≤ 64 → v = jb ((tM s c && m_rd s N c u) || anyN (mdf s N all c) i) → jm_X l G mm_Md_readersOf n0 s0 (jm_zn G d n0 s0) Post 57 [(9, .int (nI (i))), (8, .int (v)), (7, .int (nI (c))), (3, .long (all)), (5, .long (bef)), (0, .ref (a)), (1, .long (u))] [] (mdH h a s) := by
  induction t with
  | zero => intro i v hm; omega
  | succ t ih =>
    intro i v hm hi hv
    subst hv
    refine jx_iload d_Md_readersOf_57 0 rfl ?_
    refine jx_bipush (v0 := 64) d_Md_readersOf_59 (by decide) ?_
    refine jx_icmp_geN (tgt := 119) (i) (64) d_Md_readersOf_61 rfl rfl (by omega) (by omega) (by decide) (fun c1 => ?_) (fun c1 => ?_)
    ·
      refine jx_lv [1, 2, 3, 4, 5, 6] rfl ?_
      rw [show i = 64 by omega]
      exact kk
    ·
      refine jx_iload d_Md_readersOf_64 1 rfl ?_
      refine jx_if_ne (tgt := 106) d_Md_readersOf_66 (by decide) (fun c2 => ?_) (fun c2 => ?_)
      ·
        refine jx_iconst (v0 := 1) d_Md_readersOf_106 (by decide) ?_
        refine jx_goto (tgt := 111) d_Md_readersOf_107 (by decide) ?_
        refine jx_istore (lv' := [(8, .int (1)), (9, .int (nI (i))), (7, .int (nI (c))), (3, .long (all)), (5, .long (bef)), (0, .ref (a)), (1, .long (u))]) d_Md_readersOf_111 (by decide) rfl ?_
        refine jx_iinc (v0 := nI (i + 1)) (lv' := [(9, .int (nI (i + 1))), (8, .int (1)), (7, .int (nI (c))), (3, .long (all)), (5, .long (bef)), (0, .ref (a)), (1, .long (u))]) d_Md_readersOf_113 1 rfl (nI_add _ 1) (by decide) rfl ?_
        refine jx_goto (tgt := 57) d_Md_readersOf_116 (by decide) ?_
        exact ih (i + 1) _ (by omega) (by omega) (jb_t (by rw [anyN_s, ← Bool.or_assoc, jb1 c2]; rfl))
      ·
        refine jx_aload_n d_Md_readersOf_69 5 rfl ?_
        refine jx_get d_Md_readersOf_70 fF_Md_13 (md_tg hK) (md_rr hK (k := 5) (j := 2) rfl rfl rfl) ?_
        refine jx_iload d_Md_readersOf_73 2 rfl ?_
        refine jx_zald d_Md_readersOf_75 (md_ta hK (j := 2) rfl) rfl (jm_vinN (show c < 64 by omega) (by decide)) (jm_atN (show c < 2 ^ 31 by omega) (show (mdH h a s).2.2.2 (a + 2) c = Value.int (jb (s.2.2.2.2 2 c)) from md_raz (j := 2) (show c < 64 by omega))) ?_
        refine jx_if_eq (tgt := 110) d_Md_readersOf_76 (by decide) (fun c3 => ?_) (fun c3 => ?_)
        ·
          refine jx_iconst (v0 := 0) d_Md_readersOf_110 (by decide) ?_
          refine jx_istore (lv' := [(8, .int (0)), (9, .int (nI (i))), (7, .int (nI (c))), (3, .long (all)), (5, .long (bef)), (0, .ref (a)), (1, .long (u))]) d_Md_readersOf_111 (by decide) rfl ?_
          refine jx_iinc (v0 := nI (i + 1)) (lv' := [(9, .int (nI (i + 1))), (8, .int (0)), (7, .int (nI (c))), (3, .long (all)), (5, .long (bef)), (0, .ref (a)), (1, .long (u))]) d_Md_readersOf_113 1 rfl (nI_add _ 1) (by decide) rfl ?_
          refine jx_goto (tgt := 57) d_Md_readersOf_116 (by decide) ?_
          exact ih (i + 1) _ (by omega) (by omega) (jb_f (by rw [anyN_s, ← Bool.or_assoc, jb0 c2]; unfold mdf; rw [show tM s c = false from jb0 c3]; rfl))
        ·
          refine jx_lload_n d_Md_readersOf_79 3 rfl ?_
          refine jx_iload d_Md_readersOf_80 0 rfl ?_
          refine jx_lshr d_Md_readersOf_82 ?_
          refine jx_lconst (v0 := 1) d_Md_readersOf_83 (by decide) ?_
          refine jx_land d_Md_readersOf_84 ?_
          refine jx_lconst (v0 := 1) d_Md_readersOf_85 (by decide) ?_
          refine jx_lcmp d_Md_readersOf_86 ?_
          refine jx_if_neL (tgt := 110) d_Md_readersOf_87 (by decide) (fun c4 => ?_) (fun c4 => ?_)
          ·
            refine jx_iconst (v0 := 0) d_Md_readersOf_110 (by decide) ?_
            refine jx_istore (lv' := [(8, .int (0)), (9, .int (nI (i))), (7, .int (nI (c))), (3, .long (all)), (5, .long (bef)), (0, .ref (a)), (1, .long (u))]) d_Md_readersOf_111 (by decide) rfl ?_
            refine jx_iinc (v0 := nI (i + 1)) (lv' := [(9, .int (nI (i + 1))), (8, .int (0)), (7, .int (nI (c))), (3, .long (all)), (5, .long (bef)), (0, .ref (a)), (1, .long (u))]) d_Md_readersOf_113 1 rfl (nI_add _ 1) (by decide) rfl ?_
            refine jx_goto (tgt := 57) d_Md_readersOf_116 (by decide) ?_
            exact ih (i + 1) _ (by omega) (by omega) (jb_f (by rw [anyN_s, ← Bool.or_assoc, jb0 c2]; unfold mdf; rw [Bool.eq_false_iff.mpr (fun q => c4 ((bt_shr1 (by omega)).mpr q)), Bool.false_and, Bool.and_false]; rfl))
          ·
            refine jx_aload_n d_Md_readersOf_90 5 rfl ?_
            refine jx_iload d_Md_readersOf_91 2 rfl ?_
            refine jx_aload_n d_Md_readersOf_93 5 rfl ?_
            refine jx_get d_Md_readersOf_94 fF_Md_17 (md_tg hK) (md_rr hK (k := 6) (j := 3) rfl rfl rfl) ?_
            refine jx_iload d_Md_readersOf_97 0 rfl ?_
            refine jx_lald d_Md_readersOf_99 (md_ta hK (j := 3) rfl) rfl (jm_vinN (show i < 64 by omega) (by decide)) (jm_atN (show i < 2 ^ 31 by omega) (show (mdH h a s).2.2.2 (a + 3) i = Value.long (s.2.2.2.1 3 i) from md_ral (j := 3) (show i < 64 by omega))) ?_
            refine jx_callV (M2 := mm_Md_reads) rfl (md_tg hK) lk_Md_207 wi_Md_reads ws_Md_reads d_Md_readersOf_100 (c_Md_reads l G (d - 1) (s := s) (N := N) (c := c) (u := s.2.2.2.1 3 i) hK hN (by omega)) cd_Md_reads rfl rfl (Nat.le_of_ble_eq_true rfl) (jm_fok (by omega)) (jm_look (by decide) (by omega)) ?_
            refine jx_if_eq (tgt := 110) d_Md_readersOf_103 (by decide) (fun c5 => ?_) (fun c5 => ?_)
            ·
              refine jx_iconst (v0 := 0) d_Md_readersOf_110 (by decide) ?_
              refine jx_istore (lv' := [(8, .int (0)), (9, .int (nI (i))), (7, .int (nI (c))), (3, .long (all)), (5, .long (bef)), (0, .ref (a)), (1, .long (u))]) d_Md_readersOf_111 (by decide) rfl ?_
              refine jx_iinc (v0 := nI (i + 1)) (lv' := [(9, .int (nI (i + 1))), (8, .int (0)), (7, .int (nI (c))), (3, .long (all)), (5, .long (bef)), (0, .ref (a)), (1, .long (u))]) d_Md_readersOf_113 1 rfl (nI_add _ 1) (by decide) rfl ?_
              refine jx_goto (tgt := 57) d_Md_readersOf_116 (by decide) ?_
              exact ih (i + 1) _ (by omega) (by omega) (jb_f (by rw [anyN_s, ← Bool.or_assoc, jb0 c2]; unfold mdf nM; rw [jb0 c5, Bool.and_false, Bool.and_false]; rfl))
            ·
              refine jx_iconst (v0 := 1) d_Md_readersOf_106 (by decide) ?_
              refine jx_goto (tgt := 111) d_Md_readersOf_107 (by decide) ?_
              refine jx_istore (lv' := [(8, .int (1)), (9, .int (nI (i))), (7, .int (nI (c))), (3, .long (all)), (5, .long (bef)), (0, .ref (a)), (1, .long (u))]) d_Md_readersOf_111 (by decide) rfl ?_
              refine jx_iinc (v0 := nI (i + 1)) (lv' := [(9, .int (nI (i + 1))), (8, .int (1)), (7, .int (nI (c))), (3, .long (all)), (5, .long (bef)), (0, .ref (a)), (1, .long (u))]) d_Md_readersOf_113 1 rfl (nI_add _ 1) (by decide) rfl ?_
              refine jx_goto (tgt := 57) d_Md_readersOf_116 (by decide) ?_
              exact ih (i + 1) _ (by omega) (by omega) (jb_t (by rw [anyN_s, ← Bool.or_assoc, jb0 c2]; unfold mdf nM; rw [show tM s c = true from jb1 c3, (bt_shr1 (by omega)).mp c4, jb1 c5]; rfl))
set_option maxHeartbeats 4000000 in
set_option maxRecDepth 100000 in
theorem st_Md_readersOf (l : Launch) (G : jm_G) {h : jm_H} {a : Nat} {s : MS} {N : Nat → Nat} {c : Nat} {u all bef : Int64} {n0 s0 d : Nat} {Post : jm_r → jm_H → Prop} (hd : 1 ≤ d) (hK : MdK h a) (hN : NcOK s N) (hc : c < 64) (kk : jm_X l G mm_Md_readersOf n0 s0 (jm_zn G d n0 s0) Post 20 [(7, .int (nI (c + 1))), (3, .long (if m_does s N u all c = true then all ||| bt1 c else all)), (5, .long (bef)), (0, .ref (a)), (1, .long (u))] [] (mdH h a s)) : jm_X l G mm_Md_readersOf n0 s0 (jm_zn G d n0 s0) Post 20 [(7, .int (nI (c))), (3, .long (all)), (5, .long (bef)), (0, .ref (a)), (1, .long (u))] [] (mdH h a s) := by
  refine jx_iload d_Md_readersOf_20 0 rfl ?_
  refine jx_bipush (v0 := 64) d_Md_readersOf_22 (by decide) ?_
  refine jx_icmp_geN (tgt := 141) (c) (64) d_Md_readersOf_24 rfl rfl (by omega) (by omega) (by decide) (fun c1 => ?_) (fun c1 => ?_)
  · omega
  ·
    refine jx_aload_n d_Md_readersOf_27 3 rfl ?_
    refine jx_get d_Md_readersOf_28 fF_Md_13 (md_tg hK) (md_rr hK (k := 5) (j := 2) rfl rfl rfl) ?_
    refine jx_iload d_Md_readersOf_31 0 rfl ?_
    refine jx_zald d_Md_readersOf_33 (md_ta hK (j := 2) rfl) rfl (jm_vinN (show c < 64 by omega) (by decide)) (jm_atN (show c < 2 ^ 31 by omega) (show (mdH h a s).2.2.2 (a + 2) c = Value.int (jb (s.2.2.2.2 2 c)) from md_raz (j := 2) (show c < 64 by omega))) ?_
    refine jx_if_eq (tgt := 51) d_Md_readersOf_34 (by decide) (fun c2 => ?_) (fun c2 => ?_)
    ·
      refine jx_iconst (v0 := 0) d_Md_readersOf_51 (by decide) ?_
      refine jx_istore (lv' := [(8, .int (0)), (7, .int (nI (c))), (3, .long (all)), (5, .long (bef)), (0, .ref (a)), (1, .long (u))]) d_Md_readersOf_52 (by decide) rfl ?_
      refine jx_iconst (v0 := 0) d_Md_readersOf_54 (by decide) ?_
      refine jx_istore (lv' := [(9, .int (0)), (8, .int (0)), (7, .int (nI (c))), (3, .long (all)), (5, .long (bef)), (0, .ref (a)), (1, .long (u))]) d_Md_readersOf_55 (by decide) rfl ?_
      refine lp_Md_readersOf1 l G hd hK hN hc ?_ 65 0 _ (by omega) (by omega) (jb_f (by rw [show tM s c = false from jb0 c2]; rfl))
      refine jx_iload d_Md_readersOf_119 0 rfl ?_
      refine jx_if_eq (tgt := 133) d_Md_readersOf_121 (by decide) (fun c3 => ?_) (fun c3 => ?_)
      ·
        refine jx_lload_n d_Md_readersOf_133 2 rfl ?_
        refine jx_lstore_n (lv' := [(3, .long (all)), (8, .int (jb (m_does s N u all c))), (7, .int (nI (c))), (5, .long (bef)), (0, .ref (a)), (1, .long (u))]) d_Md_readersOf_134 (by decide) rfl ?_
        refine jx_iinc (v0 := nI (c + 1)) (lv' := [(7, .int (nI (c + 1))), (3, .long (all)), (8, .int (jb (m_does s N u all c))), (5, .long (bef)), (0, .ref (a)), (1, .long (u))]) d_Md_readersOf_135 2 rfl (nI_add _ 1) (by decide) rfl ?_
        refine jx_goto (tgt := 20) d_Md_readersOf_138 (by decide) ?_
        refine jx_lv [0, 1, 3, 4, 5] rfl ?_
        rw [if_neg (by rw [jb0 c3]; decide)] at kk
        exact kk
      ·
        refine jx_lload_n d_Md_readersOf_124 2 rfl ?_
        refine jx_lconst (v0 := 1) d_Md_readersOf_125 (by decide) ?_
        refine jx_iload d_Md_readersOf_126 1 rfl ?_
        refine jx_lshl d_Md_readersOf_128 ?_
        refine jx_atl (show _ = bt1 (c) from rfl) ?_
        refine jx_lor d_Md_readersOf_129 ?_
        refine jx_goto (tgt := 134) d_Md_readersOf_130 (by decide) ?_
        refine jx_lstore_n (lv' := [(3, .long ((all ||| (bt1 (c))))), (8, .int (jb (m_does s N u all c))), (7, .int (nI (c))), (5, .long (bef)), (0, .ref (a)), (1, .long (u))]) d_Md_readersOf_134 (by decide) rfl ?_
        refine jx_iinc (v0 := nI (c + 1)) (lv' := [(7, .int (nI (c + 1))), (3, .long ((all ||| (bt1 (c))))), (8, .int (jb (m_does s N u all c))), (5, .long (bef)), (0, .ref (a)), (1, .long (u))]) d_Md_readersOf_135 2 rfl (nI_add _ 1) (by decide) rfl ?_
        refine jx_goto (tgt := 20) d_Md_readersOf_138 (by decide) ?_
        refine jx_lv [0, 1, 3, 4, 5] rfl ?_
        rw [if_pos (jb1 c3)] at kk
        exact kk
    ·
      refine jx_aload_n d_Md_readersOf_37 3 rfl ?_
      refine jx_iload d_Md_readersOf_38 0 rfl ?_
      refine jx_lload_n d_Md_readersOf_40 4 rfl ?_
      refine jx_callV (M2 := mm_Md_reads) rfl (md_tg hK) lk_Md_207 wi_Md_reads ws_Md_reads d_Md_readersOf_41 (c_Md_reads l G (d - 1) (s := s) (N := N) (c := c) (u := u) hK hN (by omega)) cd_Md_reads rfl rfl (Nat.le_of_ble_eq_true rfl) (jm_fok (by omega)) (jm_look (by decide) (by omega)) ?_
      refine jx_if_eq (tgt := 51) d_Md_readersOf_44 (by decide) (fun c4 => ?_) (fun c4 => ?_)
      ·
        refine jx_iconst (v0 := 0) d_Md_readersOf_51 (by decide) ?_
        refine jx_istore (lv' := [(8, .int (0)), (7, .int (nI (c))), (3, .long (all)), (5, .long (bef)), (0, .ref (a)), (1, .long (u))]) d_Md_readersOf_52 (by decide) rfl ?_
        refine jx_iconst (v0 := 0) d_Md_readersOf_54 (by decide) ?_
        refine jx_istore (lv' := [(9, .int (0)), (8, .int (0)), (7, .int (nI (c))), (3, .long (all)), (5, .long (bef)), (0, .ref (a)), (1, .long (u))]) d_Md_readersOf_55 (by decide) rfl ?_
        refine lp_Md_readersOf1 l G hd hK hN hc ?_ 65 0 _ (by omega) (by omega) (jb_f (by rw [jb0 c4, Bool.and_false]; rfl))
        refine jx_iload d_Md_readersOf_119 0 rfl ?_
        refine jx_if_eq (tgt := 133) d_Md_readersOf_121 (by decide) (fun c5 => ?_) (fun c5 => ?_)
        ·
          refine jx_lload_n d_Md_readersOf_133 2 rfl ?_
          refine jx_lstore_n (lv' := [(3, .long (all)), (8, .int (jb (m_does s N u all c))), (7, .int (nI (c))), (5, .long (bef)), (0, .ref (a)), (1, .long (u))]) d_Md_readersOf_134 (by decide) rfl ?_
          refine jx_iinc (v0 := nI (c + 1)) (lv' := [(7, .int (nI (c + 1))), (3, .long (all)), (8, .int (jb (m_does s N u all c))), (5, .long (bef)), (0, .ref (a)), (1, .long (u))]) d_Md_readersOf_135 2 rfl (nI_add _ 1) (by decide) rfl ?_
          refine jx_goto (tgt := 20) d_Md_readersOf_138 (by decide) ?_
          refine jx_lv [0, 1, 3, 4, 5] rfl ?_
          rw [if_neg (by rw [jb0 c5]; decide)] at kk
          exact kk
        ·
          refine jx_lload_n d_Md_readersOf_124 2 rfl ?_
          refine jx_lconst (v0 := 1) d_Md_readersOf_125 (by decide) ?_
          refine jx_iload d_Md_readersOf_126 1 rfl ?_
          refine jx_lshl d_Md_readersOf_128 ?_
          refine jx_atl (show _ = bt1 (c) from rfl) ?_
          refine jx_lor d_Md_readersOf_129 ?_
          refine jx_goto (tgt := 134) d_Md_readersOf_130 (by decide) ?_
          refine jx_lstore_n (lv' := [(3, .long ((all ||| (bt1 (c))))), (8, .int (jb (m_does s N u all c))), (7, .int (nI (c))), (5, .long (bef)), (0, .ref (a)), (1, .long (u))]) d_Md_readersOf_134 (by decide) rfl ?_
          refine jx_iinc (v0 := nI (c + 1)) (lv' := [(7, .int (nI (c + 1))), (3, .long ((all ||| (bt1 (c))))), (8, .int (jb (m_does s N u all c))), (5, .long (bef)), (0, .ref (a)), (1, .long (u))]) d_Md_readersOf_135 2 rfl (nI_add _ 1) (by decide) rfl ?_
          refine jx_goto (tgt := 20) d_Md_readersOf_138 (by decide) ?_
          refine jx_lv [0, 1, 3, 4, 5] rfl ?_
          rw [if_pos (jb1 c5)] at kk
          exact kk
      ·
        refine jx_iconst (v0 := 1) d_Md_readersOf_47 (by decide) ?_
        refine jx_goto (tgt := 52) d_Md_readersOf_48 (by decide) ?_
        refine jx_istore (lv' := [(8, .int (1)), (7, .int (nI (c))), (3, .long (all)), (5, .long (bef)), (0, .ref (a)), (1, .long (u))]) d_Md_readersOf_52 (by decide) rfl ?_
        refine jx_iconst (v0 := 0) d_Md_readersOf_54 (by decide) ?_
        refine jx_istore (lv' := [(9, .int (0)), (8, .int (1)), (7, .int (nI (c))), (3, .long (all)), (5, .long (bef)), (0, .ref (a)), (1, .long (u))]) d_Md_readersOf_55 (by decide) rfl ?_
        refine lp_Md_readersOf1 l G hd hK hN hc ?_ 65 0 _ (by omega) (by omega) (jb_t (by rw [show tM s c = true from jb1 c2, jb1 c4]; rfl))
        refine jx_iload d_Md_readersOf_119 0 rfl ?_
        refine jx_if_eq (tgt := 133) d_Md_readersOf_121 (by decide) (fun c6 => ?_) (fun c6 => ?_)
        ·
          refine jx_lload_n d_Md_readersOf_133 2 rfl ?_
          refine jx_lstore_n (lv' := [(3, .long (all)), (8, .int (jb (m_does s N u all c))), (7, .int (nI (c))), (5, .long (bef)), (0, .ref (a)), (1, .long (u))]) d_Md_readersOf_134 (by decide) rfl ?_
          refine jx_iinc (v0 := nI (c + 1)) (lv' := [(7, .int (nI (c + 1))), (3, .long (all)), (8, .int (jb (m_does s N u all c))), (5, .long (bef)), (0, .ref (a)), (1, .long (u))]) d_Md_readersOf_135 2 rfl (nI_add _ 1) (by decide) rfl ?_
          refine jx_goto (tgt := 20) d_Md_readersOf_138 (by decide) ?_
          refine jx_lv [0, 1, 3, 4, 5] rfl ?_
          rw [if_neg (by rw [jb0 c6]; decide)] at kk
          exact kk
        ·
          refine jx_lload_n d_Md_readersOf_124 2 rfl ?_
          refine jx_lconst (v0 := 1) d_Md_readersOf_125 (by decide) ?_
          refine jx_iload d_Md_readersOf_126 1 rfl ?_
          refine jx_lshl d_Md_readersOf_128 ?_
          refine jx_atl (show _ = bt1 (c) from rfl) ?_
          refine jx_lor d_Md_readersOf_129 ?_
          refine jx_goto (tgt := 134) d_Md_readersOf_130 (by decide) ?_
          refine jx_lstore_n (lv' := [(3, .long ((all ||| (bt1 (c))))), (8, .int (jb (m_does s N u all c))), (7, .int (nI (c))), (5, .long (bef)), (0, .ref (a)), (1, .long (u))]) d_Md_readersOf_134 (by decide) rfl ?_
          refine jx_iinc (v0 := nI (c + 1)) (lv' := [(7, .int (nI (c + 1))), (3, .long ((all ||| (bt1 (c))))), (8, .int (jb (m_does s N u all c))), (5, .long (bef)), (0, .ref (a)), (1, .long (u))]) d_Md_readersOf_135 2 rfl (nI_add _ 1) (by decide) rfl ?_
          refine jx_goto (tgt := 20) d_Md_readersOf_138 (by decide) ?_
          refine jx_lv [0, 1, 3, 4, 5] rfl ?_
          rw [if_pos (jb1 c6)] at kk
          exact kk
/-- what depends on a name, at the reference: the least set -/
def DClo (s : MS) (N : Nat → Nat) (u : Int64) (D : Nat → Prop) : Prop := (∀ c, c < 64 → tM s c = true → m_rd s N c u = true → D c) ∧ ∀ c j, c < 64 → j < 64 → tM s c = true → D j → m_rd s N c (nM s j) = true → D c
def DepM (s : MS) (N : Nat → Nat) (u : Int64) (c : Nat) : Prop := ∀ D, DClo s N u D → D c
theorem DepM.clo {s : MS} {N : Nat → Nat} {u : Int64} : DClo s N u (DepM s N u) := ⟨fun c h1 h2 h3 D hD => hD.1 c h1 h2 h3, fun c j h1 h2 h3 h4 h5 D hD => hD.2 c j h1 h2 h3 (h4 D hD) h5⟩
theorem m_does_iff {s : MS} {N : Nat → Nat} {u all : Int64} {c : Nat} : m_does s N u all c = true ↔ tM s c = true ∧ (m_rd s N c u = true ∨ ∃ j, j < 64 ∧ bt all j = true ∧ m_rd s N c (nM s j) = true) := by
  unfold m_does
  rw [Bool.or_eq_true, Bool.and_eq_true, anyN_iff]
  constructor
  · rintro (⟨h1, h2⟩ | ⟨j, hj, h⟩)
    · exact ⟨h1, Or.inl h2⟩
    · unfold mdf at h
      rw [Bool.and_eq_true, Bool.and_eq_true] at h
      exact ⟨h.1, Or.inr ⟨j, hj, h.2.1, h.2.2⟩⟩
  · rintro ⟨h1, h2 | ⟨j, hj, h2, h3⟩⟩
    · exact Or.inl ⟨h1, h2⟩
    · refine Or.inr ⟨j, hj, ?_⟩
      unfold mdf
      rw [h1, h2, h3]
      rfl
def Sub64 (x y : Int64) : Prop := ∀ c, c < 64 → bt x c = true → bt y c = true
set_option maxHeartbeats 4000000 in
set_option maxRecDepth 100000 in
theorem en_Md_readersOf (l : Launch) (G : jm_G) {h : jm_H} {a : Nat} {s : MS} {u : Int64} {all bef : Int64} {n0 s0 d : Nat} {Post : jm_r → jm_H → Prop} (hK : MdK h a) (kk : jm_X l G mm_Md_readersOf n0 s0 (jm_zn G d n0 s0) Post 7 [(3, .long (all)), (5, .long (bef)), (0, .ref (a)), (1, .long (u))] [] (mdH h a s)) : jm_X l G mm_Md_readersOf n0 s0 (jm_zn G d n0 s0) Post 20 [(7, .int (nI 64)), (3, .long (all)), (5, .long (bef)), (0, .ref (a)), (1, .long (u))] [] (mdH h a s) := by
  refine jx_iload d_Md_readersOf_20 0 rfl ?_
  refine jx_bipush (v0 := 64) d_Md_readersOf_22 (by decide) ?_
  refine jx_icmp_ge (tgt := 141) d_Md_readersOf_24 (by decide) (fun c1 => ?_) (fun c1 => absurd c1 (by decide))
  refine jx_goto (tgt := 7) d_Md_readersOf_141 (by decide) ?_
  refine jx_lv [1, 2, 3, 4] rfl ?_
  exact kk
theorem lp_Md_readersOf2 (l : Launch) (G : jm_G) {h : jm_H} {a : Nat} {s : MS} {N : Nat → Nat} {u : Int64} {bef : Int64} {n0 s0 d : Nat} {Post : jm_r → jm_H → Prop} (hd : 1 ≤ d) (hK : MdK h a) (hN : NcOK s N) (D : Nat → Prop) (hD : DClo s N u D) (kk : ∀ all, Sub64 bef all → (∀ c, c < 64 → bt all c = true → D c) → (∀ c, c < 64 → m_does s N u bef c = true → bt all c = true) → jm_X l G mm_Md_readersOf n0 s0 (jm_zn G d n0 s0) Post 7 [(3, .long (all)), (5, .long (bef)), (0, .ref (a)), (1, .long (u))] [] (mdH h a s)) (t : Nat) : ∀ (c : Nat) (all : Int64), 64 - c < t → c ≤ 64 → Sub64 bef all → (∀ c, c < 64 → bt all c = true → D c) → (∀ j, j < c → m_does s N u bef j = true → bt all j = true) → jm_X l G mm_Md_readersOf n0 s0 (jm_zn G d n0 s0) Post 20 [(7, .int (nI (c))), (3, .long (all)), (5, .long (bef)), (0, .ref (a)), (1, .long (u))] [] (mdH h a s) := by
  induction t with
  | zero => intro c all hm; omega
  | succ t ih =>
    intro c all hm hc h1 h2 h3
    by_cases e : c = 64
    · subst e
      exact en_Md_readersOf l G hK (kk all h1 h2 (fun j hj => h3 j hj))
    · have hc6 : c < 64 := by omega
      refine st_Md_readersOf l G hd hK hN hc6 (ih (c + 1) _ (by omega) (by omega) ?_ ?_ ?_)
      · intro j hj hb
        by_cases q : m_does s N u all c = true
        · rw [if_pos q, bt_ins hc6 hj, h1 j hj hb]; rfl
        · rw [if_neg q]; exact h1 j hj hb
      · intro j hj hb
        by_cases q : m_does s N u all c = true
        · rw [if_pos q, bt_ins hc6 hj, Bool.or_eq_true] at hb
          rcases hb with hb | hb
          · exact h2 j hj hb
          · rw [decide_eq_true_iff] at hb
            subst hb
            obtain ⟨q1, q2 | ⟨i, hi, q3, q4⟩⟩ := m_does_iff.mp q
            · exact hD.1 j hj q1 q2
            · exact hD.2 j i hj hi q1 (h2 i hi q3) q4
        · rw [if_neg q] at hb
          exact h2 j hj hb
      · intro j hj hdo
        have key : bt all j = true → bt (if m_does s N u all c = true then all ||| bt1 c else all) j = true := fun hb => by
          by_cases q : m_does s N u all c = true
          · rw [if_pos q, bt_ins hc6 (by omega), hb]; rfl
          · rw [if_neg q]; exact hb
        by_cases e2 : j = c
        · subst e2
          have q : m_does s N u all j = true := by
            obtain ⟨q1, q2 | ⟨i, hi, q3, q4⟩⟩ := m_does_iff.mp hdo
            · exact m_does_iff.mpr ⟨q1, Or.inl q2⟩
            · exact m_does_iff.mpr ⟨q1, Or.inr ⟨i, hi, h1 i hi q3, q4⟩⟩
          rw [if_pos q, bt_ins hc6 hc6]
          simp
        · exact key (h3 j (by omega) hdo)
theorem sub_ne {x y : Int64} (h : Sub64 x y) (hne : ¬ x = y) : cnt (bt x) 64 < cnt (bt y) 64 := by
  have : ∃ q, q < 64 ∧ bt x q ≠ bt y q := Classical.byContradiction fun hn => hne (bt_ext fun p hp => Classical.byContradiction fun hb => hn ⟨p, hp, hb⟩)
  obtain ⟨q, hq, hb⟩ := this
  refine cnt_lt (fun p hp hx => h p hp hx) hq ?_ ?_
  · cases e : bt x q with
    | false => rfl
    | true => exact absurd (e.trans (h q hq e).symm) hb
  · cases e : bt y q with
    | true => rfl
    | false =>
      cases e2 : bt x q with
      | false => exact absurd (e2.trans e.symm) hb
      | true => rw [h q hq e2] at e; cases e
set_option maxHeartbeats 4000000 in
set_option maxRecDepth 100000 in
theorem wh_Md_readersOf (l : Launch) (G : jm_G) {h : jm_H} {a : Nat} {s : MS} {u : Int64} {all bef : Int64} {n0 s0 d : Nat} {Post : jm_r → jm_H → Prop} (hK : MdK h a) (k1 : all = bef → Post (.inl (some (.long all))) (mdH h a s)) (k2 : ¬ all = bef → jm_X l G mm_Md_readersOf n0 s0 (jm_zn G d n0 s0) Post 20 [(7, .int (nI 0)), (3, .long (all)), (5, .long (all)), (0, .ref (a)), (1, .long (u))] [] (mdH h a s)) : jm_X l G mm_Md_readersOf n0 s0 (jm_zn G d n0 s0) Post 7 [(3, .long (all)), (5, .long (bef)), (0, .ref (a)), (1, .long (u))] [] (mdH h a s) := by
  refine jx_lload_n d_Md_readersOf_7 0 rfl ?_
  refine jx_lload d_Md_readersOf_8 1 rfl ?_
  refine jx_lcmp d_Md_readersOf_10 ?_
  refine jx_if_eqL (tgt := 144) d_Md_readersOf_11 (by decide) (fun c1 => ?_) (fun c1 => ?_)
  ·
    refine jx_lload_n d_Md_readersOf_144 0 rfl ?_
    exact jx_lret d_Md_readersOf_145 rfl (k1 c1)
  ·
    refine jx_lload_n d_Md_readersOf_14 0 rfl ?_
    refine jx_lstore (lv' := [(5, .long (all)), (3, .long (all)), (0, .ref (a)), (1, .long (u))]) d_Md_readersOf_15 (by decide) rfl ?_
    refine jx_iconst (v0 := 0) d_Md_readersOf_17 (by decide) ?_
    refine jx_istore (lv' := [(7, .int (0)), (5, .long (all)), (3, .long (all)), (0, .ref (a)), (1, .long (u))]) d_Md_readersOf_18 (by decide) rfl ?_
    refine jx_lv [0, 2, 1, 3, 4] rfl ?_
    exact k2 c1
theorem lp_Md_readersOf3 (l : Launch) (G : jm_G) {h : jm_H} {a : Nat} {s : MS} {N : Nat → Nat} {u : Int64} {n0 s0 d : Nat} {Post : jm_r → jm_H → Prop} (hd : 1 ≤ d) (hK : MdK h a) (hN : NcOK s N) (D : Nat → Prop) (hD : DClo s N u D) (k1 : ∀ all, (∀ c, c < 64 → bt all c = true → D c) → (∀ c, c < 64 → m_does s N u all c = true → bt all c = true) → Post (.inl (some (.long all))) (mdH h a s)) (t : Nat) : ∀ (all bef : Int64), 64 - cnt (bt all) 64 < t → (∀ c, c < 64 → bt all c = true → D c) → (all = bef → ∀ c, c < 64 → m_does s N u all c = true → bt all c = true) → jm_X l G mm_Md_readersOf n0 s0 (jm_zn G d n0 s0) Post 7 [(3, .long (all)), (5, .long (bef)), (0, .ref (a)), (1, .long (u))] [] (mdH h a s) := by
  induction t with
  | zero => intro all bef hm; omega
  | succ t ih =>
    intro all bef hm h1 h2
    refine wh_Md_readersOf l G hK (fun e => k1 all h1 (h2 e)) (fun ne => ?_)
    refine lp_Md_readersOf2 l G hd hK hN D hD (fun all2 g1 g2 g3 => ?_) 65 0 all (by omega) (by omega) (fun c _ q => q) h1 (fun j hj => by omega)
    by_cases e : all2 = all
    · subst e
      refine wh_Md_readersOf l G hK (fun _ => k1 all2 g2 g3) (fun ne2 => absurd rfl ne2)
    · have hlt := sub_ne g1 (fun q => e q.symm)
      have hle := cnt_le (bt all2) 64
      exact ih all2 all (by omega) g2 (fun q => absurd q e)
set_option maxHeartbeats 4000000 in
set_option maxRecDepth 100000 in
theorem c_Md_readersOf (l : Launch) (G : jm_G) (d : Nat) (hd : 1 ≤ d) {h : jm_H} {a : Nat} {s : MS} {N : Nat → Nat} {u : Int64} (hK : MdK h a) (hN : NcOK s N) : jm_CP l G mm_Md_readersOf d [.ref a, .long u] (mdH h a s) (fun v h9 => ∃ all, v = some (.long all) ∧ h9 = mdH h a s ∧ ∀ c, c < 64 → (bt all c = true ↔ DepM s N u c)) := by
  refine jm_of (by decide) rfl (Nat.le_of_ble_eq_true rfl) ?_
  refine jx_lconst (v0 := 0) d_Md_readersOf_0 (by decide) ?_
  refine jx_lstore_n (lv' := [(3, .long (0)), (0, .ref (a)), (1, .long (u))]) d_Md_readersOf_1 (by decide) rfl ?_
  refine jx_ldc2 d_Md_readersOf_2 lk_Md_205 ?_
  refine jx_lstore (lv' := [(5, .long (-1)), (3, .long (0)), (0, .ref (a)), (1, .long (u))]) d_Md_readersOf_5 (by decide) rfl ?_
  refine jx_lv [1, 0, 2, 3] rfl ?_
  exact lp_Md_readersOf3 l G hd hK hN (DepM s N u) DepM.clo (fun all g1 g2 => ⟨_, rfl, all, rfl, rfl, fun c hc => ⟨g1 c hc, fun q => q (fun c => c < 64 → bt all c = true) ⟨fun c hc1 t1 t2 _ => g2 c hc1 (m_does_iff.mpr ⟨t1, Or.inl t2⟩), fun c j hc1 hj t1 hb t2 _ => g2 c hc1 (m_does_iff.mpr ⟨t1, Or.inr ⟨j, hj, hb hj, t2⟩⟩)⟩ hc⟩⟩) 66 0 (-1) (by omega) (fun c hc hb => by rw [bt_zero] at hb; cases hb) (fun e => absurd e (by decide))
