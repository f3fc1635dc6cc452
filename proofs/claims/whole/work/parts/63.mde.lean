def mbf (s : MS) (N : Nat → Nat) (all : Int64) (c j : Nat) : Bool := tM s j && (bt all c && m_rd s N c (nM s j))
set_option maxHeartbeats 4000000 in
set_option maxRecDepth 100000 in
theorem st_Md_below (l : Launch) (G : jm_G) {h : jm_H} {a : Nat} {s : MS} {N : Nat → Nat} {x : Nat} {c i : Nat} {all bef : Int64} {n0 s0 d : Nat} {Post : jm_r → jm_H → Prop} (hd : 1 ≤ d) (hK : MdK h a) (hN : NcOK s N) (hc : c < 64) (hi : i < 64) (kk : jm_X l G mm_Md_below n0 s0 (jm_zn G d n0 s0) Post 30 [(7, .int (nI (i + 1))), (6, .int (nI (c))), (2, .long (if mbf s N all c i = true then all ||| bt1 i else all)), (4, .long (bef)), (0, .ref (a)), (1, .int (nI (x)))] [] (mdH h a s)) : jm_X l G mm_Md_below n0 s0 (jm_zn G d n0 s0) Post 30 [(7, .int (nI (i))), (6, .int (nI (c))), (2, .long (all)), (4, .long (bef)), (0, .ref (a)), (1, .int (nI (x)))] [] (mdH h a s) := by
  refine jx_iload d_Md_below_30 0 rfl ?_
  refine jx_bipush (v0 := 64) d_Md_below_32 (by decide) ?_
  refine jx_icmp_geN (tgt := 91) (i) (64) d_Md_below_34 rfl rfl (by omega) (by omega) (by decide) (fun c1 => ?_) (fun c1 => ?_)
  · omega
  ·
    refine jx_aload_n d_Md_below_37 4 rfl ?_
    refine jx_get d_Md_below_38 fF_Md_13 (md_tg hK) (md_rr hK (k := 5) (j := 2) rfl rfl rfl) ?_
    refine jx_iload d_Md_below_41 0 rfl ?_
    refine jx_zald d_Md_below_43 (md_ta hK (j := 2) rfl) rfl (jm_vinN (show i < 64 by omega) (by decide)) (jm_atN (show i < 2 ^ 31 by omega) (show (mdH h a s).2.2.2 (a + 2) i = Value.int (jb (s.2.2.2.2 2 i)) from md_raz (j := 2) (show i < 64 by omega))) ?_
    refine jx_if_eq (tgt := 83) d_Md_below_44 (by decide) (fun c2 => ?_) (fun c2 => ?_)
    ·
      refine jx_lload_n d_Md_below_83 2 rfl ?_
      refine jx_lstore_n (lv' := [(2, .long (all)), (7, .int (nI (i))), (6, .int (nI (c))), (4, .long (bef)), (0, .ref (a)), (1, .int (nI (x)))]) d_Md_below_84 (by decide) rfl ?_
      refine jx_iinc (v0 := nI (i + 1)) (lv' := [(7, .int (nI (i + 1))), (2, .long (all)), (6, .int (nI (c))), (4, .long (bef)), (0, .ref (a)), (1, .int (nI (x)))]) d_Md_below_85 1 rfl (nI_add _ 1) (by decide) rfl ?_
      refine jx_goto (tgt := 30) d_Md_below_88 (by decide) ?_
      refine jx_lv [0, 2, 1, 3, 4, 5] rfl ?_
      rw [if_neg (by unfold mbf; rw [show tM s i = false from jb0 c2, Bool.false_and]; decide)] at kk
      exact kk
    ·
      refine jx_lload_n d_Md_below_47 2 rfl ?_
      refine jx_iload d_Md_below_48 1 rfl ?_
      refine jx_lshr d_Md_below_50 ?_
      refine jx_lconst (v0 := 1) d_Md_below_51 (by decide) ?_
      refine jx_land d_Md_below_52 ?_
      refine jx_lconst (v0 := 1) d_Md_below_53 (by decide) ?_
      refine jx_lcmp d_Md_below_54 ?_
      refine jx_if_neL (tgt := 83) d_Md_below_55 (by decide) (fun c3 => ?_) (fun c3 => ?_)
      ·
        refine jx_lload_n d_Md_below_83 2 rfl ?_
        refine jx_lstore_n (lv' := [(2, .long (all)), (7, .int (nI (i))), (6, .int (nI (c))), (4, .long (bef)), (0, .ref (a)), (1, .int (nI (x)))]) d_Md_below_84 (by decide) rfl ?_
        refine jx_iinc (v0 := nI (i + 1)) (lv' := [(7, .int (nI (i + 1))), (2, .long (all)), (6, .int (nI (c))), (4, .long (bef)), (0, .ref (a)), (1, .int (nI (x)))]) d_Md_below_85 1 rfl (nI_add _ 1) (by decide) rfl ?_
        refine jx_goto (tgt := 30) d_Md_below_88 (by decide) ?_
        refine jx_lv [0, 2, 1, 3, 4, 5] rfl ?_
        rw [if_neg (by unfold mbf; rw [Bool.eq_false_iff.mpr (fun q => c3 ((bt_shr1 (by omega)).mpr q)), Bool.false_and, Bool.and_false]; decide)] at kk
        exact kk
      ·
        refine jx_aload_n d_Md_below_58 4 rfl ?_
        refine jx_iload d_Md_below_59 1 rfl ?_
        refine jx_aload_n d_Md_below_61 4 rfl ?_
        refine jx_get d_Md_below_62 fF_Md_17 (md_tg hK) (md_rr hK (k := 6) (j := 3) rfl rfl rfl) ?_
        refine jx_iload d_Md_below_65 0 rfl ?_
        refine jx_lald d_Md_below_67 (md_ta hK (j := 3) rfl) rfl (jm_vinN (show i < 64 by omega) (by decide)) (jm_atN (show i < 2 ^ 31 by omega) (show (mdH h a s).2.2.2 (a + 3) i = Value.long (s.2.2.2.1 3 i) from md_ral (j := 3) (show i < 64 by omega))) ?_
        refine jx_callV (M2 := mm_Md_reads) rfl (md_tg hK) lk_Md_207 wi_Md_reads ws_Md_reads d_Md_below_68 (c_Md_reads l G (d - 1) (s := s) (N := N) (c := c) (u := s.2.2.2.1 3 i) hK hN (by omega)) cd_Md_reads rfl rfl (Nat.le_of_ble_eq_true rfl) (jm_fok (by omega)) (jm_look (by decide) (by omega)) ?_
        refine jx_if_eq (tgt := 83) d_Md_below_71 (by decide) (fun c4 => ?_) (fun c4 => ?_)
        ·
          refine jx_lload_n d_Md_below_83 2 rfl ?_
          refine jx_lstore_n (lv' := [(2, .long (all)), (7, .int (nI (i))), (6, .int (nI (c))), (4, .long (bef)), (0, .ref (a)), (1, .int (nI (x)))]) d_Md_below_84 (by decide) rfl ?_
          refine jx_iinc (v0 := nI (i + 1)) (lv' := [(7, .int (nI (i + 1))), (2, .long (all)), (6, .int (nI (c))), (4, .long (bef)), (0, .ref (a)), (1, .int (nI (x)))]) d_Md_below_85 1 rfl (nI_add _ 1) (by decide) rfl ?_
          refine jx_goto (tgt := 30) d_Md_below_88 (by decide) ?_
          refine jx_lv [0, 2, 1, 3, 4, 5] rfl ?_
          rw [if_neg (by unfold mbf nM; rw [jb0 c4, Bool.and_false, Bool.and_false]; decide)] at kk
          exact kk
        ·
          refine jx_lload_n d_Md_below_74 2 rfl ?_
          refine jx_lconst (v0 := 1) d_Md_below_75 (by decide) ?_
          refine jx_iload d_Md_below_76 0 rfl ?_
          refine jx_lshl d_Md_below_78 ?_
          refine jx_atl (show _ = bt1 (i) from rfl) ?_
          refine jx_lor d_Md_below_79 ?_
          refine jx_goto (tgt := 84) d_Md_below_80 (by decide) ?_
          refine jx_lstore_n (lv' := [(2, .long ((all ||| (bt1 (i))))), (7, .int (nI (i))), (6, .int (nI (c))), (4, .long (bef)), (0, .ref (a)), (1, .int (nI (x)))]) d_Md_below_84 (by decide) rfl ?_
          refine jx_iinc (v0 := nI (i + 1)) (lv' := [(7, .int (nI (i + 1))), (2, .long ((all ||| (bt1 (i))))), (6, .int (nI (c))), (4, .long (bef)), (0, .ref (a)), (1, .int (nI (x)))]) d_Md_below_85 1 rfl (nI_add _ 1) (by decide) rfl ?_
          refine jx_goto (tgt := 30) d_Md_below_88 (by decide) ?_
          refine jx_lv [0, 2, 1, 3, 4, 5] rfl ?_
          rw [if_pos (by unfold mbf nM; rw [show tM s i = true from jb1 c2, (bt_shr1 (by omega)).mp c3, jb1 c4]; rfl)] at kk
          exact kk
set_option maxHeartbeats 4000000 in
set_option maxRecDepth 100000 in
theorem en_Md_below (l : Launch) (G : jm_G) {h : jm_H} {a : Nat} {s : MS} {x : Nat} {c : Nat} {all bef : Int64} {n0 s0 d : Nat} {Post : jm_r → jm_H → Prop} (hK : MdK h a) (kk : jm_X l G mm_Md_below n0 s0 (jm_zn G d n0 s0) Post 20 [(6, .int (nI (c + 1))), (2, .long (all)), (4, .long (bef)), (0, .ref (a)), (1, .int (nI (x)))] [] (mdH h a s)) : jm_X l G mm_Md_below n0 s0 (jm_zn G d n0 s0) Post 30 [(7, .int (nI 64)), (6, .int (nI (c))), (2, .long (all)), (4, .long (bef)), (0, .ref (a)), (1, .int (nI (x)))] [] (mdH h a s) := by
  refine jx_iload d_Md_below_30 0 rfl ?_
  refine jx_bipush (v0 := 64) d_Md_below_32 (by decide) ?_
  refine jx_icmp_ge (tgt := 91) d_Md_below_34 (by decide) (fun c1 => ?_) (fun c1 => absurd c1 (by decide))
  refine jx_iinc (v0 := nI (c + 1)) (lv' := [(6, .int (nI (c + 1))), (7, .int (nI 64)), (2, .long (all)), (4, .long (bef)), (0, .ref (a)), (1, .int (nI (x)))]) d_Md_below_91 1 rfl (nI_add _ 1) (by decide) rfl ?_
  refine jx_goto (tgt := 20) d_Md_below_94 (by decide) ?_
  refine jx_lv [0, 2, 3, 4, 5] rfl ?_
  exact kk
set_option maxHeartbeats 4000000 in
set_option maxRecDepth 100000 in
theorem in_Md_below (l : Launch) (G : jm_G) {h : jm_H} {a : Nat} {s : MS} {x : Nat} {c : Nat} {all bef : Int64} {n0 s0 d : Nat} {Post : jm_r → jm_H → Prop} (hK : MdK h a) (hc : c < 64) (kk : jm_X l G mm_Md_below n0 s0 (jm_zn G d n0 s0) Post 30 [(7, .int (nI 0)), (6, .int (nI (c))), (2, .long (all)), (4, .long (bef)), (0, .ref (a)), (1, .int (nI (x)))] [] (mdH h a s)) : jm_X l G mm_Md_below n0 s0 (jm_zn G d n0 s0) Post 20 [(6, .int (nI (c))), (2, .long (all)), (4, .long (bef)), (0, .ref (a)), (1, .int (nI (x)))] [] (mdH h a s) := by
  refine jx_iload d_Md_below_20 0 rfl ?_
  refine jx_bipush (v0 := 64) d_Md_below_22 (by decide) ?_
  refine jx_icmp_geN (tgt := 97) (c) (64) d_Md_below_24 rfl rfl (by omega) (by omega) (by decide) (fun c1 => ?_) (fun c1 => ?_)
  · omega
  ·
    refine jx_iconst (v0 := 0) d_Md_below_27 (by decide) ?_
    refine jx_istore (lv' := [(7, .int (0)), (6, .int (nI (c))), (2, .long (all)), (4, .long (bef)), (0, .ref (a)), (1, .int (nI (x)))]) d_Md_below_28 (by decide) rfl ?_
    exact kk
set_option maxHeartbeats 4000000 in
set_option maxRecDepth 100000 in
theorem ou_Md_below (l : Launch) (G : jm_G) {h : jm_H} {a : Nat} {s : MS} {x : Nat} {all bef : Int64} {n0 s0 d : Nat} {Post : jm_r → jm_H → Prop} (hK : MdK h a) (kk : jm_X l G mm_Md_below n0 s0 (jm_zn G d n0 s0) Post 7 [(2, .long (all)), (4, .long (bef)), (0, .ref (a)), (1, .int (nI (x)))] [] (mdH h a s)) : jm_X l G mm_Md_below n0 s0 (jm_zn G d n0 s0) Post 20 [(6, .int (nI 64)), (2, .long (all)), (4, .long (bef)), (0, .ref (a)), (1, .int (nI (x)))] [] (mdH h a s) := by
  refine jx_iload d_Md_below_20 0 rfl ?_
  refine jx_bipush (v0 := 64) d_Md_below_22 (by decide) ?_
  refine jx_icmp_ge (tgt := 97) d_Md_below_24 (by decide) (fun c1 => ?_) (fun c1 => absurd c1 (by decide))
  refine jx_goto (tgt := 7) d_Md_below_97 (by decide) ?_
  refine jx_lv [1, 2, 3, 4] rfl ?_
  exact kk
set_option maxHeartbeats 4000000 in
set_option maxRecDepth 100000 in
theorem wh_Md_below (l : Launch) (G : jm_G) {h : jm_H} {a : Nat} {s : MS} {x : Nat} {all bef : Int64} {n0 s0 d : Nat} {Post : jm_r → jm_H → Prop} (hK : MdK h a) (k1 : all = bef → Post (.inl (some (.long all))) (mdH h a s)) (k2 : ¬ all = bef → jm_X l G mm_Md_below n0 s0 (jm_zn G d n0 s0) Post 20 [(6, .int (nI 0)), (2, .long (all)), (4, .long (all)), (0, .ref (a)), (1, .int (nI (x)))] [] (mdH h a s)) : jm_X l G mm_Md_below n0 s0 (jm_zn G d n0 s0) Post 7 [(2, .long (all)), (4, .long (bef)), (0, .ref (a)), (1, .int (nI (x)))] [] (mdH h a s) := by
  refine jx_lload_n d_Md_below_7 0 rfl ?_
  refine jx_lload d_Md_below_8 1 rfl ?_
  refine jx_lcmp d_Md_below_10 ?_
  refine jx_if_eqL (tgt := 100) d_Md_below_11 (by decide) (fun c1 => ?_) (fun c1 => ?_)
  ·
    refine jx_lload_n d_Md_below_100 0 rfl ?_
    exact jx_lret d_Md_below_101 rfl (k1 c1)
  ·
    refine jx_lload_n d_Md_below_14 0 rfl ?_
    refine jx_lstore (lv' := [(4, .long (all)), (2, .long (all)), (0, .ref (a)), (1, .int (nI (x)))]) d_Md_below_15 (by decide) rfl ?_
    refine jx_iconst (v0 := 0) d_Md_below_17 (by decide) ?_
    refine jx_istore (lv' := [(6, .int (0)), (4, .long (all)), (2, .long (all)), (0, .ref (a)), (1, .int (nI (x)))]) d_Md_below_18 (by decide) rfl ?_
    refine jx_lv [0, 2, 1, 3, 4] rfl ?_
    exact k2 c1
/-- a cell and all on which it depends, at the reference: the least set -/
def BClo (s : MS) (N : Nat → Nat) (x : Nat) (D : Nat → Prop) : Prop := D x ∧ ∀ c j, c < 64 → j < 64 → D c → tM s j = true → m_rd s N c (nM s j) = true → D j
def BelM (s : MS) (N : Nat → Nat) (x c : Nat) : Prop := ∀ D, BClo s N x D → D c
theorem BelM.clo {s : MS} {N : Nat → Nat} {x : Nat} : BClo s N x (BelM s N x) := ⟨fun D hD => hD.1, fun c j h1 h2 h3 h4 h5 D hD => hD.2 c j h1 h2 (h3 D hD) h4 h5⟩
theorem mbf_iff {s : MS} {N : Nat → Nat} {all : Int64} {c j : Nat} : mbf s N all c j = true ↔ tM s j = true ∧ bt all c = true ∧ m_rd s N c (nM s j) = true := by
  unfold mbf
  rw [Bool.and_eq_true, Bool.and_eq_true]
/-- the pairs (c, j) before (c0, i0) have been seen -/
def BPas (s : MS) (N : Nat → Nat) (bef all : Int64) (c0 i0 : Nat) : Prop := ∀ c j, c < 64 → j < 64 → (c < c0 ∨ (c = c0 ∧ j < i0)) → mbf s N bef c j = true → bt all j = true
theorem BPas.sub {s : MS} {N : Nat → Nat} {bef all all2 : Int64} {c0 i0 : Nat} (h : BPas s N bef all c0 i0) (q : Sub64 all all2) : BPas s N bef all2 c0 i0 := fun c j h1 h2 h3 h4 => q j h2 (h c j h1 h2 h3 h4)
theorem sub_ins {x : Int64} {p : Nat} (hp : p < 64) : Sub64 x (x ||| bt1 p) := fun c hc hb => by rw [bt_ins hp hc, hb]; rfl
theorem lp_Md_below1 (l : Launch) (G : jm_G) {h : jm_H} {a : Nat} {s : MS} {N : Nat → Nat} {x : Nat} {c : Nat} {bef : Int64} {n0 s0 d : Nat} {Post : jm_r → jm_H → Prop} (hd : 1 ≤ d) (hK : MdK h a) (hN : NcOK s N) (D : Nat → Prop) (hD : BClo s N x D) (hc : c < 64) (kk : ∀ all, Sub64 bef all → (∀ j, j < 64 → bt all j = true → D j) → BPas s N bef all (c + 1) 0 → jm_X l G mm_Md_below n0 s0 (jm_zn G d n0 s0) Post 20 [(6, .int (nI (c + 1))), (2, .long (all)), (4, .long (bef)), (0, .ref (a)), (1, .int (nI (x)))] [] (mdH h a s)) (t : Nat) : ∀ (i : Nat) (all : Int64), 64 - i < t → i ≤ 64 → Sub64 bef all → (∀ j, j < 64 → bt all j = true → D j) → BPas s N bef all c i → jm_X l G mm_Md_below n0 s0 (jm_zn G d n0 s0) Post 30 [(7, .int (nI (i))), (6, .int (nI (c))), (2, .long (all)), (4, .long (bef)), (0, .ref (a)), (1, .int (nI (x)))] [] (mdH h a s) := by
  induction t with
  | zero => intro i all hm; omega
  | succ t ih =>
    intro i all hm hi h1 h2 h3
    by_cases e : i = 64
    · subst e
      exact en_Md_below l G hK (kk all h1 h2 (fun c' j q1 q2 q3 q4 => h3 c' j q1 q2 (by omega) q4))
    · have hi6 : i < 64 := by omega
      refine st_Md_below l G hd hK hN hc hi6 ?_
      by_cases q : mbf s N all c i = true
      · rw [if_pos q]
        obtain ⟨q1, q2, q3⟩ := mbf_iff.mp q
        refine ih (i + 1) _ (by omega) (by omega) (fun j hj hb => sub_ins hi6 j hj (h1 j hj hb)) (fun j hj hb => ?_) (fun c' j g1 g2 g3 g4 => ?_)
        · rw [bt_ins hi6 hj, Bool.or_eq_true] at hb
          rcases hb with hb | hb
          · exact h2 j hj hb
          · rw [decide_eq_true_iff] at hb
            subst hb
            exact hD.2 c j hc hj (h2 c hc q2) q1 q3
        · by_cases e2 : c' = c ∧ j = i
          · rw [e2.2, bt_ins hi6 hi6]; simp
          · exact sub_ins hi6 j g2 (h3 c' j g1 g2 (by omega) g4)
      · rw [if_neg q]
        refine ih (i + 1) _ (by omega) (by omega) h1 h2 (fun c' j g1 g2 g3 g4 => ?_)
        by_cases e2 : c' = c ∧ j = i
        · exfalso
          obtain ⟨rfl, rfl⟩ := e2
          obtain ⟨q1, q2, q3⟩ := mbf_iff.mp g4
          exact q (mbf_iff.mpr ⟨q1, h1 c' g1 q2, q3⟩)
        · exact h3 c' j g1 g2 (by omega) g4
theorem lp_Md_below2 (l : Launch) (G : jm_G) {h : jm_H} {a : Nat} {s : MS} {N : Nat → Nat} {x : Nat} {bef : Int64} {n0 s0 d : Nat} {Post : jm_r → jm_H → Prop} (hd : 1 ≤ d) (hK : MdK h a) (hN : NcOK s N) (D : Nat → Prop) (hD : BClo s N x D) (kk : ∀ all, Sub64 bef all → (∀ j, j < 64 → bt all j = true → D j) → BPas s N bef all 64 0 → jm_X l G mm_Md_below n0 s0 (jm_zn G d n0 s0) Post 7 [(2, .long (all)), (4, .long (bef)), (0, .ref (a)), (1, .int (nI (x)))] [] (mdH h a s)) (t : Nat) : ∀ (c : Nat) (all : Int64), 64 - c < t → c ≤ 64 → Sub64 bef all → (∀ j, j < 64 → bt all j = true → D j) → BPas s N bef all c 0 → jm_X l G mm_Md_below n0 s0 (jm_zn G d n0 s0) Post 20 [(6, .int (nI (c))), (2, .long (all)), (4, .long (bef)), (0, .ref (a)), (1, .int (nI (x)))] [] (mdH h a s) := by
  induction t with
  | zero => intro c all hm; omega
  | succ t ih =>
    intro c all hm hc h1 h2 h3
    by_cases e : c = 64
    · subst e
      exact ou_Md_below l G hK (kk all h1 h2 h3)
    · refine in_Md_below l G hK (by omega) (lp_Md_below1 l G hd hK hN D hD (by omega) (fun all2 g1 g2 g3 => ih (c + 1) all2 (by omega) (by omega) g1 g2 g3) 65 0 all (by omega) (by omega) h1 h2 h3)
theorem lp_Md_below3 (l : Launch) (G : jm_G) {h : jm_H} {a : Nat} {s : MS} {N : Nat → Nat} {x : Nat} {n0 s0 d : Nat} {Post : jm_r → jm_H → Prop} (hd : 1 ≤ d) (hK : MdK h a) (hN : NcOK s N) (D : Nat → Prop) (hD : BClo s N x D) (all0 : Int64) (k1 : ∀ all, Sub64 all0 all → (∀ j, j < 64 → bt all j = true → D j) → BPas s N all all 64 0 → Post (.inl (some (.long all))) (mdH h a s)) (t : Nat) : ∀ (all bef : Int64), 64 - cnt (bt all) 64 < t → Sub64 all0 all → (∀ j, j < 64 → bt all j = true → D j) → (all = bef → BPas s N all all 64 0) → jm_X l G mm_Md_below n0 s0 (jm_zn G d n0 s0) Post 7 [(2, .long (all)), (4, .long (bef)), (0, .ref (a)), (1, .int (nI (x)))] [] (mdH h a s) := by
  induction t with
  | zero => intro all bef hm; omega
  | succ t ih =>
    intro all bef hm h0 h1 h2
    refine wh_Md_below l G hK (fun e => k1 all h0 h1 (h2 e)) (fun ne => ?_)
    refine lp_Md_below2 l G hd hK hN D hD (fun all2 g1 g2 g3 => ?_) 65 0 all (by omega) (by omega) (fun c _ q => q) h1 (fun c j _ _ g3 _ => by omega)
    by_cases e : all2 = all
    · subst e
      exact wh_Md_below l G hK (fun _ => k1 all2 h0 g2 g3) (fun ne2 => absurd rfl ne2)
    · have hlt := sub_ne g1 (fun q => e q.symm)
      have hle := cnt_le (bt all2) 64
      exact ih all2 all (by omega) (fun c hc hb => g1 c hc (h0 c hc hb)) g2 (fun q => absurd q e)
set_option maxHeartbeats 4000000 in
set_option maxRecDepth 100000 in
theorem c_Md_below (l : Launch) (G : jm_G) (d : Nat) (hd : 1 ≤ d) {h : jm_H} {a : Nat} {s : MS} {N : Nat → Nat} {x : Nat} (hK : MdK h a) (hN : NcOK s N) (hx : x < 64) : jm_CP l G mm_Md_below d [.ref a, .int (nI x)] (mdH h a s) (fun v h9 => ∃ all, v = some (.long all) ∧ h9 = mdH h a s ∧ ∀ c, c < 64 → (bt all c = true ↔ BelM s N x c)) := by
  refine jm_of (by decide) rfl (Nat.le_of_ble_eq_true rfl) ?_
  refine jx_lconst (v0 := 1) d_Md_below_0 (by decide) ?_
  refine jx_iload_n d_Md_below_1 1 rfl ?_
  refine jx_lshl d_Md_below_2 ?_
  refine jx_atl (show _ = bt1 (x) from rfl) ?_
  refine jx_lstore_n (lv' := [(2, .long ((bt1 (x)))), (0, .ref (a)), (1, .int (nI (x)))]) d_Md_below_3 (by decide) rfl ?_
  refine jx_lconst (v0 := 0) d_Md_below_4 (by decide) ?_
  refine jx_lstore (lv' := [(4, .long (0)), (2, .long ((bt1 (x)))), (0, .ref (a)), (1, .int (nI (x)))]) d_Md_below_5 (by decide) rfl ?_
  refine jx_lv [1, 0, 2, 3] rfl ?_
  exact lp_Md_below3 l G hd hK hN (BelM s N x) BelM.clo (bt1 x) (fun all g0 g1 g2 => ⟨_, rfl, all, rfl, rfl, fun c hc => ⟨g1 c hc, fun q => q (fun c => c < 64 → bt all c = true) ⟨fun _ => g0 x hx (by rw [bt_bt1 hx hx]; simp), fun c j hc1 hj hb t1 t2 _ => g2 c j hc1 hj (Or.inl hc1) (mbf_iff.mpr ⟨t1, hb hc1, t2⟩)⟩ hc⟩⟩) 66 _ 0 (by omega) (fun c _ q => q) (fun j hj hb => by rw [bt_bt1 hx hj, decide_eq_true_iff] at hb; rw [hb]; exact BelM.clo.1) (fun e => by have hb : bt (bt1 x) x = true := (by rw [bt_bt1 hx hx]; simp); rw [e, bt_zero] at hb; cases hb)
