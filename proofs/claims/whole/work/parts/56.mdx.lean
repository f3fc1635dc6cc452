set_option maxHeartbeats 4000000 in
set_option maxRecDepth 100000 in
theorem c_Md_settle (l : Launch) (G : jm_G) (d : Nat) (hd : 1 ≤ d) {h : jm_H} {a : Nat} {s : MS} {B : Nat → Int32} {n : Nat} {c : Cur} {k : Nat} {C : List Fr} {t : Term} {q : Nat} (hK : MdK h a) (hA : ASt s B n c k C t) (h1 : 1 ≤ q) (h3 : q ≤ 3) : jm_CP l G mm_Md_settle d [.ref a, .int (nI q)] (mdH h a s) (fun v h9 => v = none ∧ ∃ s', h9 = mdH h a s' ∧ ASt s' B n c k (stl q C t).1 (stl q C t).2 ∧ Fix s s') := by
  refine jm_of (by decide) rfl (Nat.le_of_ble_eq_true rfl) ?_
  refine lp_Md_settle l G hd hK h1 h3 (fun s9 C9 t9 => ASt s9 B n c k C9 t9 ∧ Fix s s9) (fun s9 C9 t9 q9 => q9.1.weak) (fun s9 f C9 t9 q9 hf => ⟨q9.1.neg hf, m_sneg_fix q9.2⟩) (fun s9 f C9 t9 q9 hf => ⟨q9.1.bin hf, m_sbin_fix q9.2⟩) C (t := t) ⟨hA, Fix.rf⟩ (fun {s'} hQ => ?_)
  exact jx_vret d_Md_settle_170 rfl ⟨_, rfl, rfl, s', rfl, hQ⟩
set_option maxHeartbeats 4000000 in
set_option maxRecDepth 100000 in
theorem c_Md_settleW (l : Launch) (G : jm_G) (d : Nat) (hd : 1 ≤ d) {h : jm_H} {a : Nat} {s : MS} {C : List Fr} {q : Nat} (hK : MdK h a) {nx : Nat} (hA : WSt s C nx) (h1 : 1 ≤ q) (h3 : q ≤ 3) : jm_CP l G mm_Md_settle d [.ref a, .int (nI q)] (mdH h a s) (fun v h9 => v = none ∧ ∃ s', h9 = mdH h a s' ∧ Fix s s' ∧ s'.1 3 = s.1 3 ∧ s'.1 4 = s.1 4) := by
  refine jm_of (by decide) rfl (Nat.le_of_ble_eq_true rfl) ?_
  refine lp_Md_settle l G hd hK h1 h3 (fun s9 C9 t9 => (∃ nx, WSt s9 C9 nx) ∧ Fix s s9 ∧ s9.1 3 = s.1 3 ∧ s9.1 4 = s.1 4) (fun s9 C9 t9 q9 => q9.1) (fun s9 f C9 t9 q9 hf => ⟨q9.1.elim fun nx hx => hx.neg hf, m_sneg_fix q9.2.1, q9.2.2⟩) (fun s9 f C9 t9 q9 hf => ⟨q9.1.elim fun nx hx => hx.bin hf, m_sbin_fix q9.2.1, q9.2.2⟩) C (t := .null) ⟨⟨nx, hA⟩, Fix.rf, rfl, rfl⟩ (fun {s'} hQ => ?_)
  exact jx_vret d_Md_settle_170 rfl ⟨_, rfl, rfl, s', rfl, hQ.2⟩
set_option maxHeartbeats 4000000 in
set_option maxRecDepth 100000 in
theorem c_Md_give0 (l : Launch) (G : jm_G) (d : Nat) {h : jm_H} {a : Nat} {s : MS} {C : List Fr} {f : Fr} (hK : MdK h a) (hw : s.1 35 = nI (C.length + 1)) (hp : s.1 37 = nI (lfts C + 1)) (hg : s.2.2.1 24 C.length = nI f.2.2.2.length) (hL : f.2.2.2.length = 0) (hw99 : C.length < 99) (hp99 : lfts C < 99) (hf40 : f.2.1 < 40) : jm_C l G mm_Md_give d [.ref a, .int (nI f.2.1)] (mdH h a s) none (mdH h a (m_give s f C)) := by
  refine jm_ofE (by decide) rfl (Nat.le_of_ble_eq_true rfl) ?_
  refine jx_aload_n d_Md_give_0 0 rfl ?_
  refine jx_get d_Md_give_1 fF_Md_81 (md_tg hK) (md_rr hK (k := 34) (j := 24) rfl rfl rfl) ?_
  refine jx_aload_n d_Md_give_4 0 rfl ?_
  refine jx_get d_Md_give_5 fF_Md_157 (md_tg hK) ((show (mdH h a s).2.2.2 a 35 = Value.int (s.1 35) from md_ri rfl).trans (congrArg Value.int hw)) ?_
  refine jx_iconst (v0 := 1) d_Md_give_8 (by decide) ?_
  refine jx_isub d_Md_give_9 ?_
  refine jx_ati (pk_sub (a := C.length + 1) (b := 1) (by omega)) ?_
  refine jx_iald d_Md_give_10 (md_ta hK (j := 24) rfl) rfl (jm_vinN (show (C.length + 1) - (1) < 100 by omega) (by decide)) (jm_atN (show (C.length + 1) - (1) < 2 ^ 31 by omega) ((show (mdH h a s).2.2.2 (a + 24) ((C.length + 1) - (1)) = Value.int (s.2.2.1 24 ((C.length + 1) - (1))) from md_rai (j := 24) (show (C.length + 1) - (1) < 100 by omega)).trans (congrArg Value.int (hg.trans (congrArg nI hL))))) ?_
  refine jx_istore_n (lv' := [(2, .int (nI 0)), (0, .ref (a)), (1, .int (nI (f.2.1)))]) d_Md_give_11 (by decide) rfl ?_
  refine jx_aload_n d_Md_give_12 1 rfl ?_
  refine jx_get d_Md_give_13 fF_Md_81 (md_tg hK) (md_rr hK (k := 34) (j := 24) rfl rfl rfl) ?_
  refine jx_aload_n d_Md_give_16 1 rfl ?_
  refine jx_get d_Md_give_17 fF_Md_157 (md_tg hK) ((show (mdH h a s).2.2.2 a 35 = Value.int (s.1 35) from md_ri rfl).trans (congrArg Value.int hw)) ?_
  refine jx_iconst (v0 := 1) d_Md_give_20 (by decide) ?_
  refine jx_isub d_Md_give_21 ?_
  refine jx_ati (pk_sub (a := C.length + 1) (b := 1) (by omega)) ?_
  refine jx_dup2_11 d_Md_give_22 rfl rfl ?_
  refine jx_iald d_Md_give_23 (md_ta hK (j := 24) rfl) rfl (jm_vinN (show (C.length + 1) - (1) < 100 by omega) (by decide)) (jm_atN (show (C.length + 1) - (1) < 2 ^ 31 by omega) ((show (mdH h a s).2.2.2 (a + 24) ((C.length + 1) - (1)) = Value.int (s.2.2.1 24 ((C.length + 1) - (1))) from md_rai (j := 24) (show (C.length + 1) - (1) < 100 by omega)).trans (congrArg Value.int (hg.trans (congrArg nI hL))))) ?_
  refine jx_iconst (v0 := 1) d_Md_give_24 (by decide) ?_
  refine jx_iadd d_Md_give_25 ?_
  refine jx_ati (nI_add (0) (1)) ?_
  refine jx_iast d_Md_give_26 (md_ta hK (j := 24) rfl) rfl (jm_vinN (show (C.length + 1) - (1) < 100 by omega) (by decide)) ?_
  refine jx_ath ((jm_putN (show (C.length + 1) - (1) < 2 ^ 31 by omega)).trans (md_wai (j := 24) (show (C.length + 1) - (1) < 100 by omega))) ?_
  refine jx_aload_n d_Md_give_27 1 rfl ?_
  refine jx_dup d_Md_give_28 rfl ?_
  refine jx_get d_Md_give_29 fF_Md_166 (md_tg hK) ((show (mdH h a (mai s 24 ((C.length + 1) - (1)) (nI ((0) + (1))))).2.2.2 a 37 = Value.int (s.1 37) from md_ri rfl).trans (congrArg Value.int hp)) ?_
  refine jx_iconst (v0 := 1) d_Md_give_32 (by decide) ?_
  refine jx_isub d_Md_give_33 ?_
  refine jx_ati (pk_sub (a := lfts C + 1) (b := 1) (by omega)) ?_
  refine jx_put (v0 := .int (nI ((lfts C + 1) - (1)))) d_Md_give_34 fF_Md_166 jv_Md ft_Md_partCount (md_tg hK) rfl rfl ?_
  refine jx_ath (md_wi (k := 37) rfl) ?_
  refine jx_iload_n d_Md_give_37 0 rfl ?_
  refine jx_if_ne (tgt := 59) d_Md_give_38 (by decide) (fun c1 => absurd c1 (by decide)) (fun c1 => ?_)
  refine jx_aload_n d_Md_give_41 1 rfl ?_
  refine jx_get d_Md_give_42 fF_Md_63 (md_tg hK) (md_rr hK (k := 27) (j := 18) rfl rfl rfl) ?_
  refine jx_iload_n d_Md_give_45 2 rfl ?_
  refine jx_aload_n d_Md_give_46 1 rfl ?_
  refine jx_get d_Md_give_47 fF_Md_84 (md_tg hK) (md_rr hK (k := 36) (j := 25) rfl rfl rfl) ?_
  refine jx_aload_n d_Md_give_50 1 rfl ?_
  refine jx_get d_Md_give_51 fF_Md_166 (md_tg hK) (show (mdH h a (mi (mai s 24 ((C.length + 1) - (1)) (nI ((0) + (1)))) 37 (nI ((lfts C + 1) - (1))))).2.2.2 a 37 = Value.int (nI ((lfts C + 1) - (1))) from md_ri rfl) ?_
  refine jx_iald d_Md_give_54 (md_ta hK (j := 25) rfl) rfl (jm_vinN (show (lfts C + 1) - (1) < 100 by omega) (by decide)) (jm_atN (show (lfts C + 1) - (1) < 2 ^ 31 by omega) (show (mdH h a (mi (mai s 24 ((C.length + 1) - (1)) (nI ((0) + (1)))) 37 (nI ((lfts C + 1) - (1))))).2.2.2 (a + 25) ((lfts C + 1) - (1)) = Value.int (s.2.2.1 25 ((lfts C + 1) - (1))) from md_rai (j := 25) (show (lfts C + 1) - (1) < 100 by omega))) ?_
  refine jx_iast d_Md_give_55 (md_ta hK (j := 18) rfl) rfl (jm_vinN (show f.2.1 < 40 by omega) (by decide)) ?_
  refine jx_ath ((jm_putN (show f.2.1 < 2 ^ 31 by omega)).trans (md_wai (j := 18) (show f.2.1 < 40 by omega))) ?_
  refine jx_goto (tgt := 97) d_Md_give_56 (by decide) ?_
  exact jx_vret d_Md_give_97 rfl (⟨rfl, congrArg (mdH h a) (by unfold m_give; rw [hL]; rfl)⟩)
set_option maxHeartbeats 4000000 in
set_option maxRecDepth 100000 in
theorem c_Md_give1 (l : Launch) (G : jm_G) (d : Nat) {h : jm_H} {a : Nat} {s : MS} {C : List Fr} {f : Fr} (hK : MdK h a) (hw : s.1 35 = nI (C.length + 1)) (hp : s.1 37 = nI (lfts C + 1)) (hg : s.2.2.1 24 C.length = nI f.2.2.2.length) (hL : f.2.2.2.length = 1) (hw99 : C.length < 99) (hp99 : lfts C < 99) (hf40 : f.2.1 < 40) : jm_C l G mm_Md_give d [.ref a, .int (nI f.2.1)] (mdH h a s) none (mdH h a (m_give s f C)) := by
  refine jm_ofE (by decide) rfl (Nat.le_of_ble_eq_true rfl) ?_
  refine jx_aload_n d_Md_give_0 0 rfl ?_
  refine jx_get d_Md_give_1 fF_Md_81 (md_tg hK) (md_rr hK (k := 34) (j := 24) rfl rfl rfl) ?_
  refine jx_aload_n d_Md_give_4 0 rfl ?_
  refine jx_get d_Md_give_5 fF_Md_157 (md_tg hK) ((show (mdH h a s).2.2.2 a 35 = Value.int (s.1 35) from md_ri rfl).trans (congrArg Value.int hw)) ?_
  refine jx_iconst (v0 := 1) d_Md_give_8 (by decide) ?_
  refine jx_isub d_Md_give_9 ?_
  refine jx_ati (pk_sub (a := C.length + 1) (b := 1) (by omega)) ?_
  refine jx_iald d_Md_give_10 (md_ta hK (j := 24) rfl) rfl (jm_vinN (show (C.length + 1) - (1) < 100 by omega) (by decide)) (jm_atN (show (C.length + 1) - (1) < 2 ^ 31 by omega) ((show (mdH h a s).2.2.2 (a + 24) ((C.length + 1) - (1)) = Value.int (s.2.2.1 24 ((C.length + 1) - (1))) from md_rai (j := 24) (show (C.length + 1) - (1) < 100 by omega)).trans (congrArg Value.int (hg.trans (congrArg nI hL))))) ?_
  refine jx_istore_n (lv' := [(2, .int (nI 1)), (0, .ref (a)), (1, .int (nI (f.2.1)))]) d_Md_give_11 (by decide) rfl ?_
  refine jx_aload_n d_Md_give_12 1 rfl ?_
  refine jx_get d_Md_give_13 fF_Md_81 (md_tg hK) (md_rr hK (k := 34) (j := 24) rfl rfl rfl) ?_
  refine jx_aload_n d_Md_give_16 1 rfl ?_
  refine jx_get d_Md_give_17 fF_Md_157 (md_tg hK) ((show (mdH h a s).2.2.2 a 35 = Value.int (s.1 35) from md_ri rfl).trans (congrArg Value.int hw)) ?_
  refine jx_iconst (v0 := 1) d_Md_give_20 (by decide) ?_
  refine jx_isub d_Md_give_21 ?_
  refine jx_ati (pk_sub (a := C.length + 1) (b := 1) (by omega)) ?_
  refine jx_dup2_11 d_Md_give_22 rfl rfl ?_
  refine jx_iald d_Md_give_23 (md_ta hK (j := 24) rfl) rfl (jm_vinN (show (C.length + 1) - (1) < 100 by omega) (by decide)) (jm_atN (show (C.length + 1) - (1) < 2 ^ 31 by omega) ((show (mdH h a s).2.2.2 (a + 24) ((C.length + 1) - (1)) = Value.int (s.2.2.1 24 ((C.length + 1) - (1))) from md_rai (j := 24) (show (C.length + 1) - (1) < 100 by omega)).trans (congrArg Value.int (hg.trans (congrArg nI hL))))) ?_
  refine jx_iconst (v0 := 1) d_Md_give_24 (by decide) ?_
  refine jx_iadd d_Md_give_25 ?_
  refine jx_ati (nI_add (1) (1)) ?_
  refine jx_iast d_Md_give_26 (md_ta hK (j := 24) rfl) rfl (jm_vinN (show (C.length + 1) - (1) < 100 by omega) (by decide)) ?_
  refine jx_ath ((jm_putN (show (C.length + 1) - (1) < 2 ^ 31 by omega)).trans (md_wai (j := 24) (show (C.length + 1) - (1) < 100 by omega))) ?_
  refine jx_aload_n d_Md_give_27 1 rfl ?_
  refine jx_dup d_Md_give_28 rfl ?_
  refine jx_get d_Md_give_29 fF_Md_166 (md_tg hK) ((show (mdH h a (mai s 24 ((C.length + 1) - (1)) (nI ((1) + (1))))).2.2.2 a 37 = Value.int (s.1 37) from md_ri rfl).trans (congrArg Value.int hp)) ?_
  refine jx_iconst (v0 := 1) d_Md_give_32 (by decide) ?_
  refine jx_isub d_Md_give_33 ?_
  refine jx_ati (pk_sub (a := lfts C + 1) (b := 1) (by omega)) ?_
  refine jx_put (v0 := .int (nI ((lfts C + 1) - (1)))) d_Md_give_34 fF_Md_166 jv_Md ft_Md_partCount (md_tg hK) rfl rfl ?_
  refine jx_ath (md_wi (k := 37) rfl) ?_
  refine jx_iload_n d_Md_give_37 0 rfl ?_
  refine jx_if_ne (tgt := 59) d_Md_give_38 (by decide) (fun c1 => ?_) (fun c1 => absurd c1 (by decide))
  refine jx_iload_n d_Md_give_59 0 rfl ?_
  refine jx_iconst (v0 := 1) d_Md_give_60 (by decide) ?_
  refine jx_icmp_ne (tgt := 82) d_Md_give_61 (by decide) (fun c2 => absurd c2 (by decide)) (fun c2 => ?_)
  refine jx_aload_n d_Md_give_64 1 rfl ?_
  refine jx_get d_Md_give_65 fF_Md_66 (md_tg hK) (md_rr hK (k := 28) (j := 19) rfl rfl rfl) ?_
  refine jx_iload_n d_Md_give_68 2 rfl ?_
  refine jx_aload_n d_Md_give_69 1 rfl ?_
  refine jx_get d_Md_give_70 fF_Md_84 (md_tg hK) (md_rr hK (k := 36) (j := 25) rfl rfl rfl) ?_
  refine jx_aload_n d_Md_give_73 1 rfl ?_
  refine jx_get d_Md_give_74 fF_Md_166 (md_tg hK) (show (mdH h a (mi (mai s 24 ((C.length + 1) - (1)) (nI ((1) + (1)))) 37 (nI ((lfts C + 1) - (1))))).2.2.2 a 37 = Value.int (nI ((lfts C + 1) - (1))) from md_ri rfl) ?_
  refine jx_iald d_Md_give_77 (md_ta hK (j := 25) rfl) rfl (jm_vinN (show (lfts C + 1) - (1) < 100 by omega) (by decide)) (jm_atN (show (lfts C + 1) - (1) < 2 ^ 31 by omega) (show (mdH h a (mi (mai s 24 ((C.length + 1) - (1)) (nI ((1) + (1)))) 37 (nI ((lfts C + 1) - (1))))).2.2.2 (a + 25) ((lfts C + 1) - (1)) = Value.int (s.2.2.1 25 ((lfts C + 1) - (1))) from md_rai (j := 25) (show (lfts C + 1) - (1) < 100 by omega))) ?_
  refine jx_iast d_Md_give_78 (md_ta hK (j := 19) rfl) rfl (jm_vinN (show f.2.1 < 40 by omega) (by decide)) ?_
  refine jx_ath ((jm_putN (show f.2.1 < 2 ^ 31 by omega)).trans (md_wai (j := 19) (show f.2.1 < 40 by omega))) ?_
  refine jx_goto (tgt := 97) d_Md_give_79 (by decide) ?_
  exact jx_vret d_Md_give_97 rfl (⟨rfl, congrArg (mdH h a) (by unfold m_give; rw [hL]; rfl)⟩)
set_option maxHeartbeats 4000000 in
set_option maxRecDepth 100000 in
theorem c_Md_give2 (l : Launch) (G : jm_G) (d : Nat) {h : jm_H} {a : Nat} {s : MS} {C : List Fr} {f : Fr} (hK : MdK h a) (hw : s.1 35 = nI (C.length + 1)) (hp : s.1 37 = nI (lfts C + 1)) (hg : s.2.2.1 24 C.length = nI f.2.2.2.length) (hL : f.2.2.2.length = 2) (hw99 : C.length < 99) (hp99 : lfts C < 99) (hf40 : f.2.1 < 40) : jm_C l G mm_Md_give d [.ref a, .int (nI f.2.1)] (mdH h a s) none (mdH h a (m_give s f C)) := by
  refine jm_ofE (by decide) rfl (Nat.le_of_ble_eq_true rfl) ?_
  refine jx_aload_n d_Md_give_0 0 rfl ?_
  refine jx_get d_Md_give_1 fF_Md_81 (md_tg hK) (md_rr hK (k := 34) (j := 24) rfl rfl rfl) ?_
  refine jx_aload_n d_Md_give_4 0 rfl ?_
  refine jx_get d_Md_give_5 fF_Md_157 (md_tg hK) ((show (mdH h a s).2.2.2 a 35 = Value.int (s.1 35) from md_ri rfl).trans (congrArg Value.int hw)) ?_
  refine jx_iconst (v0 := 1) d_Md_give_8 (by decide) ?_
  refine jx_isub d_Md_give_9 ?_
  refine jx_ati (pk_sub (a := C.length + 1) (b := 1) (by omega)) ?_
  refine jx_iald d_Md_give_10 (md_ta hK (j := 24) rfl) rfl (jm_vinN (show (C.length + 1) - (1) < 100 by omega) (by decide)) (jm_atN (show (C.length + 1) - (1) < 2 ^ 31 by omega) ((show (mdH h a s).2.2.2 (a + 24) ((C.length + 1) - (1)) = Value.int (s.2.2.1 24 ((C.length + 1) - (1))) from md_rai (j := 24) (show (C.length + 1) - (1) < 100 by omega)).trans (congrArg Value.int (hg.trans (congrArg nI hL))))) ?_
  refine jx_istore_n (lv' := [(2, .int (nI 2)), (0, .ref (a)), (1, .int (nI (f.2.1)))]) d_Md_give_11 (by decide) rfl ?_
  refine jx_aload_n d_Md_give_12 1 rfl ?_
  refine jx_get d_Md_give_13 fF_Md_81 (md_tg hK) (md_rr hK (k := 34) (j := 24) rfl rfl rfl) ?_
  refine jx_aload_n d_Md_give_16 1 rfl ?_
  refine jx_get d_Md_give_17 fF_Md_157 (md_tg hK) ((show (mdH h a s).2.2.2 a 35 = Value.int (s.1 35) from md_ri rfl).trans (congrArg Value.int hw)) ?_
  refine jx_iconst (v0 := 1) d_Md_give_20 (by decide) ?_
  refine jx_isub d_Md_give_21 ?_
  refine jx_ati (pk_sub (a := C.length + 1) (b := 1) (by omega)) ?_
  refine jx_dup2_11 d_Md_give_22 rfl rfl ?_
  refine jx_iald d_Md_give_23 (md_ta hK (j := 24) rfl) rfl (jm_vinN (show (C.length + 1) - (1) < 100 by omega) (by decide)) (jm_atN (show (C.length + 1) - (1) < 2 ^ 31 by omega) ((show (mdH h a s).2.2.2 (a + 24) ((C.length + 1) - (1)) = Value.int (s.2.2.1 24 ((C.length + 1) - (1))) from md_rai (j := 24) (show (C.length + 1) - (1) < 100 by omega)).trans (congrArg Value.int (hg.trans (congrArg nI hL))))) ?_
  refine jx_iconst (v0 := 1) d_Md_give_24 (by decide) ?_
  refine jx_iadd d_Md_give_25 ?_
  refine jx_ati (nI_add (2) (1)) ?_
  refine jx_iast d_Md_give_26 (md_ta hK (j := 24) rfl) rfl (jm_vinN (show (C.length + 1) - (1) < 100 by omega) (by decide)) ?_
  refine jx_ath ((jm_putN (show (C.length + 1) - (1) < 2 ^ 31 by omega)).trans (md_wai (j := 24) (show (C.length + 1) - (1) < 100 by omega))) ?_
  refine jx_aload_n d_Md_give_27 1 rfl ?_
  refine jx_dup d_Md_give_28 rfl ?_
  refine jx_get d_Md_give_29 fF_Md_166 (md_tg hK) ((show (mdH h a (mai s 24 ((C.length + 1) - (1)) (nI ((2) + (1))))).2.2.2 a 37 = Value.int (s.1 37) from md_ri rfl).trans (congrArg Value.int hp)) ?_
  refine jx_iconst (v0 := 1) d_Md_give_32 (by decide) ?_
  refine jx_isub d_Md_give_33 ?_
  refine jx_ati (pk_sub (a := lfts C + 1) (b := 1) (by omega)) ?_
  refine jx_put (v0 := .int (nI ((lfts C + 1) - (1)))) d_Md_give_34 fF_Md_166 jv_Md ft_Md_partCount (md_tg hK) rfl rfl ?_
  refine jx_ath (md_wi (k := 37) rfl) ?_
  refine jx_iload_n d_Md_give_37 0 rfl ?_
  refine jx_if_ne (tgt := 59) d_Md_give_38 (by decide) (fun c1 => ?_) (fun c1 => absurd c1 (by decide))
  refine jx_iload_n d_Md_give_59 0 rfl ?_
  refine jx_iconst (v0 := 1) d_Md_give_60 (by decide) ?_
  refine jx_icmp_ne (tgt := 82) d_Md_give_61 (by decide) (fun c2 => ?_) (fun c2 => absurd c2 (by decide))
  refine jx_aload_n d_Md_give_82 1 rfl ?_
  refine jx_get d_Md_give_83 fF_Md_69 (md_tg hK) (md_rr hK (k := 29) (j := 20) rfl rfl rfl) ?_
  refine jx_iload_n d_Md_give_86 2 rfl ?_
  refine jx_aload_n d_Md_give_87 1 rfl ?_
  refine jx_get d_Md_give_88 fF_Md_84 (md_tg hK) (md_rr hK (k := 36) (j := 25) rfl rfl rfl) ?_
  refine jx_aload_n d_Md_give_91 1 rfl ?_
  refine jx_get d_Md_give_92 fF_Md_166 (md_tg hK) (show (mdH h a (mi (mai s 24 ((C.length + 1) - (1)) (nI ((2) + (1)))) 37 (nI ((lfts C + 1) - (1))))).2.2.2 a 37 = Value.int (nI ((lfts C + 1) - (1))) from md_ri rfl) ?_
  refine jx_iald d_Md_give_95 (md_ta hK (j := 25) rfl) rfl (jm_vinN (show (lfts C + 1) - (1) < 100 by omega) (by decide)) (jm_atN (show (lfts C + 1) - (1) < 2 ^ 31 by omega) (show (mdH h a (mi (mai s 24 ((C.length + 1) - (1)) (nI ((2) + (1)))) 37 (nI ((lfts C + 1) - (1))))).2.2.2 (a + 25) ((lfts C + 1) - (1)) = Value.int (s.2.2.1 25 ((lfts C + 1) - (1))) from md_rai (j := 25) (show (lfts C + 1) - (1) < 100 by omega))) ?_
  refine jx_iast d_Md_give_96 (md_ta hK (j := 20) rfl) rfl (jm_vinN (show f.2.1 < 40 by omega) (by decide)) ?_
  refine jx_ath ((jm_putN (show f.2.1 < 2 ^ 31 by omega)).trans (md_wai (j := 20) (show f.2.1 < 40 by omega))) ?_
  exact jx_vret d_Md_give_97 rfl (⟨rfl, congrArg (mdH h a) (by unfold m_give; rw [hL]; rfl)⟩)
theorem c_Md_give (l : Launch) (G : jm_G) (d : Nat) {h : jm_H} {a : Nat} {s : MS} {C : List Fr} {f : Fr} (hK : MdK h a) (hw : s.1 35 = nI (C.length + 1)) (hp : s.1 37 = nI (lfts C + 1)) (hg : s.2.2.1 24 C.length = nI f.2.2.2.length) (hL : f.2.2.2.length ≤ 2) (hw99 : C.length < 99) (hp99 : lfts C < 99) (hf40 : f.2.1 < 40) : jm_C l G mm_Md_give d [.ref a, .int (nI f.2.1)] (mdH h a s) none (mdH h a (m_give s f C)) := by
  by_cases e0 : f.2.2.2.length = 0
  · exact c_Md_give0 l G d hK hw hp hg e0 hw99 hp99 hf40
  · by_cases e1 : f.2.2.2.length = 1
    · exact c_Md_give1 l G d hK hw hp hg e1 hw99 hp99 hf40
    · exact c_Md_give2 l G d hK hw hp hg (by omega) hw99 hp99 hf40
theorem m_nx_k {s : MS} {B : Nat → Int32} {n p k : Nat} (hk : k ≠ 22 ∧ k ≠ 23 ∧ k ≠ 24) : (m_nx s B n p).1 k = s.1 k := by
  simp only [m_nx, mi, ml, jm_up]
  rw [if_neg hk.2.2, if_neg hk.2.1, if_neg hk.1]
theorem m_await_4 {s : MS} {w : Nat} {nd v u x : Int32} : (m_await (mi (mi (mi s 3 u) 4 v) 38 x) w nd).1 4 = v := rfl
set_option maxHeartbeats 4000000 in
set_option maxRecDepth 100000 in
theorem c_Md_part_num (l : Launch) (G : jm_G) (d : Nat) (hd : 3 ≤ d) {h : jm_H} {a : Nat} {s : MS} {B : Nat → Int32} {n : Nat} {c : Cur} {k : Nat} {C : List Fr} (hK : MdK h a) (hB : BSt s B n c k C) (hk4 : k < 40) (e : c.1 = 3) : jm_CP l G mm_Md_part d [.ref a] (mdH h a s) (fun v h9 => v = some (.int 1) ∧ ∃ s', h9 = mdH h a s' ∧ ASt s' B n (cu_adv B n c) (k + 1) (stl 3 C (.long c.2.2.2.2.toInt64)).1 (stl 3 C (.long c.2.2.2.2.toInt64)).2 ∧ Fix s s') := by
  obtain ⟨⟨hT, hM, hc, hk, hk40, hdp, hd20, hw, hz⟩, hp, hX⟩ := id hB
  have hlf := hX.lf
  have hld := lfts_dpt C
  have hA1 := hB.leaf (t := .long c.2.2.2.2.toInt64) hk4 (Or.inl ⟨e, rfl⟩)
  rw [hM.2.2.1, e] at hA1
  have hA1 : ASt (m_nx (m_push (m_node s k 0 (s.2.1 25)) (lfts C) (nI k)) B n c.2.2.1) B n (cu_adv B n c) (k + 1) C (.long c.2.2.2.2.toInt64) := hA1
  refine jm_of (by decide) rfl (Nat.le_of_ble_eq_true rfl) ?_
  refine jx_aload_n d_Md_part_0 0 rfl ?_
  refine jx_get d_Md_part_1 fF_Md_117 (md_tg hK) ((show (mdH h a s).2.2.2 a 24 = Value.int (s.1 24) from md_ri rfl).trans (congrArg Value.int (hM.2.2.1.trans (show mkd c.1 = 0 by rw [e]; first | done | rfl)))) ?_
  refine jx_if_eq (tgt := 15) d_Md_part_4 (by decide) (fun c1 => ?_) (fun c1 => absurd c1 (by decide))
  refine jx_aload_n d_Md_part_15 0 rfl ?_
  refine jx_get d_Md_part_16 fF_Md_84 (md_tg hK) (md_rr hK (k := 36) (j := 25) rfl rfl rfl) ?_
  refine jx_aload_n d_Md_part_19 0 rfl ?_
  refine jx_get d_Md_part_20 fF_Md_166 (md_tg hK) ((show (mdH h a s).2.2.2 a 37 = Value.int (s.1 37) from md_ri rfl).trans (congrArg Value.int hp)) ?_
  refine jx_aload_n d_Md_part_23 0 rfl ?_
  refine jx_aload_n d_Md_part_24 0 rfl ?_
  refine jx_get d_Md_part_25 fF_Md_117 (md_tg hK) ((show (mdH h a s).2.2.2 a 24 = Value.int (s.1 24) from md_ri rfl).trans (congrArg Value.int (hM.2.2.1.trans (show mkd c.1 = 0 by rw [e]; first | done | rfl)))) ?_
  refine jx_aload_n d_Md_part_28 0 rfl ?_
  refine jx_get d_Md_part_29 fF_Md_123 (md_tg hK) (show (mdH h a s).2.2.2 a 25 = Value.long (s.2.1 25) from md_rl rfl) ?_
  refine jx_callV (M2 := mm_Md_newNode) rfl (md_tg hK) lk_Md_172 wi_Md_newNode ws_Md_newNode d_Md_part_32 (c_Md_newNode l G (d - 1) (s := s) (k := k) (kd := 0) (amt := s.2.1 25) hK hk (by omega)) cd_Md_newNode rfl rfl (Nat.le_of_ble_eq_true rfl) (jm_fok (by omega)) (jm_look (by decide) (by omega)) ?_
  refine jx_iast d_Md_part_35 (md_ta hK (j := 25) rfl) rfl (jm_vinN (show lfts C < 100 by omega) (by decide)) ?_
  refine jx_ath ((jm_putN (show lfts C < 2 ^ 31 by omega)).trans (md_wai (j := 25) (show lfts C < 100 by omega))) ?_
  refine jx_aload_n d_Md_part_36 0 rfl ?_
  refine jx_dup d_Md_part_37 rfl ?_
  refine jx_get d_Md_part_38 fF_Md_166 (md_tg hK) ((show (mdH h a (mai (m_node s k 0 (s.2.1 25)) 25 (lfts C) (nI (k)))).2.2.2 a 37 = Value.int ((m_node s k 0 (s.2.1 25)).1 37) from md_ri rfl).trans (congrArg Value.int hp)) ?_
  refine jx_iconst (v0 := 1) d_Md_part_41 (by decide) ?_
  refine jx_iadd d_Md_part_42 ?_
  refine jx_ati (nI_add (lfts C) (1)) ?_
  refine jx_put (v0 := .int (nI ((lfts C) + (1)))) d_Md_part_43 fF_Md_166 jv_Md ft_Md_partCount (md_tg hK) rfl rfl ?_
  refine jx_ath (md_wi (k := 37) rfl) ?_
  refine jx_aload_n d_Md_part_46 0 rfl ?_
  refine jx_callV (M2 := mm_Md_next) rfl (md_tg hK) lk_Md_176 wi_Md_next ws_Md_next d_Md_part_47 (c_Md_next l G (d - 1) (by omega) (s := (mi (mai (m_node s k 0 (s.2.1 25)) 25 (lfts C) (nI (k))) 37 (nI ((lfts C) + (1))))) (B := B) (n := n) (p := (c).2.2.1) hK hT hM.1 hc) cd_Md_next rfl rfl (Nat.le_of_ble_eq_true rfl) (jm_fok (by omega)) (jm_look (by decide) (by omega)) ?_
  refine jx_aload_n d_Md_part_50 0 rfl ?_
  refine jx_iconst (v0 := 3) d_Md_part_51 (by decide) ?_
  obtain ⟨vs1, gs1, hCs1, rfl, s1, rfl, hAs1, hFs1⟩ := c_Md_settle l G (d - 1) (by omega) (h := h) (a := a) (q := 3) hK hA1 (by decide) (by decide)
  refine jx_callV (M2 := mm_Md_settle) rfl (md_tg hK) lk_Md_179 wi_Md_settle ws_Md_settle d_Md_part_52 hCs1 cd_Md_settle rfl rfl (Nat.le_of_ble_eq_true rfl) (jm_fok (by omega)) (jm_look (by decide) (by omega)) ?_
  refine jx_iconst (v0 := 1) d_Md_part_55 (by decide) ?_
  exact jx_zret d_Md_part_56 rfl (by first | rfl | decide) (⟨_, rfl, rfl, s1, rfl, hAs1, (Fix.rf.node.push.nx).trans hFs1⟩)
set_option maxHeartbeats 4000000 in
set_option maxRecDepth 100000 in
theorem c_Md_part_numF (l : Launch) (G : jm_G) (d : Nat) (hd : 3 ≤ d) {h : jm_H} {a : Nat} {s : MS} {B : Nat → Int32} {n : Nat} {c : Cur} {k : Nat} {C : List Fr} (hK : MdK h a) (hB : BSt s B n c k C) (hk4 : k = 40) (e : c.1 = 3) : jm_CP l G mm_Md_part d [.ref a] (mdH h a s) (fun v h9 => v = some (.int 1) ∧ ∃ s', h9 = mdH h a s' ∧ Flo s s' 3 (nI c.2.1)) := by
  obtain ⟨⟨hT, hM, hc, hk, hk40, hdp, hd20, hw, hz⟩, hp, hX⟩ := id hB
  have hlf := hX.lf
  have hld := lfts_dpt C
  refine jm_of (by decide) rfl (Nat.le_of_ble_eq_true rfl) ?_
  refine jx_aload_n d_Md_part_0 0 rfl ?_
  refine jx_get d_Md_part_1 fF_Md_117 (md_tg hK) ((show (mdH h a s).2.2.2 a 24 = Value.int (s.1 24) from md_ri rfl).trans (congrArg Value.int (hM.2.2.1.trans (show mkd c.1 = 0 by rw [e]; first | done | rfl)))) ?_
  refine jx_if_eq (tgt := 15) d_Md_part_4 (by decide) (fun c1 => ?_) (fun c1 => absurd c1 (by decide))
  refine jx_aload_n d_Md_part_15 0 rfl ?_
  refine jx_get d_Md_part_16 fF_Md_84 (md_tg hK) (md_rr hK (k := 36) (j := 25) rfl rfl rfl) ?_
  refine jx_aload_n d_Md_part_19 0 rfl ?_
  refine jx_get d_Md_part_20 fF_Md_166 (md_tg hK) ((show (mdH h a s).2.2.2 a 37 = Value.int (s.1 37) from md_ri rfl).trans (congrArg Value.int hp)) ?_
  refine jx_aload_n d_Md_part_23 0 rfl ?_
  refine jx_aload_n d_Md_part_24 0 rfl ?_
  refine jx_get d_Md_part_25 fF_Md_117 (md_tg hK) ((show (mdH h a s).2.2.2 a 24 = Value.int (s.1 24) from md_ri rfl).trans (congrArg Value.int (hM.2.2.1.trans (show mkd c.1 = 0 by rw [e]; first | done | rfl)))) ?_
  refine jx_aload_n d_Md_part_28 0 rfl ?_
  refine jx_get d_Md_part_29 fF_Md_123 (md_tg hK) (show (mdH h a s).2.2.2 a 25 = Value.long (s.2.1 25) from md_rl rfl) ?_
  have ef : m_fail s 3 (s.1 23) = mi (mi s 3 3) 4 (s.1 23) := m_fail_of hz
  have hnd := (c_Md_newNode_full l G (d - 1) (by omega) (s := s) (k := k) (kd := 0) (amt := s.2.1 25) hK hk (by omega))
  rw [ef] at hnd
  refine jx_callV (M2 := mm_Md_newNode) rfl (md_tg hK) lk_Md_172 wi_Md_newNode ws_Md_newNode d_Md_part_32 hnd cd_Md_newNode rfl rfl (Nat.le_of_ble_eq_true rfl) (jm_fok (by omega)) (jm_look (by decide) (by omega)) ?_
  refine jx_iast d_Md_part_35 (md_ta hK (j := 25) rfl) rfl (jm_vinN (show lfts C < 100 by omega) (by decide)) ?_
  refine jx_ath ((jm_putN (show lfts C < 2 ^ 31 by omega)).trans (md_wai (j := 25) (show lfts C < 100 by omega))) ?_
  refine jx_aload_n d_Md_part_36 0 rfl ?_
  refine jx_dup d_Md_part_37 rfl ?_
  refine jx_get d_Md_part_38 fF_Md_166 (md_tg hK) ((show (mdH h a (mai (mi (mi s 3 3) 4 (s.1 23)) 25 (lfts C) 0)).2.2.2 a 37 = Value.int ((mi (mi s 3 3) 4 (s.1 23)).1 37) from md_ri rfl).trans (congrArg Value.int hp)) ?_
  refine jx_iconst (v0 := 1) d_Md_part_41 (by decide) ?_
  refine jx_iadd d_Md_part_42 ?_
  refine jx_ati (nI_add (lfts C) (1)) ?_
  refine jx_put (v0 := .int (nI ((lfts C) + (1)))) d_Md_part_43 fF_Md_166 jv_Md ft_Md_partCount (md_tg hK) rfl rfl ?_
  refine jx_ath (md_wi (k := 37) rfl) ?_
  refine jx_aload_n d_Md_part_46 0 rfl ?_
  refine jx_callV (M2 := mm_Md_next) rfl (md_tg hK) lk_Md_176 wi_Md_next ws_Md_next d_Md_part_47 (c_Md_next l G (d - 1) (by omega) (s := (mi (mai (mi (mi s 3 3) 4 (s.1 23)) 25 (lfts C) 0) 37 (nI ((lfts C) + (1))))) (B := B) (n := n) (p := (c).2.2.1) hK hT hM.1 hc) cd_Md_next rfl rfl (Nat.le_of_ble_eq_true rfl) (jm_fok (by omega)) (jm_look (by decide) (by omega)) ?_
  refine jx_aload_n d_Md_part_50 0 rfl ?_
  refine jx_iconst (v0 := 3) d_Md_part_51 (by decide) ?_
  obtain ⟨v1, g1, hC1, rfl, s1, rfl, hF1, hf3, hf4⟩ := c_Md_settleW l G (d - 1) (by omega) (h := h) (a := a) (s := (m_nx (mi (mai (mi (mi s 3 3) 4 (s.1 23)) 25 (lfts C) 0) 37 (nI ((lfts C) + (1)))) B n (c).2.2.1)) (C := C) (q := 3) (nx := k) hK ⟨hw, rfl, hdp, hd20, hk40, hX.same (fun j q1 q2 => ⟨rfl, rfl, rfl, rfl, rfl, rfl⟩) ⟨fun j hj => ⟨rfl, rfl⟩, fun j hj => by simp [m_nx, mai, mi, ml, jm_up, Nat.ne_of_lt hj]⟩⟩ (by decide) (by decide)
  refine jx_callV (M2 := mm_Md_settle) rfl (md_tg hK) lk_Md_179 wi_Md_settle ws_Md_settle d_Md_part_52 hC1 cd_Md_settle rfl rfl (Nat.le_of_ble_eq_true rfl) (jm_fok (by omega)) (jm_look (by decide) (by omega)) ?_
  refine jx_iconst (v0 := 1) d_Md_part_55 (by decide) ?_
  exact jx_zret d_Md_part_56 rfl (by first | rfl | decide) (⟨_, rfl, rfl, s1, rfl, hf3, hf4.trans hM.2.1, Fix.trans (Fix.nx (((Fix.mai ((Fix.rf.mi (by decide)).mi (by decide)) (by decide)).mi (by decide)))) hF1⟩)
set_option maxHeartbeats 4000000 in
set_option maxRecDepth 100000 in
theorem c_Md_part_nam (l : Launch) (G : jm_G) (d : Nat) (hd : 3 ≤ d) {h : jm_H} {a : Nat} {s : MS} {B : Nat → Int32} {n : Nat} {c : Cur} {k : Nat} {C : List Fr} (hK : MdK h a) (hB : BSt s B n c k C) (hk4 : k < 40) (e : c.1 = 2) : jm_CP l G mm_Md_part d [.ref a] (mdH h a s) (fun v h9 => v = some (.int 1) ∧ ∃ s', h9 = mdH h a s' ∧ ASt s' B n (cu_adv B n c) (k + 1) (stl 3 C (.elem (.long c.2.2.2.1) (.index c.2.1))).1 (stl 3 C (.elem (.long c.2.2.2.1) (.index c.2.1))).2 ∧ Fix s s') := by
  obtain ⟨⟨hT, hM, hc, hk, hk40, hdp, hd20, hw, hz⟩, hp, hX⟩ := id hB
  have hlf := hX.lf
  have hld := lfts_dpt C
  have hA1 := hB.leaf (t := .elem (.long c.2.2.2.1) (.index c.2.1)) hk4 (Or.inr ⟨e, rfl⟩)
  rw [hM.2.2.1, e] at hA1
  have hA1 : ASt (m_nx (m_push (m_node s k 1 (s.2.1 25)) (lfts C) (nI k)) B n c.2.2.1) B n (cu_adv B n c) (k + 1) C (.elem (.long c.2.2.2.1) (.index c.2.1)) := hA1
  refine jm_of (by decide) rfl (Nat.le_of_ble_eq_true rfl) ?_
  refine jx_aload_n d_Md_part_0 0 rfl ?_
  refine jx_get d_Md_part_1 fF_Md_117 (md_tg hK) ((show (mdH h a s).2.2.2 a 24 = Value.int (s.1 24) from md_ri rfl).trans (congrArg Value.int (hM.2.2.1.trans (show mkd c.1 = 1 by rw [e]; first | done | rfl)))) ?_
  refine jx_if_eq (tgt := 15) d_Md_part_4 (by decide) (fun c1 => absurd c1 (by decide)) (fun c1 => ?_)
  refine jx_aload_n d_Md_part_7 0 rfl ?_
  refine jx_get d_Md_part_8 fF_Md_117 (md_tg hK) ((show (mdH h a s).2.2.2 a 24 = Value.int (s.1 24) from md_ri rfl).trans (congrArg Value.int (hM.2.2.1.trans (show mkd c.1 = 1 by rw [e]; first | done | rfl)))) ?_
  refine jx_iconst (v0 := 1) d_Md_part_11 (by decide) ?_
  refine jx_icmp_ne (tgt := 57) d_Md_part_12 (by decide) (fun c2 => absurd c2 (by decide)) (fun c2 => ?_)
  refine jx_aload_n d_Md_part_15 0 rfl ?_
  refine jx_get d_Md_part_16 fF_Md_84 (md_tg hK) (md_rr hK (k := 36) (j := 25) rfl rfl rfl) ?_
  refine jx_aload_n d_Md_part_19 0 rfl ?_
  refine jx_get d_Md_part_20 fF_Md_166 (md_tg hK) ((show (mdH h a s).2.2.2 a 37 = Value.int (s.1 37) from md_ri rfl).trans (congrArg Value.int hp)) ?_
  refine jx_aload_n d_Md_part_23 0 rfl ?_
  refine jx_aload_n d_Md_part_24 0 rfl ?_
  refine jx_get d_Md_part_25 fF_Md_117 (md_tg hK) ((show (mdH h a s).2.2.2 a 24 = Value.int (s.1 24) from md_ri rfl).trans (congrArg Value.int (hM.2.2.1.trans (show mkd c.1 = 1 by rw [e]; first | done | rfl)))) ?_
  refine jx_aload_n d_Md_part_28 0 rfl ?_
  refine jx_get d_Md_part_29 fF_Md_123 (md_tg hK) (show (mdH h a s).2.2.2 a 25 = Value.long (s.2.1 25) from md_rl rfl) ?_
  refine jx_callV (M2 := mm_Md_newNode) rfl (md_tg hK) lk_Md_172 wi_Md_newNode ws_Md_newNode d_Md_part_32 (c_Md_newNode l G (d - 1) (s := s) (k := k) (kd := 1) (amt := s.2.1 25) hK hk (by omega)) cd_Md_newNode rfl rfl (Nat.le_of_ble_eq_true rfl) (jm_fok (by omega)) (jm_look (by decide) (by omega)) ?_
  refine jx_iast d_Md_part_35 (md_ta hK (j := 25) rfl) rfl (jm_vinN (show lfts C < 100 by omega) (by decide)) ?_
  refine jx_ath ((jm_putN (show lfts C < 2 ^ 31 by omega)).trans (md_wai (j := 25) (show lfts C < 100 by omega))) ?_
  refine jx_aload_n d_Md_part_36 0 rfl ?_
  refine jx_dup d_Md_part_37 rfl ?_
  refine jx_get d_Md_part_38 fF_Md_166 (md_tg hK) ((show (mdH h a (mai (m_node s k 1 (s.2.1 25)) 25 (lfts C) (nI (k)))).2.2.2 a 37 = Value.int ((m_node s k 1 (s.2.1 25)).1 37) from md_ri rfl).trans (congrArg Value.int hp)) ?_
  refine jx_iconst (v0 := 1) d_Md_part_41 (by decide) ?_
  refine jx_iadd d_Md_part_42 ?_
  refine jx_ati (nI_add (lfts C) (1)) ?_
  refine jx_put (v0 := .int (nI ((lfts C) + (1)))) d_Md_part_43 fF_Md_166 jv_Md ft_Md_partCount (md_tg hK) rfl rfl ?_
  refine jx_ath (md_wi (k := 37) rfl) ?_
  refine jx_aload_n d_Md_part_46 0 rfl ?_
  refine jx_callV (M2 := mm_Md_next) rfl (md_tg hK) lk_Md_176 wi_Md_next ws_Md_next d_Md_part_47 (c_Md_next l G (d - 1) (by omega) (s := (mi (mai (m_node s k 1 (s.2.1 25)) 25 (lfts C) (nI (k))) 37 (nI ((lfts C) + (1))))) (B := B) (n := n) (p := (c).2.2.1) hK hT hM.1 hc) cd_Md_next rfl rfl (Nat.le_of_ble_eq_true rfl) (jm_fok (by omega)) (jm_look (by decide) (by omega)) ?_
  refine jx_aload_n d_Md_part_50 0 rfl ?_
  refine jx_iconst (v0 := 3) d_Md_part_51 (by decide) ?_
  obtain ⟨vs1, gs1, hCs1, rfl, s1, rfl, hAs1, hFs1⟩ := c_Md_settle l G (d - 1) (by omega) (h := h) (a := a) (q := 3) hK hA1 (by decide) (by decide)
  refine jx_callV (M2 := mm_Md_settle) rfl (md_tg hK) lk_Md_179 wi_Md_settle ws_Md_settle d_Md_part_52 hCs1 cd_Md_settle rfl rfl (Nat.le_of_ble_eq_true rfl) (jm_fok (by omega)) (jm_look (by decide) (by omega)) ?_
  refine jx_iconst (v0 := 1) d_Md_part_55 (by decide) ?_
  exact jx_zret d_Md_part_56 rfl (by first | rfl | decide) (⟨_, rfl, rfl, s1, rfl, hAs1, (Fix.rf.node.push.nx).trans hFs1⟩)
set_option maxHeartbeats 4000000 in
set_option maxRecDepth 100000 in
theorem c_Md_part_namF (l : Launch) (G : jm_G) (d : Nat) (hd : 3 ≤ d) {h : jm_H} {a : Nat} {s : MS} {B : Nat → Int32} {n : Nat} {c : Cur} {k : Nat} {C : List Fr} (hK : MdK h a) (hB : BSt s B n c k C) (hk4 : k = 40) (e : c.1 = 2) : jm_CP l G mm_Md_part d [.ref a] (mdH h a s) (fun v h9 => v = some (.int 1) ∧ ∃ s', h9 = mdH h a s' ∧ Flo s s' 3 (nI c.2.1)) := by
  obtain ⟨⟨hT, hM, hc, hk, hk40, hdp, hd20, hw, hz⟩, hp, hX⟩ := id hB
  have hlf := hX.lf
  have hld := lfts_dpt C
  refine jm_of (by decide) rfl (Nat.le_of_ble_eq_true rfl) ?_
  refine jx_aload_n d_Md_part_0 0 rfl ?_
  refine jx_get d_Md_part_1 fF_Md_117 (md_tg hK) ((show (mdH h a s).2.2.2 a 24 = Value.int (s.1 24) from md_ri rfl).trans (congrArg Value.int (hM.2.2.1.trans (show mkd c.1 = 1 by rw [e]; first | done | rfl)))) ?_
  refine jx_if_eq (tgt := 15) d_Md_part_4 (by decide) (fun c1 => absurd c1 (by decide)) (fun c1 => ?_)
  refine jx_aload_n d_Md_part_7 0 rfl ?_
  refine jx_get d_Md_part_8 fF_Md_117 (md_tg hK) ((show (mdH h a s).2.2.2 a 24 = Value.int (s.1 24) from md_ri rfl).trans (congrArg Value.int (hM.2.2.1.trans (show mkd c.1 = 1 by rw [e]; first | done | rfl)))) ?_
  refine jx_iconst (v0 := 1) d_Md_part_11 (by decide) ?_
  refine jx_icmp_ne (tgt := 57) d_Md_part_12 (by decide) (fun c2 => absurd c2 (by decide)) (fun c2 => ?_)
  refine jx_aload_n d_Md_part_15 0 rfl ?_
  refine jx_get d_Md_part_16 fF_Md_84 (md_tg hK) (md_rr hK (k := 36) (j := 25) rfl rfl rfl) ?_
  refine jx_aload_n d_Md_part_19 0 rfl ?_
  refine jx_get d_Md_part_20 fF_Md_166 (md_tg hK) ((show (mdH h a s).2.2.2 a 37 = Value.int (s.1 37) from md_ri rfl).trans (congrArg Value.int hp)) ?_
  refine jx_aload_n d_Md_part_23 0 rfl ?_
  refine jx_aload_n d_Md_part_24 0 rfl ?_
  refine jx_get d_Md_part_25 fF_Md_117 (md_tg hK) ((show (mdH h a s).2.2.2 a 24 = Value.int (s.1 24) from md_ri rfl).trans (congrArg Value.int (hM.2.2.1.trans (show mkd c.1 = 1 by rw [e]; first | done | rfl)))) ?_
  refine jx_aload_n d_Md_part_28 0 rfl ?_
  refine jx_get d_Md_part_29 fF_Md_123 (md_tg hK) (show (mdH h a s).2.2.2 a 25 = Value.long (s.2.1 25) from md_rl rfl) ?_
  have ef : m_fail s 3 (s.1 23) = mi (mi s 3 3) 4 (s.1 23) := m_fail_of hz
  have hnd := (c_Md_newNode_full l G (d - 1) (by omega) (s := s) (k := k) (kd := 1) (amt := s.2.1 25) hK hk (by omega))
  rw [ef] at hnd
  refine jx_callV (M2 := mm_Md_newNode) rfl (md_tg hK) lk_Md_172 wi_Md_newNode ws_Md_newNode d_Md_part_32 hnd cd_Md_newNode rfl rfl (Nat.le_of_ble_eq_true rfl) (jm_fok (by omega)) (jm_look (by decide) (by omega)) ?_
  refine jx_iast d_Md_part_35 (md_ta hK (j := 25) rfl) rfl (jm_vinN (show lfts C < 100 by omega) (by decide)) ?_
  refine jx_ath ((jm_putN (show lfts C < 2 ^ 31 by omega)).trans (md_wai (j := 25) (show lfts C < 100 by omega))) ?_
  refine jx_aload_n d_Md_part_36 0 rfl ?_
  refine jx_dup d_Md_part_37 rfl ?_
  refine jx_get d_Md_part_38 fF_Md_166 (md_tg hK) ((show (mdH h a (mai (mi (mi s 3 3) 4 (s.1 23)) 25 (lfts C) 0)).2.2.2 a 37 = Value.int ((mi (mi s 3 3) 4 (s.1 23)).1 37) from md_ri rfl).trans (congrArg Value.int hp)) ?_
  refine jx_iconst (v0 := 1) d_Md_part_41 (by decide) ?_
  refine jx_iadd d_Md_part_42 ?_
  refine jx_ati (nI_add (lfts C) (1)) ?_
  refine jx_put (v0 := .int (nI ((lfts C) + (1)))) d_Md_part_43 fF_Md_166 jv_Md ft_Md_partCount (md_tg hK) rfl rfl ?_
  refine jx_ath (md_wi (k := 37) rfl) ?_
  refine jx_aload_n d_Md_part_46 0 rfl ?_
  refine jx_callV (M2 := mm_Md_next) rfl (md_tg hK) lk_Md_176 wi_Md_next ws_Md_next d_Md_part_47 (c_Md_next l G (d - 1) (by omega) (s := (mi (mai (mi (mi s 3 3) 4 (s.1 23)) 25 (lfts C) 0) 37 (nI ((lfts C) + (1))))) (B := B) (n := n) (p := (c).2.2.1) hK hT hM.1 hc) cd_Md_next rfl rfl (Nat.le_of_ble_eq_true rfl) (jm_fok (by omega)) (jm_look (by decide) (by omega)) ?_
  refine jx_aload_n d_Md_part_50 0 rfl ?_
  refine jx_iconst (v0 := 3) d_Md_part_51 (by decide) ?_
  obtain ⟨v1, g1, hC1, rfl, s1, rfl, hF1, hf3, hf4⟩ := c_Md_settleW l G (d - 1) (by omega) (h := h) (a := a) (s := (m_nx (mi (mai (mi (mi s 3 3) 4 (s.1 23)) 25 (lfts C) 0) 37 (nI ((lfts C) + (1)))) B n (c).2.2.1)) (C := C) (q := 3) (nx := k) hK ⟨hw, rfl, hdp, hd20, hk40, hX.same (fun j q1 q2 => ⟨rfl, rfl, rfl, rfl, rfl, rfl⟩) ⟨fun j hj => ⟨rfl, rfl⟩, fun j hj => by simp [m_nx, mai, mi, ml, jm_up, Nat.ne_of_lt hj]⟩⟩ (by decide) (by decide)
  refine jx_callV (M2 := mm_Md_settle) rfl (md_tg hK) lk_Md_179 wi_Md_settle ws_Md_settle d_Md_part_52 hC1 cd_Md_settle rfl rfl (Nat.le_of_ble_eq_true rfl) (jm_fok (by omega)) (jm_look (by decide) (by omega)) ?_
  refine jx_iconst (v0 := 1) d_Md_part_55 (by decide) ?_
  exact jx_zret d_Md_part_56 rfl (by first | rfl | decide) (⟨_, rfl, rfl, s1, rfl, hf3, hf4.trans hM.2.1, Fix.trans (Fix.nx (((Fix.mai ((Fix.rf.mi (by decide)).mi (by decide)) (by decide)).mi (by decide)))) hF1⟩)
set_option maxHeartbeats 4000000 in
set_option maxRecDepth 100000 in
theorem c_Md_part_neg (l : Launch) (G : jm_G) (d : Nat) (hd : 3 ≤ d) {h : jm_H} {a : Nat} {s : MS} {B : Nat → Int32} {n : Nat} {c : Cur} {k : Nat} {C : List Fr} (hK : MdK h a) (hB : BSt s B n c k C) (hk4 : k < 40) (hd4 : dpt C < 20) (e : c.1 = 45) : jm_CP l G mm_Md_part d [.ref a] (mdH h a s) (fun v h9 => v = some (.int 0) ∧ ∃ s', h9 = mdH h a s' ∧ BSt s' B n (cu_adv B n c) (k + 1) ((6, k, k, []) :: C) ∧ Fix s s') := by
  obtain ⟨⟨hT, hM, hc, hk, hk40, hdp, hd20, hw, hz⟩, hp, hX⟩ := id hB
  have hlf := hX.lf
  have hld := lfts_dpt C
  refine jm_of (by decide) rfl (Nat.le_of_ble_eq_true rfl) ?_
  refine jx_aload_n d_Md_part_0 0 rfl ?_
  refine jx_get d_Md_part_1 fF_Md_117 (md_tg hK) ((show (mdH h a s).2.2.2 a 24 = Value.int (s.1 24) from md_ri rfl).trans (congrArg Value.int (hM.2.2.1.trans (show mkd c.1 = 45 by rw [e]; first | done | rfl)))) ?_
  refine jx_if_eq (tgt := 15) d_Md_part_4 (by decide) (fun c1 => absurd c1 (by decide)) (fun c1 => ?_)
  refine jx_aload_n d_Md_part_7 0 rfl ?_
  refine jx_get d_Md_part_8 fF_Md_117 (md_tg hK) ((show (mdH h a s).2.2.2 a 24 = Value.int (s.1 24) from md_ri rfl).trans (congrArg Value.int (hM.2.2.1.trans (show mkd c.1 = 45 by rw [e]; first | done | rfl)))) ?_
  refine jx_iconst (v0 := 1) d_Md_part_11 (by decide) ?_
  refine jx_icmp_ne (tgt := 57) d_Md_part_12 (by decide) (fun c2 => ?_) (fun c2 => absurd c2 (by decide))
  refine jx_aload_n d_Md_part_57 0 rfl ?_
  refine jx_get d_Md_part_58 fF_Md_117 (md_tg hK) ((show (mdH h a s).2.2.2 a 24 = Value.int (s.1 24) from md_ri rfl).trans (congrArg Value.int (hM.2.2.1.trans (show mkd c.1 = 45 by rw [e]; first | done | rfl)))) ?_
  refine jx_bipush (v0 := 45) d_Md_part_61 (by decide) ?_
  refine jx_icmp_ne (tgt := 90) d_Md_part_63 (by decide) (fun c3 => absurd c3 (by decide)) (fun c3 => ?_)
  refine jx_aload_n d_Md_part_66 0 rfl ?_
  refine jx_bipush (v0 := 6) d_Md_part_67 (by decide) ?_
  refine jx_lconst (v0 := 0) d_Md_part_69 (by decide) ?_
  refine jx_callV (M2 := mm_Md_newNode) rfl (md_tg hK) lk_Md_172 wi_Md_newNode ws_Md_newNode d_Md_part_70 (c_Md_newNode l G (d - 1) (s := s) (k := k) (kd := 6) (amt := 0) hK hk (by omega)) cd_Md_newNode rfl rfl (Nat.le_of_ble_eq_true rfl) (jm_fok (by omega)) (jm_look (by decide) (by omega)) ?_
  refine jx_istore_n (lv' := [(1, .int (nI (k))), (0, .ref (a))]) d_Md_part_73 (by decide) rfl ?_
  refine jx_aload_n d_Md_part_74 1 rfl ?_
  refine jx_callV (M2 := mm_Md_deeper) rfl (md_tg hK) lk_Md_183 wi_Md_deeper ws_Md_deeper d_Md_part_75 (c_Md_deeper l G (d - 1) (s := (m_node s k 6 0)) (p := dpt C) hK hdp (by omega)) cd_Md_deeper rfl rfl (Nat.le_of_ble_eq_true rfl) (jm_fok (by omega)) (jm_look (by decide) (by omega)) ?_
  refine jx_aload_n d_Md_part_78 1 rfl ?_
  refine jx_iload_n d_Md_part_79 0 rfl ?_
  refine jx_callV (M2 := mm_Md_await) rfl (md_tg hK) lk_Md_186 wi_Md_await ws_Md_await d_Md_part_80 (c_Md_await l G (d - 1) (s := (mi (m_node s k 6 0) 38 (nI (dpt C + 1)))) (w := C.length) (nd := nI (k)) hK hw (by omega)) cd_Md_await rfl rfl (Nat.le_of_ble_eq_true rfl) (jm_fok (by omega)) (jm_look (by decide) (by omega)) ?_
  refine jx_aload_n d_Md_part_83 1 rfl ?_
  refine jx_callV (M2 := mm_Md_next) rfl (md_tg hK) lk_Md_176 wi_Md_next ws_Md_next d_Md_part_84 (c_Md_next l G (d - 1) (by omega) (s := (m_await (mi (m_node s k 6 0) 38 (nI (dpt C + 1))) (C.length) (nI (k)))) (B := B) (n := n) (p := (c).2.2.1) hK hT hM.1 hc) cd_Md_next rfl rfl (Nat.le_of_ble_eq_true rfl) (jm_fok (by omega)) (jm_look (by decide) (by omega)) ?_
  refine jx_goto (tgt := 180) d_Md_part_87 (by decide) ?_
  refine jx_iconst (v0 := 0) d_Md_part_180 (by decide) ?_
  exact jx_zret d_Md_part_181 rfl (by first | rfl | decide) (⟨_, rfl, rfl, _, rfl, hB.neg hk4 hd4, (Fix.rf.node.mi (by decide)).await.nx⟩)
set_option maxHeartbeats 4000000 in
set_option maxRecDepth 100000 in
theorem c_Md_part_negF (l : Launch) (G : jm_G) (d : Nat) (hd : 3 ≤ d) {h : jm_H} {a : Nat} {s : MS} {B : Nat → Int32} {n : Nat} {c : Cur} {k : Nat} {C : List Fr} (hK : MdK h a) (hB : BSt s B n c k C) (hk4 : k = 40) (e : c.1 = 45) : jm_CP l G mm_Md_part d [.ref a] (mdH h a s) (fun v h9 => v = some (.int 0) ∧ ∃ s', h9 = mdH h a s' ∧ Flo s s' 3 (nI c.2.1)) := by
  obtain ⟨⟨hT, hM, hc, hk, hk40, hdp, hd20, hw, hz⟩, hp, hX⟩ := id hB
  have hlf := hX.lf
  have hld := lfts_dpt C
  refine jm_of (by decide) rfl (Nat.le_of_ble_eq_true rfl) ?_
  refine jx_aload_n d_Md_part_0 0 rfl ?_
  refine jx_get d_Md_part_1 fF_Md_117 (md_tg hK) ((show (mdH h a s).2.2.2 a 24 = Value.int (s.1 24) from md_ri rfl).trans (congrArg Value.int (hM.2.2.1.trans (show mkd c.1 = 45 by rw [e]; first | done | rfl)))) ?_
  refine jx_if_eq (tgt := 15) d_Md_part_4 (by decide) (fun c1 => absurd c1 (by decide)) (fun c1 => ?_)
  refine jx_aload_n d_Md_part_7 0 rfl ?_
  refine jx_get d_Md_part_8 fF_Md_117 (md_tg hK) ((show (mdH h a s).2.2.2 a 24 = Value.int (s.1 24) from md_ri rfl).trans (congrArg Value.int (hM.2.2.1.trans (show mkd c.1 = 45 by rw [e]; first | done | rfl)))) ?_
  refine jx_iconst (v0 := 1) d_Md_part_11 (by decide) ?_
  refine jx_icmp_ne (tgt := 57) d_Md_part_12 (by decide) (fun c2 => ?_) (fun c2 => absurd c2 (by decide))
  refine jx_aload_n d_Md_part_57 0 rfl ?_
  refine jx_get d_Md_part_58 fF_Md_117 (md_tg hK) ((show (mdH h a s).2.2.2 a 24 = Value.int (s.1 24) from md_ri rfl).trans (congrArg Value.int (hM.2.2.1.trans (show mkd c.1 = 45 by rw [e]; first | done | rfl)))) ?_
  refine jx_bipush (v0 := 45) d_Md_part_61 (by decide) ?_
  refine jx_icmp_ne (tgt := 90) d_Md_part_63 (by decide) (fun c3 => absurd c3 (by decide)) (fun c3 => ?_)
  refine jx_aload_n d_Md_part_66 0 rfl ?_
  refine jx_bipush (v0 := 6) d_Md_part_67 (by decide) ?_
  refine jx_lconst (v0 := 0) d_Md_part_69 (by decide) ?_
  have hnd := (c_Md_newNode_full l G (d - 1) (by omega) (s := s) (k := k) (kd := 6) (amt := 0) hK hk (by omega))
  rw [m_fail_of hz] at hnd
  refine jx_callV (M2 := mm_Md_newNode) rfl (md_tg hK) lk_Md_172 wi_Md_newNode ws_Md_newNode d_Md_part_70 hnd cd_Md_newNode rfl rfl (Nat.le_of_ble_eq_true rfl) (jm_fok (by omega)) (jm_look (by decide) (by omega)) ?_
  refine jx_istore_n (lv' := [(1, .int (0)), (0, .ref (a))]) d_Md_part_73 (by decide) rfl ?_
  refine jx_aload_n d_Md_part_74 1 rfl ?_
  by_cases hd4 : dpt C < 20
  ·
    refine jx_callV (M2 := mm_Md_deeper) rfl (md_tg hK) lk_Md_183 wi_Md_deeper ws_Md_deeper d_Md_part_75 (c_Md_deeper l G (d - 1) (s := (mi (mi s 3 3) 4 (s.1 23))) (p := dpt C) hK hdp (by omega)) cd_Md_deeper rfl rfl (Nat.le_of_ble_eq_true rfl) (jm_fok (by omega)) (jm_look (by decide) (by omega)) ?_
    refine jx_aload_n d_Md_part_78 1 rfl ?_
    refine jx_iload_n d_Md_part_79 0 rfl ?_
    refine jx_callV (M2 := mm_Md_await) rfl (md_tg hK) lk_Md_186 wi_Md_await ws_Md_await d_Md_part_80 (c_Md_await l G (d - 1) (s := (mi (mi (mi s 3 3) 4 (s.1 23)) 38 (nI (dpt C + 1)))) (w := C.length) (nd := 0) hK hw (by omega)) cd_Md_await rfl rfl (Nat.le_of_ble_eq_true rfl) (jm_fok (by omega)) (jm_look (by decide) (by omega)) ?_
    refine jx_aload_n d_Md_part_83 1 rfl ?_
    refine jx_callV (M2 := mm_Md_next) rfl (md_tg hK) lk_Md_176 wi_Md_next ws_Md_next d_Md_part_84 (c_Md_next l G (d - 1) (by omega) (s := (m_await (mi (mi (mi s 3 3) 4 (s.1 23)) 38 (nI (dpt C + 1))) (C.length) 0)) (B := B) (n := n) (p := (c).2.2.1) hK hT hM.1 hc) cd_Md_next rfl rfl (Nat.le_of_ble_eq_true rfl) (jm_fok (by omega)) (jm_look (by decide) (by omega)) ?_
    refine jx_goto (tgt := 180) d_Md_part_87 (by decide) ?_
    refine jx_iconst (v0 := 0) d_Md_part_180 (by decide) ?_
    exact jx_zret d_Md_part_181 rfl (by first | rfl | decide) (⟨_, rfl, rfl, _, rfl, rfl, hM.2.1, (by first | exact Fix.nx (Fix.await ((((Fix.rf.mi (by decide)).mi (by decide)).mi (by decide)))) | exact Fix.nx (Fix.await ((((Fix.rf.node.mi (by decide)).mi (by decide)).mi (by decide)))))⟩)
  ·
    have hdd := c_Md_deeper_full l G (d - 1) (by omega) (s := (mi (mi s 3 3) 4 (s.1 23))) (p := dpt C) hK hdp (by omega)
    rw [m_fail_no (show ¬ (3 : Int32) = 0 by decide)] at hdd
    refine jx_callV (M2 := mm_Md_deeper) rfl (md_tg hK) lk_Md_183 wi_Md_deeper ws_Md_deeper d_Md_part_75 hdd cd_Md_deeper rfl rfl (Nat.le_of_ble_eq_true rfl) (jm_fok (by omega)) (jm_look (by decide) (by omega)) ?_
    refine jx_aload_n d_Md_part_78 1 rfl ?_
    refine jx_iload_n d_Md_part_79 0 rfl ?_
    refine jx_callV (M2 := mm_Md_await) rfl (md_tg hK) lk_Md_186 wi_Md_await ws_Md_await d_Md_part_80 (c_Md_await l G (d - 1) (s := (mi (mi (mi s 3 3) 4 (s.1 23)) 38 (nI (dpt C + 1)))) (w := C.length) (nd := 0) hK hw (by omega)) cd_Md_await rfl rfl (Nat.le_of_ble_eq_true rfl) (jm_fok (by omega)) (jm_look (by decide) (by omega)) ?_
    refine jx_aload_n d_Md_part_83 1 rfl ?_
    refine jx_callV (M2 := mm_Md_next) rfl (md_tg hK) lk_Md_176 wi_Md_next ws_Md_next d_Md_part_84 (c_Md_next l G (d - 1) (by omega) (s := (m_await (mi (mi (mi s 3 3) 4 (s.1 23)) 38 (nI (dpt C + 1))) (C.length) 0)) (B := B) (n := n) (p := (c).2.2.1) hK hT hM.1 hc) cd_Md_next rfl rfl (Nat.le_of_ble_eq_true rfl) (jm_fok (by omega)) (jm_look (by decide) (by omega)) ?_
    refine jx_goto (tgt := 180) d_Md_part_87 (by decide) ?_
    refine jx_iconst (v0 := 0) d_Md_part_180 (by decide) ?_
    exact jx_zret d_Md_part_181 rfl (by first | rfl | decide) (⟨_, rfl, rfl, _, rfl, rfl, hM.2.1, (by first | exact Fix.nx (Fix.await ((((Fix.rf.mi (by decide)).mi (by decide)).mi (by decide)))) | exact Fix.nx (Fix.await ((((Fix.rf.node.mi (by decide)).mi (by decide)).mi (by decide)))))⟩)
set_option maxHeartbeats 4000000 in
set_option maxRecDepth 100000 in
theorem c_Md_part_negD (l : Launch) (G : jm_G) (d : Nat) (hd : 3 ≤ d) {h : jm_H} {a : Nat} {s : MS} {B : Nat → Int32} {n : Nat} {c : Cur} {k : Nat} {C : List Fr} (hK : MdK h a) (hB : BSt s B n c k C) (hk4 : k < 40) (hd5 : dpt C = 20) (e : c.1 = 45) : jm_CP l G mm_Md_part d [.ref a] (mdH h a s) (fun v h9 => v = some (.int 0) ∧ ∃ s', h9 = mdH h a s' ∧ Flo s s' 3 (nI c.2.1)) := by
  obtain ⟨⟨hT, hM, hc, hk, hk40, hdp, hd20, hw, hz⟩, hp, hX⟩ := id hB
  have hlf := hX.lf
  have hld := lfts_dpt C
  refine jm_of (by decide) rfl (Nat.le_of_ble_eq_true rfl) ?_
  refine jx_aload_n d_Md_part_0 0 rfl ?_
  refine jx_get d_Md_part_1 fF_Md_117 (md_tg hK) ((show (mdH h a s).2.2.2 a 24 = Value.int (s.1 24) from md_ri rfl).trans (congrArg Value.int (hM.2.2.1.trans (show mkd c.1 = 45 by rw [e]; first | done | rfl)))) ?_
  refine jx_if_eq (tgt := 15) d_Md_part_4 (by decide) (fun c1 => absurd c1 (by decide)) (fun c1 => ?_)
  refine jx_aload_n d_Md_part_7 0 rfl ?_
  refine jx_get d_Md_part_8 fF_Md_117 (md_tg hK) ((show (mdH h a s).2.2.2 a 24 = Value.int (s.1 24) from md_ri rfl).trans (congrArg Value.int (hM.2.2.1.trans (show mkd c.1 = 45 by rw [e]; first | done | rfl)))) ?_
  refine jx_iconst (v0 := 1) d_Md_part_11 (by decide) ?_
  refine jx_icmp_ne (tgt := 57) d_Md_part_12 (by decide) (fun c2 => ?_) (fun c2 => absurd c2 (by decide))
  refine jx_aload_n d_Md_part_57 0 rfl ?_
  refine jx_get d_Md_part_58 fF_Md_117 (md_tg hK) ((show (mdH h a s).2.2.2 a 24 = Value.int (s.1 24) from md_ri rfl).trans (congrArg Value.int (hM.2.2.1.trans (show mkd c.1 = 45 by rw [e]; first | done | rfl)))) ?_
  refine jx_bipush (v0 := 45) d_Md_part_61 (by decide) ?_
  refine jx_icmp_ne (tgt := 90) d_Md_part_63 (by decide) (fun c3 => absurd c3 (by decide)) (fun c3 => ?_)
  refine jx_aload_n d_Md_part_66 0 rfl ?_
  refine jx_bipush (v0 := 6) d_Md_part_67 (by decide) ?_
  refine jx_lconst (v0 := 0) d_Md_part_69 (by decide) ?_
  refine jx_callV (M2 := mm_Md_newNode) rfl (md_tg hK) lk_Md_172 wi_Md_newNode ws_Md_newNode d_Md_part_70 (c_Md_newNode l G (d - 1) (s := s) (k := k) (kd := 6) (amt := 0) hK hk (by omega)) cd_Md_newNode rfl rfl (Nat.le_of_ble_eq_true rfl) (jm_fok (by omega)) (jm_look (by decide) (by omega)) ?_
  refine jx_istore_n (lv' := [(1, .int (nI (k))), (0, .ref (a))]) d_Md_part_73 (by decide) rfl ?_
  refine jx_aload_n d_Md_part_74 1 rfl ?_
  by_cases hd4 : dpt C < 20
  ·
    omega
  ·
    have hdd := c_Md_deeper_full l G (d - 1) (by omega) (s := (m_node s k 6 0)) (p := dpt C) hK hdp (by omega)
    rw [m_fail_of (s := (m_node s k 6 0)) hz] at hdd
    refine jx_callV (M2 := mm_Md_deeper) rfl (md_tg hK) lk_Md_183 wi_Md_deeper ws_Md_deeper d_Md_part_75 hdd cd_Md_deeper rfl rfl (Nat.le_of_ble_eq_true rfl) (jm_fok (by omega)) (jm_look (by decide) (by omega)) ?_
    refine jx_aload_n d_Md_part_78 1 rfl ?_
    refine jx_iload_n d_Md_part_79 0 rfl ?_
    refine jx_callV (M2 := mm_Md_await) rfl (md_tg hK) lk_Md_186 wi_Md_await ws_Md_await d_Md_part_80 (c_Md_await l G (d - 1) (s := (mi (mi (mi (m_node s k 6 0) 3 3) 4 (s.1 23)) 38 (nI (dpt C + 1)))) (w := C.length) (nd := nI (k)) hK hw (by omega)) cd_Md_await rfl rfl (Nat.le_of_ble_eq_true rfl) (jm_fok (by omega)) (jm_look (by decide) (by omega)) ?_
    refine jx_aload_n d_Md_part_83 1 rfl ?_
    refine jx_callV (M2 := mm_Md_next) rfl (md_tg hK) lk_Md_176 wi_Md_next ws_Md_next d_Md_part_84 (c_Md_next l G (d - 1) (by omega) (s := (m_await (mi (mi (mi (m_node s k 6 0) 3 3) 4 (s.1 23)) 38 (nI (dpt C + 1))) (C.length) (nI (k)))) (B := B) (n := n) (p := (c).2.2.1) hK hT hM.1 hc) cd_Md_next rfl rfl (Nat.le_of_ble_eq_true rfl) (jm_fok (by omega)) (jm_look (by decide) (by omega)) ?_
    refine jx_goto (tgt := 180) d_Md_part_87 (by decide) ?_
    refine jx_iconst (v0 := 0) d_Md_part_180 (by decide) ?_
    exact jx_zret d_Md_part_181 rfl (by first | rfl | decide) (⟨_, rfl, rfl, _, rfl, rfl, hM.2.1, (by first | exact Fix.nx (Fix.await ((((Fix.rf.mi (by decide)).mi (by decide)).mi (by decide)))) | exact Fix.nx (Fix.await ((((Fix.rf.node.mi (by decide)).mi (by decide)).mi (by decide)))))⟩)
set_option maxHeartbeats 4000000 in
set_option maxRecDepth 100000 in
theorem c_Md_part_par (l : Launch) (G : jm_G) (d : Nat) (hd : 3 ≤ d) {h : jm_H} {a : Nat} {s : MS} {B : Nat → Int32} {n : Nat} {c : Cur} {k : Nat} {C : List Fr} (hK : MdK h a) (hB : BSt s B n c k C) (hd4 : dpt C < 20) (e : c.1 = 40) : jm_CP l G mm_Md_part d [.ref a] (mdH h a s) (fun v h9 => v = some (.int 0) ∧ ∃ s', h9 = mdH h a s' ∧ BSt s' B n (cu_adv B n c) k ((100, 0, k, []) :: C) ∧ Fix s s') := by
  obtain ⟨⟨hT, hM, hc, hk, hk40, hdp, hd20, hw, hz⟩, hp, hX⟩ := id hB
  have hlf := hX.lf
  have hld := lfts_dpt C
  refine jm_of (by decide) rfl (Nat.le_of_ble_eq_true rfl) ?_
  refine jx_aload_n d_Md_part_0 0 rfl ?_
  refine jx_get d_Md_part_1 fF_Md_117 (md_tg hK) ((show (mdH h a s).2.2.2 a 24 = Value.int (s.1 24) from md_ri rfl).trans (congrArg Value.int (hM.2.2.1.trans (show mkd c.1 = 40 by rw [e]; first | done | rfl)))) ?_
  refine jx_if_eq (tgt := 15) d_Md_part_4 (by decide) (fun c1 => absurd c1 (by decide)) (fun c1 => ?_)
  refine jx_aload_n d_Md_part_7 0 rfl ?_
  refine jx_get d_Md_part_8 fF_Md_117 (md_tg hK) ((show (mdH h a s).2.2.2 a 24 = Value.int (s.1 24) from md_ri rfl).trans (congrArg Value.int (hM.2.2.1.trans (show mkd c.1 = 40 by rw [e]; first | done | rfl)))) ?_
  refine jx_iconst (v0 := 1) d_Md_part_11 (by decide) ?_
  refine jx_icmp_ne (tgt := 57) d_Md_part_12 (by decide) (fun c2 => ?_) (fun c2 => absurd c2 (by decide))
  refine jx_aload_n d_Md_part_57 0 rfl ?_
  refine jx_get d_Md_part_58 fF_Md_117 (md_tg hK) ((show (mdH h a s).2.2.2 a 24 = Value.int (s.1 24) from md_ri rfl).trans (congrArg Value.int (hM.2.2.1.trans (show mkd c.1 = 40 by rw [e]; first | done | rfl)))) ?_
  refine jx_bipush (v0 := 45) d_Md_part_61 (by decide) ?_
  refine jx_icmp_ne (tgt := 90) d_Md_part_63 (by decide) (fun c3 => ?_) (fun c3 => absurd c3 (by decide))
  refine jx_aload_n d_Md_part_90 0 rfl ?_
  refine jx_get d_Md_part_91 fF_Md_117 (md_tg hK) ((show (mdH h a s).2.2.2 a 24 = Value.int (s.1 24) from md_ri rfl).trans (congrArg Value.int (hM.2.2.1.trans (show mkd c.1 = 40 by rw [e]; first | done | rfl)))) ?_
  refine jx_bipush (v0 := 40) d_Md_part_94 (by decide) ?_
  refine jx_icmp_ne (tgt := 115) d_Md_part_96 (by decide) (fun c4 => absurd c4 (by decide)) (fun c4 => ?_)
  refine jx_aload_n d_Md_part_99 0 rfl ?_
  refine jx_callV (M2 := mm_Md_deeper) rfl (md_tg hK) lk_Md_183 wi_Md_deeper ws_Md_deeper d_Md_part_100 (c_Md_deeper l G (d - 1) (s := s) (p := dpt C) hK hdp (by omega)) cd_Md_deeper rfl rfl (Nat.le_of_ble_eq_true rfl) (jm_fok (by omega)) (jm_look (by decide) (by omega)) ?_
  refine jx_aload_n d_Md_part_103 0 rfl ?_
  refine jx_iconst (v0 := -1) d_Md_part_104 (by decide) ?_
  refine jx_callV (M2 := mm_Md_await) rfl (md_tg hK) lk_Md_186 wi_Md_await ws_Md_await d_Md_part_105 (c_Md_await l G (d - 1) (s := (mi s 38 (nI (dpt C + 1)))) (w := C.length) (nd := -1) hK hw (by omega)) cd_Md_await rfl rfl (Nat.le_of_ble_eq_true rfl) (jm_fok (by omega)) (jm_look (by decide) (by omega)) ?_
  refine jx_aload_n d_Md_part_108 0 rfl ?_
  refine jx_callV (M2 := mm_Md_next) rfl (md_tg hK) lk_Md_176 wi_Md_next ws_Md_next d_Md_part_109 (c_Md_next l G (d - 1) (by omega) (s := (m_await (mi s 38 (nI (dpt C + 1))) (C.length) (-1))) (B := B) (n := n) (p := (c).2.2.1) hK hT hM.1 hc) cd_Md_next rfl rfl (Nat.le_of_ble_eq_true rfl) (jm_fok (by omega)) (jm_look (by decide) (by omega)) ?_
  refine jx_goto (tgt := 180) d_Md_part_112 (by decide) ?_
  refine jx_iconst (v0 := 0) d_Md_part_180 (by decide) ?_
  exact jx_zret d_Md_part_181 rfl (by first | rfl | decide) (⟨_, rfl, rfl, _, rfl, hB.par hd4, (Fix.rf.mi (by decide)).await.nx⟩)
set_option maxHeartbeats 4000000 in
set_option maxRecDepth 100000 in
theorem c_Md_part_parD (l : Launch) (G : jm_G) (d : Nat) (hd : 3 ≤ d) {h : jm_H} {a : Nat} {s : MS} {B : Nat → Int32} {n : Nat} {c : Cur} {k : Nat} {C : List Fr} (hK : MdK h a) (hB : BSt s B n c k C) (hd5 : dpt C = 20) (e : c.1 = 40) : jm_CP l G mm_Md_part d [.ref a] (mdH h a s) (fun v h9 => v = some (.int 0) ∧ ∃ s', h9 = mdH h a s' ∧ Flo s s' 3 (nI c.2.1)) := by
  obtain ⟨⟨hT, hM, hc, hk, hk40, hdp, hd20, hw, hz⟩, hp, hX⟩ := id hB
  have hlf := hX.lf
  have hld := lfts_dpt C
  refine jm_of (by decide) rfl (Nat.le_of_ble_eq_true rfl) ?_
  refine jx_aload_n d_Md_part_0 0 rfl ?_
  refine jx_get d_Md_part_1 fF_Md_117 (md_tg hK) ((show (mdH h a s).2.2.2 a 24 = Value.int (s.1 24) from md_ri rfl).trans (congrArg Value.int (hM.2.2.1.trans (show mkd c.1 = 40 by rw [e]; first | done | rfl)))) ?_
  refine jx_if_eq (tgt := 15) d_Md_part_4 (by decide) (fun c1 => absurd c1 (by decide)) (fun c1 => ?_)
  refine jx_aload_n d_Md_part_7 0 rfl ?_
  refine jx_get d_Md_part_8 fF_Md_117 (md_tg hK) ((show (mdH h a s).2.2.2 a 24 = Value.int (s.1 24) from md_ri rfl).trans (congrArg Value.int (hM.2.2.1.trans (show mkd c.1 = 40 by rw [e]; first | done | rfl)))) ?_
  refine jx_iconst (v0 := 1) d_Md_part_11 (by decide) ?_
  refine jx_icmp_ne (tgt := 57) d_Md_part_12 (by decide) (fun c2 => ?_) (fun c2 => absurd c2 (by decide))
  refine jx_aload_n d_Md_part_57 0 rfl ?_
  refine jx_get d_Md_part_58 fF_Md_117 (md_tg hK) ((show (mdH h a s).2.2.2 a 24 = Value.int (s.1 24) from md_ri rfl).trans (congrArg Value.int (hM.2.2.1.trans (show mkd c.1 = 40 by rw [e]; first | done | rfl)))) ?_
  refine jx_bipush (v0 := 45) d_Md_part_61 (by decide) ?_
  refine jx_icmp_ne (tgt := 90) d_Md_part_63 (by decide) (fun c3 => ?_) (fun c3 => absurd c3 (by decide))
  refine jx_aload_n d_Md_part_90 0 rfl ?_
  refine jx_get d_Md_part_91 fF_Md_117 (md_tg hK) ((show (mdH h a s).2.2.2 a 24 = Value.int (s.1 24) from md_ri rfl).trans (congrArg Value.int (hM.2.2.1.trans (show mkd c.1 = 40 by rw [e]; first | done | rfl)))) ?_
  refine jx_bipush (v0 := 40) d_Md_part_94 (by decide) ?_
  refine jx_icmp_ne (tgt := 115) d_Md_part_96 (by decide) (fun c4 => absurd c4 (by decide)) (fun c4 => ?_)
  refine jx_aload_n d_Md_part_99 0 rfl ?_
  by_cases hd4 : dpt C < 20
  ·
    omega
  ·
    have hdd := c_Md_deeper_full l G (d - 1) (by omega) (s := s) (p := dpt C) hK hdp (by omega)
    rw [m_fail_of (s := s) hz] at hdd
    refine jx_callV (M2 := mm_Md_deeper) rfl (md_tg hK) lk_Md_183 wi_Md_deeper ws_Md_deeper d_Md_part_100 hdd cd_Md_deeper rfl rfl (Nat.le_of_ble_eq_true rfl) (jm_fok (by omega)) (jm_look (by decide) (by omega)) ?_
    refine jx_aload_n d_Md_part_103 0 rfl ?_
    refine jx_iconst (v0 := -1) d_Md_part_104 (by decide) ?_
    refine jx_callV (M2 := mm_Md_await) rfl (md_tg hK) lk_Md_186 wi_Md_await ws_Md_await d_Md_part_105 (c_Md_await l G (d - 1) (s := (mi (mi (mi s 3 3) 4 (s.1 23)) 38 (nI (dpt C + 1)))) (w := C.length) (nd := -1) hK hw (by omega)) cd_Md_await rfl rfl (Nat.le_of_ble_eq_true rfl) (jm_fok (by omega)) (jm_look (by decide) (by omega)) ?_
    refine jx_aload_n d_Md_part_108 0 rfl ?_
    refine jx_callV (M2 := mm_Md_next) rfl (md_tg hK) lk_Md_176 wi_Md_next ws_Md_next d_Md_part_109 (c_Md_next l G (d - 1) (by omega) (s := (m_await (mi (mi (mi s 3 3) 4 (s.1 23)) 38 (nI (dpt C + 1))) (C.length) (-1))) (B := B) (n := n) (p := (c).2.2.1) hK hT hM.1 hc) cd_Md_next rfl rfl (Nat.le_of_ble_eq_true rfl) (jm_fok (by omega)) (jm_look (by decide) (by omega)) ?_
    refine jx_goto (tgt := 180) d_Md_part_112 (by decide) ?_
    refine jx_iconst (v0 := 0) d_Md_part_180 (by decide) ?_
    exact jx_zret d_Md_part_181 rfl (by first | rfl | decide) (⟨_, rfl, rfl, _, rfl, rfl, hM.2.1, (by first | exact Fix.nx (Fix.await ((((Fix.rf.mi (by decide)).mi (by decide)).mi (by decide)))) | exact Fix.nx (Fix.await ((((Fix.rf.node.mi (by decide)).mi (by decide)).mi (by decide)))))⟩)
set_option maxHeartbeats 4000000 in
set_option maxRecDepth 100000 in
theorem c_Md_part_bad (l : Launch) (G : jm_G) (d : Nat) (hd : 3 ≤ d) {h : jm_H} {a : Nat} {s : MS} {B : Nat → Int32} {n : Nat} {c : Cur} {k : Nat} {C : List Fr} (hK : MdK h a) (hB : BSt s B n c k C) (h0 : ¬ s.1 24 = 0) (h1 : ¬ s.1 24 = 1) (h45 : ¬ s.1 24 = 45) (h40 : ¬ s.1 24 = 40) (hm3 : ¬ s.1 24 = -3) : jm_CP l G mm_Md_part d [.ref a] (mdH h a s) (fun v h9 => v = some (.int 0) ∧ ∃ s', h9 = mdH h a s' ∧ Flo s s' (if s.1 24 = -1 then 1 else 2) (nI c.2.1)) := by
  obtain ⟨⟨hT, hM, hc, hk, hk40, hdp, hd20, hw, hz⟩, hp, hX⟩ := id hB
  have hlf := hX.lf
  have hld := lfts_dpt C
  have hwr : m_wrong s = mi (mi s 3 (if s.1 24 = -1 then 1 else 2)) 4 (s.1 23) := m_fail_of hz
  refine jm_of (by decide) rfl (Nat.le_of_ble_eq_true rfl) ?_
  refine jx_aload_n d_Md_part_0 0 rfl ?_
  refine jx_get d_Md_part_1 fF_Md_117 (md_tg hK) (show (mdH h a s).2.2.2 a 24 = Value.int (s.1 24) from md_ri rfl) ?_
  refine jx_if_eq (tgt := 15) d_Md_part_4 (by decide) (fun c1 => ?_) (fun c1 => ?_)
  · exact absurd c1 h0
  ·
    refine jx_aload_n d_Md_part_7 0 rfl ?_
    refine jx_get d_Md_part_8 fF_Md_117 (md_tg hK) (show (mdH h a s).2.2.2 a 24 = Value.int (s.1 24) from md_ri rfl) ?_
    refine jx_iconst (v0 := 1) d_Md_part_11 (by decide) ?_
    refine jx_icmp_ne (tgt := 57) d_Md_part_12 (by decide) (fun c2 => ?_) (fun c2 => ?_)
    ·
      refine jx_aload_n d_Md_part_57 0 rfl ?_
      refine jx_get d_Md_part_58 fF_Md_117 (md_tg hK) (show (mdH h a s).2.2.2 a 24 = Value.int (s.1 24) from md_ri rfl) ?_
      refine jx_bipush (v0 := 45) d_Md_part_61 (by decide) ?_
      refine jx_icmp_ne (tgt := 90) d_Md_part_63 (by decide) (fun c3 => ?_) (fun c3 => ?_)
      ·
        refine jx_aload_n d_Md_part_90 0 rfl ?_
        refine jx_get d_Md_part_91 fF_Md_117 (md_tg hK) (show (mdH h a s).2.2.2 a 24 = Value.int (s.1 24) from md_ri rfl) ?_
        refine jx_bipush (v0 := 40) d_Md_part_94 (by decide) ?_
        refine jx_icmp_ne (tgt := 115) d_Md_part_96 (by decide) (fun c4 => ?_) (fun c4 => ?_)
        ·
          refine jx_aload_n d_Md_part_115 0 rfl ?_
          refine jx_get d_Md_part_116 fF_Md_117 (md_tg hK) (show (mdH h a s).2.2.2 a 24 = Value.int (s.1 24) from md_ri rfl) ?_
          refine jx_bipush (v0 := -3) d_Md_part_119 (by decide) ?_
          refine jx_icmp_ne (tgt := 176) d_Md_part_121 (by decide) (fun c5 => ?_) (fun c5 => ?_)
          ·
            refine jx_aload_n d_Md_part_176 0 rfl ?_
            refine jx_callV (M2 := mm_Md_wrong) rfl (md_tg hK) lk_Md_189 wi_Md_wrong ws_Md_wrong d_Md_part_177 (c_Md_wrong l G (d - 1) (by omega) (s := s) hK) cd_Md_wrong rfl rfl (Nat.le_of_ble_eq_true rfl) (jm_fok (by omega)) (jm_look (by decide) (by omega)) ?_
            refine jx_iconst (v0 := 0) d_Md_part_180 (by decide) ?_
            exact jx_zret d_Md_part_181 rfl (by first | rfl | decide) (⟨_, rfl, rfl, _, rfl, by rw [hwr]; rfl, by rw [hwr]; exact hM.2.1, by rw [hwr]; exact (Fix.rf.mi (by decide)).mi (by decide)⟩)
          · exact absurd c5 hm3
        · exact absurd c4 h40
      · exact absurd c3 h45
    · exact absurd c2 h1
set_option maxHeartbeats 4000000 in
set_option maxRecDepth 100000 in
theorem c_Md_part_fun (l : Launch) (G : jm_G) (d : Nat) (hd : 3 ≤ d) {h : jm_H} {a : Nat} {s : MS} {B : Nat → Int32} {n : Nat} {c : Cur} {k : Nat} {C : List Fr} {fk : Nat} (hK : MdK h a) (hB : BSt s B n c k C) (he : c.1 = 2 ∨ c.1 = 4 ∨ c.1 = 5 ∨ c.1 = 6) (e : mkd c.1 = -3) (hfk : m_fun c.2.2.2.1 = nI fk) (h7 : 7 ≤ fk) (h9 : fk ≤ 9) (hk4 : k < 40) (hd4 : dpt C < 20) (e2 : (cu_adv B n c).1 = 40) : jm_CP l G mm_Md_part d [.ref a] (mdH h a s) (fun v h9 => v = some (.int 0) ∧ ∃ s', h9 = mdH h a s' ∧ BSt s' B n (cu_adv B n (cu_adv B n c)) (k + 1) ((fk, k, k, []) :: C) ∧ Fix s s') := by
  obtain ⟨⟨hT, hM, hc, hk, hk40, hdp, hd20, hw, hz⟩, hp, hX⟩ := id hB
  have hlf := hX.lf
  have hld := lfts_dpt C
  have hM1 := MC.next (s := m_node s k (nI fk) 0) (B := B) (n := n) (c := c)
  refine jm_of (by decide) rfl (Nat.le_of_ble_eq_true rfl) ?_
  refine jx_aload_n d_Md_part_0 0 rfl ?_
  refine jx_get d_Md_part_1 fF_Md_117 (md_tg hK) ((show (mdH h a s).2.2.2 a 24 = Value.int (s.1 24) from md_ri rfl).trans (congrArg Value.int (hM.2.2.1.trans e))) ?_
  refine jx_if_eq (tgt := 15) d_Md_part_4 (by decide) (fun c1 => absurd c1 (by decide)) (fun c1 => ?_)
  refine jx_aload_n d_Md_part_7 0 rfl ?_
  refine jx_get d_Md_part_8 fF_Md_117 (md_tg hK) ((show (mdH h a s).2.2.2 a 24 = Value.int (s.1 24) from md_ri rfl).trans (congrArg Value.int (hM.2.2.1.trans e))) ?_
  refine jx_iconst (v0 := 1) d_Md_part_11 (by decide) ?_
  refine jx_icmp_ne (tgt := 57) d_Md_part_12 (by decide) (fun c2 => ?_) (fun c2 => absurd c2 (by decide))
  refine jx_aload_n d_Md_part_57 0 rfl ?_
  refine jx_get d_Md_part_58 fF_Md_117 (md_tg hK) ((show (mdH h a s).2.2.2 a 24 = Value.int (s.1 24) from md_ri rfl).trans (congrArg Value.int (hM.2.2.1.trans e))) ?_
  refine jx_bipush (v0 := 45) d_Md_part_61 (by decide) ?_
  refine jx_icmp_ne (tgt := 90) d_Md_part_63 (by decide) (fun c3 => ?_) (fun c3 => absurd c3 (by decide))
  refine jx_aload_n d_Md_part_90 0 rfl ?_
  refine jx_get d_Md_part_91 fF_Md_117 (md_tg hK) ((show (mdH h a s).2.2.2 a 24 = Value.int (s.1 24) from md_ri rfl).trans (congrArg Value.int (hM.2.2.1.trans e))) ?_
  refine jx_bipush (v0 := 40) d_Md_part_94 (by decide) ?_
  refine jx_icmp_ne (tgt := 115) d_Md_part_96 (by decide) (fun c4 => ?_) (fun c4 => absurd c4 (by decide))
  refine jx_aload_n d_Md_part_115 0 rfl ?_
  refine jx_get d_Md_part_116 fF_Md_117 (md_tg hK) ((show (mdH h a s).2.2.2 a 24 = Value.int (s.1 24) from md_ri rfl).trans (congrArg Value.int (hM.2.2.1.trans e))) ?_
  refine jx_bipush (v0 := -3) d_Md_part_119 (by decide) ?_
  refine jx_icmp_ne (tgt := 176) d_Md_part_121 (by decide) (fun c5 => absurd c5 (by decide)) (fun c5 => ?_)
  refine jx_aload_n d_Md_part_124 0 rfl ?_
  refine jx_aload_n d_Md_part_125 0 rfl ?_
  have hcf := c_Md_function l G (d - 1) (h := h) (a := a) (s := s) hK
  rw [hM.2.2.2.2.1 he, hfk] at hcf
  refine jx_callV (M2 := mm_Md_function) rfl (md_tg hK) lk_Md_134 wi_Md_function ws_Md_function d_Md_part_126 hcf cd_Md_function rfl rfl (Nat.le_of_ble_eq_true rfl) (jm_fok (by omega)) (jm_look (by decide) (by omega)) ?_
  refine jx_lconst (v0 := 0) d_Md_part_129 (by decide) ?_
  refine jx_callV (M2 := mm_Md_newNode) rfl (md_tg hK) lk_Md_172 wi_Md_newNode ws_Md_newNode d_Md_part_130 (c_Md_newNode l G (d - 1) (s := s) (k := k) (kd := nI (fk)) (amt := 0) hK hk (by omega)) cd_Md_newNode rfl rfl (Nat.le_of_ble_eq_true rfl) (jm_fok (by omega)) (jm_look (by decide) (by omega)) ?_
  refine jx_istore_n (lv' := [(1, .int (nI (k))), (0, .ref (a))]) d_Md_part_133 (by decide) rfl ?_
  refine jx_aload_n d_Md_part_134 1 rfl ?_
  refine jx_callV (M2 := mm_Md_next) rfl (md_tg hK) lk_Md_176 wi_Md_next ws_Md_next d_Md_part_135 (c_Md_next l G (d - 1) (by omega) (s := (m_node s k (nI (fk)) 0)) (B := B) (n := n) (p := (c).2.2.1) hK hT hM.1 hc) cd_Md_next rfl rfl (Nat.le_of_ble_eq_true rfl) (jm_fok (by omega)) (jm_look (by decide) (by omega)) ?_
  refine jx_aload_n d_Md_part_138 1 rfl ?_
  refine jx_get d_Md_part_139 fF_Md_117 (md_tg hK) ((show (mdH h a (m_nx (m_node s k (nI (fk)) 0) B n (c).2.2.1)).2.2.2 a 24 = Value.int ((m_nx (m_node s k (nI (fk)) 0) B n (c).2.2.1).1 24) from md_ri rfl).trans (congrArg Value.int (hM1.2.2.1.trans (show mkd (cu_adv B n c).1 = 40 by rw [e2]; first | done | rfl)))) ?_
  refine jx_bipush (v0 := 40) d_Md_part_142 (by decide) ?_
  refine jx_icmp_eq (tgt := 153) d_Md_part_144 (by decide) (fun c6 => ?_) (fun c6 => absurd c6 (by decide))
  refine jx_aload_n d_Md_part_153 1 rfl ?_
  refine jx_get d_Md_part_154 fF_Md_144 (md_tg hK) ((show (mdH h a (m_nx (m_node s k (nI (fk)) 0) B n (c).2.2.1)).2.2.2 a 3 = Value.int ((m_nx (m_node s k (nI (fk)) 0) B n (c).2.2.1).1 3) from md_ri rfl).trans (congrArg Value.int hz)) ?_
  refine jx_if_ne (tgt := 164) d_Md_part_157 (by decide) (fun c7 => absurd c7 (by decide)) (fun c7 => ?_)
  refine jx_aload_n d_Md_part_160 1 rfl ?_
  refine jx_callV (M2 := mm_Md_deeper) rfl (md_tg hK) lk_Md_183 wi_Md_deeper ws_Md_deeper d_Md_part_161 (c_Md_deeper l G (d - 1) (s := (m_nx (m_node s k (nI (fk)) 0) B n (c).2.2.1)) (p := dpt C) hK hdp (by omega)) cd_Md_deeper rfl rfl (Nat.le_of_ble_eq_true rfl) (jm_fok (by omega)) (jm_look (by decide) (by omega)) ?_
  refine jx_aload_n d_Md_part_164 1 rfl ?_
  refine jx_iload_n d_Md_part_165 0 rfl ?_
  refine jx_callV (M2 := mm_Md_await) rfl (md_tg hK) lk_Md_186 wi_Md_await ws_Md_await d_Md_part_166 (c_Md_await l G (d - 1) (s := (mi (m_nx (m_node s k (nI (fk)) 0) B n (c).2.2.1) 38 (nI (dpt C + 1)))) (w := C.length) (nd := nI (k)) hK hw (by omega)) cd_Md_await rfl rfl (Nat.le_of_ble_eq_true rfl) (jm_fok (by omega)) (jm_look (by decide) (by omega)) ?_
  refine jx_aload_n d_Md_part_169 1 rfl ?_
  refine jx_callV (M2 := mm_Md_next) rfl (md_tg hK) lk_Md_176 wi_Md_next ws_Md_next d_Md_part_170 (c_Md_next l G (d - 1) (by omega) (s := (m_await (mi (m_nx (m_node s k (nI (fk)) 0) B n (c).2.2.1) 38 (nI (dpt C + 1))) (C.length) (nI (k)))) (B := B) (n := n) (p := (cu_adv B n c).2.2.1) hK hT hM1.1 (cu_adv_le hc)) cd_Md_next rfl rfl (Nat.le_of_ble_eq_true rfl) (jm_fok (by omega)) (jm_look (by decide) (by omega)) ?_
  refine jx_goto (tgt := 180) d_Md_part_173 (by decide) ?_
  refine jx_iconst (v0 := 0) d_Md_part_180 (by decide) ?_
  exact jx_zret d_Md_part_181 rfl (by first | rfl | decide) (⟨_, rfl, rfl, _, rfl, hB.fn hk4 hd4 h7 h9, (Fix.rf.node.nx.mi (by decide)).await.nx⟩)
set_option maxHeartbeats 4000000 in
set_option maxRecDepth 100000 in
theorem c_Md_part_funD (l : Launch) (G : jm_G) (d : Nat) (hd : 3 ≤ d) {h : jm_H} {a : Nat} {s : MS} {B : Nat → Int32} {n : Nat} {c : Cur} {k : Nat} {C : List Fr} {fk : Nat} (hK : MdK h a) (hB : BSt s B n c k C) (he : c.1 = 2 ∨ c.1 = 4 ∨ c.1 = 5 ∨ c.1 = 6) (e : mkd c.1 = -3) (hfk : m_fun c.2.2.2.1 = nI fk) (h7 : 7 ≤ fk) (h9 : fk ≤ 9) (hk4 : k < 40) (hd5 : dpt C = 20) (e2 : (cu_adv B n c).1 = 40) : jm_CP l G mm_Md_part d [.ref a] (mdH h a s) (fun v h9 => v = some (.int 0) ∧ ∃ s', h9 = mdH h a s' ∧ Flo s s' 3 (nI (cu_adv B n c).2.1)) := by
  obtain ⟨⟨hT, hM, hc, hk, hk40, hdp, hd20, hw, hz⟩, hp, hX⟩ := id hB
  have hlf := hX.lf
  have hld := lfts_dpt C
  have hM1 := MC.next (s := m_node s k (nI fk) 0) (B := B) (n := n) (c := c)
  refine jm_of (by decide) rfl (Nat.le_of_ble_eq_true rfl) ?_
  refine jx_aload_n d_Md_part_0 0 rfl ?_
  refine jx_get d_Md_part_1 fF_Md_117 (md_tg hK) ((show (mdH h a s).2.2.2 a 24 = Value.int (s.1 24) from md_ri rfl).trans (congrArg Value.int (hM.2.2.1.trans e))) ?_
  refine jx_if_eq (tgt := 15) d_Md_part_4 (by decide) (fun c1 => absurd c1 (by decide)) (fun c1 => ?_)
  refine jx_aload_n d_Md_part_7 0 rfl ?_
  refine jx_get d_Md_part_8 fF_Md_117 (md_tg hK) ((show (mdH h a s).2.2.2 a 24 = Value.int (s.1 24) from md_ri rfl).trans (congrArg Value.int (hM.2.2.1.trans e))) ?_
  refine jx_iconst (v0 := 1) d_Md_part_11 (by decide) ?_
  refine jx_icmp_ne (tgt := 57) d_Md_part_12 (by decide) (fun c2 => ?_) (fun c2 => absurd c2 (by decide))
  refine jx_aload_n d_Md_part_57 0 rfl ?_
  refine jx_get d_Md_part_58 fF_Md_117 (md_tg hK) ((show (mdH h a s).2.2.2 a 24 = Value.int (s.1 24) from md_ri rfl).trans (congrArg Value.int (hM.2.2.1.trans e))) ?_
  refine jx_bipush (v0 := 45) d_Md_part_61 (by decide) ?_
  refine jx_icmp_ne (tgt := 90) d_Md_part_63 (by decide) (fun c3 => ?_) (fun c3 => absurd c3 (by decide))
  refine jx_aload_n d_Md_part_90 0 rfl ?_
  refine jx_get d_Md_part_91 fF_Md_117 (md_tg hK) ((show (mdH h a s).2.2.2 a 24 = Value.int (s.1 24) from md_ri rfl).trans (congrArg Value.int (hM.2.2.1.trans e))) ?_
  refine jx_bipush (v0 := 40) d_Md_part_94 (by decide) ?_
  refine jx_icmp_ne (tgt := 115) d_Md_part_96 (by decide) (fun c4 => ?_) (fun c4 => absurd c4 (by decide))
  refine jx_aload_n d_Md_part_115 0 rfl ?_
  refine jx_get d_Md_part_116 fF_Md_117 (md_tg hK) ((show (mdH h a s).2.2.2 a 24 = Value.int (s.1 24) from md_ri rfl).trans (congrArg Value.int (hM.2.2.1.trans e))) ?_
  refine jx_bipush (v0 := -3) d_Md_part_119 (by decide) ?_
  refine jx_icmp_ne (tgt := 176) d_Md_part_121 (by decide) (fun c5 => absurd c5 (by decide)) (fun c5 => ?_)
  refine jx_aload_n d_Md_part_124 0 rfl ?_
  refine jx_aload_n d_Md_part_125 0 rfl ?_
  have hcf := c_Md_function l G (d - 1) (h := h) (a := a) (s := s) hK
  rw [hM.2.2.2.2.1 he, hfk] at hcf
  refine jx_callV (M2 := mm_Md_function) rfl (md_tg hK) lk_Md_134 wi_Md_function ws_Md_function d_Md_part_126 hcf cd_Md_function rfl rfl (Nat.le_of_ble_eq_true rfl) (jm_fok (by omega)) (jm_look (by decide) (by omega)) ?_
  refine jx_lconst (v0 := 0) d_Md_part_129 (by decide) ?_
  refine jx_callV (M2 := mm_Md_newNode) rfl (md_tg hK) lk_Md_172 wi_Md_newNode ws_Md_newNode d_Md_part_130 (c_Md_newNode l G (d - 1) (s := s) (k := k) (kd := nI (fk)) (amt := 0) hK hk (by omega)) cd_Md_newNode rfl rfl (Nat.le_of_ble_eq_true rfl) (jm_fok (by omega)) (jm_look (by decide) (by omega)) ?_
  refine jx_istore_n (lv' := [(1, .int (nI (k))), (0, .ref (a))]) d_Md_part_133 (by decide) rfl ?_
  refine jx_aload_n d_Md_part_134 1 rfl ?_
  refine jx_callV (M2 := mm_Md_next) rfl (md_tg hK) lk_Md_176 wi_Md_next ws_Md_next d_Md_part_135 (c_Md_next l G (d - 1) (by omega) (s := (m_node s k (nI (fk)) 0)) (B := B) (n := n) (p := (c).2.2.1) hK hT hM.1 hc) cd_Md_next rfl rfl (Nat.le_of_ble_eq_true rfl) (jm_fok (by omega)) (jm_look (by decide) (by omega)) ?_
  refine jx_aload_n d_Md_part_138 1 rfl ?_
  refine jx_get d_Md_part_139 fF_Md_117 (md_tg hK) ((show (mdH h a (m_nx (m_node s k (nI (fk)) 0) B n (c).2.2.1)).2.2.2 a 24 = Value.int ((m_nx (m_node s k (nI (fk)) 0) B n (c).2.2.1).1 24) from md_ri rfl).trans (congrArg Value.int (hM1.2.2.1.trans (show mkd (cu_adv B n c).1 = 40 by rw [e2]; first | done | rfl)))) ?_
  refine jx_bipush (v0 := 40) d_Md_part_142 (by decide) ?_
  refine jx_icmp_eq (tgt := 153) d_Md_part_144 (by decide) (fun c6 => ?_) (fun c6 => absurd c6 (by decide))
  refine jx_aload_n d_Md_part_153 1 rfl ?_
  refine jx_get d_Md_part_154 fF_Md_144 (md_tg hK) ((show (mdH h a (m_nx (m_node s k (nI (fk)) 0) B n (c).2.2.1)).2.2.2 a 3 = Value.int ((m_nx (m_node s k (nI (fk)) 0) B n (c).2.2.1).1 3) from md_ri rfl).trans (congrArg Value.int hz)) ?_
  refine jx_if_ne (tgt := 164) d_Md_part_157 (by decide) (fun c7 => absurd c7 (by decide)) (fun c7 => ?_)
  refine jx_aload_n d_Md_part_160 1 rfl ?_
  have hdd := c_Md_deeper_full l G (d - 1) (by omega) (s := (m_nx (m_node s k (nI (fk)) 0) B n (c).2.2.1)) (p := dpt C) hK hdp (by omega)
  rw [m_fail_of (s := (m_nx (m_node s k (nI (fk)) 0) B n (c).2.2.1)) hz] at hdd
  refine jx_callV (M2 := mm_Md_deeper) rfl (md_tg hK) lk_Md_183 wi_Md_deeper ws_Md_deeper d_Md_part_161 hdd cd_Md_deeper rfl rfl (Nat.le_of_ble_eq_true rfl) (jm_fok (by omega)) (jm_look (by decide) (by omega)) ?_
  refine jx_aload_n d_Md_part_164 1 rfl ?_
  refine jx_iload_n d_Md_part_165 0 rfl ?_
  refine jx_callV (M2 := mm_Md_await) rfl (md_tg hK) lk_Md_186 wi_Md_await ws_Md_await d_Md_part_166 (c_Md_await l G (d - 1) (s := (mi (mi (mi (m_nx (m_node s k (nI (fk)) 0) B n (c).2.2.1) 3 3) 4 ((m_nx (m_node s k (nI (fk)) 0) B n (c).2.2.1).1 23)) 38 (nI (dpt C + 1)))) (w := C.length) (nd := nI (k)) hK hw (by omega)) cd_Md_await rfl rfl (Nat.le_of_ble_eq_true rfl) (jm_fok (by omega)) (jm_look (by decide) (by omega)) ?_
  refine jx_aload_n d_Md_part_169 1 rfl ?_
  refine jx_callV (M2 := mm_Md_next) rfl (md_tg hK) lk_Md_176 wi_Md_next ws_Md_next d_Md_part_170 (c_Md_next l G (d - 1) (by omega) (s := (m_await (mi (mi (mi (m_nx (m_node s k (nI (fk)) 0) B n (c).2.2.1) 3 3) 4 ((m_nx (m_node s k (nI (fk)) 0) B n (c).2.2.1).1 23)) 38 (nI (dpt C + 1))) (C.length) (nI (k)))) (B := B) (n := n) (p := (cu_adv B n c).2.2.1) hK hT hM1.1 (cu_adv_le hc)) cd_Md_next rfl rfl (Nat.le_of_ble_eq_true rfl) (jm_fok (by omega)) (jm_look (by decide) (by omega)) ?_
  refine jx_goto (tgt := 180) d_Md_part_173 (by decide) ?_
  refine jx_iconst (v0 := 0) d_Md_part_180 (by decide) ?_
  exact jx_zret d_Md_part_181 rfl (by first | rfl | decide) (⟨_, rfl, rfl, _, rfl, (m_nx_k (by decide)).trans rfl, (m_nx_k (by decide)).trans (m_await_4.trans hM1.2.1), Fix.nx (Fix.await (((Fix.rf.node.nx.mi (by decide)).mi (by decide)).mi (by decide)))⟩)
set_option maxHeartbeats 4000000 in
set_option maxRecDepth 100000 in
theorem c_Md_part_funW (l : Launch) (G : jm_G) (d : Nat) (hd : 3 ≤ d) {h : jm_H} {a : Nat} {s : MS} {B : Nat → Int32} {n : Nat} {c : Cur} {k : Nat} {C : List Fr} {fk : Nat} (hK : MdK h a) (hB : BSt s B n c k C) (he : c.1 = 2 ∨ c.1 = 4 ∨ c.1 = 5 ∨ c.1 = 6) (e : mkd c.1 = -3) (hfk : m_fun c.2.2.2.1 = nI fk) (h7 : 7 ≤ fk) (h9 : fk ≤ 9) (hk4 : k < 40) (e2 : ¬ mkd (cu_adv B n c).1 = 40) : jm_CP l G mm_Md_part d [.ref a] (mdH h a s) (fun v h9 => v = some (.int 0) ∧ ∃ s', h9 = mdH h a s' ∧ Flo s s' (if mkd (cu_adv B n c).1 = -1 then 1 else 2) (nI (cu_adv B n c).2.1)) := by
  obtain ⟨⟨hT, hM, hc, hk, hk40, hdp, hd20, hw, hz⟩, hp, hX⟩ := id hB
  have hlf := hX.lf
  have hld := lfts_dpt C
  have hM1 := MC.next (s := m_node s k (nI fk) 0) (B := B) (n := n) (c := c)
  have hwr : m_wrong (m_nx (m_node s k (nI fk) 0) B n c.2.2.1) = mi (mi (m_nx (m_node s k (nI fk) 0) B n c.2.2.1) 3 (if mkd (cu_adv B n c).1 = -1 then 1 else 2)) 4 ((m_nx (m_node s k (nI fk) 0) B n c.2.2.1).1 23) := by
    rw [← hM1.2.2.1]
    exact m_fail_of hz
  refine jm_of (by decide) rfl (Nat.le_of_ble_eq_true rfl) ?_
  refine jx_aload_n d_Md_part_0 0 rfl ?_
  refine jx_get d_Md_part_1 fF_Md_117 (md_tg hK) ((show (mdH h a s).2.2.2 a 24 = Value.int (s.1 24) from md_ri rfl).trans (congrArg Value.int (hM.2.2.1.trans e))) ?_
  refine jx_if_eq (tgt := 15) d_Md_part_4 (by decide) (fun c1 => absurd c1 (by decide)) (fun c1 => ?_)
  refine jx_aload_n d_Md_part_7 0 rfl ?_
  refine jx_get d_Md_part_8 fF_Md_117 (md_tg hK) ((show (mdH h a s).2.2.2 a 24 = Value.int (s.1 24) from md_ri rfl).trans (congrArg Value.int (hM.2.2.1.trans e))) ?_
  refine jx_iconst (v0 := 1) d_Md_part_11 (by decide) ?_
  refine jx_icmp_ne (tgt := 57) d_Md_part_12 (by decide) (fun c2 => ?_) (fun c2 => absurd c2 (by decide))
  refine jx_aload_n d_Md_part_57 0 rfl ?_
  refine jx_get d_Md_part_58 fF_Md_117 (md_tg hK) ((show (mdH h a s).2.2.2 a 24 = Value.int (s.1 24) from md_ri rfl).trans (congrArg Value.int (hM.2.2.1.trans e))) ?_
  refine jx_bipush (v0 := 45) d_Md_part_61 (by decide) ?_
  refine jx_icmp_ne (tgt := 90) d_Md_part_63 (by decide) (fun c3 => ?_) (fun c3 => absurd c3 (by decide))
  refine jx_aload_n d_Md_part_90 0 rfl ?_
  refine jx_get d_Md_part_91 fF_Md_117 (md_tg hK) ((show (mdH h a s).2.2.2 a 24 = Value.int (s.1 24) from md_ri rfl).trans (congrArg Value.int (hM.2.2.1.trans e))) ?_
  refine jx_bipush (v0 := 40) d_Md_part_94 (by decide) ?_
  refine jx_icmp_ne (tgt := 115) d_Md_part_96 (by decide) (fun c4 => ?_) (fun c4 => absurd c4 (by decide))
  refine jx_aload_n d_Md_part_115 0 rfl ?_
  refine jx_get d_Md_part_116 fF_Md_117 (md_tg hK) ((show (mdH h a s).2.2.2 a 24 = Value.int (s.1 24) from md_ri rfl).trans (congrArg Value.int (hM.2.2.1.trans e))) ?_
  refine jx_bipush (v0 := -3) d_Md_part_119 (by decide) ?_
  refine jx_icmp_ne (tgt := 176) d_Md_part_121 (by decide) (fun c5 => absurd c5 (by decide)) (fun c5 => ?_)
  refine jx_aload_n d_Md_part_124 0 rfl ?_
  refine jx_aload_n d_Md_part_125 0 rfl ?_
  have hcf := c_Md_function l G (d - 1) (h := h) (a := a) (s := s) hK
  rw [hM.2.2.2.2.1 he, hfk] at hcf
  refine jx_callV (M2 := mm_Md_function) rfl (md_tg hK) lk_Md_134 wi_Md_function ws_Md_function d_Md_part_126 hcf cd_Md_function rfl rfl (Nat.le_of_ble_eq_true rfl) (jm_fok (by omega)) (jm_look (by decide) (by omega)) ?_
  refine jx_lconst (v0 := 0) d_Md_part_129 (by decide) ?_
  refine jx_callV (M2 := mm_Md_newNode) rfl (md_tg hK) lk_Md_172 wi_Md_newNode ws_Md_newNode d_Md_part_130 (c_Md_newNode l G (d - 1) (s := s) (k := k) (kd := nI (fk)) (amt := 0) hK hk (by omega)) cd_Md_newNode rfl rfl (Nat.le_of_ble_eq_true rfl) (jm_fok (by omega)) (jm_look (by decide) (by omega)) ?_
  refine jx_istore_n (lv' := [(1, .int (nI (k))), (0, .ref (a))]) d_Md_part_133 (by decide) rfl ?_
  refine jx_aload_n d_Md_part_134 1 rfl ?_
  refine jx_callV (M2 := mm_Md_next) rfl (md_tg hK) lk_Md_176 wi_Md_next ws_Md_next d_Md_part_135 (c_Md_next l G (d - 1) (by omega) (s := (m_node s k (nI (fk)) 0)) (B := B) (n := n) (p := (c).2.2.1) hK hT hM.1 hc) cd_Md_next rfl rfl (Nat.le_of_ble_eq_true rfl) (jm_fok (by omega)) (jm_look (by decide) (by omega)) ?_
  refine jx_aload_n d_Md_part_138 1 rfl ?_
  refine jx_get d_Md_part_139 fF_Md_117 (md_tg hK) ((show (mdH h a (m_nx (m_node s k (nI (fk)) 0) B n (c).2.2.1)).2.2.2 a 24 = Value.int ((m_nx (m_node s k (nI (fk)) 0) B n (c).2.2.1).1 24) from md_ri rfl).trans (congrArg Value.int (show (m_nx (m_node s k (nI (fk)) 0) B n (c).2.2.1).1 24 = (m_nx (m_node s k (nI fk) 0) B n c.2.2.1).1 24 from rfl))) ?_
  refine jx_bipush (v0 := 40) d_Md_part_142 (by decide) ?_
  refine jx_icmp_eq (tgt := 153) d_Md_part_144 (by decide) (fun c6 => ?_) (fun c6 => ?_)
  · exact absurd (hM1.2.2.1.symm.trans c6) e2
  ·
    refine jx_aload_n d_Md_part_147 1 rfl ?_
    refine jx_callV (M2 := mm_Md_wrong) rfl (md_tg hK) lk_Md_189 wi_Md_wrong ws_Md_wrong d_Md_part_148 (c_Md_wrong l G (d - 1) (by omega) (s := (m_nx (m_node s k (nI (fk)) 0) B n (c).2.2.1)) hK) cd_Md_wrong rfl rfl (Nat.le_of_ble_eq_true rfl) (jm_fok (by omega)) (jm_look (by decide) (by omega)) ?_
    refine jx_iconst (v0 := 0) d_Md_part_151 (by decide) ?_
    exact jx_zret d_Md_part_152 rfl (by first | rfl | decide) (⟨_, rfl, rfl, _, rfl, by rw [hwr]; rfl, by rw [hwr]; exact hM1.2.1, by rw [hwr]; exact (Fix.rf.node.nx.mi (by decide)).mi (by decide)⟩)
set_option maxHeartbeats 4000000 in
set_option maxRecDepth 100000 in
theorem c_Md_part_funF (l : Launch) (G : jm_G) (d : Nat) (hd : 3 ≤ d) {h : jm_H} {a : Nat} {s : MS} {B : Nat → Int32} {n : Nat} {c : Cur} {k : Nat} {C : List Fr} {fk : Nat} (hK : MdK h a) (hB : BSt s B n c k C) (he : c.1 = 2 ∨ c.1 = 4 ∨ c.1 = 5 ∨ c.1 = 6) (e : mkd c.1 = -3) (hfk : m_fun c.2.2.2.1 = nI fk) (h7 : 7 ≤ fk) (h9 : fk ≤ 9) (hk4 : k = 40) : jm_CP l G mm_Md_part d [.ref a] (mdH h a s) (fun v h9 => v = some (.int 0) ∧ ∃ s', h9 = mdH h a s' ∧ Flo s s' 3 (nI c.2.1)) := by
  obtain ⟨⟨hT, hM, hc, hk, hk40, hdp, hd20, hw, hz⟩, hp, hX⟩ := id hB
  have hlf := hX.lf
  have hld := lfts_dpt C
  have hM1 := MC.next (s := mi (mi s 3 3) 4 (s.1 23)) (B := B) (n := n) (c := c)
  have hwr : m_wrong (m_nx (mi (mi s 3 3) 4 (s.1 23)) B n c.2.2.1) = (m_nx (mi (mi s 3 3) 4 (s.1 23)) B n c.2.2.1) := m_fail_no (show ¬ (3 : Int32) = 0 by decide)
  refine jm_of (by decide) rfl (Nat.le_of_ble_eq_true rfl) ?_
  refine jx_aload_n d_Md_part_0 0 rfl ?_
  refine jx_get d_Md_part_1 fF_Md_117 (md_tg hK) ((show (mdH h a s).2.2.2 a 24 = Value.int (s.1 24) from md_ri rfl).trans (congrArg Value.int (hM.2.2.1.trans e))) ?_
  refine jx_if_eq (tgt := 15) d_Md_part_4 (by decide) (fun c1 => absurd c1 (by decide)) (fun c1 => ?_)
  refine jx_aload_n d_Md_part_7 0 rfl ?_
  refine jx_get d_Md_part_8 fF_Md_117 (md_tg hK) ((show (mdH h a s).2.2.2 a 24 = Value.int (s.1 24) from md_ri rfl).trans (congrArg Value.int (hM.2.2.1.trans e))) ?_
  refine jx_iconst (v0 := 1) d_Md_part_11 (by decide) ?_
  refine jx_icmp_ne (tgt := 57) d_Md_part_12 (by decide) (fun c2 => ?_) (fun c2 => absurd c2 (by decide))
  refine jx_aload_n d_Md_part_57 0 rfl ?_
  refine jx_get d_Md_part_58 fF_Md_117 (md_tg hK) ((show (mdH h a s).2.2.2 a 24 = Value.int (s.1 24) from md_ri rfl).trans (congrArg Value.int (hM.2.2.1.trans e))) ?_
  refine jx_bipush (v0 := 45) d_Md_part_61 (by decide) ?_
  refine jx_icmp_ne (tgt := 90) d_Md_part_63 (by decide) (fun c3 => ?_) (fun c3 => absurd c3 (by decide))
  refine jx_aload_n d_Md_part_90 0 rfl ?_
  refine jx_get d_Md_part_91 fF_Md_117 (md_tg hK) ((show (mdH h a s).2.2.2 a 24 = Value.int (s.1 24) from md_ri rfl).trans (congrArg Value.int (hM.2.2.1.trans e))) ?_
  refine jx_bipush (v0 := 40) d_Md_part_94 (by decide) ?_
  refine jx_icmp_ne (tgt := 115) d_Md_part_96 (by decide) (fun c4 => ?_) (fun c4 => absurd c4 (by decide))
  refine jx_aload_n d_Md_part_115 0 rfl ?_
  refine jx_get d_Md_part_116 fF_Md_117 (md_tg hK) ((show (mdH h a s).2.2.2 a 24 = Value.int (s.1 24) from md_ri rfl).trans (congrArg Value.int (hM.2.2.1.trans e))) ?_
  refine jx_bipush (v0 := -3) d_Md_part_119 (by decide) ?_
  refine jx_icmp_ne (tgt := 176) d_Md_part_121 (by decide) (fun c5 => absurd c5 (by decide)) (fun c5 => ?_)
  refine jx_aload_n d_Md_part_124 0 rfl ?_
  refine jx_aload_n d_Md_part_125 0 rfl ?_
  have hcf := c_Md_function l G (d - 1) (h := h) (a := a) (s := s) hK
  rw [hM.2.2.2.2.1 he, hfk] at hcf
  refine jx_callV (M2 := mm_Md_function) rfl (md_tg hK) lk_Md_134 wi_Md_function ws_Md_function d_Md_part_126 hcf cd_Md_function rfl rfl (Nat.le_of_ble_eq_true rfl) (jm_fok (by omega)) (jm_look (by decide) (by omega)) ?_
  refine jx_lconst (v0 := 0) d_Md_part_129 (by decide) ?_
  have hnd := (c_Md_newNode_full l G (d - 1) (by omega) (s := s) (k := k) (kd := nI (fk)) (amt := 0) hK hk (by omega))
  rw [m_fail_of hz] at hnd
  refine jx_callV (M2 := mm_Md_newNode) rfl (md_tg hK) lk_Md_172 wi_Md_newNode ws_Md_newNode d_Md_part_130 hnd cd_Md_newNode rfl rfl (Nat.le_of_ble_eq_true rfl) (jm_fok (by omega)) (jm_look (by decide) (by omega)) ?_
  refine jx_istore_n (lv' := [(1, .int (0)), (0, .ref (a))]) d_Md_part_133 (by decide) rfl ?_
  refine jx_aload_n d_Md_part_134 1 rfl ?_
  refine jx_callV (M2 := mm_Md_next) rfl (md_tg hK) lk_Md_176 wi_Md_next ws_Md_next d_Md_part_135 (c_Md_next l G (d - 1) (by omega) (s := (mi (mi s 3 3) 4 (s.1 23))) (B := B) (n := n) (p := (c).2.2.1) hK hT hM.1 hc) cd_Md_next rfl rfl (Nat.le_of_ble_eq_true rfl) (jm_fok (by omega)) (jm_look (by decide) (by omega)) ?_
  refine jx_aload_n d_Md_part_138 1 rfl ?_
  refine jx_get d_Md_part_139 fF_Md_117 (md_tg hK) ((show (mdH h a (m_nx (mi (mi s 3 3) 4 (s.1 23)) B n (c).2.2.1)).2.2.2 a 24 = Value.int ((m_nx (mi (mi s 3 3) 4 (s.1 23)) B n (c).2.2.1).1 24) from md_ri rfl).trans (congrArg Value.int (show (m_nx (mi (mi s 3 3) 4 (s.1 23)) B n (c).2.2.1).1 24 = (m_nx (mi (mi s 3 3) 4 (s.1 23)) B n c.2.2.1).1 24 from rfl))) ?_
  refine jx_bipush (v0 := 40) d_Md_part_142 (by decide) ?_
  refine jx_icmp_eq (tgt := 153) d_Md_part_144 (by decide) (fun c6 => ?_) (fun c6 => ?_)
  ·
    refine jx_aload_n d_Md_part_153 1 rfl ?_
    refine jx_get d_Md_part_154 fF_Md_144 (md_tg hK) ((show (mdH h a (m_nx (mi (mi s 3 3) 4 (s.1 23)) B n (c).2.2.1)).2.2.2 a 3 = Value.int ((m_nx (mi (mi s 3 3) 4 (s.1 23)) B n (c).2.2.1).1 3) from md_ri rfl).trans (congrArg Value.int (show (m_nx (mi (mi s 3 3) 4 (s.1 23)) B n (c).2.2.1).1 3 = 3 from rfl))) ?_
    refine jx_if_ne (tgt := 164) d_Md_part_157 (by decide) (fun c7 => ?_) (fun c7 => absurd c7 (by decide))
    refine jx_aload_n d_Md_part_164 1 rfl ?_
    refine jx_iload_n d_Md_part_165 0 rfl ?_
    refine jx_callV (M2 := mm_Md_await) rfl (md_tg hK) lk_Md_186 wi_Md_await ws_Md_await d_Md_part_166 (c_Md_await l G (d - 1) (s := (m_nx (mi (mi s 3 3) 4 (s.1 23)) B n (c).2.2.1)) (w := C.length) (nd := 0) hK hw (by omega)) cd_Md_await rfl rfl (Nat.le_of_ble_eq_true rfl) (jm_fok (by omega)) (jm_look (by decide) (by omega)) ?_
    refine jx_aload_n d_Md_part_169 1 rfl ?_
    refine jx_callV (M2 := mm_Md_next) rfl (md_tg hK) lk_Md_176 wi_Md_next ws_Md_next d_Md_part_170 (c_Md_next l G (d - 1) (by omega) (s := (m_await (m_nx (mi (mi s 3 3) 4 (s.1 23)) B n (c).2.2.1) (C.length) 0)) (B := B) (n := n) (p := (cu_adv B n c).2.2.1) hK hT hM1.1 (cu_adv_le hc)) cd_Md_next rfl rfl (Nat.le_of_ble_eq_true rfl) (jm_fok (by omega)) (jm_look (by decide) (by omega)) ?_
    refine jx_goto (tgt := 180) d_Md_part_173 (by decide) ?_
    refine jx_iconst (v0 := 0) d_Md_part_180 (by decide) ?_
    exact jx_zret d_Md_part_181 rfl (by first | rfl | decide) (⟨_, rfl, rfl, _, rfl, rfl, hM.2.1, Fix.nx (Fix.await (Fix.nx ((Fix.rf.mi (by decide)).mi (by decide))))⟩)
  ·
    refine jx_aload_n d_Md_part_147 1 rfl ?_
    refine jx_callV (M2 := mm_Md_wrong) rfl (md_tg hK) lk_Md_189 wi_Md_wrong ws_Md_wrong d_Md_part_148 (c_Md_wrong l G (d - 1) (by omega) (s := (m_nx (mi (mi s 3 3) 4 (s.1 23)) B n (c).2.2.1)) hK) cd_Md_wrong rfl rfl (Nat.le_of_ble_eq_true rfl) (jm_fok (by omega)) (jm_look (by decide) (by omega)) ?_
    refine jx_iconst (v0 := 0) d_Md_part_151 (by decide) ?_
    exact jx_zret d_Md_part_152 rfl (by first | rfl | decide) (⟨_, rfl, rfl, _, rfl, by rw [hwr]; rfl, by rw [hwr]; exact hM.2.1, by rw [hwr]; exact ((Fix.rf.mi (by decide)).mi (by decide)).nx⟩)
