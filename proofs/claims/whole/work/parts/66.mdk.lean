set_option maxHeartbeats 4000000 in
set_option maxRecDepth 100000 in
theorem c_Md_thrown (l : Launch) (G : jm_G) (d : Nat) {h : jm_H} {a : Nat} {s : MS} (hK : MdK h a) : jm_C l G mm_Md_thrown d [.ref a] (mdH h a s) (some (.int (s.1 0))) (mdH h a s) := by
  refine jm_ofE (by decide) rfl (Nat.le_of_ble_eq_true rfl) ?_
  refine jx_aload_n d_Md_thrown_0 0 rfl ?_
  refine jx_get d_Md_thrown_1 fF_Md_96 (md_tg hK) (show (mdH h a s).2.2.2 a 0 = Value.int (s.1 0) from md_ri rfl) ?_
  exact jx_iret d_Md_thrown_4 rfl (⟨rfl, rfl⟩)
set_option maxHeartbeats 4000000 in
set_option maxRecDepth 100000 in
theorem c_Md_fault (l : Launch) (G : jm_G) (d : Nat) {h : jm_H} {a : Nat} {s : MS} (hK : MdK h a) : jm_C l G mm_Md_fault d [.ref a] (mdH h a s) (some (.int (s.1 3))) (mdH h a (mi s 0 0)) := by
  refine jm_ofE (by decide) rfl (Nat.le_of_ble_eq_true rfl) ?_
  refine jx_aload_n d_Md_fault_0 0 rfl ?_
  refine jx_iconst (v0 := 0) d_Md_fault_1 (by decide) ?_
  refine jx_put (v0 := .int (0)) d_Md_fault_2 fF_Md_96 jv_Md ft_Md_thrown (md_tg hK) rfl rfl ?_
  refine jx_ath (md_wi (k := 0) rfl) ?_
  refine jx_aload_n d_Md_fault_5 0 rfl ?_
  refine jx_get d_Md_fault_6 fF_Md_144 (md_tg hK) (show (mdH h a (mi s 0 0)).2.2.2 a 3 = Value.int (s.1 3) from md_ri rfl) ?_
  exact jx_iret d_Md_fault_9 rfl (⟨rfl, rfl⟩)
set_option maxHeartbeats 4000000 in
set_option maxRecDepth 100000 in
theorem c_Md_end_o (l : Launch) (G : jm_G) (d : Nat) {h : jm_H} {a : Nat} {s : MS} {j n : Nat} (hK : MdK h a) (hn : s.1 2 = nI n) (hn2 : n ≤ 2000) (hj : j ≤ n) : jm_C l G mm_Md_end d [.ref a, .int (nI j)] (mdH h a s) none (mdH h a (mi (mi s 0 0) 2 (nI j))) := by
  refine jm_ofE (by decide) rfl (Nat.le_of_ble_eq_true rfl) ?_
  refine jx_aload_n d_Md_end_0 0 rfl ?_
  refine jx_iload_n d_Md_end_1 1 rfl ?_
  refine jx_if_ltN (tgt := 17) (j) d_Md_end_2 rfl (by omega) (by decide) (fun c1 => ?_) (fun c1 => ?_)
  · omega
  ·
    refine jx_iload_n d_Md_end_5 1 rfl ?_
    refine jx_aload_n d_Md_end_6 0 rfl ?_
    refine jx_get d_Md_end_7 fF_Md_100 (md_tg hK) ((show (mdH h a s).2.2.2 a 2 = Value.int (s.1 2) from md_ri rfl).trans (congrArg Value.int hn)) ?_
    refine jx_icmp_gtN (tgt := 17) (j) (n) d_Md_end_10 rfl rfl (by omega) (by omega) (by decide) (fun c2 => ?_) (fun c2 => ?_)
    · omega
    ·
      refine jx_iconst (v0 := 0) d_Md_end_13 (by decide) ?_
      refine jx_goto (tgt := 18) d_Md_end_14 (by decide) ?_
      refine jx_put (v0 := .int (0)) d_Md_end_18 fF_Md_96 jv_Md ft_Md_thrown (md_tg hK) rfl rfl ?_
      refine jx_ath (md_wi (k := 0) rfl) ?_
      refine jx_aload_n d_Md_end_21 0 rfl ?_
      refine jx_aload_n d_Md_end_22 0 rfl ?_
      refine jx_get d_Md_end_23 fF_Md_96 (md_tg hK) (show (mdH h a (mi s 0 0)).2.2.2 a 0 = Value.int (0) from md_ri rfl) ?_
      refine jx_if_le (tgt := 36) d_Md_end_26 (by decide) (fun c3 => ?_) (fun c3 => absurd c3 (by decide))
      refine jx_iload_n d_Md_end_36 1 rfl ?_
      refine jx_put (v0 := .int (nI (j))) d_Md_end_37 fF_Md_100 jv_Md ft_Md_tapeSize (md_tg hK) rfl rfl ?_
      refine jx_ath (md_wi (k := 2) rfl) ?_
      exact jx_vret d_Md_end_40 rfl (⟨rfl, rfl⟩)
set_option maxHeartbeats 4000000 in
set_option maxRecDepth 100000 in
theorem c_Md_end_t (l : Launch) (G : jm_G) (d : Nat) {h : jm_H} {a : Nat} {s : MS} {i : Int32} {n : Nat} (hK : MdK h a) (hn : s.1 2 = nI n) (hi : i < 0 ∨ nI n < i) : jm_C l G mm_Md_end d [.ref a, .int i] (mdH h a s) none (mdH h a (mi s 0 1)) := by
  refine jm_ofE (by decide) rfl (Nat.le_of_ble_eq_true rfl) ?_
  refine jx_aload_n d_Md_end_0 0 rfl ?_
  refine jx_iload_n d_Md_end_1 1 rfl ?_
  refine jx_if_lt (tgt := 17) d_Md_end_2 (by decide) (fun c1 => ?_) (fun c1 => ?_)
  ·
    refine jx_iconst (v0 := 1) d_Md_end_17 (by decide) ?_
    refine jx_put (v0 := .int (1)) d_Md_end_18 fF_Md_96 jv_Md ft_Md_thrown (md_tg hK) rfl rfl ?_
    refine jx_ath (md_wi (k := 0) rfl) ?_
    refine jx_aload_n d_Md_end_21 0 rfl ?_
    refine jx_aload_n d_Md_end_22 0 rfl ?_
    refine jx_get d_Md_end_23 fF_Md_96 (md_tg hK) (show (mdH h a (mi s 0 1)).2.2.2 a 0 = Value.int (1) from md_ri rfl) ?_
    refine jx_if_le (tgt := 36) d_Md_end_26 (by decide) (fun c2 => absurd c2 (by decide)) (fun c2 => ?_)
    refine jx_aload_n d_Md_end_29 0 rfl ?_
    refine jx_get d_Md_end_30 fF_Md_100 (md_tg hK) ((show (mdH h a (mi s 0 1)).2.2.2 a 2 = Value.int (s.1 2) from md_ri rfl).trans (congrArg Value.int hn)) ?_
    refine jx_goto (tgt := 37) d_Md_end_33 (by decide) ?_
    refine jx_put (v0 := .int (nI n)) d_Md_end_37 fF_Md_100 jv_Md ft_Md_tapeSize (md_tg hK) rfl rfl ?_
    refine jx_ath (md_wi (k := 2) rfl) ?_
    exact jx_vret d_Md_end_40 rfl (⟨rfl, congrArg (mdH h a) (show mi (mi s 0 1) 2 (nI n) = _ by rw [← hn]; exact mi_self (mi s 0 1) 2)⟩)
  ·
    refine jx_iload_n d_Md_end_5 1 rfl ?_
    refine jx_aload_n d_Md_end_6 0 rfl ?_
    refine jx_get d_Md_end_7 fF_Md_100 (md_tg hK) ((show (mdH h a s).2.2.2 a 2 = Value.int (s.1 2) from md_ri rfl).trans (congrArg Value.int hn)) ?_
    refine jx_icmp_gt (tgt := 17) d_Md_end_10 (by decide) (fun c3 => ?_) (fun c3 => ?_)
    ·
      refine jx_iconst (v0 := 1) d_Md_end_17 (by decide) ?_
      refine jx_put (v0 := .int (1)) d_Md_end_18 fF_Md_96 jv_Md ft_Md_thrown (md_tg hK) rfl rfl ?_
      refine jx_ath (md_wi (k := 0) rfl) ?_
      refine jx_aload_n d_Md_end_21 0 rfl ?_
      refine jx_aload_n d_Md_end_22 0 rfl ?_
      refine jx_get d_Md_end_23 fF_Md_96 (md_tg hK) (show (mdH h a (mi s 0 1)).2.2.2 a 0 = Value.int (1) from md_ri rfl) ?_
      refine jx_if_le (tgt := 36) d_Md_end_26 (by decide) (fun c4 => absurd c4 (by decide)) (fun c4 => ?_)
      refine jx_aload_n d_Md_end_29 0 rfl ?_
      refine jx_get d_Md_end_30 fF_Md_100 (md_tg hK) ((show (mdH h a (mi s 0 1)).2.2.2 a 2 = Value.int (s.1 2) from md_ri rfl).trans (congrArg Value.int hn)) ?_
      refine jx_goto (tgt := 37) d_Md_end_33 (by decide) ?_
      refine jx_put (v0 := .int (nI n)) d_Md_end_37 fF_Md_100 jv_Md ft_Md_tapeSize (md_tg hK) rfl rfl ?_
      refine jx_ath (md_wi (k := 2) rfl) ?_
      exact jx_vret d_Md_end_40 rfl (⟨rfl, congrArg (mdH h a) (show mi (mi s 0 1) 2 (nI n) = _ by rw [← hn]; exact mi_self (mi s 0 1) 2)⟩)
    ·
      exact absurd hi (by rintro (q | q)
                          · exact c1 q
                          · exact c3 q)
theorem DepM.c {s s' : MS} {N : Nat → Nat} (h : s'.2.2 = s.2.2) (u : Int64) (c : Nat) : DepM s' N u c ↔ DepM s N u c := by
  have e : ∀ D, DClo s' N u D ↔ DClo s N u D := fun D => by
    unfold DClo
    simp only [m_rd_c h]
    unfold tM nM
    rw [h]
  unfold DepM
  exact ⟨fun q D hD => q D ((e D).mpr hD), fun q D hD => q D ((e D).mp hD)⟩
def mdr (s : MS) (N : Nat → Nat) (u : Int64) (c : Nat) : Bool := tM s c && m_rd s N c u
set_option maxHeartbeats 4000000 in
set_option maxRecDepth 100000 in
theorem c_Md_readers_a (l : Launch) (G : jm_G) (d : Nat) (hd : 3 ≤ d) {h : jm_H} {a : Nat} {s : MS} {B : Nat → Int32} {n : Nat} {N : Nat → Nat} {z : Int32} (hK : MdK h a) (hT : MT s B n) (hq0 : q_nm B n ≠ 0) (hN : NcOK s N) (hz : ¬ z = 0) : jm_CP l G mm_Md_readers d [.ref a, .int z] (mdH h a s) (fun v h9 => ∃ s1, FixN s s1 ∧ h9 = mdH h a (mi s1 0 0) ∧ ∃ all, v = some (.int (nI (cnt (bt all) 64))) ∧ ∀ c, c < 64 → (bt all c = true ↔ DepM s N (q_nm B n) c)) := by
  refine jm_of (by decide) rfl (Nat.le_of_ble_eq_true rfl) ?_
  refine jx_aload_n d_Md_readers_0 0 rfl ?_
  refine jx_aload_n d_Md_readers_1 0 rfl ?_
  obtain ⟨v1, g1, hC1, rfl, s1, rfl, hF1, hq1⟩ := c_Md_isNameT l G (d - 1) (by omega) hK hT hq0
  refine jx_callV (M2 := mm_Md_isName) rfl (md_tg hK) lk_Md_269 wi_Md_isName ws_Md_isName d_Md_readers_2 hC1 cd_Md_isName rfl rfl (Nat.le_of_ble_eq_true rfl) (jm_fok (by omega)) (jm_look (by decide) (by omega)) ?_
  refine jx_if_eq (tgt := 12) d_Md_readers_5 (by decide) (fun c1 => absurd c1 (by decide)) (fun c1 => ?_)
  refine jx_iconst (v0 := 0) d_Md_readers_8 (by decide) ?_
  refine jx_goto (tgt := 13) d_Md_readers_9 (by decide) ?_
  refine jx_put (v0 := .int (0)) d_Md_readers_13 fF_Md_96 jv_Md ft_Md_thrown (md_tg hK) rfl rfl ?_
  refine jx_ath (md_wi (k := 0) rfl) ?_
  refine jx_aload_n d_Md_readers_16 0 rfl ?_
  refine jx_get d_Md_readers_17 fF_Md_96 (md_tg hK) (show (mdH h a (mi s1 0 0)).2.2.2 a 0 = Value.int (0) from md_ri rfl) ?_
  refine jx_if_le (tgt := 25) d_Md_readers_20 (by decide) (fun c2 => ?_) (fun c2 => absurd c2 (by decide))
  refine jx_aload_n d_Md_readers_25 0 rfl ?_
  refine jx_get d_Md_readers_26 fF_Md_123 (md_tg hK) (show (mdH h a (mi s1 0 0)).2.2.2 a 25 = Value.long (s1.2.1 25) from md_rl rfl) ?_
  refine jx_lstore_n (lv' := [(2, .long (s1.2.1 25)), (0, .ref (a)), (1, .int (z))]) d_Md_readers_29 (by decide) rfl ?_
  refine jx_iload_n d_Md_readers_30 2 rfl ?_
  refine jx_if_eq (tgt := 43) d_Md_readers_31 (by decide) (fun c3 => ?_) (fun c3 => ?_)
  · exact absurd c3 hz
  ·
    refine jx_aload_n d_Md_readers_34 1 rfl ?_
    refine jx_lload_n d_Md_readers_35 0 rfl ?_
    obtain ⟨v2, g2, hC2, all, rfl, rfl, hall⟩ := c_Md_readersOf l G (d - 1) (by omega) (h := h) (a := a) (s := (mi s1 0 0)) (u := s1.2.1 25) hK (NcOK.c (show ((mi s1 0 0)).2.2 = s.2.2 from hF1.2.2) hN)
    refine jx_callV (M2 := mm_Md_readersOf) rfl (md_tg hK) lk_Md_221 wi_Md_readersOf ws_Md_readersOf d_Md_readers_36 hC2 cd_Md_readersOf rfl rfl (Nat.le_of_ble_eq_true rfl) (jm_fok (by omega)) (jm_look (by decide) (by omega)) ?_
    refine jx_callS (M2 := mm_Md_howMany) lk_Md_278 wt_Md_howMany d_Md_readers_39 (c_Md_howMany l G (d - 1) (u := all)) cd_Md_howMany rfl rfl (Nat.le_of_ble_eq_true rfl) (jm_fok (by omega)) (jm_look (by decide) (by omega)) ?_
    exact jx_iret d_Md_readers_42 rfl (⟨_, rfl, s1, hF1, rfl, all, rfl, fun c hc => (hall c hc).trans (by rw [hq1]; exact DepM.c hF1.2.2 _ _)⟩)
set_option maxHeartbeats 4000000 in
set_option maxRecDepth 100000 in
theorem lp_Md_readers (l : Launch) (G : jm_G) {h : jm_H} {a : Nat} {s : MS} {N : Nat → Nat} {u : Int64} {z : Int32} {n0 s0 d : Nat} {Post : jm_r → jm_H → Prop} (hd : 1 ≤ d) (hK : MdK h a) (hN : NcOK s N) (k1 : Post (.inl (some (.int (nI (cnt (mdr s N u) 64))))) (mdH h a s)) (t : Nat) : ∀ i, 64 - i < t → i ≤ 64 → jm_X l G mm_Md_readers n0 s0 (jm_zn G d n0 s0) Post 49 [(5, .int (nI (i))), (4, .int (nI (cnt (mdr s N u) i))), (2, .long (u)), (0, .ref (a)), (1, .int (z))] [] (mdH h a s) := by
  induction t with
  | zero => intro i hm; omega
  | succ t ih =>
    intro i hm hi
    have hcc := cnt_le (mdr s N u) i
    refine jx_iload d_Md_readers_49 0 rfl ?_
    refine jx_bipush (v0 := 64) d_Md_readers_51 (by decide) ?_
    refine jx_icmp_geN (tgt := 93) (i) (64) d_Md_readers_53 rfl rfl (by omega) (by omega) (by decide) (fun c1 => ?_) (fun c1 => ?_)
    ·
      refine jx_iload d_Md_readers_93 1 rfl ?_
      exact jx_iret d_Md_readers_95 rfl (by rw [show i = 64 by omega]; exact k1)
    ·
      refine jx_aload_n d_Md_readers_56 3 rfl ?_
      refine jx_get d_Md_readers_57 fF_Md_13 (md_tg hK) (md_rr hK (k := 5) (j := 2) rfl rfl rfl) ?_
      refine jx_iload d_Md_readers_60 0 rfl ?_
      refine jx_zald d_Md_readers_62 (md_ta hK (j := 2) rfl) rfl (jm_vinN (show i < 64 by omega) (by decide)) (jm_atN (show i < 2 ^ 31 by omega) (show (mdH h a s).2.2.2 (a + 2) i = Value.int (jb (s.2.2.2.2 2 i)) from md_raz (j := 2) (show i < 64 by omega))) ?_
      refine jx_if_eq (tgt := 83) d_Md_readers_63 (by decide) (fun c2 => ?_) (fun c2 => ?_)
      ·
        refine jx_iload d_Md_readers_83 1 rfl ?_
        refine jx_istore (lv' := [(4, .int (nI (cnt (mdr s N u) i))), (5, .int (nI (i))), (2, .long (u)), (0, .ref (a)), (1, .int (z))]) d_Md_readers_85 (by decide) rfl ?_
        refine jx_iinc (v0 := nI (i + 1)) (lv' := [(5, .int (nI (i + 1))), (4, .int (nI (cnt (mdr s N u) i))), (2, .long (u)), (0, .ref (a)), (1, .int (z))]) d_Md_readers_87 1 rfl (nI_add _ 1) (by decide) rfl ?_
        refine jx_goto (tgt := 49) d_Md_readers_90 (by decide) ?_
        have e9 := ih (i + 1) (by omega) (by omega)
        rw [cnt_f (show mdr s N u i = false by unfold mdr; rw [show tM s i = false from jb0 c2]; rfl)] at e9
        exact e9
      ·
        refine jx_aload_n d_Md_readers_66 3 rfl ?_
        refine jx_iload d_Md_readers_67 0 rfl ?_
        refine jx_lload_n d_Md_readers_69 2 rfl ?_
        refine jx_callV (M2 := mm_Md_reads) rfl (md_tg hK) lk_Md_207 wi_Md_reads ws_Md_reads d_Md_readers_70 (c_Md_reads l G (d - 1) (s := s) (N := N) (c := i) (u := u) hK hN (by omega)) cd_Md_reads rfl rfl (Nat.le_of_ble_eq_true rfl) (jm_fok (by omega)) (jm_look (by decide) (by omega)) ?_
        refine jx_if_eq (tgt := 83) d_Md_readers_73 (by decide) (fun c3 => ?_) (fun c3 => ?_)
        ·
          refine jx_iload d_Md_readers_83 1 rfl ?_
          refine jx_istore (lv' := [(4, .int (nI (cnt (mdr s N u) i))), (5, .int (nI (i))), (2, .long (u)), (0, .ref (a)), (1, .int (z))]) d_Md_readers_85 (by decide) rfl ?_
          refine jx_iinc (v0 := nI (i + 1)) (lv' := [(5, .int (nI (i + 1))), (4, .int (nI (cnt (mdr s N u) i))), (2, .long (u)), (0, .ref (a)), (1, .int (z))]) d_Md_readers_87 1 rfl (nI_add _ 1) (by decide) rfl ?_
          refine jx_goto (tgt := 49) d_Md_readers_90 (by decide) ?_
          have e9 := ih (i + 1) (by omega) (by omega)
          rw [cnt_f (show mdr s N u i = false by unfold mdr; rw [jb0 c3]; exact Bool.and_false _)] at e9
          exact e9
        ·
          refine jx_iload d_Md_readers_76 1 rfl ?_
          refine jx_iconst (v0 := 1) d_Md_readers_78 (by decide) ?_
          refine jx_iadd d_Md_readers_79 ?_
          refine jx_ati (nI_add (cnt (mdr s N u) i) (1)) ?_
          refine jx_goto (tgt := 85) d_Md_readers_80 (by decide) ?_
          refine jx_istore (lv' := [(4, .int (nI ((cnt (mdr s N u) i) + (1)))), (5, .int (nI (i))), (2, .long (u)), (0, .ref (a)), (1, .int (z))]) d_Md_readers_85 (by decide) rfl ?_
          refine jx_iinc (v0 := nI (i + 1)) (lv' := [(5, .int (nI (i + 1))), (4, .int (nI ((cnt (mdr s N u) i) + (1)))), (2, .long (u)), (0, .ref (a)), (1, .int (z))]) d_Md_readers_87 1 rfl (nI_add _ 1) (by decide) rfl ?_
          refine jx_goto (tgt := 49) d_Md_readers_90 (by decide) ?_
          have e9 := ih (i + 1) (by omega) (by omega)
          rw [cnt_t (show mdr s N u i = true by unfold mdr; rw [show tM s i = true from jb1 c2, jb1 c3]; rfl)] at e9
          exact e9
set_option maxHeartbeats 4000000 in
set_option maxRecDepth 100000 in
theorem c_Md_readers_d (l : Launch) (G : jm_G) (d : Nat) (hd : 3 ≤ d) {h : jm_H} {a : Nat} {s : MS} {B : Nat → Int32} {n : Nat} {N : Nat → Nat} {z : Int32} (hK : MdK h a) (hT : MT s B n) (hq0 : q_nm B n ≠ 0) (hN : NcOK s N) (hz : z = 0) : jm_CP l G mm_Md_readers d [.ref a, .int z] (mdH h a s) (fun v h9 => ∃ s1, FixN s s1 ∧ h9 = mdH h a (mi s1 0 0) ∧ v = some (.int (nI (cnt (mdr s N (q_nm B n)) 64)))) := by
  refine jm_of (by decide) rfl (Nat.le_of_ble_eq_true rfl) ?_
  refine jx_aload_n d_Md_readers_0 0 rfl ?_
  refine jx_aload_n d_Md_readers_1 0 rfl ?_
  obtain ⟨v1, g1, hC1, rfl, s1, rfl, hF1, hq1⟩ := c_Md_isNameT l G (d - 1) (by omega) hK hT hq0
  refine jx_callV (M2 := mm_Md_isName) rfl (md_tg hK) lk_Md_269 wi_Md_isName ws_Md_isName d_Md_readers_2 hC1 cd_Md_isName rfl rfl (Nat.le_of_ble_eq_true rfl) (jm_fok (by omega)) (jm_look (by decide) (by omega)) ?_
  refine jx_if_eq (tgt := 12) d_Md_readers_5 (by decide) (fun c1 => absurd c1 (by decide)) (fun c1 => ?_)
  refine jx_iconst (v0 := 0) d_Md_readers_8 (by decide) ?_
  refine jx_goto (tgt := 13) d_Md_readers_9 (by decide) ?_
  refine jx_put (v0 := .int (0)) d_Md_readers_13 fF_Md_96 jv_Md ft_Md_thrown (md_tg hK) rfl rfl ?_
  refine jx_ath (md_wi (k := 0) rfl) ?_
  refine jx_aload_n d_Md_readers_16 0 rfl ?_
  refine jx_get d_Md_readers_17 fF_Md_96 (md_tg hK) (show (mdH h a (mi s1 0 0)).2.2.2 a 0 = Value.int (0) from md_ri rfl) ?_
  refine jx_if_le (tgt := 25) d_Md_readers_20 (by decide) (fun c2 => ?_) (fun c2 => absurd c2 (by decide))
  refine jx_aload_n d_Md_readers_25 0 rfl ?_
  refine jx_get d_Md_readers_26 fF_Md_123 (md_tg hK) (show (mdH h a (mi s1 0 0)).2.2.2 a 25 = Value.long (s1.2.1 25) from md_rl rfl) ?_
  refine jx_lstore_n (lv' := [(2, .long (s1.2.1 25)), (0, .ref (a)), (1, .int (z))]) d_Md_readers_29 (by decide) rfl ?_
  refine jx_iload_n d_Md_readers_30 2 rfl ?_
  refine jx_if_eq (tgt := 43) d_Md_readers_31 (by decide) (fun c3 => ?_) (fun c3 => ?_)
  ·
    refine jx_iconst (v0 := 0) d_Md_readers_43 (by decide) ?_
    refine jx_istore (lv' := [(4, .int (0)), (2, .long (s1.2.1 25)), (0, .ref (a)), (1, .int (z))]) d_Md_readers_44 (by decide) rfl ?_
    refine jx_iconst (v0 := 0) d_Md_readers_46 (by decide) ?_
    refine jx_istore (lv' := [(5, .int (0)), (4, .int (0)), (2, .long (s1.2.1 25)), (0, .ref (a)), (1, .int (z))]) d_Md_readers_47 (by decide) rfl ?_
    exact lp_Md_readers l G (s := mi s1 0 0) (N := N) (by omega) hK (NcOK.c (show (mi s1 0 0).2.2 = s.2.2 from hF1.2.2) hN) ⟨_, rfl, s1, hF1, rfl, by rw [hq1, cnt_congr (f := mdr (mi s1 0 0) N (q_nm B n)) (g := mdr s N (q_nm B n)) fun c hc => by unfold mdr; rw [m_rd_c (show (mi s1 0 0).2.2 = s.2.2 from hF1.2.2)]; unfold tM; rw [show (mi s1 0 0).2.2 = s.2.2 from hF1.2.2]]⟩ 65 0 (by omega) (by omega)
  · exact absurd hz c3
def m_b8 (x : Int64) (k : Nat) : Int32 := Int64.toInt32 (x >>> (Int32.toInt64 (nI (56 - 8 * k)) &&& 63)) &&& 255
set_option maxHeartbeats 4000000 in
set_option maxRecDepth 100000 in
theorem c_Md_built_i (l : Launch) (G : jm_G) (d : Nat) {h : jm_H} {a : Nat} {s : MS} {j k ls : Nat} (hK : MdK h a) (hls : s.1 21 = nI ls) (hls2 : ls ≤ 64) (hj : j < ls) (hk : k < 8) : jm_C l G mm_Md_built d [.ref a, .int (nI j), .int (nI k)] (mdH h a s) (some (.int (m_b8 (s.2.2.2.1 16 j) k))) (mdH h a (mi s 0 (if 0 < m_b8 (s.2.2.2.1 16 j) k then 0 else 1))) := by
  refine jm_ofE (by decide) rfl (Nat.le_of_ble_eq_true rfl) ?_
  refine jx_iload_n d_Md_built_0 1 rfl ?_
  refine jx_if_ltN (tgt := 44) (j) d_Md_built_1 rfl (by omega) (by decide) (fun c1 => ?_) (fun c1 => ?_)
  · omega
  ·
    refine jx_iload_n d_Md_built_4 1 rfl ?_
    refine jx_aload_n d_Md_built_5 0 rfl ?_
    refine jx_get d_Md_built_6 fF_Md_257 (md_tg hK) ((show (mdH h a s).2.2.2 a 21 = Value.int (s.1 21) from md_ri rfl).trans (congrArg Value.int hls)) ?_
    refine jx_icmp_geN (tgt := 44) (j) (ls) d_Md_built_9 rfl rfl (by omega) (by omega) (by decide) (fun c2 => ?_) (fun c2 => ?_)
    · omega
    ·
      refine jx_iload_n d_Md_built_12 2 rfl ?_
      refine jx_if_ltN (tgt := 44) (k) d_Md_built_13 rfl (by omega) (by decide) (fun c3 => ?_) (fun c3 => ?_)
      · omega
      ·
        refine jx_iload_n d_Md_built_16 2 rfl ?_
        refine jx_bipush (v0 := 8) d_Md_built_17 (by decide) ?_
        refine jx_icmp_geN (tgt := 44) (k) (8) d_Md_built_19 rfl rfl (by omega) (by omega) (by decide) (fun c4 => ?_) (fun c4 => ?_)
        · omega
        ·
          refine jx_aload_n d_Md_built_22 0 rfl ?_
          refine jx_get d_Md_built_23 fF_Md_57 (md_tg hK) (md_rr hK (k := 20) (j := 16) rfl rfl rfl) ?_
          refine jx_iload_n d_Md_built_26 1 rfl ?_
          refine jx_lald d_Md_built_27 (md_ta hK (j := 16) rfl) rfl (jm_vinN (show j < 64 by omega) (by decide)) (jm_atN (show j < 2 ^ 31 by omega) (show (mdH h a s).2.2.2 (a + 16) j = Value.long (s.2.2.2.1 16 j) from md_ral (j := 16) (show j < 64 by omega))) ?_
          refine jx_bipush (v0 := 56) d_Md_built_28 (by decide) ?_
          refine jx_bipush (v0 := 8) d_Md_built_30 (by decide) ?_
          refine jx_iload_n d_Md_built_32 2 rfl ?_
          refine jx_imul d_Md_built_33 ?_
          refine jx_ati (pk_mul (8) (k)) ?_
          refine jx_isub d_Md_built_34 ?_
          refine jx_ati (pk_sub (a := 56) (b := (8) * (k)) (by omega)) ?_
          refine jx_lshr d_Md_built_35 ?_
          refine jx_l2i d_Md_built_36 ?_
          refine jx_sipush (v0 := 255) d_Md_built_37 (by decide) ?_
          refine jx_iand d_Md_built_40 ?_
          refine jx_goto (tgt := 45) d_Md_built_41 (by decide) ?_
          refine jx_topi fun x5 ex5 => ?_
          refine jx_istore_n (lv' := [(3, .int (x5)), (0, .ref (a)), (1, .int (nI (j))), (2, .int (nI (k)))]) d_Md_built_45 (by decide) rfl ?_
          have e9 : x5 = m_b8 (s.2.2.2.1 16 j) k := ex5
          refine jx_aload_n d_Md_built_46 1 rfl ?_
          refine jx_iload_n d_Md_built_47 0 rfl ?_
          refine jx_if_le (tgt := 55) d_Md_built_48 (by decide) (fun c6 => ?_) (fun c6 => ?_)
          ·
            refine jx_iconst (v0 := 1) d_Md_built_55 (by decide) ?_
            refine jx_put (v0 := .int (1)) d_Md_built_56 fF_Md_96 jv_Md ft_Md_thrown (md_tg hK) rfl rfl ?_
            refine jx_ath (md_wi (k := 0) rfl) ?_
            refine jx_iload_n d_Md_built_59 0 rfl ?_
            exact jx_iret d_Md_built_60 rfl (⟨by rw [e9], congrArg (mdH h a) (by rw [← e9]; rw [if_neg (Int32.not_lt.mpr c6)])⟩)
          ·
            refine jx_iconst (v0 := 0) d_Md_built_51 (by decide) ?_
            refine jx_goto (tgt := 56) d_Md_built_52 (by decide) ?_
            refine jx_put (v0 := .int (0)) d_Md_built_56 fF_Md_96 jv_Md ft_Md_thrown (md_tg hK) rfl rfl ?_
            refine jx_ath (md_wi (k := 0) rfl) ?_
            refine jx_iload_n d_Md_built_59 0 rfl ?_
            exact jx_iret d_Md_built_60 rfl (⟨by rw [e9], congrArg (mdH h a) (by rw [← e9]; rw [if_pos (Int32.not_le.mp c6)])⟩)
set_option maxHeartbeats 4000000 in
set_option maxRecDepth 100000 in
theorem c_Md_built_x (l : Launch) (G : jm_G) (d : Nat) {h : jm_H} {a : Nat} {s : MS} {i k : Int32} {ls : Nat} (hK : MdK h a) (hls : s.1 21 = nI ls) (ho : i < 0 ∨ nI ls ≤ i ∨ k < 0 ∨ 8 ≤ k) : jm_C l G mm_Md_built d [.ref a, .int i, .int k] (mdH h a s) (some (.int 0)) (mdH h a (mi s 0 1)) := by
  refine jm_ofE (by decide) rfl (Nat.le_of_ble_eq_true rfl) ?_
  refine jx_iload_n d_Md_built_0 1 rfl ?_
  refine jx_if_lt (tgt := 44) d_Md_built_1 (by decide) (fun c1 => ?_) (fun c1 => ?_)
  ·
    refine jx_iconst (v0 := 0) d_Md_built_44 (by decide) ?_
    refine jx_istore_n (lv' := [(3, .int (0)), (0, .ref (a)), (1, .int (i)), (2, .int (k))]) d_Md_built_45 (by decide) rfl ?_
    refine jx_aload_n d_Md_built_46 1 rfl ?_
    refine jx_iload_n d_Md_built_47 0 rfl ?_
    refine jx_if_le (tgt := 55) d_Md_built_48 (by decide) (fun c2 => ?_) (fun c2 => absurd c2 (by decide))
    refine jx_iconst (v0 := 1) d_Md_built_55 (by decide) ?_
    refine jx_put (v0 := .int (1)) d_Md_built_56 fF_Md_96 jv_Md ft_Md_thrown (md_tg hK) rfl rfl ?_
    refine jx_ath (md_wi (k := 0) rfl) ?_
    refine jx_iload_n d_Md_built_59 0 rfl ?_
    exact jx_iret d_Md_built_60 rfl (⟨rfl, rfl⟩)
  ·
    refine jx_iload_n d_Md_built_4 1 rfl ?_
    refine jx_aload_n d_Md_built_5 0 rfl ?_
    refine jx_get d_Md_built_6 fF_Md_257 (md_tg hK) ((show (mdH h a s).2.2.2 a 21 = Value.int (s.1 21) from md_ri rfl).trans (congrArg Value.int hls)) ?_
    refine jx_icmp_ge (tgt := 44) d_Md_built_9 (by decide) (fun c3 => ?_) (fun c3 => ?_)
    ·
      refine jx_iconst (v0 := 0) d_Md_built_44 (by decide) ?_
      refine jx_istore_n (lv' := [(3, .int (0)), (0, .ref (a)), (1, .int (i)), (2, .int (k))]) d_Md_built_45 (by decide) rfl ?_
      refine jx_aload_n d_Md_built_46 1 rfl ?_
      refine jx_iload_n d_Md_built_47 0 rfl ?_
      refine jx_if_le (tgt := 55) d_Md_built_48 (by decide) (fun c4 => ?_) (fun c4 => absurd c4 (by decide))
      refine jx_iconst (v0 := 1) d_Md_built_55 (by decide) ?_
      refine jx_put (v0 := .int (1)) d_Md_built_56 fF_Md_96 jv_Md ft_Md_thrown (md_tg hK) rfl rfl ?_
      refine jx_ath (md_wi (k := 0) rfl) ?_
      refine jx_iload_n d_Md_built_59 0 rfl ?_
      exact jx_iret d_Md_built_60 rfl (⟨rfl, rfl⟩)
    ·
      refine jx_iload_n d_Md_built_12 2 rfl ?_
      refine jx_if_lt (tgt := 44) d_Md_built_13 (by decide) (fun c5 => ?_) (fun c5 => ?_)
      ·
        refine jx_iconst (v0 := 0) d_Md_built_44 (by decide) ?_
        refine jx_istore_n (lv' := [(3, .int (0)), (0, .ref (a)), (1, .int (i)), (2, .int (k))]) d_Md_built_45 (by decide) rfl ?_
        refine jx_aload_n d_Md_built_46 1 rfl ?_
        refine jx_iload_n d_Md_built_47 0 rfl ?_
        refine jx_if_le (tgt := 55) d_Md_built_48 (by decide) (fun c6 => ?_) (fun c6 => absurd c6 (by decide))
        refine jx_iconst (v0 := 1) d_Md_built_55 (by decide) ?_
        refine jx_put (v0 := .int (1)) d_Md_built_56 fF_Md_96 jv_Md ft_Md_thrown (md_tg hK) rfl rfl ?_
        refine jx_ath (md_wi (k := 0) rfl) ?_
        refine jx_iload_n d_Md_built_59 0 rfl ?_
        exact jx_iret d_Md_built_60 rfl (⟨rfl, rfl⟩)
      ·
        refine jx_iload_n d_Md_built_16 2 rfl ?_
        refine jx_bipush (v0 := 8) d_Md_built_17 (by decide) ?_
        refine jx_icmp_ge (tgt := 44) d_Md_built_19 (by decide) (fun c7 => ?_) (fun c7 => ?_)
        ·
          refine jx_iconst (v0 := 0) d_Md_built_44 (by decide) ?_
          refine jx_istore_n (lv' := [(3, .int (0)), (0, .ref (a)), (1, .int (i)), (2, .int (k))]) d_Md_built_45 (by decide) rfl ?_
          refine jx_aload_n d_Md_built_46 1 rfl ?_
          refine jx_iload_n d_Md_built_47 0 rfl ?_
          refine jx_if_le (tgt := 55) d_Md_built_48 (by decide) (fun c8 => ?_) (fun c8 => absurd c8 (by decide))
          refine jx_iconst (v0 := 1) d_Md_built_55 (by decide) ?_
          refine jx_put (v0 := .int (1)) d_Md_built_56 fF_Md_96 jv_Md ft_Md_thrown (md_tg hK) rfl rfl ?_
          refine jx_ath (md_wi (k := 0) rfl) ?_
          refine jx_iload_n d_Md_built_59 0 rfl ?_
          exact jx_iret d_Md_built_60 rfl (⟨rfl, rfl⟩)
        ·
          exact absurd ho (by rintro (q | q | q | q)
                              · exact absurd q c1
                              · exact absurd q (Int32.not_le.mpr (Int32.not_le.mp c3))
                              · exact absurd q c5
                              · exact absurd q (Int32.not_le.mpr (Int32.not_le.mp c7)))
def mst (s : MS) (N : Nat → Nat) (c : Nat) : Bool := tM s c && m_stale s N c
set_option maxHeartbeats 4000000 in
set_option maxRecDepth 100000 in
theorem lp_Md_count (l : Launch) (G : jm_G) {h : jm_H} {a : Nat} {s : MS} {N : Nat → Nat} {w : Int32} {n0 s0 d : Nat} {Post : jm_r → jm_H → Prop} (hd : 3 ≤ d) (hK : MdK h a) (hN : NcOK s N) (kk : jm_X l G mm_Md_count n0 s0 (jm_zn G d n0 s0) Post 68 [(2, .int (nI (cnt (mst s N) 64))), (0, .ref (a)), (1, .int (w))] [] (mdH h a s)) (t : Nat) : ∀ i, 64 - i < t → i ≤ 64 → jm_X l G mm_Md_count n0 s0 (jm_zn G d n0 s0) Post 31 [(3, .int (nI (i))), (2, .int (nI (cnt (mst s N) i))), (0, .ref (a)), (1, .int (w))] [] (mdH h a s) := by
  induction t with
  | zero => intro i hm; omega
  | succ t ih =>
    intro i hm hi
    have hcc := cnt_le (mst s N) i
    refine jx_iload_n d_Md_count_31 0 rfl ?_
    refine jx_bipush (v0 := 64) d_Md_count_32 (by decide) ?_
    refine jx_icmp_geN (tgt := 68) (i) (64) d_Md_count_34 rfl rfl (by omega) (by omega) (by decide) (fun c1 => ?_) (fun c1 => ?_)
    ·
      refine jx_lv [1, 2, 3] rfl ?_
      rw [show i = 64 by omega]
      exact kk
    ·
      refine jx_aload_n d_Md_count_37 2 rfl ?_
      refine jx_get d_Md_count_38 fF_Md_13 (md_tg hK) (md_rr hK (k := 5) (j := 2) rfl rfl rfl) ?_
      refine jx_iload_n d_Md_count_41 0 rfl ?_
      refine jx_zald d_Md_count_42 (md_ta hK (j := 2) rfl) rfl (jm_vinN (show i < 64 by omega) (by decide)) (jm_atN (show i < 2 ^ 31 by omega) (show (mdH h a s).2.2.2 (a + 2) i = Value.int (jb (s.2.2.2.2 2 i)) from md_raz (j := 2) (show i < 64 by omega))) ?_
      refine jx_if_eq (tgt := 60) d_Md_count_43 (by decide) (fun c2 => ?_) (fun c2 => ?_)
      ·
        refine jx_iload_n d_Md_count_60 1 rfl ?_
        refine jx_istore_n (lv' := [(2, .int (nI (cnt (mst s N) i))), (3, .int (nI (i))), (0, .ref (a)), (1, .int (w))]) d_Md_count_61 (by decide) rfl ?_
        refine jx_iinc (v0 := nI (i + 1)) (lv' := [(3, .int (nI (i + 1))), (2, .int (nI (cnt (mst s N) i))), (0, .ref (a)), (1, .int (w))]) d_Md_count_62 1 rfl (nI_add _ 1) (by decide) rfl ?_
        refine jx_goto (tgt := 31) d_Md_count_65 (by decide) ?_
        have e9 := ih (i + 1) (by omega) (by omega)
        rw [cnt_f (show mst s N i = false by unfold mst; rw [show tM s i = false from jb0 c2]; rfl)] at e9
        exact e9
      ·
        refine jx_aload_n d_Md_count_46 2 rfl ?_
        refine jx_iload_n d_Md_count_47 0 rfl ?_
        refine jx_callV (M2 := mm_Md_isStale) rfl (md_tg hK) lk_Md_263 wi_Md_isStale ws_Md_isStale d_Md_count_48 (c_Md_isStale l G (d - 1) (by omega) (s := s) (N := N) (c := i) hK hN (by omega)) cd_Md_isStale rfl rfl (Nat.le_of_ble_eq_true rfl) (jm_fok (by omega)) (jm_look (by decide) (by omega)) ?_
        refine jx_if_eq (tgt := 60) d_Md_count_51 (by decide) (fun c3 => ?_) (fun c3 => ?_)
        ·
          refine jx_iload_n d_Md_count_60 1 rfl ?_
          refine jx_istore_n (lv' := [(2, .int (nI (cnt (mst s N) i))), (3, .int (nI (i))), (0, .ref (a)), (1, .int (w))]) d_Md_count_61 (by decide) rfl ?_
          refine jx_iinc (v0 := nI (i + 1)) (lv' := [(3, .int (nI (i + 1))), (2, .int (nI (cnt (mst s N) i))), (0, .ref (a)), (1, .int (w))]) d_Md_count_62 1 rfl (nI_add _ 1) (by decide) rfl ?_
          refine jx_goto (tgt := 31) d_Md_count_65 (by decide) ?_
          have e9 := ih (i + 1) (by omega) (by omega)
          rw [cnt_f (show mst s N i = false by unfold mst; rw [jb0 c3]; exact Bool.and_false _)] at e9
          exact e9
        ·
          refine jx_iload_n d_Md_count_54 1 rfl ?_
          refine jx_iconst (v0 := 1) d_Md_count_55 (by decide) ?_
          refine jx_iadd d_Md_count_56 ?_
          refine jx_ati (nI_add (cnt (mst s N) i) (1)) ?_
          refine jx_goto (tgt := 61) d_Md_count_57 (by decide) ?_
          refine jx_istore_n (lv' := [(2, .int (nI ((cnt (mst s N) i) + (1)))), (3, .int (nI (i))), (0, .ref (a)), (1, .int (w))]) d_Md_count_61 (by decide) rfl ?_
          refine jx_iinc (v0 := nI (i + 1)) (lv' := [(3, .int (nI (i + 1))), (2, .int (nI ((cnt (mst s N) i) + (1)))), (0, .ref (a)), (1, .int (w))]) d_Md_count_62 1 rfl (nI_add _ 1) (by decide) rfl ?_
          refine jx_goto (tgt := 31) d_Md_count_65 (by decide) ?_
          have e9 := ih (i + 1) (by omega) (by omega)
          rw [cnt_t (show mst s N i = true by unfold mst; rw [show tM s i = true from jb1 c2, jb1 c3]; rfl)] at e9
          exact e9
set_option maxHeartbeats 4000000 in
set_option maxRecDepth 100000 in
theorem c_Md_count0 (l : Launch) (G : jm_G) (d : Nat) (hd : 3 ≤ d) {h : jm_H} {a : Nat} {s : MS} {N : Nat → Nat} (hK : MdK h a) (hN : NcOK s N) : jm_C l G mm_Md_count d [.ref a, .int 0] (mdH h a s) (some (.int (nI (cnt (tM s) 64)))) (mdH h a (mi s 0 0)) := by
  refine jm_ofE (by decide) rfl (Nat.le_of_ble_eq_true rfl) ?_
  refine jx_aload_n d_Md_count_0 0 rfl ?_
  refine jx_iload_n d_Md_count_1 1 rfl ?_
  refine jx_if_lt (tgt := 14) d_Md_count_2 (by decide) (fun c1 => absurd c1 (by decide)) (fun c1 => ?_)
  refine jx_iload_n d_Md_count_5 1 rfl ?_
  refine jx_iconst (v0 := 4) d_Md_count_6 (by decide) ?_
  refine jx_icmp_gt (tgt := 14) d_Md_count_7 (by decide) (fun c2 => absurd c2 (by decide)) (fun c2 => ?_)
  refine jx_iconst (v0 := 0) d_Md_count_10 (by decide) ?_
  refine jx_goto (tgt := 15) d_Md_count_11 (by decide) ?_
  refine jx_put (v0 := .int (0)) d_Md_count_15 fF_Md_96 jv_Md ft_Md_thrown (md_tg hK) rfl rfl ?_
  refine jx_ath (md_wi (k := 0) rfl) ?_
  refine jx_aload_n d_Md_count_18 0 rfl ?_
  refine jx_get d_Md_count_19 fF_Md_96 (md_tg hK) (show (mdH h a (mi s 0 0)).2.2.2 a 0 = Value.int (0) from md_ri rfl) ?_
  refine jx_if_le (tgt := 27) d_Md_count_22 (by decide) (fun c3 => ?_) (fun c3 => absurd c3 (by decide))
  refine jx_iconst (v0 := 0) d_Md_count_27 (by decide) ?_
  refine jx_istore_n (lv' := [(2, .int (0)), (0, .ref (a)), (1, .int (0))]) d_Md_count_28 (by decide) rfl ?_
  refine jx_iconst (v0 := 0) d_Md_count_29 (by decide) ?_
  refine jx_istore_n (lv' := [(3, .int (0)), (2, .int (0)), (0, .ref (a)), (1, .int (0))]) d_Md_count_30 (by decide) rfl ?_
  refine lp_Md_count l G (s := mi s 0 0) (N := N) hd hK hN ?_ 65 0 (by omega) (by omega)
  refine jx_iload_n d_Md_count_68 2 rfl ?_
  refine jx_if_ne (tgt := 79) d_Md_count_69 (by decide) (fun c4 => absurd c4 (by decide)) (fun c4 => ?_)
  refine jx_aload_n d_Md_count_72 1 rfl ?_
  refine jx_callV (M2 := mm_Md_cellCount) rfl (md_tg hK) lk_Md_218 wi_Md_cellCount ws_Md_cellCount d_Md_count_73 (c_Md_cellCount l G (d - 1) (s := mi s 0 0) hK) cd_Md_cellCount rfl rfl (Nat.le_of_ble_eq_true rfl) (jm_fok (by omega)) (jm_look (by decide) (by omega)) ?_
  refine jx_goto (tgt := 116) d_Md_count_76 (by decide) ?_
  exact jx_iret d_Md_count_116 rfl (⟨by first | rfl | (rw [cnt_congr (f := mst (mi s 0 0) N) (g := mst s N) fun c hc => by unfold mst; rw [m_stale_c (s := s) (s' := mi s 0 0) rfl]; rfl]), rfl⟩)
set_option maxHeartbeats 4000000 in
set_option maxRecDepth 100000 in
theorem c_Md_count1 (l : Launch) (G : jm_G) (d : Nat) (hd : 3 ≤ d) {h : jm_H} {a : Nat} {s : MS} {N : Nat → Nat} (hK : MdK h a) (hN : NcOK s N) : jm_C l G mm_Md_count d [.ref a, .int 1] (mdH h a s) (some (.int (nI (cnt (mst s N) 64)))) (mdH h a (mi s 0 0)) := by
  refine jm_ofE (by decide) rfl (Nat.le_of_ble_eq_true rfl) ?_
  refine jx_aload_n d_Md_count_0 0 rfl ?_
  refine jx_iload_n d_Md_count_1 1 rfl ?_
  refine jx_if_lt (tgt := 14) d_Md_count_2 (by decide) (fun c1 => absurd c1 (by decide)) (fun c1 => ?_)
  refine jx_iload_n d_Md_count_5 1 rfl ?_
  refine jx_iconst (v0 := 4) d_Md_count_6 (by decide) ?_
  refine jx_icmp_gt (tgt := 14) d_Md_count_7 (by decide) (fun c2 => absurd c2 (by decide)) (fun c2 => ?_)
  refine jx_iconst (v0 := 0) d_Md_count_10 (by decide) ?_
  refine jx_goto (tgt := 15) d_Md_count_11 (by decide) ?_
  refine jx_put (v0 := .int (0)) d_Md_count_15 fF_Md_96 jv_Md ft_Md_thrown (md_tg hK) rfl rfl ?_
  refine jx_ath (md_wi (k := 0) rfl) ?_
  refine jx_aload_n d_Md_count_18 0 rfl ?_
  refine jx_get d_Md_count_19 fF_Md_96 (md_tg hK) (show (mdH h a (mi s 0 0)).2.2.2 a 0 = Value.int (0) from md_ri rfl) ?_
  refine jx_if_le (tgt := 27) d_Md_count_22 (by decide) (fun c3 => ?_) (fun c3 => absurd c3 (by decide))
  refine jx_iconst (v0 := 0) d_Md_count_27 (by decide) ?_
  refine jx_istore_n (lv' := [(2, .int (0)), (0, .ref (a)), (1, .int (1))]) d_Md_count_28 (by decide) rfl ?_
  refine jx_iconst (v0 := 0) d_Md_count_29 (by decide) ?_
  refine jx_istore_n (lv' := [(3, .int (0)), (2, .int (0)), (0, .ref (a)), (1, .int (1))]) d_Md_count_30 (by decide) rfl ?_
  refine lp_Md_count l G (s := mi s 0 0) (N := N) hd hK hN ?_ 65 0 (by omega) (by omega)
  refine jx_iload_n d_Md_count_68 2 rfl ?_
  refine jx_if_ne (tgt := 79) d_Md_count_69 (by decide) (fun c4 => ?_) (fun c4 => absurd c4 (by decide))
  refine jx_iload_n d_Md_count_79 2 rfl ?_
  refine jx_iconst (v0 := 1) d_Md_count_80 (by decide) ?_
  refine jx_icmp_ne (tgt := 88) d_Md_count_81 (by decide) (fun c5 => absurd c5 (by decide)) (fun c5 => ?_)
  refine jx_iload_n d_Md_count_84 0 rfl ?_
  refine jx_goto (tgt := 116) d_Md_count_85 (by decide) ?_
  exact jx_iret d_Md_count_116 rfl (⟨by first | rfl | (rw [cnt_congr (f := mst (mi s 0 0) N) (g := mst s N) fun c hc => by unfold mst; rw [m_stale_c (s := s) (s' := mi s 0 0) rfl]; rfl]), rfl⟩)
set_option maxHeartbeats 4000000 in
set_option maxRecDepth 100000 in
theorem c_Md_count2 (l : Launch) (G : jm_G) (d : Nat) (hd : 3 ≤ d) {h : jm_H} {a : Nat} {s : MS} {N : Nat → Nat} (hK : MdK h a) (hN : NcOK s N) : jm_C l G mm_Md_count d [.ref a, .int 2] (mdH h a s) (some (.int (s.1 2))) (mdH h a (mi s 0 0)) := by
  refine jm_ofE (by decide) rfl (Nat.le_of_ble_eq_true rfl) ?_
  refine jx_aload_n d_Md_count_0 0 rfl ?_
  refine jx_iload_n d_Md_count_1 1 rfl ?_
  refine jx_if_lt (tgt := 14) d_Md_count_2 (by decide) (fun c1 => absurd c1 (by decide)) (fun c1 => ?_)
  refine jx_iload_n d_Md_count_5 1 rfl ?_
  refine jx_iconst (v0 := 4) d_Md_count_6 (by decide) ?_
  refine jx_icmp_gt (tgt := 14) d_Md_count_7 (by decide) (fun c2 => absurd c2 (by decide)) (fun c2 => ?_)
  refine jx_iconst (v0 := 0) d_Md_count_10 (by decide) ?_
  refine jx_goto (tgt := 15) d_Md_count_11 (by decide) ?_
  refine jx_put (v0 := .int (0)) d_Md_count_15 fF_Md_96 jv_Md ft_Md_thrown (md_tg hK) rfl rfl ?_
  refine jx_ath (md_wi (k := 0) rfl) ?_
  refine jx_aload_n d_Md_count_18 0 rfl ?_
  refine jx_get d_Md_count_19 fF_Md_96 (md_tg hK) (show (mdH h a (mi s 0 0)).2.2.2 a 0 = Value.int (0) from md_ri rfl) ?_
  refine jx_if_le (tgt := 27) d_Md_count_22 (by decide) (fun c3 => ?_) (fun c3 => absurd c3 (by decide))
  refine jx_iconst (v0 := 0) d_Md_count_27 (by decide) ?_
  refine jx_istore_n (lv' := [(2, .int (0)), (0, .ref (a)), (1, .int (2))]) d_Md_count_28 (by decide) rfl ?_
  refine jx_iconst (v0 := 0) d_Md_count_29 (by decide) ?_
  refine jx_istore_n (lv' := [(3, .int (0)), (2, .int (0)), (0, .ref (a)), (1, .int (2))]) d_Md_count_30 (by decide) rfl ?_
  refine lp_Md_count l G (s := mi s 0 0) (N := N) hd hK hN ?_ 65 0 (by omega) (by omega)
  refine jx_iload_n d_Md_count_68 2 rfl ?_
  refine jx_if_ne (tgt := 79) d_Md_count_69 (by decide) (fun c4 => ?_) (fun c4 => absurd c4 (by decide))
  refine jx_iload_n d_Md_count_79 2 rfl ?_
  refine jx_iconst (v0 := 1) d_Md_count_80 (by decide) ?_
  refine jx_icmp_ne (tgt := 88) d_Md_count_81 (by decide) (fun c5 => ?_) (fun c5 => absurd c5 (by decide))
  refine jx_iload_n d_Md_count_88 2 rfl ?_
  refine jx_iconst (v0 := 2) d_Md_count_89 (by decide) ?_
  refine jx_icmp_ne (tgt := 100) d_Md_count_90 (by decide) (fun c6 => absurd c6 (by decide)) (fun c6 => ?_)
  refine jx_aload_n d_Md_count_93 1 rfl ?_
  refine jx_get d_Md_count_94 fF_Md_100 (md_tg hK) (show (mdH h a (mi s 0 0)).2.2.2 a 2 = Value.int (s.1 2) from md_ri rfl) ?_
  refine jx_goto (tgt := 116) d_Md_count_97 (by decide) ?_
  exact jx_iret d_Md_count_116 rfl (⟨by first | rfl | (rw [cnt_congr (f := mst (mi s 0 0) N) (g := mst s N) fun c hc => by unfold mst; rw [m_stale_c (s := s) (s' := mi s 0 0) rfl]; rfl]), rfl⟩)
set_option maxHeartbeats 4000000 in
set_option maxRecDepth 100000 in
theorem c_Md_count3 (l : Launch) (G : jm_G) (d : Nat) (hd : 3 ≤ d) {h : jm_H} {a : Nat} {s : MS} {N : Nat → Nat} (hK : MdK h a) (hN : NcOK s N) : jm_C l G mm_Md_count d [.ref a, .int 3] (mdH h a s) (some (.int (s.1 19))) (mdH h a (mi s 0 0)) := by
  refine jm_ofE (by decide) rfl (Nat.le_of_ble_eq_true rfl) ?_
  refine jx_aload_n d_Md_count_0 0 rfl ?_
  refine jx_iload_n d_Md_count_1 1 rfl ?_
  refine jx_if_lt (tgt := 14) d_Md_count_2 (by decide) (fun c1 => absurd c1 (by decide)) (fun c1 => ?_)
  refine jx_iload_n d_Md_count_5 1 rfl ?_
  refine jx_iconst (v0 := 4) d_Md_count_6 (by decide) ?_
  refine jx_icmp_gt (tgt := 14) d_Md_count_7 (by decide) (fun c2 => absurd c2 (by decide)) (fun c2 => ?_)
  refine jx_iconst (v0 := 0) d_Md_count_10 (by decide) ?_
  refine jx_goto (tgt := 15) d_Md_count_11 (by decide) ?_
  refine jx_put (v0 := .int (0)) d_Md_count_15 fF_Md_96 jv_Md ft_Md_thrown (md_tg hK) rfl rfl ?_
  refine jx_ath (md_wi (k := 0) rfl) ?_
  refine jx_aload_n d_Md_count_18 0 rfl ?_
  refine jx_get d_Md_count_19 fF_Md_96 (md_tg hK) (show (mdH h a (mi s 0 0)).2.2.2 a 0 = Value.int (0) from md_ri rfl) ?_
  refine jx_if_le (tgt := 27) d_Md_count_22 (by decide) (fun c3 => ?_) (fun c3 => absurd c3 (by decide))
  refine jx_iconst (v0 := 0) d_Md_count_27 (by decide) ?_
  refine jx_istore_n (lv' := [(2, .int (0)), (0, .ref (a)), (1, .int (3))]) d_Md_count_28 (by decide) rfl ?_
  refine jx_iconst (v0 := 0) d_Md_count_29 (by decide) ?_
  refine jx_istore_n (lv' := [(3, .int (0)), (2, .int (0)), (0, .ref (a)), (1, .int (3))]) d_Md_count_30 (by decide) rfl ?_
  refine lp_Md_count l G (s := mi s 0 0) (N := N) hd hK hN ?_ 65 0 (by omega) (by omega)
  refine jx_iload_n d_Md_count_68 2 rfl ?_
  refine jx_if_ne (tgt := 79) d_Md_count_69 (by decide) (fun c4 => ?_) (fun c4 => absurd c4 (by decide))
  refine jx_iload_n d_Md_count_79 2 rfl ?_
  refine jx_iconst (v0 := 1) d_Md_count_80 (by decide) ?_
  refine jx_icmp_ne (tgt := 88) d_Md_count_81 (by decide) (fun c5 => ?_) (fun c5 => absurd c5 (by decide))
  refine jx_iload_n d_Md_count_88 2 rfl ?_
  refine jx_iconst (v0 := 2) d_Md_count_89 (by decide) ?_
  refine jx_icmp_ne (tgt := 100) d_Md_count_90 (by decide) (fun c6 => ?_) (fun c6 => absurd c6 (by decide))
  refine jx_iload_n d_Md_count_100 2 rfl ?_
  refine jx_iconst (v0 := 3) d_Md_count_101 (by decide) ?_
  refine jx_icmp_ne (tgt := 112) d_Md_count_102 (by decide) (fun c7 => absurd c7 (by decide)) (fun c7 => ?_)
  refine jx_aload_n d_Md_count_105 1 rfl ?_
  refine jx_get d_Md_count_106 fF_Md_254 (md_tg hK) (show (mdH h a (mi s 0 0)).2.2.2 a 19 = Value.int (s.1 19) from md_ri rfl) ?_
  refine jx_goto (tgt := 116) d_Md_count_109 (by decide) ?_
  exact jx_iret d_Md_count_116 rfl (⟨by first | rfl | (rw [cnt_congr (f := mst (mi s 0 0) N) (g := mst s N) fun c hc => by unfold mst; rw [m_stale_c (s := s) (s' := mi s 0 0) rfl]; rfl]), rfl⟩)
set_option maxHeartbeats 4000000 in
set_option maxRecDepth 100000 in
theorem c_Md_count4 (l : Launch) (G : jm_G) (d : Nat) (hd : 3 ≤ d) {h : jm_H} {a : Nat} {s : MS} {N : Nat → Nat} (hK : MdK h a) (hN : NcOK s N) : jm_C l G mm_Md_count d [.ref a, .int 4] (mdH h a s) (some (.int (s.1 21))) (mdH h a (mi s 0 0)) := by
  refine jm_ofE (by decide) rfl (Nat.le_of_ble_eq_true rfl) ?_
  refine jx_aload_n d_Md_count_0 0 rfl ?_
  refine jx_iload_n d_Md_count_1 1 rfl ?_
  refine jx_if_lt (tgt := 14) d_Md_count_2 (by decide) (fun c1 => absurd c1 (by decide)) (fun c1 => ?_)
  refine jx_iload_n d_Md_count_5 1 rfl ?_
  refine jx_iconst (v0 := 4) d_Md_count_6 (by decide) ?_
  refine jx_icmp_gt (tgt := 14) d_Md_count_7 (by decide) (fun c2 => absurd c2 (by decide)) (fun c2 => ?_)
  refine jx_iconst (v0 := 0) d_Md_count_10 (by decide) ?_
  refine jx_goto (tgt := 15) d_Md_count_11 (by decide) ?_
  refine jx_put (v0 := .int (0)) d_Md_count_15 fF_Md_96 jv_Md ft_Md_thrown (md_tg hK) rfl rfl ?_
  refine jx_ath (md_wi (k := 0) rfl) ?_
  refine jx_aload_n d_Md_count_18 0 rfl ?_
  refine jx_get d_Md_count_19 fF_Md_96 (md_tg hK) (show (mdH h a (mi s 0 0)).2.2.2 a 0 = Value.int (0) from md_ri rfl) ?_
  refine jx_if_le (tgt := 27) d_Md_count_22 (by decide) (fun c3 => ?_) (fun c3 => absurd c3 (by decide))
  refine jx_iconst (v0 := 0) d_Md_count_27 (by decide) ?_
  refine jx_istore_n (lv' := [(2, .int (0)), (0, .ref (a)), (1, .int (4))]) d_Md_count_28 (by decide) rfl ?_
  refine jx_iconst (v0 := 0) d_Md_count_29 (by decide) ?_
  refine jx_istore_n (lv' := [(3, .int (0)), (2, .int (0)), (0, .ref (a)), (1, .int (4))]) d_Md_count_30 (by decide) rfl ?_
  refine lp_Md_count l G (s := mi s 0 0) (N := N) hd hK hN ?_ 65 0 (by omega) (by omega)
  refine jx_iload_n d_Md_count_68 2 rfl ?_
  refine jx_if_ne (tgt := 79) d_Md_count_69 (by decide) (fun c4 => ?_) (fun c4 => absurd c4 (by decide))
  refine jx_iload_n d_Md_count_79 2 rfl ?_
  refine jx_iconst (v0 := 1) d_Md_count_80 (by decide) ?_
  refine jx_icmp_ne (tgt := 88) d_Md_count_81 (by decide) (fun c5 => ?_) (fun c5 => absurd c5 (by decide))
  refine jx_iload_n d_Md_count_88 2 rfl ?_
  refine jx_iconst (v0 := 2) d_Md_count_89 (by decide) ?_
  refine jx_icmp_ne (tgt := 100) d_Md_count_90 (by decide) (fun c6 => ?_) (fun c6 => absurd c6 (by decide))
  refine jx_iload_n d_Md_count_100 2 rfl ?_
  refine jx_iconst (v0 := 3) d_Md_count_101 (by decide) ?_
  refine jx_icmp_ne (tgt := 112) d_Md_count_102 (by decide) (fun c7 => ?_) (fun c7 => absurd c7 (by decide))
  refine jx_aload_n d_Md_count_112 1 rfl ?_
  refine jx_get d_Md_count_113 fF_Md_257 (md_tg hK) (show (mdH h a (mi s 0 0)).2.2.2 a 21 = Value.int (s.1 21) from md_ri rfl) ?_
  exact jx_iret d_Md_count_116 rfl (⟨by first | rfl | (rw [cnt_congr (f := mst (mi s 0 0) N) (g := mst s N) fun c hc => by unfold mst; rw [m_stale_c (s := s) (s' := mi s 0 0) rfl]; rfl]), rfl⟩)
set_option maxHeartbeats 4000000 in
set_option maxRecDepth 100000 in
theorem c_Md_count_t (l : Launch) (G : jm_G) (d : Nat) {h : jm_H} {a : Nat} {s : MS} {w : Int32} (hK : MdK h a) (hw : w < 0 ∨ 4 < w) : jm_C l G mm_Md_count d [.ref a, .int w] (mdH h a s) (some (.int 0)) (mdH h a (mi s 0 1)) := by
  refine jm_ofE (by decide) rfl (Nat.le_of_ble_eq_true rfl) ?_
  refine jx_aload_n d_Md_count_0 0 rfl ?_
  refine jx_iload_n d_Md_count_1 1 rfl ?_
  refine jx_if_lt (tgt := 14) d_Md_count_2 (by decide) (fun c1 => ?_) (fun c1 => ?_)
  ·
    refine jx_iconst (v0 := 1) d_Md_count_14 (by decide) ?_
    refine jx_put (v0 := .int (1)) d_Md_count_15 fF_Md_96 jv_Md ft_Md_thrown (md_tg hK) rfl rfl ?_
    refine jx_ath (md_wi (k := 0) rfl) ?_
    refine jx_aload_n d_Md_count_18 0 rfl ?_
    refine jx_get d_Md_count_19 fF_Md_96 (md_tg hK) (show (mdH h a (mi s 0 1)).2.2.2 a 0 = Value.int (1) from md_ri rfl) ?_
    refine jx_if_le (tgt := 27) d_Md_count_22 (by decide) (fun c2 => absurd c2 (by decide)) (fun c2 => ?_)
    refine jx_iconst (v0 := 0) d_Md_count_25 (by decide) ?_
    exact jx_iret d_Md_count_26 rfl (⟨rfl, rfl⟩)
  ·
    refine jx_iload_n d_Md_count_5 1 rfl ?_
    refine jx_iconst (v0 := 4) d_Md_count_6 (by decide) ?_
    refine jx_icmp_gt (tgt := 14) d_Md_count_7 (by decide) (fun c3 => ?_) (fun c3 => ?_)
    ·
      refine jx_iconst (v0 := 1) d_Md_count_14 (by decide) ?_
      refine jx_put (v0 := .int (1)) d_Md_count_15 fF_Md_96 jv_Md ft_Md_thrown (md_tg hK) rfl rfl ?_
      refine jx_ath (md_wi (k := 0) rfl) ?_
      refine jx_aload_n d_Md_count_18 0 rfl ?_
      refine jx_get d_Md_count_19 fF_Md_96 (md_tg hK) (show (mdH h a (mi s 0 1)).2.2.2 a 0 = Value.int (1) from md_ri rfl) ?_
      refine jx_if_le (tgt := 27) d_Md_count_22 (by decide) (fun c4 => absurd c4 (by decide)) (fun c4 => ?_)
      refine jx_iconst (v0 := 0) d_Md_count_25 (by decide) ?_
      exact jx_iret d_Md_count_26 rfl (⟨rfl, rfl⟩)
    ·
      exact absurd hw (by rintro (q | q)
                          · exact c1 q
                          · exact c3 q)
