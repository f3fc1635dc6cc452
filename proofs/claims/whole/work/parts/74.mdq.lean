set_option maxHeartbeats 4000000 in
set_option maxRecDepth 100000 in
theorem bs_shut (l : Launch) (G : jm_G) {h : jm_H} {a : Nat} {s : MS} {N : Nat → Nat} {c : Nat} {u opn : Int64} {n0 s0 d : Nat} {Post : jm_r → jm_H → Prop} (hd : 5 ≤ d) (hK : MdK h a) (hN : NcOK s N) (hc : c < 64) (ho : bt opn c = false) (kk : jm_X l G mm_Md_buildSet n0 s0 (jm_zn G d n0 s0) Post 16 [(5, .int (nI (c + 1))), (3, .long (opn)), (0, .ref (a)), (1, .long (u))] [] (mdH h a s)) : jm_X l G mm_Md_buildSet n0 s0 (jm_zn G d n0 s0) Post 16 [(5, .int (nI (c))), (3, .long (opn)), (0, .ref (a)), (1, .long (u))] [] (mdH h a s) := by
  refine jx_iload d_Md_buildSet_16 0 rfl ?_
  refine jx_bipush (v0 := 64) d_Md_buildSet_18 (by decide) ?_
  refine jx_icmp_geN (tgt := 72) (c) (64) d_Md_buildSet_20 rfl rfl (by omega) (by omega) (by decide) (fun c1 => ?_) (fun c1 => ?_)
  · omega
  ·
    refine jx_lload_n d_Md_buildSet_23 1 rfl ?_
    refine jx_iload d_Md_buildSet_24 0 rfl ?_
    refine jx_lshr d_Md_buildSet_26 ?_
    refine jx_lconst (v0 := 1) d_Md_buildSet_27 (by decide) ?_
    refine jx_land d_Md_buildSet_28 ?_
    refine jx_lconst (v0 := 1) d_Md_buildSet_29 (by decide) ?_
    refine jx_lcmp d_Md_buildSet_30 ?_
    refine jx_if_neL (tgt := 66) d_Md_buildSet_31 (by decide) (fun c2 => ?_) (fun c2 => ?_)
    ·
      refine jx_iinc (v0 := nI (c + 1)) (lv' := [(5, .int (nI (c + 1))), (3, .long (opn)), (0, .ref (a)), (1, .long (u))]) d_Md_buildSet_66 0 rfl (nI_add _ 1) (by decide) rfl ?_
      refine jx_goto (tgt := 16) d_Md_buildSet_69 (by decide) ?_
      exact kk
    · exact absurd ((bt_shr1 (by omega)).mp c2) (by rw [ho]; decide)
set_option maxHeartbeats 4000000 in
set_option maxRecDepth 100000 in
theorem bs_wait (l : Launch) (G : jm_G) {h : jm_H} {a : Nat} {s : MS} {N : Nat → Nat} {c : Nat} {u opn : Int64} {n0 s0 d : Nat} {Post : jm_r → jm_H → Prop} (hd : 5 ≤ d) (hK : MdK h a) (hN : NcOK s N) (hc : c < 64) (ho : bt opn c = true) (hr : anyN (mof s N c opn) 64 = true) (kk : jm_X l G mm_Md_buildSet n0 s0 (jm_zn G d n0 s0) Post 16 [(5, .int (nI (c + 1))), (3, .long (opn)), (0, .ref (a)), (1, .long (u))] [] (mdH h a s)) : jm_X l G mm_Md_buildSet n0 s0 (jm_zn G d n0 s0) Post 16 [(5, .int (nI (c))), (3, .long (opn)), (0, .ref (a)), (1, .long (u))] [] (mdH h a s) := by
  refine jx_iload d_Md_buildSet_16 0 rfl ?_
  refine jx_bipush (v0 := 64) d_Md_buildSet_18 (by decide) ?_
  refine jx_icmp_geN (tgt := 72) (c) (64) d_Md_buildSet_20 rfl rfl (by omega) (by omega) (by decide) (fun c1 => ?_) (fun c1 => ?_)
  · omega
  ·
    refine jx_lload_n d_Md_buildSet_23 1 rfl ?_
    refine jx_iload d_Md_buildSet_24 0 rfl ?_
    refine jx_lshr d_Md_buildSet_26 ?_
    refine jx_lconst (v0 := 1) d_Md_buildSet_27 (by decide) ?_
    refine jx_land d_Md_buildSet_28 ?_
    refine jx_lconst (v0 := 1) d_Md_buildSet_29 (by decide) ?_
    refine jx_lcmp d_Md_buildSet_30 ?_
    refine jx_if_neL (tgt := 66) d_Md_buildSet_31 (by decide) (fun c2 => ?_) (fun c2 => ?_)
    · exact absurd ((bt_shr1 (by omega)).mpr ho) c2
    ·
      refine jx_aload_n d_Md_buildSet_34 2 rfl ?_
      refine jx_iload d_Md_buildSet_35 0 rfl ?_
      refine jx_lload_n d_Md_buildSet_37 1 rfl ?_
      refine jx_callV (M2 := mm_Md_isReady) rfl (md_tg hK) lk_Md_260 wi_Md_isReady ws_Md_isReady d_Md_buildSet_38 (c_Md_isReady l G (d - 1) (by omega) (s := s) (N := N) (c := c) (u := opn) hK hN hc) cd_Md_isReady rfl rfl (Nat.le_of_ble_eq_true rfl) (jm_fok (by omega)) (jm_look (by decide) (by omega)) ?_
      refine jx_if_eq (tgt := 66) d_Md_buildSet_41 (by decide) (fun c3 => ?_) (fun c3 => ?_)
      ·
        refine jx_iinc (v0 := nI (c + 1)) (lv' := [(5, .int (nI (c + 1))), (3, .long (opn)), (0, .ref (a)), (1, .long (u))]) d_Md_buildSet_66 0 rfl (nI_add _ 1) (by decide) rfl ?_
        refine jx_goto (tgt := 16) d_Md_buildSet_69 (by decide) ?_
        exact kk
      · exact absurd (by rw [hr]; rfl) c3
set_option maxHeartbeats 4000000 in
set_option maxRecDepth 100000 in
theorem bs_fresh (l : Launch) (G : jm_G) {h : jm_H} {a : Nat} {s : MS} {N : Nat → Nat} {c : Nat} {u opn : Int64} {n0 s0 d : Nat} {Post : jm_r → jm_H → Prop} (hd : 5 ≤ d) (hK : MdK h a) (hN : NcOK s N) (hc : c < 64) (ho : bt opn c = true) (hr : anyN (mof s N c opn) 64 = false) (hs : m_stale s N c = false) (kk : jm_X l G mm_Md_buildSet n0 s0 (jm_zn G d n0 s0) Post 16 [(5, .int (nI (c + 1))), (3, .long (opn ^^^ bt1 c)), (0, .ref (a)), (1, .long (u))] [] (mdH h a s)) : jm_X l G mm_Md_buildSet n0 s0 (jm_zn G d n0 s0) Post 16 [(5, .int (nI (c))), (3, .long (opn)), (0, .ref (a)), (1, .long (u))] [] (mdH h a s) := by
  refine jx_iload d_Md_buildSet_16 0 rfl ?_
  refine jx_bipush (v0 := 64) d_Md_buildSet_18 (by decide) ?_
  refine jx_icmp_geN (tgt := 72) (c) (64) d_Md_buildSet_20 rfl rfl (by omega) (by omega) (by decide) (fun c1 => ?_) (fun c1 => ?_)
  · omega
  ·
    refine jx_lload_n d_Md_buildSet_23 1 rfl ?_
    refine jx_iload d_Md_buildSet_24 0 rfl ?_
    refine jx_lshr d_Md_buildSet_26 ?_
    refine jx_lconst (v0 := 1) d_Md_buildSet_27 (by decide) ?_
    refine jx_land d_Md_buildSet_28 ?_
    refine jx_lconst (v0 := 1) d_Md_buildSet_29 (by decide) ?_
    refine jx_lcmp d_Md_buildSet_30 ?_
    refine jx_if_neL (tgt := 66) d_Md_buildSet_31 (by decide) (fun c2 => ?_) (fun c2 => ?_)
    · exact absurd ((bt_shr1 (by omega)).mpr ho) c2
    ·
      refine jx_aload_n d_Md_buildSet_34 2 rfl ?_
      refine jx_iload d_Md_buildSet_35 0 rfl ?_
      refine jx_lload_n d_Md_buildSet_37 1 rfl ?_
      refine jx_callV (M2 := mm_Md_isReady) rfl (md_tg hK) lk_Md_260 wi_Md_isReady ws_Md_isReady d_Md_buildSet_38 (c_Md_isReady l G (d - 1) (by omega) (s := s) (N := N) (c := c) (u := opn) hK hN hc) cd_Md_isReady rfl rfl (Nat.le_of_ble_eq_true rfl) (jm_fok (by omega)) (jm_look (by decide) (by omega)) ?_
      refine jx_if_eq (tgt := 66) d_Md_buildSet_41 (by decide) (fun c3 => ?_) (fun c3 => ?_)
      · exact absurd (jb0 c3) (by rw [hr]; decide)
      ·
        refine jx_lload_n d_Md_buildSet_44 1 rfl ?_
        refine jx_lconst (v0 := 1) d_Md_buildSet_45 (by decide) ?_
        refine jx_iload d_Md_buildSet_46 0 rfl ?_
        refine jx_lshl d_Md_buildSet_48 ?_
        refine jx_atl (show _ = bt1 (c) from rfl) ?_
        refine jx_lxor d_Md_buildSet_49 ?_
        refine jx_lstore_n (lv' := [(3, .long ((opn ^^^ (bt1 (c))))), (5, .int (nI (c))), (0, .ref (a)), (1, .long (u))]) d_Md_buildSet_50 (by decide) rfl ?_
        refine jx_aload_n d_Md_buildSet_51 2 rfl ?_
        refine jx_iload d_Md_buildSet_52 1 rfl ?_
        refine jx_callV (M2 := mm_Md_isStale) rfl (md_tg hK) lk_Md_263 wi_Md_isStale ws_Md_isStale d_Md_buildSet_54 (c_Md_isStale l G (d - 1) (by omega) (s := s) (N := N) (c := c) hK hN hc) cd_Md_isStale rfl rfl (Nat.le_of_ble_eq_true rfl) (jm_fok (by omega)) (jm_look (by decide) (by omega)) ?_
        refine jx_if_eq (tgt := 66) d_Md_buildSet_57 (by decide) (fun c4 => ?_) (fun c4 => ?_)
        ·
          refine jx_iinc (v0 := nI (c + 1)) (lv' := [(5, .int (nI (c + 1))), (3, .long ((opn ^^^ (bt1 (c))))), (0, .ref (a)), (1, .long (u))]) d_Md_buildSet_66 1 rfl (nI_add _ 1) (by decide) rfl ?_
          refine jx_goto (tgt := 16) d_Md_buildSet_69 (by decide) ?_
          exact kk
        · exact absurd (by rw [hs]; rfl) c4
set_option maxHeartbeats 4000000 in
set_option maxRecDepth 100000 in
theorem bs_work (l : Launch) (G : jm_G) {h : jm_H} {a : Nat} {s : MS} {N : Nat → Nat} {c : Nat} {u opn : Int64} {n0 s0 d : Nat} {Post : jm_r → jm_H → Prop} (hd : 5 ≤ d) (hK : MdK h a) (hN : NcOK s N) (hc : c < 64) {s1 : MS} (ho : bt opn c = true) (hr : anyN (mof s N c opn) 64 = false) (hs : m_stale s N c = true) (hC1 : jm_C l G mm_Md_workOut (d - 1) [.ref a, .int (nI c)] (mdH h a s) none (mdH h a s1)) (kk : jm_X l G mm_Md_buildSet n0 s0 (jm_zn G d n0 s0) Post 16 [(5, .int (nI (c + 1))), (3, .long (opn ^^^ bt1 c)), (0, .ref (a)), (1, .long (u))] [] (mdH h a s1)) : jm_X l G mm_Md_buildSet n0 s0 (jm_zn G d n0 s0) Post 16 [(5, .int (nI (c))), (3, .long (opn)), (0, .ref (a)), (1, .long (u))] [] (mdH h a s) := by
  refine jx_iload d_Md_buildSet_16 0 rfl ?_
  refine jx_bipush (v0 := 64) d_Md_buildSet_18 (by decide) ?_
  refine jx_icmp_geN (tgt := 72) (c) (64) d_Md_buildSet_20 rfl rfl (by omega) (by omega) (by decide) (fun c1 => ?_) (fun c1 => ?_)
  · omega
  ·
    refine jx_lload_n d_Md_buildSet_23 1 rfl ?_
    refine jx_iload d_Md_buildSet_24 0 rfl ?_
    refine jx_lshr d_Md_buildSet_26 ?_
    refine jx_lconst (v0 := 1) d_Md_buildSet_27 (by decide) ?_
    refine jx_land d_Md_buildSet_28 ?_
    refine jx_lconst (v0 := 1) d_Md_buildSet_29 (by decide) ?_
    refine jx_lcmp d_Md_buildSet_30 ?_
    refine jx_if_neL (tgt := 66) d_Md_buildSet_31 (by decide) (fun c2 => ?_) (fun c2 => ?_)
    · exact absurd ((bt_shr1 (by omega)).mpr ho) c2
    ·
      refine jx_aload_n d_Md_buildSet_34 2 rfl ?_
      refine jx_iload d_Md_buildSet_35 0 rfl ?_
      refine jx_lload_n d_Md_buildSet_37 1 rfl ?_
      refine jx_callV (M2 := mm_Md_isReady) rfl (md_tg hK) lk_Md_260 wi_Md_isReady ws_Md_isReady d_Md_buildSet_38 (c_Md_isReady l G (d - 1) (by omega) (s := s) (N := N) (c := c) (u := opn) hK hN hc) cd_Md_isReady rfl rfl (Nat.le_of_ble_eq_true rfl) (jm_fok (by omega)) (jm_look (by decide) (by omega)) ?_
      refine jx_if_eq (tgt := 66) d_Md_buildSet_41 (by decide) (fun c3 => ?_) (fun c3 => ?_)
      · exact absurd (jb0 c3) (by rw [hr]; decide)
      ·
        refine jx_lload_n d_Md_buildSet_44 1 rfl ?_
        refine jx_lconst (v0 := 1) d_Md_buildSet_45 (by decide) ?_
        refine jx_iload d_Md_buildSet_46 0 rfl ?_
        refine jx_lshl d_Md_buildSet_48 ?_
        refine jx_atl (show _ = bt1 (c) from rfl) ?_
        refine jx_lxor d_Md_buildSet_49 ?_
        refine jx_lstore_n (lv' := [(3, .long ((opn ^^^ (bt1 (c))))), (5, .int (nI (c))), (0, .ref (a)), (1, .long (u))]) d_Md_buildSet_50 (by decide) rfl ?_
        refine jx_aload_n d_Md_buildSet_51 2 rfl ?_
        refine jx_iload d_Md_buildSet_52 1 rfl ?_
        refine jx_callV (M2 := mm_Md_isStale) rfl (md_tg hK) lk_Md_263 wi_Md_isStale ws_Md_isStale d_Md_buildSet_54 (c_Md_isStale l G (d - 1) (by omega) (s := s) (N := N) (c := c) hK hN hc) cd_Md_isStale rfl rfl (Nat.le_of_ble_eq_true rfl) (jm_fok (by omega)) (jm_look (by decide) (by omega)) ?_
        refine jx_if_eq (tgt := 66) d_Md_buildSet_57 (by decide) (fun c4 => ?_) (fun c4 => ?_)
        · exact absurd (jb0 c4) (by rw [hs]; decide)
        ·
          refine jx_aload_n d_Md_buildSet_60 2 rfl ?_
          refine jx_iload d_Md_buildSet_61 1 rfl ?_
          refine jx_callV (M2 := mm_Md_workOut) rfl (md_tg hK) lk_Md_266 wi_Md_workOut ws_Md_workOut d_Md_buildSet_63 hC1 cd_Md_workOut rfl rfl (Nat.le_of_ble_eq_true rfl) (jm_fok (by omega)) (jm_look (by decide) (by omega)) ?_
          refine jx_iinc (v0 := nI (c + 1)) (lv' := [(5, .int (nI (c + 1))), (3, .long ((opn ^^^ (bt1 (c))))), (0, .ref (a)), (1, .long (u))]) d_Md_buildSet_66 1 rfl (nI_add _ 1) (by decide) rfl ?_
          refine jx_goto (tgt := 16) d_Md_buildSet_69 (by decide) ?_
          exact kk
set_option maxHeartbeats 4000000 in
set_option maxRecDepth 100000 in
theorem bs_end (l : Launch) (G : jm_G) {h : jm_H} {a : Nat} {s : MS} {u opn : Int64} {n0 s0 d : Nat} {Post : jm_r → jm_H → Prop} (hK : MdK h a) (kk : jm_X l G mm_Md_buildSet n0 s0 (jm_zn G d n0 s0) Post 7 [(3, .long (opn)), (0, .ref (a)), (1, .long (u))] [] (mdH h a s)) : jm_X l G mm_Md_buildSet n0 s0 (jm_zn G d n0 s0) Post 16 [(5, .int (nI 64)), (3, .long (opn)), (0, .ref (a)), (1, .long (u))] [] (mdH h a s) := by
  refine jx_iload d_Md_buildSet_16 0 rfl ?_
  refine jx_bipush (v0 := 64) d_Md_buildSet_18 (by decide) ?_
  refine jx_icmp_ge (tgt := 72) d_Md_buildSet_20 (by decide) (fun c1 => ?_) (fun c1 => absurd c1 (by decide))
  refine jx_goto (tgt := 7) d_Md_buildSet_72 (by decide) ?_
  refine jx_lv [1, 2, 3] rfl ?_
  exact kk
set_option maxHeartbeats 4000000 in
set_option maxRecDepth 100000 in
theorem bs_in (l : Launch) (G : jm_G) {h : jm_H} {a : Nat} {s : MS} {u opn : Int64} {n0 s0 d : Nat} {Post : jm_r → jm_H → Prop} (hK : MdK h a) (hne : ¬ opn = 0) (kk : jm_X l G mm_Md_buildSet n0 s0 (jm_zn G d n0 s0) Post 16 [(5, .int (nI 0)), (3, .long (opn)), (0, .ref (a)), (1, .long (u))] [] (mdH h a s)) : jm_X l G mm_Md_buildSet n0 s0 (jm_zn G d n0 s0) Post 7 [(3, .long (opn)), (0, .ref (a)), (1, .long (u))] [] (mdH h a s) := by
  refine jx_lload_n d_Md_buildSet_7 0 rfl ?_
  refine jx_lconst (v0 := 0) d_Md_buildSet_8 (by decide) ?_
  refine jx_lcmp d_Md_buildSet_9 ?_
  refine jx_if_eqL (tgt := 75) d_Md_buildSet_10 (by decide) (fun c1 => ?_) (fun c1 => ?_)
  · exact absurd c1 hne
  ·
    refine jx_iconst (v0 := 0) d_Md_buildSet_13 (by decide) ?_
    refine jx_istore (lv' := [(5, .int (0)), (3, .long (opn)), (0, .ref (a)), (1, .long (u))]) d_Md_buildSet_14 (by decide) rfl ?_
    exact kk
set_option maxHeartbeats 4000000 in
set_option maxRecDepth 100000 in
theorem bs_out (l : Launch) (G : jm_G) {h : jm_H} {a : Nat} {s : MS} {u opn : Int64} {n0 s0 d : Nat} {Post : jm_r → jm_H → Prop} (hK : MdK h a) (hne : opn = 0) (kk : Post (.inl (some (.int (s.1 21)))) (mdH h a s)) : jm_X l G mm_Md_buildSet n0 s0 (jm_zn G d n0 s0) Post 7 [(3, .long (opn)), (0, .ref (a)), (1, .long (u))] [] (mdH h a s) := by
  refine jx_lload_n d_Md_buildSet_7 0 rfl ?_
  refine jx_lconst (v0 := 0) d_Md_buildSet_8 (by decide) ?_
  refine jx_lcmp d_Md_buildSet_9 ?_
  refine jx_if_eqL (tgt := 75) d_Md_buildSet_10 (by decide) (fun c1 => ?_) (fun c1 => ?_)
  ·
    refine jx_aload_n d_Md_buildSet_75 1 rfl ?_
    refine jx_get d_Md_buildSet_76 fF_Md_257 (md_tg hK) (show (mdH h a s).2.2.2 a 21 = Value.int (s.1 21) from md_ri rfl) ?_
    exact jx_iret d_Md_buildSet_79 rfl (kk)
  · exact absurd hne c1
theorem mof_f {s : MS} {N : Nat → Nat} {c : Nat} {u : Int64} (h : anyN (mof s N c u) 64 = false) : ∀ j, j < 64 → bt u j = true → m_rd s N c (nM s j) = false := fun j hj hb => by
  have := anyN_false.mp h j hj
  unfold mof at this
  rw [hb] at this
  exact this
theorem mof_t {s : MS} {N : Nat → Nat} {c : Nat} {u : Int64} (h : ∀ j, j < 64 → bt u j = true → m_rd s N c (nM s j) = false) : anyN (mof s N c u) 64 = false := anyN_false.mpr fun j hj => by
  unfold mof
  cases e : bt u j with
  | false => rfl
  | true => rw [h j hj e]; rfl
/-- what building wants of the reference's cells -/
def SetOK (z : MS) (N : Nat → Nat) (Tm : Nat → Term) (set : Int64) : Prop := NcOK z N ∧ (∀ c, c < 64 → bt set c = true → TcM z N c (Tm c)) ∧ (∀ i j, i < 64 → j < 64 → bt set i = true → bt set j = true → nM z i = nM z j → i = j) ∧ ∃ rk : Nat → Nat, ∀ c j, c < 64 → j < 64 → bt set c = true → bt set j = true → m_rd z N c (nM z j) = true → rk j < rk c
theorem rk_min {P : Nat → Prop} {rk : Nat → Nat} {c : Nat} (h : P c) : ∃ c', P c' ∧ ∀ j, P j → rk c' ≤ rk j := by
  have : ∀ n c, rk c ≤ n → P c → ∃ c', P c' ∧ ∀ j, P j → rk c' ≤ rk j := by
    intro n
    induction n with
    | zero => intro c h1 h2; exact ⟨c, h2, fun j _ => by omega⟩
    | succ n ih =>
      intro c h1 h2
      by_cases e : ∃ j, P j ∧ rk j < rk c
      · obtain ⟨j, q1, q2⟩ := e
        exact ih j (by omega) q1
      · exact ⟨c, h2, fun j hj => Nat.le_of_not_lt fun q => e ⟨j, hj, q⟩⟩
  exact this _ c (Nat.le_refl _) h
theorem cnt_lt64 {x : Int64} {c : Nat} (hc : c < 64) (hb : bt x c = false) : cnt (bt x) 64 < 64 := by
  have h1 := cnt_lt (f := bt x) (g := fun _ => true) (n := 64) (fun _ _ _ => rfl) hc hb rfl
  have h2 := cnt_le (fun _ => true) 64
  omega
section BSL
variable {l : Launch} {G : jm_G} {n0 s0 d : Nat} {Post : jm_r → jm_H → Prop} {h : jm_H} {a : Nat} {z : MS} {N : Nat → Nat} {Tm : Nat → Term} {set : Int64}
/-- one pass; x is a cell that is ready from its beginning on -/
theorem bs_pass (hd : 5 ≤ d) (hK : MdK h a) (hO : SetOK z N Tm set) {opn0 : Int64} {x : Nat} (hx : x < 64) (hx0 : bt opn0 x = true) (hxr : ∀ j, j < 64 → bt opn0 j = true → m_rd z N x (nM z j) = false)
    (kk : ∀ s opn wo, BIM z s N Tm set opn wo → Sub64 opn opn0 → bt opn x = false → jm_X l G mm_Md_buildSet n0 s0 (jm_zn G d n0 s0) Post 7 [(3, .long (opn)), (0, .ref (a)), (1, .long set)] [] (mdH h a s)) (t : Nat) : ∀ (c : Nat) (s : MS) (opn wo : Int64), 64 - c < t → c ≤ 64 → BIM z s N Tm set opn wo → Sub64 opn opn0 → (∀ j, j < 64 → c ≤ j → bt opn j = bt opn0 j) → (x < c → bt opn x = false) → jm_X l G mm_Md_buildSet n0 s0 (jm_zn G d n0 s0) Post 16 [(5, .int (nI (c))), (3, .long (opn)), (0, .ref (a)), (1, .long set)] [] (mdH h a s) := by
  obtain ⟨hN, hT, hdis, rk, hrk⟩ := hO
  induction t with
  | zero => intro c s opn wo hm; omega
  | succ t ih =>
    intro c s opn wo hm hc64 hB hsub hsame hxc
    by_cases e : c = 64
    · subst e
      exact bs_end l G hK (kk s opn wo hB hsub (hxc hx))
    · have hc : c < 64 := by omega
      have hSM := hB.1
      have hNs := hSM.nc hN
      cases ho : bt opn c with
      | false =>
        refine bs_shut l G hd hK hNs hc ho (ih (c + 1) s opn wo (by omega) (by omega) hB hsub (fun j hj hcj => hsame j hj (by omega)) (fun q => ?_))
        by_cases e2 : x = c
        · rw [e2]; exact ho
        · exact hxc (by omega)
      | true =>
        have flip : Sub64 (opn ^^^ bt1 c) opn0 := fun j hj hb => hsub j hj ((bt_flip1 hc hj ho).mp hb).1
        have flips : ∀ j, j < 64 → c + 1 ≤ j → bt (opn ^^^ bt1 c) j = bt opn0 j := fun j hj hcj => by
          rw [← hsame j hj (by omega), bt_flip hc hj]
          simp [show j ≠ c by omega]
        have flipx : x < c + 1 → bt (opn ^^^ bt1 c) x = false := fun q => (bt_flip0 hc hx ho).mpr (by
          by_cases e2 : x = c
          · exact Or.inr e2
          · exact Or.inl (hxc (by omega)))
        cases hr : anyN (mof s N c opn) 64 with
        | true =>
          refine bs_wait l G hd hK hNs hc ho hr (ih (c + 1) s opn wo (by omega) (by omega) hB hsub (fun j hj hcj => hsame j hj (by omega)) (fun q => ?_))
          by_cases e2 : x = c
          · exfalso
            subst e2
            have : anyN (mof s N x opn) 64 = false := mof_t fun j hj hb => by
              rw [hSM.rd, hSM.nM]
              exact hxr j hj (hsub j hj hb)
            rw [hr] at this
            cases this
          · exact hxc (by omega)
        | false =>
          have hr' : ∀ j, j < 64 → bt opn j = true → m_rd z N c (nM z j) = false := fun j hj hb => by
            have := mof_f hr j hj hb
            rw [hSM.rd, hSM.nM] at this
            exact this
          have hset := hB.2.1 c hc ho
          cases hs : m_stale s N c with
          | false => exact bs_fresh l G hd hK hNs hc ho hr hs (ih (c + 1) s _ wo (by omega) (by omega) (hB.fresh hc ho hr' hs) flip flips flipx)
          | true =>
            obtain ⟨ht, i, PL, h7, hR⟩ := hSM.tc (hT c hc hset)
            have hwo : bt wo c = false := by
              cases e3 : bt wo c with
              | false => rfl
              | true => rw [(hB.2.2.1 c hc e3).2] at ho; cases ho
            obtain ⟨v1, g1, hC1, rfl, s1, rfl, hW⟩ := c_Md_workOut l G (d - 1) (by omega) hK hc hNs h7 ht hR hB.2.2.2.2.2.2.2.2.1 (cnt_lt64 hc hwo) (fun k hk q e4 => by
              have h9 : m_rd z N c (nM z c) = true := by
                rw [← hSM.rd, ← hSM.nM]
                exact anyN_iff.mpr ⟨k, hk, by unfold mrf; rw [decide_eq_true q, decide_eq_true e4]; rfl⟩
              rw [hr' c hc ho] at h9
              cases h9)
            exact bs_work l G hd hK hNs hc ho hr hs hC1 (ih (c + 1) s1 _ _ (by omega) (by omega) (hB.worked hN hT hdis hc ho hr' hs hW) flip flips flipx)
theorem bs_loop (hd : 5 ≤ d) (hK : MdK h a) (hO : SetOK z N Tm set) (kk : ∀ s wo, BIM z s N Tm set 0 wo → Post (.inl (some (.int (s.1 21)))) (mdH h a s)) (t : Nat) : ∀ (s : MS) (opn wo : Int64), cnt (bt opn) 64 < t → BIM z s N Tm set opn wo → jm_X l G mm_Md_buildSet n0 s0 (jm_zn G d n0 s0) Post 7 [(3, .long (opn)), (0, .ref (a)), (1, .long set)] [] (mdH h a s) := by
  induction t with
  | zero => intro s opn wo hm; omega
  | succ t ih =>
    intro s opn wo hm hB
    by_cases e : opn = 0
    · subst e
      exact bs_out l G hK rfl (kk s wo hB)
    · obtain ⟨-, -, -, rk, hrk⟩ := id hO
      obtain ⟨p, hp, hb⟩ := bt_ne0.mp e
      obtain ⟨x, ⟨hx, hxb⟩, hmin⟩ := rk_min (P := fun c => c < 64 ∧ bt opn c = true) (rk := rk) ⟨hp, hb⟩
      refine bs_in l G hK e (bs_pass hd hK hO hx hxb (fun j hj hbj => ?_) (fun s2 opn2 wo2 hB2 hsub hx2 => ih s2 opn2 wo2 ?_ hB2) 65 0 s opn wo (by omega) (by omega) hB (fun _ _ q => q) (fun _ _ _ => rfl) (fun q => by omega))
      · cases er : m_rd z N x (nM z j) with
        | false => rfl
        | true =>
          have := hrk x j hx hj (hB.2.1 x hx hxb) (hB.2.1 j hj hbj) er
          have := hmin j ⟨hj, hbj⟩
          omega
      · have := cnt_lt (f := bt opn2) (g := bt opn) (fun p hp q => hsub p hp q) hx hx2 hxb
        omega
end BSL
theorem cnt_zero64 : cnt (bt 0) 64 = 0 := by decide +kernel
theorem bim_start {z : MS} {N : Nat → Nat} {Tm : Nat → Term} {set : Int64} : BIM z (mi z 21 0) N Tm set set 0 := by
  have b0 : ∀ c, bt 0 c = true → False := fun c q => by rw [bt_zero] at q; cases q
  have hS : StM z (mi z 21 0) := ⟨fun k _ q _ _ => if_neg q, fun _ _ => rfl, fun _ _ _ _ _ => rfl, fun _ _ _ _ _ => rfl, fun _ _ => rfl⟩
  have nn : ∀ {c : Nat}, bt set c = true → bt set c = false → False := fun q1 q2 => by rw [q1] at q2; cases q2
  refine ⟨hS, fun _ _ q => q, fun c _ q => (b0 c q).elim, fun c _ q1 q2 _ _ _ => (nn q1 q2).elim, fun c _ _ => ⟨rfl, rfl, rfl, fun _ _ => ⟨rfl, rfl⟩⟩, fun c _ q1 q2 _ => (nn q1 q2).elim, fun c _ q => (b0 c q).elim, ?_, ?_, ?_⟩
  · rw [cnt_zero64]
    exact (Int32.add_zero _).symm
  · rw [cnt_zero64]; rfl
  · rw [cnt_zero64]
    exact ⟨fun i j _ q => by omega, fun i q => by omega, fun c _ q => (b0 c q).elim⟩
set_option maxHeartbeats 4000000 in
set_option maxRecDepth 100000 in
theorem c_Md_buildSet (l : Launch) (G : jm_G) (d : Nat) (hd : 5 ≤ d) {h : jm_H} {a : Nat} {s : MS} {N : Nat → Nat} {Tm : Nat → Term} {u : Int64} (hK : MdK h a) (hO : SetOK s N Tm u) : jm_CP l G mm_Md_buildSet d [.ref a, .long u] (mdH h a s) (fun v h9 => ∃ s' wo, h9 = mdH h a s' ∧ v = some (.int (nI (cnt (bt wo) 64))) ∧ BIM s s' N Tm u 0 wo) := by
  refine jm_of (by decide) rfl (Nat.le_of_ble_eq_true rfl) ?_
  refine jx_aload_n d_Md_buildSet_0 0 rfl ?_
  refine jx_iconst (v0 := 0) d_Md_buildSet_1 (by decide) ?_
  refine jx_put (v0 := .int (0)) d_Md_buildSet_2 fF_Md_257 jv_Md ft_Md_builtCount (md_tg hK) rfl rfl ?_
  refine jx_ath (md_wi (k := 21) rfl) ?_
  refine jx_lload_n d_Md_buildSet_5 1 rfl ?_
  refine jx_lstore_n (lv' := [(3, .long (u)), (0, .ref (a)), (1, .long (u))]) d_Md_buildSet_6 (by decide) rfl ?_
  exact bs_loop hd hK hO (fun s9 wo hB => ⟨_, rfl, s9, wo, rfl, by rw [hB.2.2.2.2.2.2.2.2.1], hB⟩) (cnt (bt u) 64 + 1) _ _ 0 (by omega) bim_start
