/-- what holds of the reference's cells between two calls -/
def ThOK (z : MS) (N : Nat → Nat) (Tm : Nat → Term) : Prop := NcOK z N ∧ (∀ c, c < 64 → tM z c = true → TcM z N c (Tm c)) ∧ (∀ i j, i < 64 → j < 64 → tM z i = true → tM z j = true → nM z i = nM z j → i = j) ∧ ∃ rk : Nat → Nat, ∀ c j, c < 64 → j < 64 → tM z c = true → tM z j = true → m_rd z N c (nM z j) = true → rk j < rk c
theorem TcM.c {s s' : MS} {N : Nat → Nat} {c : Nat} {t : Term} (h : s'.2.2 = s.2.2) (hT : TcM s N c t) : TcM s' N c t := by
  unfold TcM RepC
  rw [h]
  exact hT
theorem tM_c {s s' : MS} (h : s'.2.2 = s.2.2) : tM s' = tM s := by unfold tM; rw [h]
theorem nM_c {s s' : MS} (h : s'.2.2 = s.2.2) : nM s' = nM s := by unfold nM; rw [h]
theorem ThOK.c {s s' : MS} {N : Nat → Nat} {Tm : Nat → Term} (h : s'.2.2 = s.2.2) (hO : ThOK s N Tm) : ThOK s' N Tm := by
  obtain ⟨h1, h2, h3, rk, h4⟩ := hO
  refine ⟨h1.c h, fun c hc ht => (h2 c hc (by rw [← tM_c h]; exact ht)).c h, fun i j hi hj q1 q2 q3 => h3 i j hi hj (by rw [← tM_c h]; exact q1) (by rw [← tM_c h]; exact q2) (by rw [← nM_c h]; exact q3), rk, fun c j hc hj q1 q2 q3 => h4 c j hc hj (by rw [← tM_c h]; exact q1) (by rw [← tM_c h]; exact q2) (by rw [← m_rd_c h, ← nM_c h]; exact q3)⟩
theorem ThOK.set {s : MS} {N : Nat → Nat} {Tm : Nat → Term} {set : Int64} (hO : ThOK s N Tm) (h : ∀ c, c < 64 → bt set c = true → tM s c = true) : SetOK s N Tm set := by
  obtain ⟨h1, h2, h3, rk, h4⟩ := hO
  exact ⟨h1, fun c hc q => h2 c hc (h c hc q), fun i j hi hj q1 q2 q3 => h3 i j hi hj (h i hi q1) (h j hj q2) q3, rk, fun c j hc hj q1 q2 q3 => h4 c j hc hj (h c hc q1) (h j hj q2) q3⟩
theorem BelM.c {s s' : MS} {N : Nat → Nat} (h : s'.2.2 = s.2.2) (x c : Nat) : BelM s' N x c ↔ BelM s N x c := by
  have e : ∀ D, BClo s' N x D ↔ BClo s N x D := fun D => by
    unfold BClo
    simp only [m_rd_c h, tM_c h, nM_c h]
  unfold BelM
  exact ⟨fun q D hD => q D ((e D).mpr hD), fun q D hD => q D ((e D).mp hD)⟩
theorem BelM.th {s : MS} {N : Nat → Nat} {x c : Nat} (h : BelM s N x c) (hx : tM s x = true) : tM s c = true := h (fun c => tM s c = true) ⟨hx, fun _ j _ _ _ q _ => q⟩
set_option maxHeartbeats 4000000 in
set_option maxRecDepth 100000 in
theorem c_Md_build_o (l : Launch) (G : jm_G) (d : Nat) (hd : 6 ≤ d) {h : jm_H} {a : Nat} {s : MS} {B : Nat → Int32} {n : Nat} {N : Nat → Nat} {Tm : Nat → Term} (hK : MdK h a) (hT : MT s B n) (hq0 : q_nm B n ≠ 0) (hO : ThOK s N Tm) : jm_CP l G mm_Md_build d [.ref a] (mdH h a s) (fun v h9 => ∃ s1, FixN s s1 ∧ match m_cell s (q_nm B n) with
    | none => v = some (.int (-1)) ∧ h9 = mdH h a (mi (mi (mi s1 0 0) 2 0) 21 0)
    | some x => ∃ all s9 wo, (∀ j, j < 64 → (bt all j = true ↔ BelM s N x j)) ∧ v = some (.int (nI (cnt (bt wo) 64))) ∧ h9 = mdH h a s9 ∧ BIM (mi (mi (mi s1 0 0) 2 0) 21 0) s9 N Tm all 0 wo) := by
  refine jm_of (by decide) rfl (Nat.le_of_ble_eq_true rfl) ?_
  refine jx_aload_n d_Md_build_0 0 rfl ?_
  refine jx_aload_n d_Md_build_1 0 rfl ?_
  obtain ⟨v1, g1, hC1, rfl, s1, rfl, hF1, hq1⟩ := c_Md_isNameT l G (d - 1) (by omega) hK hT hq0
  refine jx_callV (M2 := mm_Md_isName) rfl (md_tg hK) lk_Md_269 wi_Md_isName ws_Md_isName d_Md_build_2 hC1 cd_Md_isName rfl rfl (Nat.le_of_ble_eq_true rfl) (jm_fok (by omega)) (jm_look (by decide) (by omega)) ?_
  refine jx_if_eq (tgt := 12) d_Md_build_5 (by decide) (fun c1 => absurd c1 (by decide)) (fun c1 => ?_)
  refine jx_iconst (v0 := 0) d_Md_build_8 (by decide) ?_
  refine jx_goto (tgt := 13) d_Md_build_9 (by decide) ?_
  refine jx_put (v0 := .int (0)) d_Md_build_13 fF_Md_96 jv_Md ft_Md_thrown (md_tg hK) rfl rfl ?_
  refine jx_ath (md_wi (k := 0) rfl) ?_
  refine jx_aload_n d_Md_build_16 0 rfl ?_
  refine jx_get d_Md_build_17 fF_Md_96 (md_tg hK) (show (mdH h a (mi s1 0 0)).2.2.2 a 0 = Value.int (0) from md_ri rfl) ?_
  refine jx_if_le (tgt := 25) d_Md_build_20 (by decide) (fun c2 => ?_) (fun c2 => absurd c2 (by decide))
  refine jx_aload_n d_Md_build_25 0 rfl ?_
  refine jx_iconst (v0 := 0) d_Md_build_26 (by decide) ?_
  refine jx_put (v0 := .int (0)) d_Md_build_27 fF_Md_100 jv_Md ft_Md_tapeSize (md_tg hK) rfl rfl ?_
  refine jx_ath (md_wi (k := 2) rfl) ?_
  refine jx_aload_n d_Md_build_30 0 rfl ?_
  refine jx_aload_n d_Md_build_31 0 rfl ?_
  refine jx_get d_Md_build_32 fF_Md_123 (md_tg hK) (show (mdH h a (mi (mi s1 0 0) 2 0)).2.2.2 a 25 = Value.long (s1.2.1 25) from md_rl rfl) ?_
  cases ec : m_cell s (q_nm B n) with
  | none =>
    have hCc := c_Md_cellOf l G (d - 1) (h := h) (a := a) (s := (mi (mi s1 0 0) 2 0)) (u := s1.2.1 25) hK
    rw [hq1, m_cell_c (show ((mi (mi s1 0 0) 2 0)).2.2 = s.2.2 from hF1.2.2), ec] at hCc
    rw [← hq1] at hCc
    refine jx_callV (M2 := mm_Md_cellOf) rfl (md_tg hK) lk_Md_214 wi_Md_cellOf ws_Md_cellOf d_Md_build_35 hCc cd_Md_cellOf rfl rfl (Nat.le_of_ble_eq_true rfl) (jm_fok (by omega)) (jm_look (by decide) (by omega)) ?_
    refine jx_istore_n (lv' := [(1, .int (-1)), (0, .ref (a))]) d_Md_build_38 (by decide) rfl ?_
    refine jx_aload_n d_Md_build_39 1 rfl ?_
    refine jx_iconst (v0 := 0) d_Md_build_40 (by decide) ?_
    refine jx_put (v0 := .int (0)) d_Md_build_41 fF_Md_257 jv_Md ft_Md_builtCount (md_tg hK) rfl rfl ?_
    refine jx_ath (md_wi (k := 21) rfl) ?_
    refine jx_iload_n d_Md_build_44 0 rfl ?_
    refine jx_if_ge (tgt := 52) d_Md_build_45 (by decide) (fun c3 => absurd c3 (by decide)) (fun c3 => ?_)
    refine jx_iconst (v0 := -1) d_Md_build_48 (by decide) ?_
    refine jx_goto (tgt := 61) d_Md_build_49 (by decide) ?_
    exact jx_iret d_Md_build_61 rfl (⟨_, rfl, s1, hF1, rfl, rfl⟩)
  | some c =>
    have hc := m_cell_s ec
    have hCc := c_Md_cellOf l G (d - 1) (h := h) (a := a) (s := (mi (mi s1 0 0) 2 0)) (u := s1.2.1 25) hK
    rw [hq1, m_cell_c (show ((mi (mi s1 0 0) 2 0)).2.2 = s.2.2 from hF1.2.2), ec] at hCc
    rw [← hq1] at hCc
    refine jx_callV (M2 := mm_Md_cellOf) rfl (md_tg hK) lk_Md_214 wi_Md_cellOf ws_Md_cellOf d_Md_build_35 hCc cd_Md_cellOf rfl rfl (Nat.le_of_ble_eq_true rfl) (jm_fok (by omega)) (jm_look (by decide) (by omega)) ?_
    refine jx_istore_n (lv' := [(1, .int (nI (c))), (0, .ref (a))]) d_Md_build_38 (by decide) rfl ?_
    refine jx_aload_n d_Md_build_39 1 rfl ?_
    refine jx_iconst (v0 := 0) d_Md_build_40 (by decide) ?_
    refine jx_put (v0 := .int (0)) d_Md_build_41 fF_Md_257 jv_Md ft_Md_builtCount (md_tg hK) rfl rfl ?_
    refine jx_ath (md_wi (k := 21) rfl) ?_
    refine jx_iload_n d_Md_build_44 0 rfl ?_
    refine jx_if_geN (tgt := 52) (c) d_Md_build_45 rfl (by omega) (by decide) (fun c4 => ?_) (fun c4 => ?_)
    ·
      refine jx_aload_n d_Md_build_52 1 rfl ?_
      refine jx_aload_n d_Md_build_53 1 rfl ?_
      refine jx_iload_n d_Md_build_54 0 rfl ?_
      have hw2 : ((mi (mi (mi s1 0 0) 2 0) 21 0)).2.2 = s.2.2 := hF1.2.2
      obtain ⟨v2, g2, hC2, all, rfl, rfl, hall⟩ := c_Md_below l G (d - 1) (by omega) (h := h) (a := a) (s := (mi (mi (mi s1 0 0) 2 0) 21 0)) (x := c) hK (hO.c hw2).1 hc.1
      have hall2 : ∀ j, j < 64 → (bt all j = true ↔ BelM s N c j) := fun j hj => (hall j hj).trans (BelM.c hw2 c j)
      have hth : ∀ j, j < 64 → bt all j = true → tM s j = true := fun j hj hb => ((hall2 j hj).mp hb).th hc.2.1
      refine jx_callV (M2 := mm_Md_below) rfl (md_tg hK) lk_Md_272 wi_Md_below ws_Md_below d_Md_build_55 hC2 cd_Md_below rfl rfl (Nat.le_of_ble_eq_true rfl) (jm_fok (by omega)) (jm_look (by decide) (by omega)) ?_
      obtain ⟨v3, g3, hC3, s9, wo, rfl, rfl, hB⟩ := c_Md_buildSet l G (d - 1) (by omega) (h := h) (a := a) (s := (mi (mi (mi s1 0 0) 2 0) 21 0)) (N := N) (Tm := Tm) (u := all) hK ((hO.c hw2).set fun j hj hb => by rw [tM_c hw2]; exact hth j hj hb)
      refine jx_callV (M2 := mm_Md_buildSet) rfl (md_tg hK) lk_Md_275 wi_Md_buildSet ws_Md_buildSet d_Md_build_58 hC3 cd_Md_buildSet rfl rfl (Nat.le_of_ble_eq_true rfl) (jm_fok (by omega)) (jm_look (by decide) (by omega)) ?_
      exact jx_iret d_Md_build_61 rfl (⟨_, rfl, s1, hF1, all, s9, wo, hall2, rfl, rfl, hB⟩)
    · omega
set_option maxHeartbeats 4000000 in
set_option maxRecDepth 100000 in
theorem st_Md_buildAll (l : Launch) (G : jm_G) {h : jm_H} {a : Nat} {s : MS} {i : Nat} {all : Int64} {n0 s0 d : Nat} {Post : jm_r → jm_H → Prop} (hK : MdK h a) (hi : i < 64) (kt : tM s i = true → jm_X l G mm_Md_buildAll n0 s0 (jm_zn G d n0 s0) Post 9 [(3, .int (nI (i + 1))), (1, .long (all ||| bt1 i)), (0, .ref (a))] [] (mdH h a s)) (kf : tM s i = false → jm_X l G mm_Md_buildAll n0 s0 (jm_zn G d n0 s0) Post 9 [(3, .int (nI (i + 1))), (1, .long (all)), (0, .ref (a))] [] (mdH h a s)) : jm_X l G mm_Md_buildAll n0 s0 (jm_zn G d n0 s0) Post 9 [(3, .int (nI (i))), (1, .long (all)), (0, .ref (a))] [] (mdH h a s) := by
  refine jx_iload_n d_Md_buildAll_9 0 rfl ?_
  refine jx_bipush (v0 := 64) d_Md_buildAll_10 (by decide) ?_
  refine jx_icmp_geN (tgt := 40) (i) (64) d_Md_buildAll_12 rfl rfl (by omega) (by omega) (by decide) (fun c1 => ?_) (fun c1 => ?_)
  · omega
  ·
    refine jx_aload_n d_Md_buildAll_15 2 rfl ?_
    refine jx_get d_Md_buildAll_16 fF_Md_13 (md_tg hK) (md_rr hK (k := 5) (j := 2) rfl rfl rfl) ?_
    refine jx_iload_n d_Md_buildAll_19 0 rfl ?_
    refine jx_zald d_Md_buildAll_20 (md_ta hK (j := 2) rfl) rfl (jm_vinN (show i < 64 by omega) (by decide)) (jm_atN (show i < 2 ^ 31 by omega) (show (mdH h a s).2.2.2 (a + 2) i = Value.int (jb (s.2.2.2.2 2 i)) from md_raz (j := 2) (show i < 64 by omega))) ?_
    refine jx_if_eq (tgt := 32) d_Md_buildAll_21 (by decide) (fun c2 => ?_) (fun c2 => ?_)
    ·
      refine jx_lload_n d_Md_buildAll_32 1 rfl ?_
      refine jx_lstore_n (lv' := [(1, .long (all)), (3, .int (nI (i))), (0, .ref (a))]) d_Md_buildAll_33 (by decide) rfl ?_
      refine jx_iinc (v0 := nI (i + 1)) (lv' := [(3, .int (nI (i + 1))), (1, .long (all)), (0, .ref (a))]) d_Md_buildAll_34 1 rfl (nI_add _ 1) (by decide) rfl ?_
      refine jx_goto (tgt := 9) d_Md_buildAll_37 (by decide) ?_
      exact kf (jb0 c2)
    ·
      refine jx_lload_n d_Md_buildAll_24 1 rfl ?_
      refine jx_lconst (v0 := 1) d_Md_buildAll_25 (by decide) ?_
      refine jx_iload_n d_Md_buildAll_26 0 rfl ?_
      refine jx_lshl d_Md_buildAll_27 ?_
      refine jx_atl (show _ = bt1 (i) from rfl) ?_
      refine jx_lor d_Md_buildAll_28 ?_
      refine jx_goto (tgt := 33) d_Md_buildAll_29 (by decide) ?_
      refine jx_lstore_n (lv' := [(1, .long ((all ||| (bt1 (i))))), (3, .int (nI (i))), (0, .ref (a))]) d_Md_buildAll_33 (by decide) rfl ?_
      refine jx_iinc (v0 := nI (i + 1)) (lv' := [(3, .int (nI (i + 1))), (1, .long ((all ||| (bt1 (i))))), (0, .ref (a))]) d_Md_buildAll_34 1 rfl (nI_add _ 1) (by decide) rfl ?_
      refine jx_goto (tgt := 9) d_Md_buildAll_37 (by decide) ?_
      exact kt (jb1 c2)
set_option maxHeartbeats 4000000 in
set_option maxRecDepth 100000 in
theorem en_Md_buildAll (l : Launch) (G : jm_G) {h : jm_H} {a : Nat} {s : MS} {all : Int64} {n0 s0 d : Nat} {Post : jm_r → jm_H → Prop} (hK : MdK h a) (kk : jm_X l G mm_Md_buildAll n0 s0 (jm_zn G d n0 s0) Post 40 [(1, .long (all)), (0, .ref (a))] [] (mdH h a s)) : jm_X l G mm_Md_buildAll n0 s0 (jm_zn G d n0 s0) Post 9 [(3, .int (nI 64)), (1, .long (all)), (0, .ref (a))] [] (mdH h a s) := by
  refine jx_iload_n d_Md_buildAll_9 0 rfl ?_
  refine jx_bipush (v0 := 64) d_Md_buildAll_10 (by decide) ?_
  refine jx_icmp_ge (tgt := 40) d_Md_buildAll_12 (by decide) (fun c1 => ?_) (fun c1 => absurd c1 (by decide))
  refine jx_lv [1, 2] rfl ?_
  exact kk
theorem lp_Md_buildAll (l : Launch) (G : jm_G) {h : jm_H} {a : Nat} {s : MS} {n0 s0 d : Nat} {Post : jm_r → jm_H → Prop} (hK : MdK h a) (kk : ∀ all, (∀ j, j < 64 → (bt all j = true ↔ tM s j = true)) → jm_X l G mm_Md_buildAll n0 s0 (jm_zn G d n0 s0) Post 40 [(1, .long (all)), (0, .ref (a))] [] (mdH h a s)) (t : Nat) : ∀ (i : Nat) (all : Int64), 64 - i < t → i ≤ 64 → (∀ j, j < 64 → (bt all j = true ↔ j < i ∧ tM s j = true)) → jm_X l G mm_Md_buildAll n0 s0 (jm_zn G d n0 s0) Post 9 [(3, .int (nI (i))), (1, .long (all)), (0, .ref (a))] [] (mdH h a s) := by
  induction t with
  | zero => intro i all hm; omega
  | succ t ih =>
    intro i all hm hi hA
    by_cases e : i = 64
    · subst e
      exact en_Md_buildAll l G hK (kk all fun j hj => (hA j hj).trans ⟨fun q => q.2, fun q => ⟨hj, q⟩⟩)
    · have hi6 : i < 64 := by omega
      refine st_Md_buildAll l G hK hi6 (fun ht => ih (i + 1) _ (by omega) (by omega) fun j hj => ?_) (fun ht => ih (i + 1) _ (by omega) (by omega) fun j hj => ?_)
      · rw [bt_ins hi6 hj, Bool.or_eq_true, hA j hj, decide_eq_true_iff]
        constructor
        · rintro (⟨q1, q2⟩ | q)
          · exact ⟨by omega, q2⟩
          · exact ⟨by omega, by rw [q]; exact ht⟩
        · rintro ⟨q1, q2⟩
          by_cases e2 : j = i
          · exact Or.inr e2
          · exact Or.inl ⟨by omega, q2⟩
      · rw [hA j hj]
        constructor
        · rintro ⟨q1, q2⟩; exact ⟨by omega, q2⟩
        · rintro ⟨q1, q2⟩
          refine ⟨?_, q2⟩
          by_cases e2 : j = i
          · rw [e2, ht] at q2; cases q2
          · omega
set_option maxHeartbeats 4000000 in
set_option maxRecDepth 100000 in
theorem c_Md_buildAll (l : Launch) (G : jm_G) (d : Nat) (hd : 6 ≤ d) {h : jm_H} {a : Nat} {s : MS} {N : Nat → Nat} {Tm : Nat → Term} (hK : MdK h a) (hO : ThOK s N Tm) : jm_CP l G mm_Md_buildAll d [.ref a] (mdH h a s) (fun v h9 => ∃ all s9 wo, (∀ j, j < 64 → (bt all j = true ↔ tM s j = true)) ∧ v = some (.int (nI (cnt (bt wo) 64))) ∧ h9 = mdH h a s9 ∧ BIM (mi s 0 0) s9 N Tm all 0 wo) := by
  refine jm_of (by decide) rfl (Nat.le_of_ble_eq_true rfl) ?_
  refine jx_aload_n d_Md_buildAll_0 0 rfl ?_
  refine jx_iconst (v0 := 0) d_Md_buildAll_1 (by decide) ?_
  refine jx_put (v0 := .int (0)) d_Md_buildAll_2 fF_Md_96 jv_Md ft_Md_thrown (md_tg hK) rfl rfl ?_
  refine jx_ath (md_wi (k := 0) rfl) ?_
  refine jx_lconst (v0 := 0) d_Md_buildAll_5 (by decide) ?_
  refine jx_lstore_n (lv' := [(1, .long (0)), (0, .ref (a))]) d_Md_buildAll_6 (by decide) rfl ?_
  refine jx_iconst (v0 := 0) d_Md_buildAll_7 (by decide) ?_
  refine jx_istore_n (lv' := [(3, .int (0)), (1, .long (0)), (0, .ref (a))]) d_Md_buildAll_8 (by decide) rfl ?_
  refine lp_Md_buildAll l G (s := mi s 0 0) hK (fun all hall => ?_) 65 0 0 (by omega) (by omega) (fun j hj => ⟨(fun q => by rw [bt_zero] at q; cases q), (fun q => by omega)⟩)
  refine jx_aload_n d_Md_buildAll_40 1 rfl ?_
  refine jx_lload_n d_Md_buildAll_41 0 rfl ?_
  obtain ⟨v3, g3, hC3, s9, wo, rfl, rfl, hB⟩ := c_Md_buildSet l G (d - 1) (by omega) (h := h) (a := a) (s := mi s 0 0) (N := N) (Tm := Tm) (u := all) hK ((hO.c (s' := mi s 0 0) rfl).set fun j hj hb => (hall j hj).mp hb)
  refine jx_callV (M2 := mm_Md_buildSet) rfl (md_tg hK) lk_Md_275 wi_Md_buildSet ws_Md_buildSet d_Md_buildAll_42 hC3 cd_Md_buildSet rfl rfl (Nat.le_of_ble_eq_true rfl) (jm_fok (by omega)) (jm_look (by decide) (by omega)) ?_
  exact jx_iret d_Md_buildAll_45 rfl (⟨_, rfl, all, s9, wo, hall, rfl, rfl, hB⟩)
