/-- what building may change -/
def S_run (b : Nat) (R0 : Nat → CRec) (m : Nat) (x : Nat) : Prop := S_wk (b + 4) x ∨ ∃ p, p < m ∧ (x = k_a (R0 p) ∨ x = k_f (R0 p) + 4 ∨ x = k_f (R0 p) + 5)
/-- the cells' own: sorted, apart from each other and from the Builder -/
def CsOK (b m : Nat) (R : Nat → CRec) (T : Nat → Term) : Prop := m ≤ 64 ∧ SortR R m ∧ DistF R m ∧ DistA R m ∧ FarF b R m ∧ TreesOK R m T
theorem CsOK.congr {b m : Nat} {R R' : Nat → CRec} {T : Nat → Term} (h : CsOK b m R T) (hs : ∀ p, p < m → SameR (R' p) (R p)) : CsOK b m R' T := ⟨h.1, h.2.1.congr fun p hp => (hs p hp).2.2.1, h.2.2.1.congr fun p hp => (hs p hp).2.1, h.2.2.2.1.congr fun p hp => (hs p hp).1, h.2.2.2.2.1.congr fun p hp => (hs p hp).2.1, h.2.2.2.2.2.congr hs⟩
def RunI (h0 h : jm_H) (b m : Nat) (T : Nat → Term) (R0 R : Nat → CRec) (RS : Nat → Int64) (all done wo : Int64) (ls : Nat) (tot : Int32) (LT : Nat → Int64) : Prop := CsA h b m R RS ∧ BI m T R0 R all done wo ∧ BdA h b ls tot LT ∧ (∃ n kd v S, WkA h (b + 4) n kd v S) ∧ jm_fr (S_run b R0 m) h0 h
section BRUN
variable {l : Launch} {G : jm_G} {h0 : jm_H} {b m n0 s0 d ls : Nat} {T : Nat → Term} {R0 : Nat → CRec} {RS LT : Nat → Int64} {all u : Int64} {tot : Int32} {Post : jm_r → jm_H → Prop}
theorem RunI.fresh {h : jm_H} {R : Nat → CRec} {done wo : Int64} {p : Nat} (hI : RunI h0 h b m T R0 R RS all done wo ls tot LT) (hm : m ≤ 64) (hp : p < m) (ha : bt all p = true) (hd : bt done p = false) (hr : ∀ i, rdR R0 m p i → bt done i = true) (hs : q_stale R m (R p) = false) : RunI h0 h b m T R0 R RS all (done ||| bt1 p) wo ls tot LT := ⟨hI.1, hI.2.1.fresh hm hp ha hd hr hs, hI.2.2⟩
theorem RunI.worked {h h9 : jm_H} {R : Nat → CRec} {done wo : Int64} {p n' : Nat} {SK : Nat → Int32} {SV S' : Nat → Int64} (hI : RunI h0 h b m T R0 R RS all done wo ls tot LT) (hO : CsOK b m R0 T) (hp : p < m) (ha : bt all p = true) (hd : bt done p = false) (hr : ∀ i, rdR R0 m p i → bt done i = true) (hs : q_stale R m (R p) = true)
    (hSK : ∀ j, j < k_N (R p) → (SK j, SV j) = resf R m (k_NA (R p) j)) (hC9 : CsA h9 b m (upR R p (rdone (R p) SK SV (ev (resf R m) (T p)))) RS) (q : jm_fr (S_wo b (k_a (R p)) (k_f (R p))) h h9) (hW : WkA h9 (b + 4) n' (ev (resf R m) (T p)).1 (ev (resf R m) (T p)).2 S') :
    RunI h0 h9 b m T R0 (upR R p (rdone (R p) SK SV (ev (resf R m) (T p)))) RS all (done ||| bt1 p) (wo ||| bt1 p) ls tot LT := by
  obtain ⟨hC, hB, hBd, -, hf⟩ := hI
  have hsm := hB.same hO.1 p hp
  have hfar := hO.2.2.2.2.1 p hp
  have hta := (hC.2.2.2.2.2.2.2.2 p hp).2.1.1
  refine ⟨hC9, hB.worked hO.1 hO.2.2.2.2.2 hp ha hd hr hs hSK, hBd.fr q ?_ ?_, ⟨_, _, _, _, hW⟩, hf.trans (q.weak fun x hx => ?_)⟩
  · have := jm_ne_oo hta hBd.1 (by decide)
    have e := hsm.2.1
    unfold S_wo S_wk
    omega
  · have := jm_ne_oa hta hBd.2.2.2.2.2.1
    have e := hsm.2.1
    unfold S_wo S_wk
    omega
  · unfold S_wo at hx
    rw [hsm.1, hsm.2.1] at hx
    rcases hx with hx | hx | hx | hx
    · exact Or.inr ⟨p, hp, Or.inr (Or.inl hx)⟩
    · exact Or.inr ⟨p, hp, Or.inr (Or.inr hx)⟩
    · exact Or.inl hx
    · exact Or.inr ⟨p, hp, Or.inl hx⟩
set_option maxHeartbeats 4000000 in
set_option maxRecDepth 100000 in
theorem lpi_Bd_run {k ps : Nat} {done0 : Int64} (hd : 6 ≤ d) (hO : CsOK b m R0 T) (hRS0 : ∀ p, p < m → ∀ i, i < 64 → (bt (RS p) i = true ↔ rdR R0 m p i)) (hk : k < 64) (hpsm : ps < m) (hps1 : bt all ps = true) (hps2 : ∀ i, rdR R0 m ps i → bt done0 i = true) (t : Nat) : ∀ (p : Nat) (h : jm_H) (R : Nat → CRec) (done wo : Int64), m - p < t → p ≤ m → RunI h0 h b m T R0 R RS all done wo ls tot LT → (∀ i, i < 64 → bt done0 i = true → bt done i = true) → (ps < p → bt done ps = true) → (∀ (h : jm_H) (R : Nat → CRec) (done wo : Int64), RunI h0 h b m T R0 R RS all done wo ls tot LT → (∀ i, i < 64 → bt done0 i = true → bt done i = true) → bt done ps = true → jm_X l G mm_Bd_run n0 s0 (jm_zn G d n0 s0) Post 136 [(11, .int (nI m)), (10, .int (nI k)), (8, .long wo), (6, .long done), (4, .long all), (0, .ref (b + 3)), (1, .ref b), (2, .long u)] [] h) → jm_X l G mm_Bd_run n0 s0 (jm_zn G d n0 s0) Post 36 [(11, .int (nI p)), (10, .int (nI k)), (8, .long wo), (6, .long done), (4, .long all), (0, .ref (b + 3)), (1, .ref b), (2, .long u)] [] h := by
  have hm := hO.1
  induction t with
  | zero => intro p h R done wo hm; omega
  | succ t ih =>
    intro p h R done wo hm2 hpm hI hsub hps kk
    obtain ⟨hC, hBI, hBd, ⟨n, kd, v, S, hW⟩, hfr⟩ := id hI
    have hsame := hBI.same hm
    have hs := (hO.congr hsame).2.1
    obtain ⟨tb, b0, b1, b2, t1, t2, hRSa, -, hR⟩ := id hC
    refine jx_iload d_Bd_run_36 0 rfl ?_
    refine jx_aload_n d_Bd_run_38 6 rfl ?_
    refine jx_get d_Bd_run_39 fF_Bd_35 tb b1 ?_
    refine jx_icmp_geN (tgt := 136) (p) (m) d_Bd_run_42 rfl rfl (by omega) (by omega) (by decide) (fun c1 => ?_) (fun c1 => ?_)
    ·
      have hi : p = m := by omega
      subst hi
      exact kk h R done wo hI hsub (hps hpsm)
    ·
      have hp : p < m := c1
      have hRS := fun i hi => hRS0 p hp i hi
      obtain ⟨ht, PL, hcd⟩ := (hO.congr hsame).2.2.2.2.2 p hp
      refine jx_lconst (v0 := 1) d_Bd_run_45 (by decide) ?_
      refine jx_iload d_Bd_run_46 0 rfl ?_
      refine jx_lshl d_Bd_run_48 ?_
      refine jx_atl (show _ = bt1 (p) from rfl) ?_
      refine jx_lstore (lv' := [(12, .long ((bt1 (p)))), (11, .int (nI (p))), (10, .int (nI (k))), (8, .long (wo)), (6, .long (done)), (4, .long (all)), (0, .ref (b + 3)), (1, .ref (b)), (2, .long (u))]) d_Bd_run_49 (by decide) rfl ?_
      refine jx_lload d_Bd_run_51 5 rfl ?_
      refine jx_lload d_Bd_run_53 4 rfl ?_
      refine jx_ldc2 d_Bd_run_55 lk_Bd_38 ?_
      refine jx_lxor d_Bd_run_58 ?_
      refine jx_land d_Bd_run_59 ?_
      refine jx_lload d_Bd_run_60 0 rfl ?_
      refine jx_land d_Bd_run_62 ?_
      refine jx_lconst (v0 := 0) d_Bd_run_63 (by decide) ?_
      refine jx_lcmp d_Bd_run_64 ?_
      refine jx_if_eqL (tgt := 130) d_Bd_run_65 (by decide) (fun c2 => ?_) (fun c2 => ?_)
      ·
        refine jx_iinc (v0 := nI (p + 1)) (lv' := [(11, .int (nI (p + 1))), (12, .long ((bt1 (p)))), (10, .int (nI (k))), (8, .long (wo)), (6, .long (done)), (4, .long (all)), (0, .ref (b + 3)), (1, .ref (b)), (2, .long (u))]) d_Bd_run_130 1 rfl (nI_add _ 1) (by decide) rfl ?_
        refine jx_goto (tgt := 36) d_Bd_run_133 (by decide) ?_
        refine jx_lv [0, 2, 3, 4, 5, 6, 7, 8] rfl ?_
        refine ih (p + 1) h R done wo (by omega) (by omega) hI hsub (fun hz => ?_) kk
        rcases Nat.lt_succ_iff_lt_or_eq.mp hz with hz | rfl
        · exact hps hz
        · cases e9 : bt done ps with | true => rfl | false => exact absurd c2 ((bt_open (by omega)).mpr ⟨hps1, e9⟩)
      ·
        refine jx_aload_n d_Bd_run_68 7 rfl ?_
        refine jx_get d_Bd_run_69 fF_Bd_40 tb b2 ?_
        refine jx_iload d_Bd_run_72 1 rfl ?_
        refine jx_lald d_Bd_run_74 t2 rfl (jm_vinN (by omega) (by decide)) (jm_atN (by omega) (hRSa _ (by omega))) ?_
        refine jx_lload d_Bd_run_75 4 rfl ?_
        refine jx_ldc2 d_Bd_run_77 lk_Bd_38 ?_
        refine jx_lxor d_Bd_run_80 ?_
        refine jx_land d_Bd_run_81 ?_
        refine jx_lconst (v0 := 0) d_Bd_run_82 (by decide) ?_
        refine jx_lcmp d_Bd_run_83 ?_
        refine jx_if_eqL (tgt := 90) d_Bd_run_84 (by decide) (fun c3 => ?_) (fun c3 => ?_)
        ·
          refine jx_lload d_Bd_run_90 4 rfl ?_
          refine jx_lload d_Bd_run_92 0 rfl ?_
          refine jx_lor d_Bd_run_94 ?_
          refine jx_lstore (lv' := [(6, .long ((done ||| (bt1 (p))))), (12, .long ((bt1 (p)))), (11, .int (nI (p))), (10, .int (nI (k))), (8, .long (wo)), (4, .long (all)), (0, .ref (b + 3)), (1, .ref (b)), (2, .long (u))]) d_Bd_run_95 (by decide) rfl ?_
          refine jx_aload_n d_Bd_run_97 7 rfl ?_
          refine jx_aload_n d_Bd_run_98 7 rfl ?_
          refine jx_get d_Bd_run_99 fF_Bd_43 tb b0 ?_
          refine jx_iload d_Bd_run_102 2 rfl ?_
          refine jx_aald d_Bd_run_104 t1 rfl (jm_vinN (by omega) (by decide)) (jm_atN (by omega) (hR p (by omega)).1) ?_
          have hC4 := c_Cs_isStale l G (d - 1) (by omega) hC hs (p := p) hp
          cases e4 : q_stale R m (R p) with
          | false =>
            rw [e4] at hC4
            refine jx_callV (M2 := mm_Cs_isStale) rfl tb lk_Bd_47 wi_Cs_isStale ws_Cs_isStale d_Bd_run_105 hC4 cd_Cs_isStale rfl rfl (Nat.le_of_ble_eq_true rfl) (jm_fok (by omega)) (jm_look (by decide) (by omega)) ?_
            refine jx_if_eq (tgt := 130) d_Bd_run_108 (by decide) (fun c5 => ?_) (fun c5 => absurd c5 (by decide))
            refine jx_iinc (v0 := nI (p + 1)) (lv' := [(11, .int (nI (p + 1))), (6, .long ((done ||| (bt1 (p))))), (12, .long ((bt1 (p)))), (10, .int (nI (k))), (8, .long (wo)), (4, .long (all)), (0, .ref (b + 3)), (1, .ref (b)), (2, .long (u))]) d_Bd_run_130 2 rfl (nI_add _ 1) (by decide) rfl ?_
            refine jx_goto (tgt := 36) d_Bd_run_133 (by decide) ?_
            refine jx_lv [0, 3, 4, 1, 5, 6, 7, 8] rfl ?_
            obtain ⟨ha, hdn⟩ := (bt_open (by omega)).mp c2
            have hrd : ∀ i, rdR R0 m p i → bt done i = true := fun i hi => bt_sub.mp c3 i (by have := hi.lt; omega) ((hRS i (by have := hi.lt; omega)).mpr hi)
            exact ih (p + 1) h R _ wo (by omega) (by omega) (hI.fresh hm hp ha hdn hrd e4) (fun i hi z => by rw [bt_ins (by omega) hi, hsub i hi z]; rfl) (fun hz => by rw [bt_ins (by omega) (by omega)]; rcases Nat.lt_succ_iff_lt_or_eq.mp hz with hz | rfl <;> simp_all) kk
          | true =>
            rw [e4] at hC4
            refine jx_callV (M2 := mm_Cs_isStale) rfl tb lk_Bd_47 wi_Cs_isStale ws_Cs_isStale d_Bd_run_105 hC4 cd_Cs_isStale rfl rfl (Nat.le_of_ble_eq_true rfl) (jm_fok (by omega)) (jm_look (by decide) (by omega)) ?_
            refine jx_if_eq (tgt := 130) d_Bd_run_108 (by decide) (fun c6 => absurd c6 (by decide)) (fun c6 => ?_)
            refine jx_aload_n d_Bd_run_111 6 rfl ?_
            refine jx_aload_n d_Bd_run_112 7 rfl ?_
            refine jx_aload_n d_Bd_run_113 7 rfl ?_
            refine jx_get d_Bd_run_114 fF_Bd_43 tb b0 ?_
            refine jx_iload d_Bd_run_117 2 rfl ?_
            refine jx_aald d_Bd_run_119 t1 rfl (jm_vinN (by omega) (by decide)) (jm_atN (by omega) (hR p (by omega)).1) ?_
            obtain ⟨v7, h7, hC7, rfl, SK7, SV7, hsk7, hcs7, hfr7, n7, S7, hw7⟩ := c_Bd_workOut l G (d - 1) (by omega) (h := h) hC hs (hO.congr hsame).2.2.1 (hO.congr hsame).2.2.2.1 (hO.congr hsame).2.2.2.2.1 hp hBd.1 hBd.2.1 hW ht hcd
            refine jx_callV (M2 := mm_Bd_workOut) rfl hBd.1 lk_Bd_51 wi_Bd_workOut ws_Bd_workOut d_Bd_run_120 hC7 cd_Bd_workOut rfl rfl (Nat.le_of_ble_eq_true rfl) (jm_fok (by omega)) (jm_look (by decide) (by omega)) ?_
            refine jx_lload d_Bd_run_123 4 rfl ?_
            refine jx_lload d_Bd_run_125 1 rfl ?_
            refine jx_lor d_Bd_run_127 ?_
            refine jx_lstore (lv' := [(8, .long ((wo ||| (bt1 (p))))), (6, .long ((done ||| (bt1 (p))))), (12, .long ((bt1 (p)))), (11, .int (nI (p))), (10, .int (nI (k))), (4, .long (all)), (0, .ref (b + 3)), (1, .ref (b)), (2, .long (u))]) d_Bd_run_128 (by decide) rfl ?_
            refine jx_iinc (v0 := nI (p + 1)) (lv' := [(11, .int (nI (p + 1))), (8, .long ((wo ||| (bt1 (p))))), (6, .long ((done ||| (bt1 (p))))), (12, .long ((bt1 (p)))), (10, .int (nI (k))), (4, .long (all)), (0, .ref (b + 3)), (1, .ref (b)), (2, .long (u))]) d_Bd_run_130 3 rfl (nI_add _ 1) (by decide) rfl ?_
            refine jx_goto (tgt := 36) d_Bd_run_133 (by decide) ?_
            refine jx_lv [0, 4, 1, 2, 5, 6, 7, 8] rfl ?_
            obtain ⟨ha, hdn⟩ := (bt_open (by omega)).mp c2
            have hrd : ∀ i, rdR R0 m p i → bt done i = true := fun i hi => bt_sub.mp c3 i (by have := hi.lt; omega) ((hRS i (by have := hi.lt; omega)).mpr hi)
            exact ih (p + 1) h7 _ _ _ (by omega) (by omega) (hI.worked hO hp ha hdn hrd e4 hsk7 hcs7 hfr7 hw7) (fun i hi z => by rw [bt_ins (by omega) hi, hsub i hi z]; rfl) (fun hz => by rw [bt_ins (by omega) (by omega)]; rcases Nat.lt_succ_iff_lt_or_eq.mp hz with hz | rfl <;> simp_all) kk
        ·
          refine jx_goto (tgt := 130) d_Bd_run_87 (by decide) ?_
          refine jx_iinc (v0 := nI (p + 1)) (lv' := [(11, .int (nI (p + 1))), (12, .long ((bt1 (p)))), (10, .int (nI (k))), (8, .long (wo)), (6, .long (done)), (4, .long (all)), (0, .ref (b + 3)), (1, .ref (b)), (2, .long (u))]) d_Bd_run_130 1 rfl (nI_add _ 1) (by decide) rfl ?_
          refine jx_goto (tgt := 36) d_Bd_run_133 (by decide) ?_
          refine jx_lv [0, 2, 3, 4, 5, 6, 7, 8] rfl ?_
          refine ih (p + 1) h R done wo (by omega) (by omega) hI hsub (fun hz => ?_) kk
          rcases Nat.lt_succ_iff_lt_or_eq.mp hz with hz | rfl
          · exact hps hz
          · exact absurd (bt_sub.mpr fun i hi z => hsub i hi (hps2 i ((hRS i hi).mp z))) c3
set_option maxHeartbeats 4000000 in
set_option maxRecDepth 100000 in
theorem lp_Bd_run (hd : 6 ≤ d) (hO : CsOK b m R0 T) (hRS0 : ∀ p, p < m → ∀ i, i < 64 → (bt (RS p) i = true ↔ rdR R0 m p i)) (hAc : Acyc R0 m) (hAll : AllOK R0 m all) (t : Nat) : ∀ (k : Nat) (h : jm_H) (R : Nat → CRec) (done wo : Int64), m - k < t → k ≤ m → RunI h0 h b m T R0 R RS all done wo ls tot LT → k ≤ cnt (bt done) m → (∀ (k : Nat) (h : jm_H) (R : Nat → CRec) (wo : Int64), k ≤ m → RunI h0 h b m T R0 R RS all all wo ls tot LT → jm_X l G mm_Bd_run n0 s0 (jm_zn G d n0 s0) Post 142 [(10, .int (nI k)), (8, .long wo), (6, .long all), (4, .long all), (0, .ref (b + 3)), (1, .ref b), (2, .long u)] [] h) → jm_X l G mm_Bd_run n0 s0 (jm_zn G d n0 s0) Post 16 [(10, .int (nI k)), (8, .long wo), (6, .long done), (4, .long all), (0, .ref (b + 3)), (1, .ref b), (2, .long u)] [] h := by
  have hm := hO.1
  induction t with
  | zero => intro k h R done wo hm; omega
  | succ t ih =>
    intro k h R done wo hm2 hkm hI hcn kk
    obtain ⟨hC, hBI, hBd, ⟨n, kd, v, S, hW⟩, hfr⟩ := id hI
    obtain ⟨tb, b0, b1, b2, t1, t2, hRSa, -, hR⟩ := id hC
    refine jx_iload d_Bd_run_16 0 rfl ?_
    refine jx_aload_n d_Bd_run_18 5 rfl ?_
    refine jx_get d_Bd_run_19 fF_Bd_35 tb b1 ?_
    refine jx_icmp_geN (tgt := 142) (k) (m) d_Bd_run_22 rfl rfl (by omega) (by omega) (by decide) (fun c1 => ?_) (fun c1 => ?_)
    ·
      refine jx_lv [0, 1, 2, 3, 4, 5, 6] rfl ?_
      have hfull : ∀ p, p < m → bt done p = true := cnt_full (Nat.le_antisymm (cnt_le _ _) (by omega))
      have hda : done = all := bt_ext fun p hp => by
        cases e : bt all p with
        | true => exact hfull p (hAll.1 p hp e)
        | false => cases e2 : bt done p with | false => rfl | true => exact absurd (hBI.1 p hp e2) (by rw [e]; decide)
      subst hda
      exact kk k h R wo hkm hI
    ·
      refine jx_lload d_Bd_run_25 2 rfl ?_
      refine jx_lload d_Bd_run_27 3 rfl ?_
      refine jx_lcmp d_Bd_run_29 ?_
      refine jx_if_eqL (tgt := 142) d_Bd_run_30 (by decide) (fun c2 => ?_) (fun c2 => ?_)
      ·
        refine jx_lv [0, 1, 2, 3, 4, 5, 6] rfl ?_
        subst c2
        exact kk k h R wo hkm hI
      ·
        refine jx_iconst (v0 := 0) d_Bd_run_33 (by decide) ?_
        refine jx_istore (lv' := [(11, .int (0)), (10, .int (nI (k))), (8, .long (wo)), (6, .long (done)), (4, .long (all)), (0, .ref (b + 3)), (1, .ref (b)), (2, .long (u))]) d_Bd_run_34 (by decide) rfl ?_
        refine jx_lv [0, 1, 2, 3, 4, 5, 6, 7] rfl ?_
        obtain ⟨ps, hp1, hp2, hp3, hp4⟩ := ready_exists hm hAc hAll hBI.1 c2
        refine lpi_Bd_run (done0 := done) (ps := ps) hd hO hRS0 (by omega) hp1 hp2 hp4 (m + 1) 0 h R done wo (by omega) (by omega) hI (fun i _ z => z) (fun z => by omega) (fun h' R' done' wo' hI' hsub hps => ?_)
        refine jx_iinc (v0 := nI (k + 1)) (lv' := [(10, .int (nI (k + 1))), (11, .int (nI (m))), (8, .long (wo')), (6, .long (done')), (4, .long (all)), (0, .ref (b + 3)), (1, .ref (b)), (2, .long (u))]) d_Bd_run_136 1 rfl (nI_add _ 1) (by decide) rfl ?_
        refine jx_goto (tgt := 16) d_Bd_run_139 (by decide) ?_
        refine jx_lv [0, 2, 3, 4, 5, 6, 7] rfl ?_
        exact ih (k + 1) h' R' done' wo' (by omega) (by omega) hI' (by have := cnt_lt (n := m) (fun p hp => hsub p (by omega)) hp1 hp3 hps; omega) kk
end BRUN
def S_B (b : Nat) (R0 : Nat → CRec) (m : Nat) (x : Nat) : Prop := S_run b R0 m x ∨ x = b + 2 ∨ S_bd b x
set_option maxHeartbeats 4000000 in
set_option maxRecDepth 100000 in
theorem c_Bd_run (l : Launch) (G : jm_G) (d : Nat) (hd : 6 ≤ d) {h : jm_H} {b m n ls : Nat} {T : Nat → Term} {R0 : Nat → CRec} {RS LT S : Nat → Int64} {all u v : Int64} {tot kd : Int32} (hC : CsA h b m R0 RS) (hO : CsOK b m R0 T) (hBd : BdA h b ls tot LT) (hW : WkA h (b + 4) n kd v S) (hAc : Acyc R0 m) (hall : (q_grun (q_trs R0 m RS m) m m u 0) = all) (hAll : AllOK R0 m all) : jm_CP l G mm_Bd_run d [.ref (b + 3), .ref b, .long u] h (fun v9 h9 => ∃ R wo, v9 = some (.int (nI (cnt (bt wo) m))) ∧ CsA h9 b m R (q_trs R0 m RS m) ∧ BI m T R0 R all all wo ∧ BdA h9 b (cnt (bt wo) m) (tot + nI (cnt (bt wo) m)) (q_kl R wo LT m) ∧ (∃ n kd v S, WkA h9 (b + 4) n kd v S) ∧ jm_fr (S_B b R0 m) h h9) := by
  refine jm_of (by decide) rfl (Nat.le_of_ble_eq_true rfl) ?_
  have hcw := c_Cs_withGround l G (d - 1) (by omega) (u := u) hC hO.2.1
  rw [hall] at hcw
  refine jx_aload_n d_Bd_run_0 1 rfl ?_
  refine jx_lload_n d_Bd_run_1 2 rfl ?_
  refine jx_callV (M2 := mm_Cs_withGround) rfl hC.1 lk_Bd_29 wi_Cs_withGround ws_Cs_withGround d_Bd_run_2 hcw cd_Cs_withGround rfl rfl (Nat.le_of_ble_eq_true rfl) (jm_fok (by omega)) (jm_look (by decide) (by omega)) ?_
  refine jx_lstore (lv' := [(4, .long (all)), (0, .ref (b + 3)), (1, .ref (b)), (2, .long (u))]) d_Bd_run_5 (by decide) rfl ?_
  refine jx_lconst (v0 := 0) d_Bd_run_7 (by decide) ?_
  refine jx_lstore (lv' := [(6, .long (0)), (4, .long (all)), (0, .ref (b + 3)), (1, .ref (b)), (2, .long (u))]) d_Bd_run_8 (by decide) rfl ?_
  refine jx_lconst (v0 := 0) d_Bd_run_10 (by decide) ?_
  refine jx_lstore (lv' := [(8, .long (0)), (6, .long (0)), (4, .long (all)), (0, .ref (b + 3)), (1, .ref (b)), (2, .long (u))]) d_Bd_run_11 (by decide) rfl ?_
  refine jx_iconst (v0 := 0) d_Bd_run_13 (by decide) ?_
  refine jx_istore (lv' := [(10, .int (0)), (8, .long (0)), (6, .long (0)), (4, .long (all)), (0, .ref (b + 3)), (1, .ref (b)), (2, .long (u))]) d_Bd_run_14 (by decide) rfl ?_
  have hIa : RunI (q_trh R0 m b h m) (q_trh R0 m b h m) b m T R0 R0 (q_trs R0 m RS m) all 0 0 ls tot LT := ⟨hC.trh m, BI.start, hBd.fr (q_trh_fr m) (by omega) (by omega), ⟨_, _, _, _, hW.fr (q_trh_fr m) (by omega) (by omega)⟩, jm_fr.rf⟩
  refine jx_lv [0, 1, 2, 3, 4, 5, 6] rfl ?_
  refine lp_Bd_run hd hO (fun p hp i hi => by rw [q_trs_at hp]; exact bt_tr hO.1 hi) hAc hAll (m + 1) 0 _ R0 0 0 (by omega) (by omega) hIa (Nat.zero_le _) (fun k4 h4 R4 wo4 hk4 hI4 => ?_)
  refine jx_aload_n d_Bd_run_142 4 rfl ?_
  refine jx_aload_n d_Bd_run_143 5 rfl ?_
  refine jx_lload d_Bd_run_144 1 rfl ?_
  obtain ⟨v5, h5, hC5, rfl, hB5, hf5⟩ := c_Bd_keepNames l G (d - 1) (h := h4) (wo := wo4) hI4.1 hI4.2.2.1
  refine jx_callV (M2 := mm_Bd_keepNames) rfl hI4.2.2.1.1 lk_Bd_55 wi_Bd_keepNames ws_Bd_keepNames d_Bd_run_146 hC5 cd_Bd_keepNames rfl rfl (Nat.le_of_ble_eq_true rfl) (jm_fok (by omega)) (jm_look (by decide) (by omega)) ?_
  refine jx_aload_n d_Bd_run_149 4 rfl ?_
  refine jx_get d_Bd_run_150 fF_Bd_22 hB5.1 hB5.2.2.2.1 ?_
  exact jx_iret d_Bd_run_153 rfl (⟨_, rfl, R4, wo4, rfl, hI4.1.bld hf5 hI4.2.2.1.1 hI4.2.2.1.2.2.2.2.2.1, hI4.2.1, hB5, (by obtain ⟨n9, k9, v9, S9, hw9⟩ := hI4.2.2.2.1; exact ⟨n9, k9, v9, S9, hw9.fr hf5 (by unfold S_bd; omega) (by unfold S_bd; omega)⟩), (((q_trh_fr m).weak (fun x e => Or.inr (Or.inl e))).trans (hI4.2.2.2.2.weak (fun x e => Or.inl e))).trans (hf5.weak (fun x e => Or.inr (Or.inr e)))⟩)
