theorem FmA.fr {S : Nat → Prop} {h h' : jm_H} {f L N : Nat} (p : FmA h f L N) (q : jm_fr S h h') (hf : ¬ S f) : FmA h' f L N := by
  obtain ⟨tf, g0, g1, g2, g3, g4, g5, g6, t1, t2, t3, t4, t5⟩ := p
  have e := q.2.2.1
  have w := q.2.2.2 f hf
  exact ⟨by rw [e]; exact tf, by rw [w]; exact g0, by rw [w]; exact g1, by rw [w]; exact g2, by rw [w]; exact g3, by rw [w]; exact g4, by rw [w]; exact g5, by rw [w]; exact g6, by rw [e]; exact t1, by rw [e]; exact t2, by rw [e]; exact t3, by rw [e]; exact t4, by rw [e]; exact t5⟩
theorem arL.fr {S : Nat → Prop} {h h' : jm_H} {b n : Nat} {F : Nat → Int64} (p : arL h b n F) (q : jm_fr S h h') (hb : ¬ S b) : arL h' b n F := fun j hj => by rw [q.2.2.2 b hb j]; exact p j hj
theorem arI.fr {S : Nat → Prop} {h h' : jm_H} {b n : Nat} {F : Nat → Int32} (p : arI h b n F) (q : jm_fr S h h') (hb : ¬ S b) : arI h' b n F := fun j hj => by rw [q.2.2.2 b hb j]; exact p j hj
def firstN (f : Nat → Bool) : Nat → Option Nat
  | 0 => none
  | n + 1 => match firstN f n with
    | some i => some i
    | none => if f n then some n else none
theorem firstN_none {f : Nat → Bool} {n : Nat} (h : ∀ j, j < n → f j = false) : firstN f n = none := by
  induction n with
  | zero => rfl
  | succ n ih =>
    unfold firstN
    rw [ih fun j hj => h j (by omega)]
    show (if f n = true then _ else _) = _
    rw [if_neg (by rw [h n (by omega)]; decide)]
theorem firstN_some {f : Nat → Bool} {n i : Nat} (hi : i < n) (h : ∀ j, j < i → f j = false) (h1 : f i = true) : firstN f n = some i := by
  induction n with
  | zero => omega
  | succ n ih =>
    unfold firstN
    by_cases e : i = n
    · subst e
      rw [firstN_none h]
      show (if f i = true then _ else _) = _
      rw [if_pos h1]
    · rw [ih (by omega)]
/-- this name would close a circle -/
def q_back (R : Nat → CRec) (m : Nat) (dep u : Int64) (NA : Nat → Int64) (j : Nat) : Bool := decide (NA j = u) || (match q_ix R m (NA j) with
  | none => false
  | some p => bt dep p)
theorem q_back_n {R : Nat → CRec} {m : Nat} {dep u : Int64} {NA : Nat → Int64} {j : Nat} (h : q_ix R m (NA j) = none) : q_back R m dep u NA j = decide (NA j = u) := by
  unfold q_back
  rw [h]
  simp
theorem q_back_s {R : Nat → CRec} {m : Nat} {dep u : Int64} {NA : Nat → Int64} {j p : Nat} (h : q_ix R m (NA j) = some p) : q_back R m dep u NA j = (decide (NA j = u) || bt dep p) := by
  unfold q_back
  rw [h]
set_option maxHeartbeats 4000000 in
set_option maxRecDepth 100000 in
theorem lp_Cs_firstInCircle (l : Launch) (G : jm_G) {h : jm_H} {b m : Nat} {R : Nat → CRec} {RS : Nat → Int64} {u dep : Int64} {f L N n0 s0 d : Nat} {NA : Nat → Int64} {Post : jm_r → jm_H → Prop} (hd : 2 ≤ d) (hC : CsA h b m R RS) (hs : SortR R m) (hF : FmA h f L N) (hA : arL h (f + 3) 40 NA) (hN : N ≤ 40)
    (k1 : ∀ i, i < N → (∀ j, j < i → q_back R m dep u NA j = false) → q_back R m dep u NA i = true → Post (.inl (some (.int (nI i)))) h) (k2 : (∀ j, j < N → q_back R m dep u NA j = false) → Post (.inl (some (.int (-1)))) h) (t : Nat) : ∀ i, N - i < t → i ≤ N → (∀ j, j < i → q_back R m dep u NA j = false) → jm_X l G mm_Cs_firstInCircle n0 s0 (jm_zn G d n0 s0) Post 10 [(6, .int (nI i)), (4, .long dep), (0, .ref b), (1, .long u), (3, .ref f)] [] h := by
  obtain ⟨tb, b0, b1, b2, t1, t2, hRS, hm, hR⟩ := id hC
  induction t with
  | zero => intro k hm; omega
  | succ t ih =>
    intro i hm2 hiN hno
    refine jx_iload d_Cs_firstInCircle_10 0 rfl ?_
    refine jx_aload_n d_Cs_firstInCircle_12 4 rfl ?_
    refine jx_get d_Cs_firstInCircle_13 fF_Cs_50 hF.1 hF.2.2.2.2.2.2.2.1 ?_
    refine jx_icmp_geN (tgt := 71) (i) (N) d_Cs_firstInCircle_16 rfl rfl (by omega) (by omega) (by decide) (fun c1 => ?_) (fun c1 => ?_)
    ·
      refine jx_iconst (v0 := -1) d_Cs_firstInCircle_71 (by decide) ?_
      exact jx_iret d_Cs_firstInCircle_72 rfl (k2 (fun j hj => hno j (by omega)))
    ·
      refine jx_aload_n d_Cs_firstInCircle_19 2 rfl ?_
      refine jx_aload_n d_Cs_firstInCircle_20 4 rfl ?_
      refine jx_get d_Cs_firstInCircle_21 fF_Cs_55 hF.1 hF.2.2.2.2.1 ?_
      refine jx_iload d_Cs_firstInCircle_24 0 rfl ?_
      refine jx_lald d_Cs_firstInCircle_26 hF.2.2.2.2.2.2.2.2.2.2.1 rfl (jm_vinN (by omega) (by decide)) (jm_atN (by omega) (hA _ (by omega))) ?_
      cases e2 : q_ix R m (NA i) with
      | none =>
        have hC2 := c_Cs_indexOf l G (d - 1) (by omega) (u := (NA i)) hC hs
        rw [e2] at hC2
        refine jx_callV (M2 := mm_Cs_indexOf) rfl tb lk_Cs_33 wi_Cs_indexOf ws_Cs_indexOf d_Cs_firstInCircle_27 hC2 cd_Cs_indexOf rfl rfl (Nat.le_of_ble_eq_true rfl) (jm_fok (by omega)) (jm_look (by decide) (by omega)) ?_
        refine jx_istore (lv' := [(7, .int (-1)), (6, .int (nI (i))), (4, .long (dep)), (0, .ref (b)), (1, .long (u)), (3, .ref (f))]) d_Cs_firstInCircle_30 (by decide) rfl ?_
        refine jx_aload_n d_Cs_firstInCircle_32 5 rfl ?_
        refine jx_get d_Cs_firstInCircle_33 fF_Cs_55 hF.1 hF.2.2.2.2.1 ?_
        refine jx_iload d_Cs_firstInCircle_36 1 rfl ?_
        refine jx_lald d_Cs_firstInCircle_38 hF.2.2.2.2.2.2.2.2.2.2.1 rfl (jm_vinN (by omega) (by decide)) (jm_atN (by omega) (hA _ (by omega))) ?_
        refine jx_lload_n d_Cs_firstInCircle_39 4 rfl ?_
        refine jx_lcmp d_Cs_firstInCircle_40 ?_
        refine jx_if_eqL (tgt := 62) d_Cs_firstInCircle_41 (by decide) (fun c3 => ?_) (fun c3 => ?_)
        ·
          refine jx_iload d_Cs_firstInCircle_62 1 rfl ?_
          exact jx_iret d_Cs_firstInCircle_64 rfl (k1 i (by omega) hno (by rw [q_back_n e2]; simp [c3]))
        ·
          refine jx_iload d_Cs_firstInCircle_44 0 rfl ?_
          refine jx_iconst (v0 := -1) d_Cs_firstInCircle_46 (by decide) ?_
          refine jx_icmp_eq (tgt := 65) d_Cs_firstInCircle_47 (by decide) (fun c4 => ?_) (fun c4 => absurd rfl c4)
          refine jx_iinc (v0 := nI (i + 1)) (lv' := [(6, .int (nI (i + 1))), (7, .int (-1)), (4, .long (dep)), (0, .ref (b)), (1, .long (u)), (3, .ref (f))]) d_Cs_firstInCircle_65 1 rfl (nI_add _ 1) (by decide) rfl ?_
          refine jx_goto (tgt := 10) d_Cs_firstInCircle_68 (by decide) ?_
          refine jx_lv [0, 2, 3, 4, 5] rfl ?_
          exact ih (i + 1) (by omega) (by omega) (fun j hj => by
            by_cases q : j = i
            · subst q; rw [q_back_n e2]; simp [c3]
            · exact hno j (by omega))
      | some p2 =>
        have hp2 := q_ix_some e2
        have hC2 := c_Cs_indexOf l G (d - 1) (by omega) (u := (NA i)) hC hs
        rw [e2] at hC2
        refine jx_callV (M2 := mm_Cs_indexOf) rfl tb lk_Cs_33 wi_Cs_indexOf ws_Cs_indexOf d_Cs_firstInCircle_27 hC2 cd_Cs_indexOf rfl rfl (Nat.le_of_ble_eq_true rfl) (jm_fok (by omega)) (jm_look (by decide) (by omega)) ?_
        refine jx_istore (lv' := [(7, .int (nI (p2))), (6, .int (nI (i))), (4, .long (dep)), (0, .ref (b)), (1, .long (u)), (3, .ref (f))]) d_Cs_firstInCircle_30 (by decide) rfl ?_
        refine jx_aload_n d_Cs_firstInCircle_32 5 rfl ?_
        refine jx_get d_Cs_firstInCircle_33 fF_Cs_55 hF.1 hF.2.2.2.2.1 ?_
        refine jx_iload d_Cs_firstInCircle_36 1 rfl ?_
        refine jx_lald d_Cs_firstInCircle_38 hF.2.2.2.2.2.2.2.2.2.2.1 rfl (jm_vinN (by omega) (by decide)) (jm_atN (by omega) (hA _ (by omega))) ?_
        refine jx_lload_n d_Cs_firstInCircle_39 4 rfl ?_
        refine jx_lcmp d_Cs_firstInCircle_40 ?_
        refine jx_if_eqL (tgt := 62) d_Cs_firstInCircle_41 (by decide) (fun c5 => ?_) (fun c5 => ?_)
        ·
          refine jx_iload d_Cs_firstInCircle_62 1 rfl ?_
          exact jx_iret d_Cs_firstInCircle_64 rfl (k1 i (by omega) hno (by rw [q_back_s e2]; simp [c5]))
        ·
          refine jx_iload d_Cs_firstInCircle_44 0 rfl ?_
          refine jx_iconst (v0 := -1) d_Cs_firstInCircle_46 (by decide) ?_
          refine jx_icmp_eq (tgt := 65) d_Cs_firstInCircle_47 (by decide) (fun c6 => absurd c6 (nI_nm1 (by omega))) (fun c6 => ?_)
          refine jx_lload d_Cs_firstInCircle_50 2 rfl ?_
          refine jx_lconst (v0 := 1) d_Cs_firstInCircle_52 (by decide) ?_
          refine jx_iload d_Cs_firstInCircle_53 0 rfl ?_
          refine jx_lshl d_Cs_firstInCircle_55 ?_
          refine jx_atl (show _ = bt1 (p2) from rfl) ?_
          refine jx_land d_Cs_firstInCircle_56 ?_
          refine jx_lconst (v0 := 0) d_Cs_firstInCircle_57 (by decide) ?_
          refine jx_lcmp d_Cs_firstInCircle_58 ?_
          refine jx_if_eqL (tgt := 65) d_Cs_firstInCircle_59 (by decide) (fun c7 => ?_) (fun c7 => ?_)
          ·
            refine jx_iinc (v0 := nI (i + 1)) (lv' := [(6, .int (nI (i + 1))), (7, .int (nI (p2))), (4, .long (dep)), (0, .ref (b)), (1, .long (u)), (3, .ref (f))]) d_Cs_firstInCircle_65 1 rfl (nI_add _ 1) (by decide) rfl ?_
            refine jx_goto (tgt := 10) d_Cs_firstInCircle_68 (by decide) ?_
            refine jx_lv [0, 2, 3, 4, 5] rfl ?_
            exact ih (i + 1) (by omega) (by omega) (fun j hj => by
              by_cases q : j = i
              · subst q; rw [q_back_s e2, show bt dep p2 = false from Bool.eq_false_iff.mpr (fun z => (bt_has (by omega)).mpr z c7)]; simp [c5]
              · exact hno j (by omega))
          ·
            refine jx_iload d_Cs_firstInCircle_62 1 rfl ?_
            exact jx_iret d_Cs_firstInCircle_64 rfl (k1 i (by omega) hno (by rw [q_back_s e2, (bt_has (by omega)).mp c7]; simp))
set_option maxHeartbeats 4000000 in
set_option maxRecDepth 100000 in
theorem c_Cs_firstInCircle (l : Launch) (G : jm_G) (d : Nat) (hd : 4 ≤ d) {h : jm_H} {b m : Nat} {R : Nat → CRec} {RS : Nat → Int64} {u : Int64} {f L N : Nat} {NA : Nat → Int64} (hC : CsA h b m R RS) (hs : SortR R m) (hF : FmA h f L N) (hA : arL h (f + 3) 40 NA) (hN : N ≤ 40) : jm_C l G mm_Cs_firstInCircle d [.ref b, .long u, .ref f] h (some (.int (ixv (firstN (q_back R m (q_drun (q_trs R m RS m) m m (q_dir R u m) 0) u NA) N)))) (q_trh R m b h m) := by
  obtain ⟨tb, b0, b1, b2, t1, t2, hRS, hm, hR⟩ := id hC
  have hF9 : FmA (q_trh R m b h m) f L N := hF.fr (q_trh_fr m) (fun e => jm_ne_oa hF.1 t2 e)
  have hA9 : arL (q_trh R m b h m) (f + 3) 40 NA := hA.fr (q_trh_fr m) (fun e => jm_ne_k hF.2.2.2.2.2.2.2.2.2.2.1 t2 (by decide) e)
  refine jm_ofE (by decide) rfl (Nat.le_of_ble_eq_true rfl) ?_
  refine jx_aload_n d_Cs_firstInCircle_0 0 rfl ?_
  refine jx_lload_n d_Cs_firstInCircle_1 1 rfl ?_
  obtain ⟨tb9, b09, b19, b29, t19, t29, hRS9, -, hR9⟩ := id (hC.trh m)
  refine jx_callV (M2 := mm_Cs_dependents) rfl tb lk_Cs_92 wi_Cs_dependents ws_Cs_dependents d_Cs_firstInCircle_2 (c_Cs_dependents l G (d - 1) (by omega) hC hs) cd_Cs_dependents rfl rfl (Nat.le_of_ble_eq_true rfl) (jm_fok (by omega)) (jm_look (by decide) (by omega)) ?_
  refine jx_topl fun x1 ex1 => ?_
  refine jx_lstore (lv' := [(4, .long (x1)), (0, .ref (b)), (1, .long (u)), (3, .ref (f))]) d_Cs_firstInCircle_5 (by decide) rfl ?_
  refine jx_iconst (v0 := 0) d_Cs_firstInCircle_7 (by decide) ?_
  refine jx_istore (lv' := [(6, .int (0)), (4, .long (x1)), (0, .ref (b)), (1, .long (u)), (3, .ref (f))]) d_Cs_firstInCircle_8 (by decide) rfl ?_
  subst ex1
  refine jx_lv [0, 1, 2, 3, 4] rfl ?_
  exact lp_Cs_firstInCircle l G (by omega) (hC.trh m) hs hF9 hA9 hN (fun i h1 h2 h3 => ⟨by rw [firstN_some h1 h2 h3]; rfl, rfl⟩) (fun h1 => ⟨by rw [firstN_none h1]; rfl, rfl⟩) (N + 1) 0 (by omega) (by omega) (fun j hj => by omega)
