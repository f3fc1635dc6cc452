/-- a Formula at f, its five arrays behind it: length L, names N -/
def FmA (h : jm_H) (f L N : Nat) : Prop := h.2.2.1 f = (jm_o 3, 7) ∧ h.2.2.2 f 0 = .ref (f + 1) ∧ h.2.2.2 f 1 = .ref (f + 2) ∧ h.2.2.2 f 2 = .int (nI L) ∧ h.2.2.2 f 3 = .ref (f + 3) ∧ h.2.2.2 f 4 = .ref (f + 4) ∧ h.2.2.2 f 5 = .ref (f + 5) ∧ h.2.2.2 f 6 = .int (nI N) ∧
  h.2.2.1 (f + 1) = (jm_a 1, 80) ∧ h.2.2.1 (f + 2) = (jm_a 1, 80) ∧ h.2.2.1 (f + 3) = (jm_a 2, 40) ∧ h.2.2.1 (f + 4) = (jm_a 1, 40) ∧ h.2.2.1 (f + 5) = (jm_a 2, 40)
/-- an array of ints, of longs, by its contents -/
def arI (h : jm_H) (b n : Nat) (F : Nat → Int32) : Prop := ∀ j, j < n → h.2.2.2 b j = .int (F j)
def arL (h : jm_H) (b n : Nat) (F : Nat → Int64) : Prop := ∀ j, j < n → h.2.2.2 b j = .long (F j)
def jm_up {α : Type} (F : Nat → α) (k : Nat) (v : α) : Nat → α := fun j => if j = k then v else F j
theorem arI.put {h : jm_H} {b n k : Nat} {F : Nat → Int32} {v : Int32} (p : arI h b n F) : arI (jm_put h b k (.int v)) b n (jm_up F k v) := by
  intro j hj
  simp only [jm_put, jm_up]
  by_cases e : j = k
  · simp [e]
  · simp [e, p j hj]
theorem arL.put {h : jm_H} {b n k : Nat} {F : Nat → Int64} {v : Int64} (p : arL h b n F) : arL (jm_put h b k (.long v)) b n (jm_up F k v) := by
  intro j hj
  simp only [jm_put, jm_up]
  by_cases e : j = k
  · simp [e]
  · simp [e, p j hj]
theorem arI.keep {h : jm_H} {a b n k : Nat} {F : Nat → Int32} {v : Value} (p : arI h b n F) (hb : b ≠ a) : arI (jm_put h a k v) b n F := fun j hj => jm_rd_a hb (p j hj)
theorem arL.keep {h : jm_H} {a b n k : Nat} {F : Nat → Int64} {v : Value} (p : arL h b n F) (hb : b ≠ a) : arL (jm_put h a k v) b n F := fun j hj => jm_rd_a hb (p j hj)
set_option maxHeartbeats 4000000 in
set_option maxRecDepth 100000 in
theorem c_Fm_clear (l : Launch) (G : jm_G) (d : Nat) {h : jm_H} {f L N : Nat} (hF : FmA h f L N) : jm_C l G mm_Fm_clear d [.ref f] h none (jm_put (jm_put h f 2 (.int 0)) f 6 (.int 0)) := by
  obtain ⟨tf, g0, g1, g2, g3, g4, g5, g6, t1, t2, t3, t4, t5⟩ := id hF
  refine jm_ofE (by decide) rfl (Nat.le_of_ble_eq_true rfl) ?_
  refine jx_aload_n d_Fm_clear_0 0 rfl ?_
  refine jx_iconst (v0 := 0) d_Fm_clear_1 (by decide) ?_
  refine jx_put (v0 := .int (0)) d_Fm_clear_2 fF_Fm_18 jv_Fm ft_Fm_length tf rfl rfl ?_
  refine jx_aload_n d_Fm_clear_5 0 rfl ?_
  refine jx_iconst (v0 := 0) d_Fm_clear_6 (by decide) ?_
  refine jx_put (v0 := .int (0)) d_Fm_clear_7 fF_Fm_32 jv_Fm ft_Fm_nameCount tf rfl rfl ?_
  exact jx_vret d_Fm_clear_10 rfl (⟨rfl, rfl⟩)
def fm_step (h : jm_H) (f L : Nat) (u v : Int32) : jm_H := jm_put (jm_put (jm_put h (f + 1) L (.int u)) (f + 2) L (.int v)) f 2 (.int (nI (L + 1)))
set_option maxHeartbeats 4000000 in
set_option maxRecDepth 100000 in
theorem c_Fm_addStep (l : Launch) (G : jm_G) (d : Nat) {h : jm_H} {f L N : Nat} {u v : Int32} (hF : FmA h f L N) (hL : L < 80) : jm_C l G mm_Fm_addStep d [.ref f, .int u, .int v] h none (fm_step h f L u v) := by
  obtain ⟨tf, g0, g1, g2, g3, g4, g5, g6, t1, t2, t3, t4, t5⟩ := id hF
  refine jm_ofE (by decide) rfl (Nat.le_of_ble_eq_true rfl) ?_
  refine jx_aload_n d_Fm_addStep_0 0 rfl ?_
  refine jx_get d_Fm_addStep_1 fF_Fm_18 tf g2 ?_
  refine jx_if_ltN (tgt := 61) (L) d_Fm_addStep_4 rfl (by omega) (by decide) (fun c1 => ?_) (fun c1 => ?_)
  · omega
  ·
    refine jx_aload_n d_Fm_addStep_7 0 rfl ?_
    refine jx_get d_Fm_addStep_8 fF_Fm_18 tf g2 ?_
    refine jx_aload_n d_Fm_addStep_11 0 rfl ?_
    refine jx_get d_Fm_addStep_12 fF_Fm_9 tf g0 ?_
    refine jx_alen (v0 := 80) d_Fm_addStep_15 t1 (by decide) ?_
    refine jx_icmp_geN (tgt := 61) (L) (80) d_Fm_addStep_16 rfl rfl (by omega) (by omega) (by decide) (fun c2 => ?_) (fun c2 => ?_)
    · omega
    ·
      refine jx_aload_n d_Fm_addStep_19 0 rfl ?_
      refine jx_get d_Fm_addStep_20 fF_Fm_18 tf g2 ?_
      refine jx_aload_n d_Fm_addStep_23 0 rfl ?_
      refine jx_get d_Fm_addStep_24 fF_Fm_15 tf g1 ?_
      refine jx_alen (v0 := 80) d_Fm_addStep_27 t2 (by decide) ?_
      refine jx_icmp_geN (tgt := 61) (L) (80) d_Fm_addStep_28 rfl rfl (by omega) (by omega) (by decide) (fun c3 => ?_) (fun c3 => ?_)
      · omega
      ·
        refine jx_aload_n d_Fm_addStep_31 0 rfl ?_
        refine jx_get d_Fm_addStep_32 fF_Fm_9 tf g0 ?_
        refine jx_aload_n d_Fm_addStep_35 0 rfl ?_
        refine jx_get d_Fm_addStep_36 fF_Fm_18 tf g2 ?_
        refine jx_iload_n d_Fm_addStep_39 1 rfl ?_
        refine jx_iast d_Fm_addStep_40 t1 rfl (jm_vinN (by omega) (by decide)) ?_
        rw [jm_putN (by omega)]
        refine jx_aload_n d_Fm_addStep_41 0 rfl ?_
        refine jx_get d_Fm_addStep_42 fF_Fm_15 tf (jm_rd_a (jm_ne_oa tf t1) g1) ?_
        refine jx_aload_n d_Fm_addStep_45 0 rfl ?_
        refine jx_get d_Fm_addStep_46 fF_Fm_18 tf (jm_rd_a (jm_ne_oa tf t1) g2) ?_
        refine jx_iload_n d_Fm_addStep_49 2 rfl ?_
        refine jx_iast d_Fm_addStep_50 t2 rfl (jm_vinN (by omega) (by decide)) ?_
        rw [jm_putN (by omega)]
        refine jx_aload_n d_Fm_addStep_51 0 rfl ?_
        refine jx_dup d_Fm_addStep_52 rfl ?_
        refine jx_get d_Fm_addStep_53 fF_Fm_18 tf (jm_rd_a (jm_ne_oa tf t2) (jm_rd_a (jm_ne_oa tf t1) g2)) ?_
        refine jx_iconst (v0 := 1) d_Fm_addStep_56 (by decide) ?_
        refine jx_iadd d_Fm_addStep_57 ?_
        refine jx_ati (nI_add (L) (1)) ?_
        refine jx_put (v0 := .int (nI ((L) + (1)))) d_Fm_addStep_58 fF_Fm_18 jv_Fm ft_Fm_length tf rfl rfl ?_
        exact jx_vret d_Fm_addStep_61 rfl (⟨rfl, rfl⟩)
set_option maxHeartbeats 4000000 in
set_option maxRecDepth 100000 in
theorem c_Fm_addStep_full (l : Launch) (G : jm_G) (d : Nat) {h : jm_H} {f L N : Nat} {u v : Int32} (hF : FmA h f L N) (hL : 80 ≤ L) (hL2 : L < 2 ^ 31) : jm_C l G mm_Fm_addStep d [.ref f, .int u, .int v] h none h := by
  obtain ⟨tf, g0, g1, g2, g3, g4, g5, g6, t1, t2, t3, t4, t5⟩ := id hF
  refine jm_ofE (by decide) rfl (Nat.le_of_ble_eq_true rfl) ?_
  refine jx_aload_n d_Fm_addStep_0 0 rfl ?_
  refine jx_get d_Fm_addStep_1 fF_Fm_18 tf g2 ?_
  refine jx_if_ltN (tgt := 61) (L) d_Fm_addStep_4 rfl (by omega) (by decide) (fun c1 => ?_) (fun c1 => ?_)
  · omega
  ·
    refine jx_aload_n d_Fm_addStep_7 0 rfl ?_
    refine jx_get d_Fm_addStep_8 fF_Fm_18 tf g2 ?_
    refine jx_aload_n d_Fm_addStep_11 0 rfl ?_
    refine jx_get d_Fm_addStep_12 fF_Fm_9 tf g0 ?_
    refine jx_alen (v0 := 80) d_Fm_addStep_15 t1 (by decide) ?_
    refine jx_icmp_geN (tgt := 61) (L) (80) d_Fm_addStep_16 rfl rfl (by omega) (by omega) (by decide) (fun c2 => ?_) (fun c2 => ?_)
    ·
      exact jx_vret d_Fm_addStep_61 rfl (⟨rfl, rfl⟩)
    · omega
def fm_name (h : jm_H) (f L N : Nat) (u : Int64) : jm_H := jm_put (fm_step (jm_put h (f + 3) N (.long u)) f L 2 (nI N)) f 6 (.int (nI (N + 1)))
set_option maxHeartbeats 4000000 in
set_option maxRecDepth 100000 in
theorem c_Fm_addName (l : Launch) (G : jm_G) (d : Nat) {h : jm_H} {f L N : Nat} {u : Int64} (hF : FmA h f L N) (hL : L < 80) (hN : N < 40) : jm_C l G mm_Fm_addName (d + 1) [.ref f, .long u] h none (fm_name h f L N u) := by
  obtain ⟨tf, g0, g1, g2, g3, g4, g5, g6, t1, t2, t3, t4, t5⟩ := id hF
  refine jm_ofE (by decide) rfl (Nat.le_of_ble_eq_true rfl) ?_
  refine jx_aload_n d_Fm_addName_0 0 rfl ?_
  refine jx_get d_Fm_addName_1 fF_Fm_32 tf g6 ?_
  refine jx_if_ltN (tgt := 48) (N) d_Fm_addName_4 rfl (by omega) (by decide) (fun c1 => ?_) (fun c1 => ?_)
  · omega
  ·
    refine jx_aload_n d_Fm_addName_7 0 rfl ?_
    refine jx_get d_Fm_addName_8 fF_Fm_32 tf g6 ?_
    refine jx_aload_n d_Fm_addName_11 0 rfl ?_
    refine jx_get d_Fm_addName_12 fF_Fm_22 tf g3 ?_
    refine jx_alen (v0 := 40) d_Fm_addName_15 t3 (by decide) ?_
    refine jx_icmp_geN (tgt := 48) (N) (40) d_Fm_addName_16 rfl rfl (by omega) (by omega) (by decide) (fun c2 => ?_) (fun c2 => ?_)
    · omega
    ·
      refine jx_aload_n d_Fm_addName_19 0 rfl ?_
      refine jx_get d_Fm_addName_20 fF_Fm_22 tf g3 ?_
      refine jx_aload_n d_Fm_addName_23 0 rfl ?_
      refine jx_get d_Fm_addName_24 fF_Fm_32 tf g6 ?_
      refine jx_lload_n d_Fm_addName_27 1 rfl ?_
      refine jx_last d_Fm_addName_28 t3 rfl (jm_vinN (by omega) (by decide)) ?_
      rw [jm_putN (by omega)]
      refine jx_aload_n d_Fm_addName_29 0 rfl ?_
      refine jx_iconst (v0 := 2) d_Fm_addName_30 (by decide) ?_
      refine jx_aload_n d_Fm_addName_31 0 rfl ?_
      refine jx_get d_Fm_addName_32 fF_Fm_32 tf (jm_rd_a (jm_ne_oa tf t3) g6) ?_
      refine jx_callV (M2 := mm_Fm_addStep) rfl tf lk_Fm_35 wi_Fm_addStep ws_Fm_addStep d_Fm_addName_35 (c_Fm_addStep l G d ⟨tf, (jm_rd_a (jm_ne_oa tf t3) g0), (jm_rd_a (jm_ne_oa tf t3) g1), (jm_rd_a (jm_ne_oa tf t3) g2), (jm_rd_a (jm_ne_oa tf t3) g3), (jm_rd_a (jm_ne_oa tf t3) g4), (jm_rd_a (jm_ne_oa tf t3) g5), (jm_rd_a (jm_ne_oa tf t3) g6), t1, t2, t3, t4, t5⟩ (by omega)) cd_Fm_addStep rfl rfl (Nat.le_of_ble_eq_true rfl) (Nat.le_refl _) (jm_lok (by decide)) ?_
      refine jx_aload_n d_Fm_addName_38 0 rfl ?_
      refine jx_dup d_Fm_addName_39 rfl ?_
      refine jx_get d_Fm_addName_40 fF_Fm_32 tf (jm_rd_k (by decide) (jm_rd_a (jm_ne_oa tf t2) (jm_rd_a (jm_ne_oa tf t1) (jm_rd_a (jm_ne_oa tf t3) g6)))) ?_
      refine jx_iconst (v0 := 1) d_Fm_addName_43 (by decide) ?_
      refine jx_iadd d_Fm_addName_44 ?_
      refine jx_ati (nI_add (N) (1)) ?_
      refine jx_put (v0 := .int (nI ((N) + (1)))) d_Fm_addName_45 fF_Fm_32 jv_Fm ft_Fm_nameCount tf rfl rfl ?_
      exact jx_vret d_Fm_addName_48 rfl (⟨rfl, rfl⟩)
set_option maxHeartbeats 4000000 in
set_option maxRecDepth 100000 in
theorem c_Fm_addName_full (l : Launch) (G : jm_G) (d : Nat) {h : jm_H} {f L N : Nat} {u : Int64} (hF : FmA h f L N) (hN : 40 ≤ N) (hN2 : N < 2 ^ 31) : jm_C l G mm_Fm_addName d [.ref f, .long u] h none h := by
  obtain ⟨tf, g0, g1, g2, g3, g4, g5, g6, t1, t2, t3, t4, t5⟩ := id hF
  refine jm_ofE (by decide) rfl (Nat.le_of_ble_eq_true rfl) ?_
  refine jx_aload_n d_Fm_addName_0 0 rfl ?_
  refine jx_get d_Fm_addName_1 fF_Fm_32 tf g6 ?_
  refine jx_if_ltN (tgt := 48) (N) d_Fm_addName_4 rfl (by omega) (by decide) (fun c1 => ?_) (fun c1 => ?_)
  · omega
  ·
    refine jx_aload_n d_Fm_addName_7 0 rfl ?_
    refine jx_get d_Fm_addName_8 fF_Fm_32 tf g6 ?_
    refine jx_aload_n d_Fm_addName_11 0 rfl ?_
    refine jx_get d_Fm_addName_12 fF_Fm_22 tf g3 ?_
    refine jx_alen (v0 := 40) d_Fm_addName_15 t3 (by decide) ?_
    refine jx_icmp_geN (tgt := 48) (N) (40) d_Fm_addName_16 rfl rfl (by omega) (by omega) (by decide) (fun c2 => ?_) (fun c2 => ?_)
    ·
      exact jx_vret d_Fm_addName_48 rfl (⟨rfl, rfl⟩)
    · omega
set_option maxHeartbeats 4000000 in
set_option maxRecDepth 100000 in
theorem c_Fm_addName_fullS (l : Launch) (G : jm_G) (d : Nat) {h : jm_H} {f L N : Nat} {u : Int64} (hF : FmA h f L N) (hL : 80 ≤ L) (hL2 : L < 2 ^ 31) (hN : N < 40) : jm_C l G mm_Fm_addName (d + 1) [.ref f, .long u] h none (jm_put (jm_put h (f + 3) N (.long u)) f 6 (.int (nI (N + 1)))) := by
  obtain ⟨tf, g0, g1, g2, g3, g4, g5, g6, t1, t2, t3, t4, t5⟩ := id hF
  refine jm_ofE (by decide) rfl (Nat.le_of_ble_eq_true rfl) ?_
  refine jx_aload_n d_Fm_addName_0 0 rfl ?_
  refine jx_get d_Fm_addName_1 fF_Fm_32 tf g6 ?_
  refine jx_if_ltN (tgt := 48) (N) d_Fm_addName_4 rfl (by omega) (by decide) (fun c1 => ?_) (fun c1 => ?_)
  · omega
  ·
    refine jx_aload_n d_Fm_addName_7 0 rfl ?_
    refine jx_get d_Fm_addName_8 fF_Fm_32 tf g6 ?_
    refine jx_aload_n d_Fm_addName_11 0 rfl ?_
    refine jx_get d_Fm_addName_12 fF_Fm_22 tf g3 ?_
    refine jx_alen (v0 := 40) d_Fm_addName_15 t3 (by decide) ?_
    refine jx_icmp_geN (tgt := 48) (N) (40) d_Fm_addName_16 rfl rfl (by omega) (by omega) (by decide) (fun c2 => ?_) (fun c2 => ?_)
    · omega
    ·
      refine jx_aload_n d_Fm_addName_19 0 rfl ?_
      refine jx_get d_Fm_addName_20 fF_Fm_22 tf g3 ?_
      refine jx_aload_n d_Fm_addName_23 0 rfl ?_
      refine jx_get d_Fm_addName_24 fF_Fm_32 tf g6 ?_
      refine jx_lload_n d_Fm_addName_27 1 rfl ?_
      refine jx_last d_Fm_addName_28 t3 rfl (jm_vinN (by omega) (by decide)) ?_
      rw [jm_putN (by omega)]
      refine jx_aload_n d_Fm_addName_29 0 rfl ?_
      refine jx_iconst (v0 := 2) d_Fm_addName_30 (by decide) ?_
      refine jx_aload_n d_Fm_addName_31 0 rfl ?_
      refine jx_get d_Fm_addName_32 fF_Fm_32 tf (jm_rd_a (jm_ne_oa tf t3) g6) ?_
      refine jx_callV (M2 := mm_Fm_addStep) rfl tf lk_Fm_35 wi_Fm_addStep ws_Fm_addStep d_Fm_addName_35 (c_Fm_addStep_full l G d ⟨tf, (jm_rd_a (jm_ne_oa tf t3) g0), (jm_rd_a (jm_ne_oa tf t3) g1), (jm_rd_a (jm_ne_oa tf t3) g2), (jm_rd_a (jm_ne_oa tf t3) g3), (jm_rd_a (jm_ne_oa tf t3) g4), (jm_rd_a (jm_ne_oa tf t3) g5), (jm_rd_a (jm_ne_oa tf t3) g6), t1, t2, t3, t4, t5⟩ (by omega) (by omega)) cd_Fm_addStep rfl rfl (Nat.le_of_ble_eq_true rfl) (Nat.le_refl _) (jm_lok (by decide)) ?_
      refine jx_aload_n d_Fm_addName_38 0 rfl ?_
      refine jx_dup d_Fm_addName_39 rfl ?_
      refine jx_get d_Fm_addName_40 fF_Fm_32 tf (jm_rd_a (jm_ne_oa tf t3) g6) ?_
      refine jx_iconst (v0 := 1) d_Fm_addName_43 (by decide) ?_
      refine jx_iadd d_Fm_addName_44 ?_
      refine jx_ati (nI_add (N) (1)) ?_
      refine jx_put (v0 := .int (nI ((N) + (1)))) d_Fm_addName_45 fF_Fm_32 jv_Fm ft_Fm_nameCount tf rfl rfl ?_
      exact jx_vret d_Fm_addName_48 rfl (⟨rfl, rfl⟩)
set_option maxHeartbeats 4000000 in
set_option maxRecDepth 100000 in
theorem c_Fm_aimHere (l : Launch) (G : jm_G) (d : Nat) {h : jm_H} {f L N i : Nat} (hF : FmA h f L N) (hi : i < L) (hL : L ≤ 80) : jm_C l G mm_Fm_aimHere d [.ref f, .int (nI i)] h none (jm_put h (f + 2) i (.int (nI L))) := by
  obtain ⟨tf, g0, g1, g2, g3, g4, g5, g6, t1, t2, t3, t4, t5⟩ := id hF
  refine jm_ofE (by decide) rfl (Nat.le_of_ble_eq_true rfl) ?_
  refine jx_iload_n d_Fm_aimHere_0 1 rfl ?_
  refine jx_if_ltN (tgt := 31) (i) d_Fm_aimHere_1 rfl (by omega) (by decide) (fun c1 => ?_) (fun c1 => ?_)
  · omega
  ·
    refine jx_iload_n d_Fm_aimHere_4 1 rfl ?_
    refine jx_aload_n d_Fm_aimHere_5 0 rfl ?_
    refine jx_get d_Fm_aimHere_6 fF_Fm_18 tf g2 ?_
    refine jx_icmp_geN (tgt := 31) (i) (L) d_Fm_aimHere_9 rfl rfl (by omega) (by omega) (by decide) (fun c2 => ?_) (fun c2 => ?_)
    · omega
    ·
      refine jx_iload_n d_Fm_aimHere_12 1 rfl ?_
      refine jx_aload_n d_Fm_aimHere_13 0 rfl ?_
      refine jx_get d_Fm_aimHere_14 fF_Fm_15 tf g1 ?_
      refine jx_alen (v0 := 80) d_Fm_aimHere_17 t2 (by decide) ?_
      refine jx_icmp_geN (tgt := 31) (i) (80) d_Fm_aimHere_18 rfl rfl (by omega) (by omega) (by decide) (fun c3 => ?_) (fun c3 => ?_)
      · omega
      ·
        refine jx_aload_n d_Fm_aimHere_21 0 rfl ?_
        refine jx_get d_Fm_aimHere_22 fF_Fm_15 tf g1 ?_
        refine jx_iload_n d_Fm_aimHere_25 1 rfl ?_
        refine jx_aload_n d_Fm_aimHere_26 0 rfl ?_
        refine jx_get d_Fm_aimHere_27 fF_Fm_18 tf g2 ?_
        refine jx_iast d_Fm_aimHere_30 t2 rfl (jm_vinN (by omega) (by decide)) ?_
        rw [jm_putN (by omega)]
        exact jx_vret d_Fm_aimHere_31 rfl (⟨rfl, rfl⟩)
set_option maxHeartbeats 4000000 in
set_option maxRecDepth 100000 in
theorem lp_Fm_mentions (l : Launch) (G : jm_G) {h : jm_H} {f L N : Nat} {u : Int64} {NA : Nat → Int64} {n0 s0 d : Nat} {Post : jm_r → jm_H → Prop} (hF : FmA h f L N) (hA : arL h (f + 3) 40 NA) (hN : N ≤ 40)
    (k1 : ∀ i, i < N → NA i = u → Post (.inl (some (.int 1))) h) (k2 : (∀ i, i < N → NA i ≠ u) → Post (.inl (some (.int 0))) h) (m : Nat) : ∀ i, N - i < m → i ≤ N → (∀ j, j < i → NA j ≠ u) → jm_X l G mm_Fm_mentions n0 s0 (jm_zn G (d) n0 s0) Post 2 [(3, .int (nI i)), (0, .ref f), (1, .long u)] [] h := by
  obtain ⟨tf, g0, g1, g2, g3, g4, g5, g6, t1, t2, t3, t4, t5⟩ := id hF
  induction m with
  | zero => intro i hm; omega
  | succ m ih =>
    intro i hm hiN hno
    refine jx_iload_n d_Fm_mentions_2 0 rfl ?_
    refine jx_aload_n d_Fm_mentions_3 1 rfl ?_
    refine jx_get d_Fm_mentions_4 fF_Fm_32 tf g6 ?_
    refine jx_icmp_geN (tgt := 29) (i) (N) d_Fm_mentions_7 rfl rfl (by omega) (by omega) (by decide) (fun c1 => ?_) (fun c1 => ?_)
    ·
      refine jx_iconst (v0 := 0) d_Fm_mentions_29 (by decide) ?_
      exact jx_zret d_Fm_mentions_30 rfl (by first | rfl | decide) (k2 (fun j hj => hno j (by omega)))
    ·
      refine jx_aload_n d_Fm_mentions_10 1 rfl ?_
      refine jx_get d_Fm_mentions_11 fF_Fm_22 tf g3 ?_
      refine jx_iload_n d_Fm_mentions_14 0 rfl ?_
      refine jx_lald d_Fm_mentions_15 t3 rfl (jm_vinN (by omega) (by decide)) (jm_atN (by omega) (hA _ (by omega))) ?_
      refine jx_lload_n d_Fm_mentions_16 2 rfl ?_
      refine jx_lcmp d_Fm_mentions_17 ?_
      refine jx_if_ne (tgt := 23) d_Fm_mentions_18 (by decide) (fun c2 => ?_) (fun c2 => ?_)
      ·
        refine jx_iinc (v0 := nI (i + 1)) (lv' := [(3, .int (nI (i + 1))), (0, .ref (f)), (1, .long (u))]) d_Fm_mentions_23 0 rfl (nI_add _ 1) (by decide) rfl ?_
        refine jx_goto (tgt := 2) d_Fm_mentions_26 (by decide) ?_
        exact ih (i + 1) (by omega) (by omega) (fun j hj => by grind [lg_cmp0])
      ·
        refine jx_iconst (v0 := 1) d_Fm_mentions_21 (by decide) ?_
        exact jx_zret d_Fm_mentions_22 rfl (by first | rfl | decide) (k1 i (by omega) (by grind [lg_cmp0]))
noncomputable def q_ment (NA : Nat → Int64) (N : Nat) (u : Int64) : Bool := decide (∃ i, i < N ∧ NA i = u)
set_option maxHeartbeats 4000000 in
set_option maxRecDepth 100000 in
theorem c_Fm_mentions (l : Launch) (G : jm_G) (d : Nat) {h : jm_H} {f L N : Nat} {u : Int64} {NA : Nat → Int64} (hF : FmA h f L N) (hA : arL h (f + 3) 40 NA) (hN : N ≤ 40) : jm_C l G mm_Fm_mentions d [.ref f, .long u] h (some (.int (jb (q_ment NA N u)))) h := by
  obtain ⟨tf, g0, g1, g2, g3, g4, g5, g6, t1, t2, t3, t4, t5⟩ := id hF
  unfold q_ment
  refine jm_ofE (by decide) rfl (Nat.le_of_ble_eq_true rfl) ?_
  refine jx_iconst (v0 := 0) d_Fm_mentions_0 (by decide) ?_
  refine jx_istore_n (lv' := [(3, .int (0)), (0, .ref (f)), (1, .long (u))]) d_Fm_mentions_1 (by decide) rfl ?_
  exact lp_Fm_mentions l G hF hA hN (fun i hi e => ⟨by rw [jb, if_pos (decide_eq_true ⟨i, hi, e⟩)], rfl⟩) (fun e => ⟨by rw [jb, if_neg (by simpa using e)], rfl⟩) (N + 1) 0 (by omega) (by omega) (fun j hj => by omega)
