/-! the law's helpers -/
set_option maxHeartbeats 4000000 in
set_option maxRecDepth 100000 in
theorem lw_feed_o (l : Launch) (G : jm_G) (d : Nat) (hd : 1 ≤ d) {h h9 : jm_H} {x : Nat} {o : Nat} {wa wb wc wd we : Int32} {r : Int32} (tx : h.2.2.1 x = (jm_o 0, 3)) (to : h9.2.2.1 o = (jm_a 2, 1)) (hC : jm_C l G mm_CW_feed (d - 1) [.ref x, .int wa, .int wb, .int wc, .int wd, .int we] h (some (.int r)) h9) : jm_CW l G mm_Lw_feed [(0, 16, 19, 13)] d [.ref x, .int wa, .int wb, .int wc, .int wd, .int we, .ref o] h (some (.int 0)) (jm_put h9 o 0 (.long (Int32.toInt64 r))) := by
  have key : ∃ v h', jm_CW l G mm_Lw_feed [(0, 16, 19, 13)] d [.ref x, .int wa, .int wb, .int wc, .int wd, .int we, .ref o] h v h' ∧ (v = some (.int 0) ∧ h' = (jm_put h9 o 0 (.long (Int32.toInt64 r)))) := by
    refine jm_ofW (by decide) rfl (Nat.le_of_ble_eq_true rfl) ?_
    refine jx_aload d_Lw_feed_0 6 rfl ?_
    refine jx_iconst (v0 := 0) d_Lw_feed_2 (by decide) ?_
    refine jx_aload_n d_Lw_feed_3 0 rfl ?_
    refine jx_iload_n d_Lw_feed_4 1 rfl ?_
    refine jx_iload_n d_Lw_feed_5 2 rfl ?_
    refine jx_iload_n d_Lw_feed_6 3 rfl ?_
    refine jx_iload d_Lw_feed_7 4 rfl ?_
    refine jx_iload d_Lw_feed_9 5 rfl ?_
    refine jx_callV (M2 := mm_CW_feed) rfl tx lk_Lw_7 wi_CW_feed ws_CW_feed d_Lw_feed_11 hC cd_CW_feed rfl rfl (Nat.le_of_ble_eq_true rfl) (jm_fok (by omega)) (jm_look (by decide) (by omega)) ?_
    refine jx_i2l d_Lw_feed_14 ?_
    refine jx_last d_Lw_feed_15 to rfl (jm_vinN (n := 0) (show 0 < 1 by omega) (by decide)) ?_
    refine jx_ath (jm_putN (n := 0) (by decide)) ?_
    refine jx_goto (tgt := 23) d_Lw_feed_16 (by decide) ?_
    refine jx_iconst (v0 := 0) d_Lw_feed_23 (by decide) ?_
    exact jx_iret d_Lw_feed_24 rfl (⟨_, rfl, rfl, rfl⟩)
  obtain ⟨v, h', hk, e1, e2⟩ := key
  rw [e1, e2] at hk
  exact hk
set_option maxHeartbeats 4000000 in
set_option maxRecDepth 100000 in
theorem lw_feed_t (l : Launch) (G : jm_G) (d : Nat) (hd : 1 ≤ d) {h h1 : jm_H} {x : Nat} {o : Nat} {wa wb wc wd we : Int32} (tx : h.2.2.1 x = (jm_o 0, 3)) (hC : jm_CT l G mm_CW_feed (d - 1) [.ref x, .int wa, .int wb, .int wc, .int wd, .int we] h "java/lang/UnsupportedOperationException" h1) : jm_CW l G mm_Lw_feed [(0, 16, 19, 13)] d [.ref x, .int wa, .int wb, .int wc, .int wd, .int we, .ref o] h (some (.int 1)) h1 := by
  have key : ∃ v h', jm_CW l G mm_Lw_feed [(0, 16, 19, 13)] d [.ref x, .int wa, .int wb, .int wc, .int wd, .int we, .ref o] h v h' ∧ (v = some (.int 1) ∧ h' = h1) := by
    refine jm_ofW (by decide) rfl (Nat.le_of_ble_eq_true rfl) ?_
    refine jx_aload d_Lw_feed_0 6 rfl ?_
    refine jx_iconst (v0 := 0) d_Lw_feed_2 (by decide) ?_
    refine jx_aload_n d_Lw_feed_3 0 rfl ?_
    refine jx_iload_n d_Lw_feed_4 1 rfl ?_
    refine jx_iload_n d_Lw_feed_5 2 rfl ?_
    refine jx_iload_n d_Lw_feed_6 3 rfl ?_
    refine jx_iload d_Lw_feed_7 4 rfl ?_
    refine jx_iload d_Lw_feed_9 5 rfl ?_
    refine jx_callVC (M2 := mm_CW_feed) rfl rfl (by decide) lk_Lw_13 rfl tx lk_Lw_7 wi_CW_feed ws_CW_feed d_Lw_feed_11 hC cd_CW_feed rfl rfl (Nat.le_of_ble_eq_true rfl) (jm_fok (by omega)) (jm_look (by decide) (by omega)) ?_
    refine jx_astore (lv' := [(7, .ref (h1.1 - 1)), (0, .ref (x)), (1, .int (wa)), (2, .int (wb)), (3, .int (wc)), (4, .int (wd)), (5, .int (we)), (6, .ref (o))]) d_Lw_feed_19 (by decide) rfl ?_
    refine jx_iconst (v0 := 1) d_Lw_feed_21 (by decide) ?_
    exact jx_iret d_Lw_feed_22 rfl (⟨_, rfl, rfl, rfl⟩)
  obtain ⟨v, h', hk, e1, e2⟩ := key
  rw [e1, e2] at hk
  exact hk
set_option maxHeartbeats 4000000 in
set_option maxRecDepth 100000 in
theorem lw_end_o (l : Launch) (G : jm_G) (d : Nat) (hd : 1 ≤ d) {h h9 : jm_H} {x : Nat} {wa : Int32} (tx : h.2.2.1 x = (jm_o 0, 3)) (hC : jm_C l G mm_CW_end (d - 1) [.ref x, .int wa] h none h9) : jm_CW l G mm_Lw_end [(0, 5, 8, 19)] d [.ref x, .int wa] h (some (.int 0)) h9 := by
  have key : ∃ v h', jm_CW l G mm_Lw_end [(0, 5, 8, 19)] d [.ref x, .int wa] h v h' ∧ (v = some (.int 0) ∧ h' = h9) := by
    refine jm_ofW (by decide) rfl (Nat.le_of_ble_eq_true rfl) ?_
    refine jx_aload_n d_Lw_end_0 0 rfl ?_
    refine jx_iload_n d_Lw_end_1 1 rfl ?_
    refine jx_callV (M2 := mm_CW_end) rfl tx lk_Lw_15 wi_CW_end ws_CW_end d_Lw_end_2 hC cd_CW_end rfl rfl (Nat.le_of_ble_eq_true rfl) (jm_fok (by omega)) (jm_look (by decide) (by omega)) ?_
    refine jx_goto (tgt := 11) d_Lw_end_5 (by decide) ?_
    refine jx_iconst (v0 := 0) d_Lw_end_11 (by decide) ?_
    exact jx_iret d_Lw_end_12 rfl (⟨_, rfl, rfl, rfl⟩)
  obtain ⟨v, h', hk, e1, e2⟩ := key
  rw [e1, e2] at hk
  exact hk
set_option maxHeartbeats 4000000 in
set_option maxRecDepth 100000 in
theorem lw_end_t (l : Launch) (G : jm_G) (d : Nat) (hd : 1 ≤ d) {h h1 : jm_H} {x : Nat} {wa : Int32} (tx : h.2.2.1 x = (jm_o 0, 3)) (hC : jm_CT l G mm_CW_end (d - 1) [.ref x, .int wa] h "java/lang/IllegalArgumentException" h1) : jm_CW l G mm_Lw_end [(0, 5, 8, 19)] d [.ref x, .int wa] h (some (.int 1)) h1 := by
  have key : ∃ v h', jm_CW l G mm_Lw_end [(0, 5, 8, 19)] d [.ref x, .int wa] h v h' ∧ (v = some (.int 1) ∧ h' = h1) := by
    refine jm_ofW (by decide) rfl (Nat.le_of_ble_eq_true rfl) ?_
    refine jx_aload_n d_Lw_end_0 0 rfl ?_
    refine jx_iload_n d_Lw_end_1 1 rfl ?_
    refine jx_callVC (M2 := mm_CW_end) rfl rfl (by decide) lk_Lw_19 rfl tx lk_Lw_15 wi_CW_end ws_CW_end d_Lw_end_2 hC cd_CW_end rfl rfl (Nat.le_of_ble_eq_true rfl) (jm_fok (by omega)) (jm_look (by decide) (by omega)) ?_
    refine jx_astore_n (lv' := [(2, .ref (h1.1 - 1)), (0, .ref (x)), (1, .int (wa))]) d_Lw_end_8 (by decide) rfl ?_
    refine jx_iconst (v0 := 1) d_Lw_end_9 (by decide) ?_
    exact jx_iret d_Lw_end_10 rfl (⟨_, rfl, rfl, rfl⟩)
  obtain ⟨v, h', hk, e1, e2⟩ := key
  rw [e1, e2] at hk
  exact hk
set_option maxHeartbeats 4000000 in
set_option maxRecDepth 100000 in
theorem lw_remove_o0 (l : Launch) (G : jm_G) (d : Nat) (hd : 1 ≤ d) {h h9 : jm_H} {x : Nat} {o : Nat} (tx : h.2.2.1 x = (jm_o 0, 3)) (to : h9.2.2.1 o = (jm_a 2, 1)) (hC : jm_C l G mm_CW_remove (d - 1) [.ref x] h (some (.int 0)) h9) : jm_CW l G mm_Lw_remove [(0, 15, 18, 25)] d [.ref x, .ref o] h (some (.int 0)) (jm_put h9 o 0 (.long 0)) := by
  have key : ∃ v h', jm_CW l G mm_Lw_remove [(0, 15, 18, 25)] d [.ref x, .ref o] h v h' ∧ (v = some (.int 0) ∧ h' = (jm_put h9 o 0 (.long 0))) := by
    refine jm_ofW (by decide) rfl (Nat.le_of_ble_eq_true rfl) ?_
    refine jx_aload_n d_Lw_remove_0 1 rfl ?_
    refine jx_iconst (v0 := 0) d_Lw_remove_1 (by decide) ?_
    refine jx_aload_n d_Lw_remove_2 0 rfl ?_
    refine jx_callV (M2 := mm_CW_remove) rfl tx lk_Lw_21 wi_CW_remove ws_CW_remove d_Lw_remove_3 hC cd_CW_remove rfl rfl (Nat.le_of_ble_eq_true rfl) (jm_fok (by omega)) (jm_look (by decide) (by omega)) ?_
    refine jx_if_eq (tgt := 13) d_Lw_remove_6 (by decide) (fun c1 => ?_) (fun c1 => absurd c1 (by decide))
    refine jx_lconst (v0 := 0) d_Lw_remove_13 (by decide) ?_
    refine jx_last d_Lw_remove_14 to rfl (jm_vinN (n := 0) (show 0 < 1 by omega) (by decide)) ?_
    refine jx_ath (jm_putN (n := 0) (by decide)) ?_
    refine jx_goto (tgt := 21) d_Lw_remove_15 (by decide) ?_
    refine jx_iconst (v0 := 0) d_Lw_remove_21 (by decide) ?_
    exact jx_iret d_Lw_remove_22 rfl (⟨_, rfl, rfl, rfl⟩)
  obtain ⟨v, h', hk, e1, e2⟩ := key
  rw [e1, e2] at hk
  exact hk
set_option maxHeartbeats 4000000 in
set_option maxRecDepth 100000 in
theorem lw_remove_o1 (l : Launch) (G : jm_G) (d : Nat) (hd : 1 ≤ d) {h h9 : jm_H} {x : Nat} {o : Nat} (tx : h.2.2.1 x = (jm_o 0, 3)) (to : h9.2.2.1 o = (jm_a 2, 1)) (hC : jm_C l G mm_CW_remove (d - 1) [.ref x] h (some (.int 1)) h9) : jm_CW l G mm_Lw_remove [(0, 15, 18, 25)] d [.ref x, .ref o] h (some (.int 0)) (jm_put h9 o 0 (.long 1)) := by
  have key : ∃ v h', jm_CW l G mm_Lw_remove [(0, 15, 18, 25)] d [.ref x, .ref o] h v h' ∧ (v = some (.int 0) ∧ h' = (jm_put h9 o 0 (.long 1))) := by
    refine jm_ofW (by decide) rfl (Nat.le_of_ble_eq_true rfl) ?_
    refine jx_aload_n d_Lw_remove_0 1 rfl ?_
    refine jx_iconst (v0 := 0) d_Lw_remove_1 (by decide) ?_
    refine jx_aload_n d_Lw_remove_2 0 rfl ?_
    refine jx_callV (M2 := mm_CW_remove) rfl tx lk_Lw_21 wi_CW_remove ws_CW_remove d_Lw_remove_3 hC cd_CW_remove rfl rfl (Nat.le_of_ble_eq_true rfl) (jm_fok (by omega)) (jm_look (by decide) (by omega)) ?_
    refine jx_if_eq (tgt := 13) d_Lw_remove_6 (by decide) (fun c1 => absurd c1 (by decide)) (fun c1 => ?_)
    refine jx_lconst (v0 := 1) d_Lw_remove_9 (by decide) ?_
    refine jx_goto (tgt := 14) d_Lw_remove_10 (by decide) ?_
    refine jx_last d_Lw_remove_14 to rfl (jm_vinN (n := 0) (show 0 < 1 by omega) (by decide)) ?_
    refine jx_ath (jm_putN (n := 0) (by decide)) ?_
    refine jx_goto (tgt := 21) d_Lw_remove_15 (by decide) ?_
    refine jx_iconst (v0 := 0) d_Lw_remove_21 (by decide) ?_
    exact jx_iret d_Lw_remove_22 rfl (⟨_, rfl, rfl, rfl⟩)
  obtain ⟨v, h', hk, e1, e2⟩ := key
  rw [e1, e2] at hk
  exact hk
set_option maxHeartbeats 4000000 in
set_option maxRecDepth 100000 in
theorem lw_remove_t (l : Launch) (G : jm_G) (d : Nat) (hd : 1 ≤ d) {h h1 : jm_H} {x : Nat} {o : Nat} (tx : h.2.2.1 x = (jm_o 0, 3)) (hC : jm_CT l G mm_CW_remove (d - 1) [.ref x] h "java/util/NoSuchElementException" h1) : jm_CW l G mm_Lw_remove [(0, 15, 18, 25)] d [.ref x, .ref o] h (some (.int 1)) h1 := by
  have key : ∃ v h', jm_CW l G mm_Lw_remove [(0, 15, 18, 25)] d [.ref x, .ref o] h v h' ∧ (v = some (.int 1) ∧ h' = h1) := by
    refine jm_ofW (by decide) rfl (Nat.le_of_ble_eq_true rfl) ?_
    refine jx_aload_n d_Lw_remove_0 1 rfl ?_
    refine jx_iconst (v0 := 0) d_Lw_remove_1 (by decide) ?_
    refine jx_aload_n d_Lw_remove_2 0 rfl ?_
    refine jx_callVC (M2 := mm_CW_remove) rfl rfl (by decide) lk_Lw_25 rfl tx lk_Lw_21 wi_CW_remove ws_CW_remove d_Lw_remove_3 hC cd_CW_remove rfl rfl (Nat.le_of_ble_eq_true rfl) (jm_fok (by omega)) (jm_look (by decide) (by omega)) ?_
    refine jx_astore_n (lv' := [(2, .ref (h1.1 - 1)), (0, .ref (x)), (1, .ref (o))]) d_Lw_remove_18 (by decide) rfl ?_
    refine jx_iconst (v0 := 1) d_Lw_remove_19 (by decide) ?_
    exact jx_iret d_Lw_remove_20 rfl (⟨_, rfl, rfl, rfl⟩)
  obtain ⟨v, h', hk, e1, e2⟩ := key
  rw [e1, e2] at hk
  exact hk
set_option maxHeartbeats 4000000 in
set_option maxRecDepth 100000 in
theorem lw_build_o (l : Launch) (G : jm_G) (d : Nat) (hd : 1 ≤ d) {h h9 : jm_H} {x : Nat} {o : Nat} {r : Int32} (tx : h.2.2.1 x = (jm_o 0, 3)) (to : h9.2.2.1 o = (jm_a 2, 1)) (hC : jm_C l G mm_CW_build (d - 1) [.ref x] h (some (.int r)) h9) : jm_CW l G mm_Lw_build [(0, 8, 11, 25)] d [.ref x, .ref o] h (some (.int 0)) (jm_put h9 o 0 (.long (Int32.toInt64 r))) := by
  have key : ∃ v h', jm_CW l G mm_Lw_build [(0, 8, 11, 25)] d [.ref x, .ref o] h v h' ∧ (v = some (.int 0) ∧ h' = (jm_put h9 o 0 (.long (Int32.toInt64 r)))) := by
    refine jm_ofW (by decide) rfl (Nat.le_of_ble_eq_true rfl) ?_
    refine jx_aload_n d_Lw_build_0 1 rfl ?_
    refine jx_iconst (v0 := 0) d_Lw_build_1 (by decide) ?_
    refine jx_aload_n d_Lw_build_2 0 rfl ?_
    refine jx_callV (M2 := mm_CW_build) rfl tx lk_Lw_27 wi_CW_build ws_CW_build d_Lw_build_3 hC cd_CW_build rfl rfl (Nat.le_of_ble_eq_true rfl) (jm_fok (by omega)) (jm_look (by decide) (by omega)) ?_
    refine jx_i2l d_Lw_build_6 ?_
    refine jx_last d_Lw_build_7 to rfl (jm_vinN (n := 0) (show 0 < 1 by omega) (by decide)) ?_
    refine jx_ath (jm_putN (n := 0) (by decide)) ?_
    refine jx_goto (tgt := 14) d_Lw_build_8 (by decide) ?_
    refine jx_iconst (v0 := 0) d_Lw_build_14 (by decide) ?_
    exact jx_iret d_Lw_build_15 rfl (⟨_, rfl, rfl, rfl⟩)
  obtain ⟨v, h', hk, e1, e2⟩ := key
  rw [e1, e2] at hk
  exact hk
set_option maxHeartbeats 4000000 in
set_option maxRecDepth 100000 in
theorem lw_build_t (l : Launch) (G : jm_G) (d : Nat) (hd : 1 ≤ d) {h h1 : jm_H} {x : Nat} {o : Nat} (tx : h.2.2.1 x = (jm_o 0, 3)) (hC : jm_CT l G mm_CW_build (d - 1) [.ref x] h "java/util/NoSuchElementException" h1) : jm_CW l G mm_Lw_build [(0, 8, 11, 25)] d [.ref x, .ref o] h (some (.int 1)) h1 := by
  have key : ∃ v h', jm_CW l G mm_Lw_build [(0, 8, 11, 25)] d [.ref x, .ref o] h v h' ∧ (v = some (.int 1) ∧ h' = h1) := by
    refine jm_ofW (by decide) rfl (Nat.le_of_ble_eq_true rfl) ?_
    refine jx_aload_n d_Lw_build_0 1 rfl ?_
    refine jx_iconst (v0 := 0) d_Lw_build_1 (by decide) ?_
    refine jx_aload_n d_Lw_build_2 0 rfl ?_
    refine jx_callVC (M2 := mm_CW_build) rfl rfl (by decide) lk_Lw_25 rfl tx lk_Lw_27 wi_CW_build ws_CW_build d_Lw_build_3 hC cd_CW_build rfl rfl (Nat.le_of_ble_eq_true rfl) (jm_fok (by omega)) (jm_look (by decide) (by omega)) ?_
    refine jx_astore_n (lv' := [(2, .ref (h1.1 - 1)), (0, .ref (x)), (1, .ref (o))]) d_Lw_build_11 (by decide) rfl ?_
    refine jx_iconst (v0 := 1) d_Lw_build_12 (by decide) ?_
    exact jx_iret d_Lw_build_13 rfl (⟨_, rfl, rfl, rfl⟩)
  obtain ⟨v, h', hk, e1, e2⟩ := key
  rw [e1, e2] at hk
  exact hk
set_option maxHeartbeats 4000000 in
set_option maxRecDepth 100000 in
theorem lw_value_o (l : Launch) (G : jm_G) (d : Nat) (hd : 1 ≤ d) {h h9 : jm_H} {x : Nat} {o : Nat} {r : Int64} (tx : h.2.2.1 x = (jm_o 0, 3)) (to : h9.2.2.1 o = (jm_a 2, 1)) (hC : jm_C l G mm_CW_value (d - 1) [.ref x] h (some (.long r)) h9) : jm_CW l G mm_Lw_value [(0, 7, 10, 25)] d [.ref x, .ref o] h (some (.int 0)) (jm_put h9 o 0 (.long r)) := by
  have key : ∃ v h', jm_CW l G mm_Lw_value [(0, 7, 10, 25)] d [.ref x, .ref o] h v h' ∧ (v = some (.int 0) ∧ h' = (jm_put h9 o 0 (.long r))) := by
    refine jm_ofW (by decide) rfl (Nat.le_of_ble_eq_true rfl) ?_
    refine jx_aload_n d_Lw_value_0 1 rfl ?_
    refine jx_iconst (v0 := 0) d_Lw_value_1 (by decide) ?_
    refine jx_aload_n d_Lw_value_2 0 rfl ?_
    refine jx_callV (M2 := mm_CW_value) rfl tx lk_Lw_31 wi_CW_value ws_CW_value d_Lw_value_3 hC cd_CW_value rfl rfl (Nat.le_of_ble_eq_true rfl) (jm_fok (by omega)) (jm_look (by decide) (by omega)) ?_
    refine jx_last d_Lw_value_6 to rfl (jm_vinN (n := 0) (show 0 < 1 by omega) (by decide)) ?_
    refine jx_ath (jm_putN (n := 0) (by decide)) ?_
    refine jx_goto (tgt := 13) d_Lw_value_7 (by decide) ?_
    refine jx_iconst (v0 := 0) d_Lw_value_13 (by decide) ?_
    exact jx_iret d_Lw_value_14 rfl (⟨_, rfl, rfl, rfl⟩)
  obtain ⟨v, h', hk, e1, e2⟩ := key
  rw [e1, e2] at hk
  exact hk
set_option maxHeartbeats 4000000 in
set_option maxRecDepth 100000 in
theorem lw_value_t (l : Launch) (G : jm_G) (d : Nat) (hd : 1 ≤ d) {h h1 : jm_H} {x : Nat} {o : Nat} (tx : h.2.2.1 x = (jm_o 0, 3)) (hC : jm_CT l G mm_CW_value (d - 1) [.ref x] h "java/util/NoSuchElementException" h1) : jm_CW l G mm_Lw_value [(0, 7, 10, 25)] d [.ref x, .ref o] h (some (.int 1)) h1 := by
  have key : ∃ v h', jm_CW l G mm_Lw_value [(0, 7, 10, 25)] d [.ref x, .ref o] h v h' ∧ (v = some (.int 1) ∧ h' = h1) := by
    refine jm_ofW (by decide) rfl (Nat.le_of_ble_eq_true rfl) ?_
    refine jx_aload_n d_Lw_value_0 1 rfl ?_
    refine jx_iconst (v0 := 0) d_Lw_value_1 (by decide) ?_
    refine jx_aload_n d_Lw_value_2 0 rfl ?_
    refine jx_callVC (M2 := mm_CW_value) rfl rfl (by decide) lk_Lw_25 rfl tx lk_Lw_31 wi_CW_value ws_CW_value d_Lw_value_3 hC cd_CW_value rfl rfl (Nat.le_of_ble_eq_true rfl) (jm_fok (by omega)) (jm_look (by decide) (by omega)) ?_
    refine jx_astore_n (lv' := [(2, .ref (h1.1 - 1)), (0, .ref (x)), (1, .ref (o))]) d_Lw_value_10 (by decide) rfl ?_
    refine jx_iconst (v0 := 1) d_Lw_value_11 (by decide) ?_
    exact jx_iret d_Lw_value_12 rfl (⟨_, rfl, rfl, rfl⟩)
  obtain ⟨v, h', hk, e1, e2⟩ := key
  rw [e1, e2] at hk
  exact hk
set_option maxHeartbeats 4000000 in
set_option maxRecDepth 100000 in
theorem lw_state_o (l : Launch) (G : jm_G) (d : Nat) (hd : 1 ≤ d) {h h9 : jm_H} {x : Nat} {o : Nat} {r : Int32} (tx : h.2.2.1 x = (jm_o 0, 3)) (to : h9.2.2.1 o = (jm_a 2, 1)) (hC : jm_C l G mm_CW_state (d - 1) [.ref x] h (some (.int r)) h9) : jm_CW l G mm_Lw_state [(0, 8, 11, 25)] d [.ref x, .ref o] h (some (.int 0)) (jm_put h9 o 0 (.long (Int32.toInt64 r))) := by
  have key : ∃ v h', jm_CW l G mm_Lw_state [(0, 8, 11, 25)] d [.ref x, .ref o] h v h' ∧ (v = some (.int 0) ∧ h' = (jm_put h9 o 0 (.long (Int32.toInt64 r)))) := by
    refine jm_ofW (by decide) rfl (Nat.le_of_ble_eq_true rfl) ?_
    refine jx_aload_n d_Lw_state_0 1 rfl ?_
    refine jx_iconst (v0 := 0) d_Lw_state_1 (by decide) ?_
    refine jx_aload_n d_Lw_state_2 0 rfl ?_
    refine jx_callV (M2 := mm_CW_state) rfl tx lk_Lw_35 wi_CW_state ws_CW_state d_Lw_state_3 hC cd_CW_state rfl rfl (Nat.le_of_ble_eq_true rfl) (jm_fok (by omega)) (jm_look (by decide) (by omega)) ?_
    refine jx_i2l d_Lw_state_6 ?_
    refine jx_last d_Lw_state_7 to rfl (jm_vinN (n := 0) (show 0 < 1 by omega) (by decide)) ?_
    refine jx_ath (jm_putN (n := 0) (by decide)) ?_
    refine jx_goto (tgt := 14) d_Lw_state_8 (by decide) ?_
    refine jx_iconst (v0 := 0) d_Lw_state_14 (by decide) ?_
    exact jx_iret d_Lw_state_15 rfl (⟨_, rfl, rfl, rfl⟩)
  obtain ⟨v, h', hk, e1, e2⟩ := key
  rw [e1, e2] at hk
  exact hk
set_option maxHeartbeats 4000000 in
set_option maxRecDepth 100000 in
theorem lw_state_t (l : Launch) (G : jm_G) (d : Nat) (hd : 1 ≤ d) {h h1 : jm_H} {x : Nat} {o : Nat} (tx : h.2.2.1 x = (jm_o 0, 3)) (hC : jm_CT l G mm_CW_state (d - 1) [.ref x] h "java/util/NoSuchElementException" h1) : jm_CW l G mm_Lw_state [(0, 8, 11, 25)] d [.ref x, .ref o] h (some (.int 1)) h1 := by
  have key : ∃ v h', jm_CW l G mm_Lw_state [(0, 8, 11, 25)] d [.ref x, .ref o] h v h' ∧ (v = some (.int 1) ∧ h' = h1) := by
    refine jm_ofW (by decide) rfl (Nat.le_of_ble_eq_true rfl) ?_
    refine jx_aload_n d_Lw_state_0 1 rfl ?_
    refine jx_iconst (v0 := 0) d_Lw_state_1 (by decide) ?_
    refine jx_aload_n d_Lw_state_2 0 rfl ?_
    refine jx_callVC (M2 := mm_CW_state) rfl rfl (by decide) lk_Lw_25 rfl tx lk_Lw_35 wi_CW_state ws_CW_state d_Lw_state_3 hC cd_CW_state rfl rfl (Nat.le_of_ble_eq_true rfl) (jm_fok (by omega)) (jm_look (by decide) (by omega)) ?_
    refine jx_astore_n (lv' := [(2, .ref (h1.1 - 1)), (0, .ref (x)), (1, .ref (o))]) d_Lw_state_11 (by decide) rfl ?_
    refine jx_iconst (v0 := 1) d_Lw_state_12 (by decide) ?_
    exact jx_iret d_Lw_state_13 rfl (⟨_, rfl, rfl, rfl⟩)
  obtain ⟨v, h', hk, e1, e2⟩ := key
  rw [e1, e2] at hk
  exact hk
set_option maxHeartbeats 4000000 in
set_option maxRecDepth 100000 in
theorem lw_readers_o (l : Launch) (G : jm_G) (d : Nat) (hd : 1 ≤ d) {h h9 : jm_H} {x : Nat} {o : Nat} {wa : Int32} {r : Int32} (tx : h.2.2.1 x = (jm_o 0, 3)) (to : h9.2.2.1 o = (jm_a 2, 1)) (hC : jm_C l G mm_CW_readers (d - 1) [.ref x, .int wa] h (some (.int r)) h9) : jm_CW l G mm_Lw_readers [(0, 9, 12, 25)] d [.ref x, .int wa, .ref o] h (some (.int 0)) (jm_put h9 o 0 (.long (Int32.toInt64 r))) := by
  have key : ∃ v h', jm_CW l G mm_Lw_readers [(0, 9, 12, 25)] d [.ref x, .int wa, .ref o] h v h' ∧ (v = some (.int 0) ∧ h' = (jm_put h9 o 0 (.long (Int32.toInt64 r)))) := by
    refine jm_ofW (by decide) rfl (Nat.le_of_ble_eq_true rfl) ?_
    refine jx_aload_n d_Lw_readers_0 2 rfl ?_
    refine jx_iconst (v0 := 0) d_Lw_readers_1 (by decide) ?_
    refine jx_aload_n d_Lw_readers_2 0 rfl ?_
    refine jx_iload_n d_Lw_readers_3 1 rfl ?_
    refine jx_callV (M2 := mm_CW_readers) rfl tx lk_Lw_38 wi_CW_readers ws_CW_readers d_Lw_readers_4 hC cd_CW_readers rfl rfl (Nat.le_of_ble_eq_true rfl) (jm_fok (by omega)) (jm_look (by decide) (by omega)) ?_
    refine jx_i2l d_Lw_readers_7 ?_
    refine jx_last d_Lw_readers_8 to rfl (jm_vinN (n := 0) (show 0 < 1 by omega) (by decide)) ?_
    refine jx_ath (jm_putN (n := 0) (by decide)) ?_
    refine jx_goto (tgt := 15) d_Lw_readers_9 (by decide) ?_
    refine jx_iconst (v0 := 0) d_Lw_readers_15 (by decide) ?_
    exact jx_iret d_Lw_readers_16 rfl (⟨_, rfl, rfl, rfl⟩)
  obtain ⟨v, h', hk, e1, e2⟩ := key
  rw [e1, e2] at hk
  exact hk
set_option maxHeartbeats 4000000 in
set_option maxRecDepth 100000 in
theorem lw_readers_t (l : Launch) (G : jm_G) (d : Nat) (hd : 1 ≤ d) {h h1 : jm_H} {x : Nat} {o : Nat} {wa : Int32} (tx : h.2.2.1 x = (jm_o 0, 3)) (hC : jm_CT l G mm_CW_readers (d - 1) [.ref x, .int wa] h "java/util/NoSuchElementException" h1) : jm_CW l G mm_Lw_readers [(0, 9, 12, 25)] d [.ref x, .int wa, .ref o] h (some (.int 1)) h1 := by
  have key : ∃ v h', jm_CW l G mm_Lw_readers [(0, 9, 12, 25)] d [.ref x, .int wa, .ref o] h v h' ∧ (v = some (.int 1) ∧ h' = h1) := by
    refine jm_ofW (by decide) rfl (Nat.le_of_ble_eq_true rfl) ?_
    refine jx_aload_n d_Lw_readers_0 2 rfl ?_
    refine jx_iconst (v0 := 0) d_Lw_readers_1 (by decide) ?_
    refine jx_aload_n d_Lw_readers_2 0 rfl ?_
    refine jx_iload_n d_Lw_readers_3 1 rfl ?_
    refine jx_callVC (M2 := mm_CW_readers) rfl rfl (by decide) lk_Lw_25 rfl tx lk_Lw_38 wi_CW_readers ws_CW_readers d_Lw_readers_4 hC cd_CW_readers rfl rfl (Nat.le_of_ble_eq_true rfl) (jm_fok (by omega)) (jm_look (by decide) (by omega)) ?_
    refine jx_astore_n (lv' := [(3, .ref (h1.1 - 1)), (0, .ref (x)), (1, .int (wa)), (2, .ref (o))]) d_Lw_readers_12 (by decide) rfl ?_
    refine jx_iconst (v0 := 1) d_Lw_readers_13 (by decide) ?_
    exact jx_iret d_Lw_readers_14 rfl (⟨_, rfl, rfl, rfl⟩)
  obtain ⟨v, h', hk, e1, e2⟩ := key
  rw [e1, e2] at hk
  exact hk
set_option maxHeartbeats 4000000 in
set_option maxRecDepth 100000 in
theorem lw_built_o (l : Launch) (G : jm_G) (d : Nat) (hd : 1 ≤ d) {h h9 : jm_H} {x : Nat} {o : Nat} {wa wb : Int32} {r : Int32} (tx : h.2.2.1 x = (jm_o 0, 3)) (to : h9.2.2.1 o = (jm_a 2, 1)) (hC : jm_C l G mm_CW_built (d - 1) [.ref x, .int wa, .int wb] h (some (.int r)) h9) : jm_CW l G mm_Lw_built [(0, 10, 13, 46)] d [.ref x, .int wa, .int wb, .ref o] h (some (.int 0)) (jm_put h9 o 0 (.long (Int32.toInt64 r))) := by
  have key : ∃ v h', jm_CW l G mm_Lw_built [(0, 10, 13, 46)] d [.ref x, .int wa, .int wb, .ref o] h v h' ∧ (v = some (.int 0) ∧ h' = (jm_put h9 o 0 (.long (Int32.toInt64 r)))) := by
    refine jm_ofW (by decide) rfl (Nat.le_of_ble_eq_true rfl) ?_
    refine jx_aload_n d_Lw_built_0 3 rfl ?_
    refine jx_iconst (v0 := 0) d_Lw_built_1 (by decide) ?_
    refine jx_aload_n d_Lw_built_2 0 rfl ?_
    refine jx_iload_n d_Lw_built_3 1 rfl ?_
    refine jx_iload_n d_Lw_built_4 2 rfl ?_
    refine jx_callV (M2 := mm_CW_built) rfl tx lk_Lw_42 wi_CW_built ws_CW_built d_Lw_built_5 hC cd_CW_built rfl rfl (Nat.le_of_ble_eq_true rfl) (jm_fok (by omega)) (jm_look (by decide) (by omega)) ?_
    refine jx_i2l d_Lw_built_8 ?_
    refine jx_last d_Lw_built_9 to rfl (jm_vinN (n := 0) (show 0 < 1 by omega) (by decide)) ?_
    refine jx_ath (jm_putN (n := 0) (by decide)) ?_
    refine jx_goto (tgt := 17) d_Lw_built_10 (by decide) ?_
    refine jx_iconst (v0 := 0) d_Lw_built_17 (by decide) ?_
    exact jx_iret d_Lw_built_18 rfl (⟨_, rfl, rfl, rfl⟩)
  obtain ⟨v, h', hk, e1, e2⟩ := key
  rw [e1, e2] at hk
  exact hk
set_option maxHeartbeats 4000000 in
set_option maxRecDepth 100000 in
theorem lw_built_t (l : Launch) (G : jm_G) (d : Nat) (hd : 1 ≤ d) {h h1 : jm_H} {x : Nat} {o : Nat} {wa wb : Int32} (tx : h.2.2.1 x = (jm_o 0, 3)) (hC : jm_CT l G mm_CW_built (d - 1) [.ref x, .int wa, .int wb] h "java/lang/IndexOutOfBoundsException" h1) : jm_CW l G mm_Lw_built [(0, 10, 13, 46)] d [.ref x, .int wa, .int wb, .ref o] h (some (.int 1)) h1 := by
  have key : ∃ v h', jm_CW l G mm_Lw_built [(0, 10, 13, 46)] d [.ref x, .int wa, .int wb, .ref o] h v h' ∧ (v = some (.int 1) ∧ h' = h1) := by
    refine jm_ofW (by decide) rfl (Nat.le_of_ble_eq_true rfl) ?_
    refine jx_aload_n d_Lw_built_0 3 rfl ?_
    refine jx_iconst (v0 := 0) d_Lw_built_1 (by decide) ?_
    refine jx_aload_n d_Lw_built_2 0 rfl ?_
    refine jx_iload_n d_Lw_built_3 1 rfl ?_
    refine jx_iload_n d_Lw_built_4 2 rfl ?_
    refine jx_callVC (M2 := mm_CW_built) rfl rfl (by decide) lk_Lw_46 rfl tx lk_Lw_42 wi_CW_built ws_CW_built d_Lw_built_5 hC cd_CW_built rfl rfl (Nat.le_of_ble_eq_true rfl) (jm_fok (by omega)) (jm_look (by decide) (by omega)) ?_
    refine jx_astore (lv' := [(4, .ref (h1.1 - 1)), (0, .ref (x)), (1, .int (wa)), (2, .int (wb)), (3, .ref (o))]) d_Lw_built_13 (by decide) rfl ?_
    refine jx_iconst (v0 := 1) d_Lw_built_15 (by decide) ?_
    exact jx_iret d_Lw_built_16 rfl (⟨_, rfl, rfl, rfl⟩)
  obtain ⟨v, h', hk, e1, e2⟩ := key
  rw [e1, e2] at hk
  exact hk
set_option maxHeartbeats 4000000 in
set_option maxRecDepth 100000 in
theorem lw_count_o (l : Launch) (G : jm_G) (d : Nat) (hd : 1 ≤ d) {h h9 : jm_H} {x : Nat} {o : Nat} {wa : Int32} {r : Int32} (tx : h.2.2.1 x = (jm_o 0, 3)) (to : h9.2.2.1 o = (jm_a 2, 1)) (hC : jm_C l G mm_CW_count (d - 1) [.ref x, .int wa] h (some (.int r)) h9) : jm_CW l G mm_Lw_count [(0, 9, 12, 19)] d [.ref x, .int wa, .ref o] h (some (.int 0)) (jm_put h9 o 0 (.long (Int32.toInt64 r))) := by
  have key : ∃ v h', jm_CW l G mm_Lw_count [(0, 9, 12, 19)] d [.ref x, .int wa, .ref o] h v h' ∧ (v = some (.int 0) ∧ h' = (jm_put h9 o 0 (.long (Int32.toInt64 r)))) := by
    refine jm_ofW (by decide) rfl (Nat.le_of_ble_eq_true rfl) ?_
    refine jx_aload_n d_Lw_count_0 2 rfl ?_
    refine jx_iconst (v0 := 0) d_Lw_count_1 (by decide) ?_
    refine jx_aload_n d_Lw_count_2 0 rfl ?_
    refine jx_iload_n d_Lw_count_3 1 rfl ?_
    refine jx_callV (M2 := mm_CW_count) rfl tx lk_Lw_48 wi_CW_count ws_CW_count d_Lw_count_4 hC cd_CW_count rfl rfl (Nat.le_of_ble_eq_true rfl) (jm_fok (by omega)) (jm_look (by decide) (by omega)) ?_
    refine jx_i2l d_Lw_count_7 ?_
    refine jx_last d_Lw_count_8 to rfl (jm_vinN (n := 0) (show 0 < 1 by omega) (by decide)) ?_
    refine jx_ath (jm_putN (n := 0) (by decide)) ?_
    refine jx_goto (tgt := 15) d_Lw_count_9 (by decide) ?_
    refine jx_iconst (v0 := 0) d_Lw_count_15 (by decide) ?_
    exact jx_iret d_Lw_count_16 rfl (⟨_, rfl, rfl, rfl⟩)
  obtain ⟨v, h', hk, e1, e2⟩ := key
  rw [e1, e2] at hk
  exact hk
set_option maxHeartbeats 4000000 in
set_option maxRecDepth 100000 in
theorem lw_count_t (l : Launch) (G : jm_G) (d : Nat) (hd : 1 ≤ d) {h h1 : jm_H} {x : Nat} {o : Nat} {wa : Int32} (tx : h.2.2.1 x = (jm_o 0, 3)) (hC : jm_CT l G mm_CW_count (d - 1) [.ref x, .int wa] h "java/lang/IllegalArgumentException" h1) : jm_CW l G mm_Lw_count [(0, 9, 12, 19)] d [.ref x, .int wa, .ref o] h (some (.int 1)) h1 := by
  have key : ∃ v h', jm_CW l G mm_Lw_count [(0, 9, 12, 19)] d [.ref x, .int wa, .ref o] h v h' ∧ (v = some (.int 1) ∧ h' = h1) := by
    refine jm_ofW (by decide) rfl (Nat.le_of_ble_eq_true rfl) ?_
    refine jx_aload_n d_Lw_count_0 2 rfl ?_
    refine jx_iconst (v0 := 0) d_Lw_count_1 (by decide) ?_
    refine jx_aload_n d_Lw_count_2 0 rfl ?_
    refine jx_iload_n d_Lw_count_3 1 rfl ?_
    refine jx_callVC (M2 := mm_CW_count) rfl rfl (by decide) lk_Lw_19 rfl tx lk_Lw_48 wi_CW_count ws_CW_count d_Lw_count_4 hC cd_CW_count rfl rfl (Nat.le_of_ble_eq_true rfl) (jm_fok (by omega)) (jm_look (by decide) (by omega)) ?_
    refine jx_astore_n (lv' := [(3, .ref (h1.1 - 1)), (0, .ref (x)), (1, .int (wa)), (2, .ref (o))]) d_Lw_count_12 (by decide) rfl ?_
    refine jx_iconst (v0 := 1) d_Lw_count_13 (by decide) ?_
    exact jx_iret d_Lw_count_14 rfl (⟨_, rfl, rfl, rfl⟩)
  obtain ⟨v, h', hk, e1, e2⟩ := key
  rw [e1, e2] at hk
  exact hk
