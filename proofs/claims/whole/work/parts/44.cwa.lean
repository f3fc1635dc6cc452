theorem thk_1 : (Cond.instantiable "java/lang/UnsupportedOperationException" 6) ∈ jm_W := by decide +kernel
theorem thn_1 : (Cond.initialized "java/lang/UnsupportedOperationException") ∈ jm_W := by decide +kernel
theorem thk_2 : (Cond.instantiable "java/lang/IllegalArgumentException" 6) ∈ jm_W := by decide +kernel
theorem thn_2 : (Cond.initialized "java/lang/IllegalArgumentException") ∈ jm_W := by decide +kernel
theorem thk_3 : (Cond.instantiable "java/util/NoSuchElementException" 6) ∈ jm_W := by decide +kernel
theorem thn_3 : (Cond.initialized "java/util/NoSuchElementException") ∈ jm_W := by decide +kernel
theorem thk_4 : (Cond.instantiable "java/lang/IndexOutOfBoundsException" 6) ∈ jm_W := by decide +kernel
theorem thn_4 : (Cond.initialized "java/lang/IndexOutOfBoundsException") ∈ jm_W := by decide +kernel
theorem q_tok_ind (B : Nat → Int32) (n p : Nat) (nm nm' : Int64) (nu nu' : Int32) : (q_tok B n p nm nu).1 = (q_tok B n p nm' nu').1 ∧ (q_tok B n p nm nu).2.1 = (q_tok B n p nm' nu').2.1 ∧ ((q_tok B n p nm nu).1 = 2 → (q_tok B n p nm nu).2.2.1 = (q_tok B n p nm' nu').2.2.1) ∧ ((q_tok B n p nm nu).1 = 3 → (q_tok B n p nm nu).2.2.2 = (q_tok B n p nm' nu').2.2.2) := by
  have hk : ∀ w, q_kow w ≠ 3 := fun w => by unfold q_kow; split <;> (try split) <;> (try split) <;> decide
  have hm : ∀ z, q_mark z = true → z ≠ 2 ∧ z ≠ 3 := fun z hz => by
    constructor <;> (intro e; subst e; revert hz; decide)
  unfold q_tok
  by_cases h1 : q_at B n p = -1
  · simp only [h1, if_true]
    exact ⟨trivial, trivial, fun h => absurd h (by decide), fun h => absurd h (by decide)⟩
  · simp only [h1, if_false]
    by_cases h2 : q_letter (q_at B n p) = true
    · simp only [h2, if_true]
      refine ⟨trivial, trivial, fun _ => trivial, fun h => ?_⟩
      exfalso
      revert h
      split
      · decide
      · exact hk _
    · simp only [h2, Bool.false_eq_true, if_false]
      by_cases h3 : q_digit (q_at B n p) = true
      · simp only [h3, if_true]
        refine ⟨trivial, trivial, fun h => ?_, fun _ => trivial⟩
        exfalso
        revert h
        split <;> decide
      · simp only [h3, Bool.false_eq_true, if_false]
        refine ⟨trivial, trivial, fun h => ?_, fun h => ?_⟩
        · exfalso
          revert h
          by_cases h4 : q_mark (q_at B n p) = true
          · simp only [h4, if_true]
            exact (hm _ h4).1
          · simp [h4]
        · exfalso
          revert h
          by_cases h4 : q_mark (q_at B n p) = true
          · simp only [h4, if_true]
            exact (hm _ h4).2
          · simp [h4]
/-- the name, when the tape is just a NAME -/
def q_nm (B : Nat → Int32) (n : Nat) : Int64 := q_only B n 0 0
theorem q_only_ind (B : Nat → Int32) (n : Nat) (nm : Int64) (nu : Int32) : q_only B n nm nu = q_nm B n := by
  unfold q_nm q_only
  obtain ⟨e1, e2, e3, -⟩ := q_tok_ind B n (q_skip B n 0) nm 0 nu 0
  rw [e2]
  rw [(q_tok_ind B n (q_skip B n (q_tok B n (q_skip B n 0) 0 0).2.1) (q_tok B n (q_skip B n 0) nm nu).2.2.1 (q_tok B n (q_skip B n 0) 0 0).2.2.1 (q_tok B n (q_skip B n 0) nm nu).2.2.2 (q_tok B n (q_skip B n 0) 0 0).2.2.2).1]
  by_cases h : (q_tok B n (q_skip B n 0) nm nu).1 = 2
  · rw [if_pos h, e3 h, ← e1, if_pos h]
  · rw [if_neg h, ← e1, if_neg h]
set_option maxHeartbeats 4000000 in
set_option maxRecDepth 100000 in
theorem c_CW_fault (l : Launch) (G : jm_G) (d : Nat) {h : jm_H} {x Y n : Nat} {B : Nat → Int32} {fc fp : Int32} {m : Nat} {R : Nat → CRec} {T : Nat → Term} {ls : Nat} {tot : Int32} {LT : Nat → Int64} (hI : CWI h x Y n B fc fp m R T ls tot LT) : jm_C l G mm_CW_fault d [.ref x] h (some (.int fc)) h := by
  obtain ⟨⟨tx, x0, x1, x2⟩, ⟨f, c, k, L, N, ST, DT, NA, PL, nme, hRX⟩, ⟨RS, hC⟩, hO, hA, hBd, ⟨wn, wk, wv, wS, hW⟩, ⟨hn, hls, hY1, hY2⟩, hAc⟩ := id hI
  obtain ⟨hR, hf1, hf2, hL31, hN31, hf3⟩ := id hRX
  obtain ⟨tr, r0, r1, r2, r3, r4, r5, r6, tp, ⟨ta, f0, f1, f2, f3, f4, f5, f6, tb⟩, hBy, hF, hST, hDT, hNA, hPL, hdis, hcs⟩ := id hR
  refine jm_ofE (by decide) rfl (Nat.le_of_ble_eq_true rfl) ?_
  refine jx_aload_n d_CW_fault_0 0 rfl ?_
  refine jx_get d_CW_fault_1 fF_CW_12 tx x0 ?_
  refine jx_get d_CW_fault_4 fF_CW_63 tr r3 ?_
  exact jx_iret d_CW_fault_7 rfl (⟨rfl, rfl⟩)
set_option maxHeartbeats 4000000 in
set_option maxRecDepth 100000 in
theorem c_CW_end (l : Launch) (G : jm_G) (d : Nat) {h : jm_H} {x Y n : Nat} {B : Nat → Int32} {fc fp : Int32} {m : Nat} {R : Nat → CRec} {T : Nat → Term} {ls : Nat} {tot : Int32} {LT : Nat → Int64} {j : Nat} (hI : CWI h x Y n B fc fp m R T ls tot LT) (hj : j ≤ n) : jm_CP l G mm_CW_end d [.ref x, .int (nI j)] h (fun v h9 => v = none ∧ CWI h9 x Y j B fc fp m R T ls tot LT ∧ MvCW x Y h h9 0 0) := by
  obtain ⟨⟨tx, x0, x1, x2⟩, ⟨f, c, k, L, N, ST, DT, NA, PL, nme, hRX⟩, ⟨RS, hC⟩, hO, hA, hBd, ⟨wn, wk, wv, wS, hW⟩, ⟨hn, hls, hY1, hY2⟩, hAc⟩ := id hI
  obtain ⟨hR, hf1, hf2, hL31, hN31, hf3⟩ := id hRX
  obtain ⟨tr, r0, r1, r2, r3, r4, r5, r6, tp, ⟨ta, f0, f1, f2, f3, f4, f5, f6, tb⟩, hBy, hF, hST, hDT, hNA, hPL, hdis, hcs⟩ := id hR
  refine jm_of (by decide) rfl (Nat.le_of_ble_eq_true rfl) ?_
  refine jx_iload_n d_CW_end_0 1 rfl ?_
  refine jx_if_ltN (tgt := 18) (j) d_CW_end_1 rfl (by omega) (by decide) (fun c1 => ?_) (fun c1 => ?_)
  · omega
  ·
    refine jx_iload_n d_CW_end_4 1 rfl ?_
    refine jx_aload_n d_CW_end_5 0 rfl ?_
    refine jx_get d_CW_end_6 fF_CW_12 tx x0 ?_
    refine jx_get d_CW_end_9 fF_CW_30 tr r0 ?_
    refine jx_get d_CW_end_12 fF_CW_34 ta f1 ?_
    refine jx_icmp_leN (tgt := 28) (j) (n) d_CW_end_15 rfl rfl (by omega) (by omega) (by decide) (fun c2 => ?_) (fun c2 => ?_)
    ·
      refine jx_aload_n d_CW_end_28 0 rfl ?_
      refine jx_get d_CW_end_29 fF_CW_12 tx x0 ?_
      refine jx_get d_CW_end_32 fF_CW_30 tr r0 ?_
      refine jx_iload_n d_CW_end_35 1 rfl ?_
      refine jx_put (v0 := .int (nI (j))) d_CW_end_36 fF_CW_34 jv_Tp ft_Tp_length ta rfl rfl ?_
      exact jx_vret d_CW_end_39 rfl (⟨_, rfl, rfl, hI.mkR hRX (jm_fr.rf.put (Or.inr (Or.inr (Or.inl rfl)))) hR.len (by omega) hL31 hN31, MvCW.of_fr (jm_fr.rf.put (S := S_rx x f) (Or.inr (Or.inr (Or.inl rfl)))) (fun b hb => S_rx_cw hf1 hb)⟩)
    · omega
set_option maxHeartbeats 4000000 in
set_option maxRecDepth 100000 in
theorem c_CW_endT (l : Launch) (G : jm_G) (hl : l.stackTraces = false) (d : Nat) (hd : 6 ≤ d) {h : jm_H} {x Y n : Nat} {B : Nat → Int32} {fc fp : Int32} {m : Nat} {R : Nat → CRec} {T : Nat → Term} {ls : Nat} {tot : Int32} {LT : Nat → Int64} {i : Int32} (hI : CWI h x Y n B fc fp m R T ls tot LT) (hi : i < 0 ∨ nI n < i) : jm_CT l G mm_CW_end d [.ref x, .int i] h "java/lang/IllegalArgumentException" (jm_thr h) := by
  obtain ⟨⟨tx, x0, x1, x2⟩, ⟨f, c, k, L, N, ST, DT, NA, PL, nme, hRX⟩, ⟨RS, hC⟩, hO, hA, hBd, ⟨wn, wk, wv, wS, hW⟩, ⟨hn, hls, hY1, hY2⟩, hAc⟩ := id hI
  obtain ⟨hR, hf1, hf2, hL31, hN31, hf3⟩ := id hRX
  obtain ⟨tr, r0, r1, r2, r3, r4, r5, r6, tp, ⟨ta, f0, f1, f2, f3, f4, f5, f6, tb⟩, hBy, hF, hST, hDT, hNA, hPL, hdis, hcs⟩ := id hR
  refine jm_ofT (by decide) rfl (Nat.le_of_ble_eq_true rfl) ?_
  refine jx_iload_n d_CW_end_0 1 rfl ?_
  refine jx_if_lt (tgt := 18) d_CW_end_1 (by decide) (fun c1 => ?_) (fun c1 => ?_)
  ·
    exact jx_throw (tx := "the tape has not so many bytes") hl rfl rfl th_ok2 (by simp [jm_NS]) lk_CW_51 thk_2 thn_2 d_CW_end_18 d_CW_end_21 d_CW_end_22 d_CW_end_24 d_CW_end_27 (by omega) ⟨rfl, rfl⟩
  ·
    refine jx_iload_n d_CW_end_4 1 rfl ?_
    refine jx_aload_n d_CW_end_5 0 rfl ?_
    refine jx_get d_CW_end_6 fF_CW_12 tx x0 ?_
    refine jx_get d_CW_end_9 fF_CW_30 tr r0 ?_
    refine jx_get d_CW_end_12 fF_CW_34 ta f1 ?_
    refine jx_icmp_le (tgt := 28) d_CW_end_15 (by decide) (fun c2 => ?_) (fun c2 => ?_)
    ·
      exact absurd hi (by rintro (q | q)
                          · exact c1 q
                          · exact absurd c2 (Int32.not_le.mpr q))
    ·
      exact jx_throw (tx := "the tape has not so many bytes") hl rfl rfl th_ok2 (by simp [jm_NS]) lk_CW_51 thk_2 thn_2 d_CW_end_18 d_CW_end_21 d_CW_end_22 d_CW_end_24 d_CW_end_27 (by omega) ⟨rfl, rfl⟩
def q_feed (B : Nat → Int32) (n : Nat) (wa wb wc wd we : Int32) : Nat → Int32 := q_add (q_add (q_add (q_add (q_add B n wa) (n + 4) wb) (n + 8) wc) (n + 12) wd) (n + 16) we
set_option maxHeartbeats 4000000 in
set_option maxRecDepth 100000 in
theorem c_CW_feed (l : Launch) (G : jm_G) (d : Nat) (hd : 1 ≤ d) {h : jm_H} {x Y n : Nat} {B : Nat → Int32} {fc fp : Int32} {m : Nat} {R : Nat → CRec} {T : Nat → Term} {ls : Nat} {tot : Int32} {LT : Nat → Int64} {wa wb wc wd we : Int32} (hI : CWI h x Y n B fc fp m R T ls tot LT) (hroom : n + 20 ≤ 2000) : jm_CP l G mm_CW_feed d [.ref x, .int wa, .int wb, .int wc, .int wd, .int we] h (fun v h9 => v = some (.int (nI (n + 20))) ∧ CWI h9 x Y (n + 20) (q_feed B n wa wb wc wd we) fc fp m R T ls tot LT ∧ MvCW x Y h h9 0 0) := by
  obtain ⟨⟨tx, x0, x1, x2⟩, ⟨f, c, k, L, N, ST, DT, NA, PL, nme, hRX⟩, ⟨RS, hC⟩, hO, hA, hBd, ⟨wn, wk, wv, wS, hW⟩, ⟨hn, hls, hY1, hY2⟩, hAc⟩ := id hI
  obtain ⟨hR, hf1, hf2, hL31, hN31, hf3⟩ := id hRX
  obtain ⟨tr, r0, r1, r2, r3, r4, r5, r6, tp, ⟨ta, f0, f1, f2, f3, f4, f5, f6, tb⟩, hBy, hF, hST, hDT, hNA, hPL, hdis, hcs⟩ := id hR
  have fa : S_rx x f (x + 1 + 1) := Or.inr (Or.inr (Or.inl rfl))
  have fb : S_rx x f (x + 1 + 2) := Or.inl rfl
  refine jm_of (by decide) rfl (Nat.le_of_ble_eq_true rfl) ?_
  refine jx_aload_n d_CW_feed_0 0 rfl ?_
  refine jx_get d_CW_feed_1 fF_CW_12 tx x0 ?_
  refine jx_get d_CW_feed_4 fF_CW_30 tr r0 ?_
  refine jx_astore (lv' := [(6, .ref (x + 1 + 1)), (0, .ref (x)), (1, .int (wa)), (2, .int (wb)), (3, .int (wc)), (4, .int (wd)), (5, .int (we))]) d_CW_feed_7 (by decide) rfl ?_
  refine jx_aload d_CW_feed_9 0 rfl ?_
  refine jx_get d_CW_feed_11 fF_CW_34 ta f1 ?_
  refine jx_bipush (v0 := 20) d_CW_feed_14 (by decide) ?_
  refine jx_iadd d_CW_feed_16 ?_
  refine jx_ati (nI_add (n) (20)) ?_
  refine jx_sipush (v0 := 2000) d_CW_feed_17 (by decide) ?_
  refine jx_icmp_leN (tgt := 33) ((n) + (20)) (2000) d_CW_feed_20 rfl rfl (by omega) (by omega) (by decide) (fun c1 => ?_) (fun c1 => ?_)
  ·
    refine jx_aload d_CW_feed_33 0 rfl ?_
    refine jx_iload_n d_CW_feed_35 2 rfl ?_
    have hR1 := RdC.add (w := wa) hR
    refine jx_callV (M2 := mm_Tp_add) rfl ta lk_CW_47 wi_Tp_add ws_Tp_add d_CW_feed_36 (c_Tp_add l G (d - 1) (h := h) hR.2.2.2.2.2.2.2.2.2.1 hR.2.2.2.2.2.2.2.2.2.2.1 (by omega)) cd_Tp_add rfl rfl (Nat.le_of_ble_eq_true rfl) (jm_fok (by omega)) (jm_look (by decide) (by omega)) ?_
    refine jx_aload d_CW_feed_39 0 rfl ?_
    refine jx_iload_n d_CW_feed_41 3 rfl ?_
    have hR2 := RdC.add (w := wb) hR1
    refine jx_callV (M2 := mm_Tp_add) rfl hR1.2.2.2.2.2.2.2.2.2.1.1 lk_CW_47 wi_Tp_add ws_Tp_add d_CW_feed_42 (c_Tp_add l G (d - 1) (h := (tp_add h (x + 1 + 1) (x + 1 + 2) n wa)) hR1.2.2.2.2.2.2.2.2.2.1 hR1.2.2.2.2.2.2.2.2.2.2.1 (by omega)) cd_Tp_add rfl rfl (Nat.le_of_ble_eq_true rfl) (jm_fok (by omega)) (jm_look (by decide) (by omega)) ?_
    refine jx_aload d_CW_feed_45 0 rfl ?_
    refine jx_iload_n d_CW_feed_47 4 rfl ?_
    have hR3 := RdC.add (w := wc) hR2
    refine jx_callV (M2 := mm_Tp_add) rfl hR2.2.2.2.2.2.2.2.2.2.1.1 lk_CW_47 wi_Tp_add ws_Tp_add d_CW_feed_48 (c_Tp_add l G (d - 1) (h := (tp_add (tp_add h (x + 1 + 1) (x + 1 + 2) n wa) (x + 1 + 1) (x + 1 + 2) (n + 4) wb)) hR2.2.2.2.2.2.2.2.2.2.1 hR2.2.2.2.2.2.2.2.2.2.2.1 (by omega)) cd_Tp_add rfl rfl (Nat.le_of_ble_eq_true rfl) (jm_fok (by omega)) (jm_look (by decide) (by omega)) ?_
    refine jx_aload d_CW_feed_51 0 rfl ?_
    refine jx_iload d_CW_feed_53 5 rfl ?_
    have hR4 := RdC.add (w := wd) hR3
    refine jx_callV (M2 := mm_Tp_add) rfl hR3.2.2.2.2.2.2.2.2.2.1.1 lk_CW_47 wi_Tp_add ws_Tp_add d_CW_feed_55 (c_Tp_add l G (d - 1) (h := (tp_add (tp_add (tp_add h (x + 1 + 1) (x + 1 + 2) n wa) (x + 1 + 1) (x + 1 + 2) (n + 4) wb) (x + 1 + 1) (x + 1 + 2) (n + 8) wc)) hR3.2.2.2.2.2.2.2.2.2.1 hR3.2.2.2.2.2.2.2.2.2.2.1 (by omega)) cd_Tp_add rfl rfl (Nat.le_of_ble_eq_true rfl) (jm_fok (by omega)) (jm_look (by decide) (by omega)) ?_
    refine jx_aload d_CW_feed_58 0 rfl ?_
    refine jx_iload d_CW_feed_60 6 rfl ?_
    have hR5 := RdC.add (w := we) hR4
    refine jx_callV (M2 := mm_Tp_add) rfl hR4.2.2.2.2.2.2.2.2.2.1.1 lk_CW_47 wi_Tp_add ws_Tp_add d_CW_feed_62 (c_Tp_add l G (d - 1) (h := (tp_add (tp_add (tp_add (tp_add h (x + 1 + 1) (x + 1 + 2) n wa) (x + 1 + 1) (x + 1 + 2) (n + 4) wb) (x + 1 + 1) (x + 1 + 2) (n + 8) wc) (x + 1 + 1) (x + 1 + 2) (n + 12) wd)) hR4.2.2.2.2.2.2.2.2.2.1 hR4.2.2.2.2.2.2.2.2.2.2.1 (by omega)) cd_Tp_add rfl rfl (Nat.le_of_ble_eq_true rfl) (jm_fok (by omega)) (jm_look (by decide) (by omega)) ?_
    refine jx_aload d_CW_feed_65 0 rfl ?_
    refine jx_get d_CW_feed_67 fF_CW_34 hR5.2.2.2.2.2.2.2.2.2.1.1 hR5.2.2.2.2.2.2.2.2.2.1.2.2.1 ?_
    exact jx_iret d_CW_feed_70 rfl (⟨_, rfl, rfl, hI.mkR hRX (tp_add_fr (tp_add_fr (tp_add_fr (tp_add_fr (tp_add_fr jm_fr.rf fa fb) fa fb) fa fb) fa fb) fa fb) hR5 (by omega) hL31 hN31, MvCW.of_fr (tp_add_fr (tp_add_fr (tp_add_fr (tp_add_fr (tp_add_fr (S9 := S_rx x f) jm_fr.rf fa fb) fa fb) fa fb) fa fb) fa fb) (fun b hb => S_rx_cw hf1 hb)⟩)
  · omega
set_option maxHeartbeats 4000000 in
set_option maxRecDepth 100000 in
theorem c_CW_feedT (l : Launch) (G : jm_G) (hl : l.stackTraces = false) (d : Nat) (hd : 6 ≤ d) {h : jm_H} {x Y n : Nat} {B : Nat → Int32} {fc fp : Int32} {m : Nat} {R : Nat → CRec} {T : Nat → Term} {ls : Nat} {tot : Int32} {LT : Nat → Int64} {wa wb wc wd we : Int32} (hI : CWI h x Y n B fc fp m R T ls tot LT) (hroom : 2000 < n + 20) : jm_CT l G mm_CW_feed d [.ref x, .int wa, .int wb, .int wc, .int wd, .int we] h "java/lang/UnsupportedOperationException" (jm_thr h) := by
  obtain ⟨⟨tx, x0, x1, x2⟩, ⟨f, c, k, L, N, ST, DT, NA, PL, nme, hRX⟩, ⟨RS, hC⟩, hO, hA, hBd, ⟨wn, wk, wv, wS, hW⟩, ⟨hn, hls, hY1, hY2⟩, hAc⟩ := id hI
  obtain ⟨hR, hf1, hf2, hL31, hN31, hf3⟩ := id hRX
  obtain ⟨tr, r0, r1, r2, r3, r4, r5, r6, tp, ⟨ta, f0, f1, f2, f3, f4, f5, f6, tb⟩, hBy, hF, hST, hDT, hNA, hPL, hdis, hcs⟩ := id hR
  refine jm_ofT (by decide) rfl (Nat.le_of_ble_eq_true rfl) ?_
  refine jx_aload_n d_CW_feed_0 0 rfl ?_
  refine jx_get d_CW_feed_1 fF_CW_12 tx x0 ?_
  refine jx_get d_CW_feed_4 fF_CW_30 tr r0 ?_
  refine jx_astore (lv' := [(6, .ref (x + 1 + 1)), (0, .ref (x)), (1, .int (wa)), (2, .int (wb)), (3, .int (wc)), (4, .int (wd)), (5, .int (we))]) d_CW_feed_7 (by decide) rfl ?_
  refine jx_aload d_CW_feed_9 0 rfl ?_
  refine jx_get d_CW_feed_11 fF_CW_34 ta f1 ?_
  refine jx_bipush (v0 := 20) d_CW_feed_14 (by decide) ?_
  refine jx_iadd d_CW_feed_16 ?_
  refine jx_ati (nI_add (n) (20)) ?_
  refine jx_sipush (v0 := 2000) d_CW_feed_17 (by decide) ?_
  refine jx_icmp_leN (tgt := 33) ((n) + (20)) (2000) d_CW_feed_20 rfl rfl (by omega) (by omega) (by decide) (fun c1 => ?_) (fun c1 => ?_)
  · omega
  ·
    exact jx_throw (tx := "the tape would have more than 2000 bytes") hl rfl rfl th_ok1 (by simp [jm_NS]) lk_CW_40 thk_1 thn_1 d_CW_feed_23 d_CW_feed_26 d_CW_feed_27 d_CW_feed_29 d_CW_feed_32 (by omega) ⟨rfl, rfl⟩
set_option maxHeartbeats 4000000 in
set_option maxRecDepth 100000 in
theorem c_CW_name (l : Launch) (G : jm_G) (d : Nat) (hd : 4 ≤ d) {h : jm_H} {x Y n : Nat} {B : Nat → Int32} {fc fp : Int32} {m : Nat} {R : Nat → CRec} {T : Nat → Term} {ls : Nat} {tot : Int32} {LT : Nat → Int64} (hI : CWI h x Y n B fc fp m R T ls tot LT) (hq : q_nm B n ≠ 0) : jm_CP l G mm_CW_nameOnTape d [.ref x] h (fun v h9 => v = some (.long (q_nm B n)) ∧ CWI h9 x Y n B fc fp m R T ls tot LT ∧ jm_fr (fun b => b = x + 1 + 1) h h9) := by
  obtain ⟨⟨tx, x0, x1, x2⟩, ⟨f, c, k, L, N, ST, DT, NA, PL, nme, hRX⟩, ⟨RS, hC⟩, hO, hA, hBd, ⟨wn, wk, wv, wS, hW⟩, ⟨hn, hls, hY1, hY2⟩, hAc⟩ := id hI
  obtain ⟨hR, hf1, hf2, hL31, hN31, hf3⟩ := id hRX
  obtain ⟨tr, r0, r1, r2, r3, r4, r5, r6, tp, ⟨ta, f0, f1, f2, f3, f4, f5, f6, tb⟩, hBy, hF, hST, hDT, hNA, hPL, hdis, hcs⟩ := id hR
  have hco := c_Tp_onlyName l G (d - 4) (h := h) hR.2.2.2.2.2.2.2.2.2.1 hR.2.2.2.2.2.2.2.2.2.2.1 hn
  rw [q_only_ind, show d - 4 + 3 = d - 1 by omega] at hco
  refine jm_of (by decide) rfl (Nat.le_of_ble_eq_true rfl) ?_
  refine jx_aload_n d_CW_nameOnTape_0 0 rfl ?_
  refine jx_get d_CW_nameOnTape_1 fF_CW_12 tx x0 ?_
  refine jx_get d_CW_nameOnTape_4 fF_CW_30 tr r0 ?_
  refine jx_callV (M2 := mm_Tp_onlyName) rfl ta lk_CW_141 wi_Tp_onlyName ws_Tp_onlyName d_CW_nameOnTape_7 (hco) cd_Tp_onlyName rfl rfl (Nat.le_of_ble_eq_true rfl) (jm_fok (by omega)) (jm_look (by decide) (by omega)) ?_
  refine jx_lstore_n (lv' := [(1, .long (q_nm B n)), (0, .ref (x))]) d_CW_nameOnTape_10 (by decide) rfl ?_
  refine jx_lload_n d_CW_nameOnTape_11 0 rfl ?_
  refine jx_lconst (v0 := 0) d_CW_nameOnTape_12 (by decide) ?_
  refine jx_lcmp d_CW_nameOnTape_13 ?_
  refine jx_if_neL (tgt := 27) d_CW_nameOnTape_14 (by decide) (fun c1 => ?_) (fun c1 => ?_)
  ·
    refine jx_lload_n d_CW_nameOnTape_27 0 rfl ?_
    exact jx_lret d_CW_nameOnTape_28 rfl (⟨_, rfl, rfl, hI.mkR hRX (tp_only_fr.weak (fun b hb => Or.inr (Or.inr (Or.inl hb)))) (hR.only hn) hn hL31 hN31, tp_only_fr⟩)
  · exact absurd c1 hq
set_option maxHeartbeats 4000000 in
set_option maxRecDepth 100000 in
theorem c_CW_nameT (l : Launch) (G : jm_G) (hl : l.stackTraces = false) (d : Nat) (hd : 6 ≤ d) {h : jm_H} {x Y n : Nat} {B : Nat → Int32} {fc fp : Int32} {m : Nat} {R : Nat → CRec} {T : Nat → Term} {ls : Nat} {tot : Int32} {LT : Nat → Int64} (hI : CWI h x Y n B fc fp m R T ls tot LT) (hq : q_nm B n = 0) : ∃ h1, jm_CT l G mm_CW_nameOnTape d [.ref x] h "java/util/NoSuchElementException" (jm_thr h1) ∧ CWI h1 x Y n B fc fp m R T ls tot LT ∧ jm_fr (fun b => b = x + 1 + 1) h h1 := by
  obtain ⟨⟨tx, x0, x1, x2⟩, ⟨f, c, k, L, N, ST, DT, NA, PL, nme, hRX⟩, ⟨RS, hC⟩, hO, hA, hBd, ⟨wn, wk, wv, wS, hW⟩, ⟨hn, hls, hY1, hY2⟩, hAc⟩ := id hI
  obtain ⟨hR, hf1, hf2, hL31, hN31, hf3⟩ := id hRX
  obtain ⟨tr, r0, r1, r2, r3, r4, r5, r6, tp, ⟨ta, f0, f1, f2, f3, f4, f5, f6, tb⟩, hBy, hF, hST, hDT, hNA, hPL, hdis, hcs⟩ := id hR
  have hco := c_Tp_onlyName l G (d - 4) (h := h) hR.2.2.2.2.2.2.2.2.2.1 hR.2.2.2.2.2.2.2.2.2.2.1 hn
  rw [q_only_ind, show d - 4 + 3 = d - 1 by omega] at hco
  refine ⟨(tp_only h (x + 1 + 1) n B c.2.2.2.1 c.2.2.2.2), ?_, hI.mkR hRX (tp_only_fr.weak (fun b hb => Or.inr (Or.inr (Or.inl hb)))) (hR.only hn) hn hL31 hN31, tp_only_fr⟩
  refine jm_ofT (by decide) rfl (Nat.le_of_ble_eq_true rfl) ?_
  refine jx_aload_n d_CW_nameOnTape_0 0 rfl ?_
  refine jx_get d_CW_nameOnTape_1 fF_CW_12 tx x0 ?_
  refine jx_get d_CW_nameOnTape_4 fF_CW_30 tr r0 ?_
  refine jx_callV (M2 := mm_Tp_onlyName) rfl ta lk_CW_141 wi_Tp_onlyName ws_Tp_onlyName d_CW_nameOnTape_7 (hco) cd_Tp_onlyName rfl rfl (Nat.le_of_ble_eq_true rfl) (jm_fok (by omega)) (jm_look (by decide) (by omega)) ?_
  refine jx_lstore_n (lv' := [(1, .long (q_nm B n)), (0, .ref (x))]) d_CW_nameOnTape_10 (by decide) rfl ?_
  refine jx_lload_n d_CW_nameOnTape_11 0 rfl ?_
  refine jx_lconst (v0 := 0) d_CW_nameOnTape_12 (by decide) ?_
  refine jx_lcmp d_CW_nameOnTape_13 ?_
  refine jx_if_neL (tgt := 27) d_CW_nameOnTape_14 (by decide) (fun c1 => ?_) (fun c1 => ?_)
  · exact absurd hq c1
  ·
    exact jx_throw (tx := "the tape is no NAME") hl rfl rfl th_ok3 (by simp [jm_NS]) lk_CW_144 thk_3 thn_3 d_CW_nameOnTape_17 d_CW_nameOnTape_20 d_CW_nameOnTape_21 d_CW_nameOnTape_23 d_CW_nameOnTape_26 (by omega) ⟨rfl, rfl⟩
