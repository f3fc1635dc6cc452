def q_us (x : Int64) (y : Int32) : Int64 := ((Int64.toUInt64 x) >>> (Int64.toUInt64 (Int32.toInt64 y) &&& Int64.toUInt64 63)).toInt64
def q_b8 (x : Int64) (k : Nat) : Int32 := Int64.toInt32 (q_us x (nI (56 - 8 * k))) &&& 255
set_option maxHeartbeats 4000000 in
set_option maxRecDepth 100000 in
theorem c_Bd_byteIn (l : Launch) (G : jm_G) (d : Nat) {h : jm_H} {b ls j k : Nat} {tot : Int32} {LT : Nat → Int64} (hB : BdA h b ls tot LT) (hls : ls ≤ 64) (hj : j < ls) (hk : k < 8) : jm_C l G mm_Bd_byteOfLatest d [.ref (b + 3), .int (nI j), .int (nI k)] h (some (.int (if q_b8 (LT j) k = 0 then -1 else q_b8 (LT j) k))) h := by
  obtain ⟨ty, y0, y1, y2, y3, tl, hL⟩ := id hB
  refine jm_ofE (by decide) rfl (Nat.le_of_ble_eq_true rfl) ?_
  refine jx_iload_n d_Bd_byteOfLatest_0 1 rfl ?_
  refine jx_if_ltN (tgt := 22) (j) d_Bd_byteOfLatest_1 rfl (by omega) (by decide) (fun c1 => ?_) (fun c1 => ?_)
  · omega
  ·
    refine jx_iload_n d_Bd_byteOfLatest_4 1 rfl ?_
    refine jx_aload_n d_Bd_byteOfLatest_5 0 rfl ?_
    refine jx_get d_Bd_byteOfLatest_6 fF_Bd_22 ty y2 ?_
    refine jx_icmp_geN (tgt := 22) (j) (ls) d_Bd_byteOfLatest_9 rfl rfl (by omega) (by omega) (by decide) (fun c2 => ?_) (fun c2 => ?_)
    · omega
    ·
      refine jx_iload_n d_Bd_byteOfLatest_12 2 rfl ?_
      refine jx_if_ltN (tgt := 22) (k) d_Bd_byteOfLatest_13 rfl (by omega) (by decide) (fun c3 => ?_) (fun c3 => ?_)
      · omega
      ·
        refine jx_iload_n d_Bd_byteOfLatest_16 2 rfl ?_
        refine jx_bipush (v0 := 8) d_Bd_byteOfLatest_17 (by decide) ?_
        refine jx_icmp_ltN (tgt := 24) (k) (8) d_Bd_byteOfLatest_19 rfl rfl (by omega) (by omega) (by decide) (fun c4 => ?_) (fun c4 => ?_)
        ·
          refine jx_aload_n d_Bd_byteOfLatest_24 0 rfl ?_
          refine jx_get d_Bd_byteOfLatest_25 fF_Bd_18 ty y1 ?_
          refine jx_iload_n d_Bd_byteOfLatest_28 1 rfl ?_
          refine jx_lald d_Bd_byteOfLatest_29 tl rfl (jm_vinN (by omega) (by decide)) (jm_atN (by omega) (hL _ (by omega))) ?_
          refine jx_bipush (v0 := 56) d_Bd_byteOfLatest_30 (by decide) ?_
          refine jx_bipush (v0 := 8) d_Bd_byteOfLatest_32 (by decide) ?_
          refine jx_iload_n d_Bd_byteOfLatest_34 2 rfl ?_
          refine jx_imul d_Bd_byteOfLatest_35 ?_
          refine jx_ati (pk_mul (8) (k)) ?_
          refine jx_isub d_Bd_byteOfLatest_36 ?_
          refine jx_ati (pk_sub (a := 56) (b := (8) * (k)) (by omega)) ?_
          refine jx_lushr d_Bd_byteOfLatest_37 ?_
          refine jx_l2i d_Bd_byteOfLatest_38 ?_
          refine jx_sipush (v0 := 255) d_Bd_byteOfLatest_39 (by decide) ?_
          refine jx_iand d_Bd_byteOfLatest_42 ?_
          refine jx_topi fun x5 ex5 => ?_
          refine jx_istore_n (lv' := [(3, .int (x5)), (0, .ref (b + 3)), (1, .int (nI (j))), (2, .int (nI (k)))]) d_Bd_byteOfLatest_43 (by decide) rfl ?_
          refine jx_iload_n d_Bd_byteOfLatest_44 0 rfl ?_
          refine jx_if_ne (tgt := 52) d_Bd_byteOfLatest_45 (by decide) (fun c6 => ?_) (fun c6 => ?_)
          ·
            refine jx_iload_n d_Bd_byteOfLatest_52 0 rfl ?_
            exact jx_iret d_Bd_byteOfLatest_53 rfl (⟨by rw [show q_b8 (LT j) k = x5 from ex5.symm, if_neg c6], rfl⟩)
          ·
            refine jx_iconst (v0 := -1) d_Bd_byteOfLatest_48 (by decide) ?_
            refine jx_goto (tgt := 53) d_Bd_byteOfLatest_49 (by decide) ?_
            exact jx_iret d_Bd_byteOfLatest_53 rfl (⟨by rw [show q_b8 (LT j) k = x5 from ex5.symm, if_pos c6], rfl⟩)
        · omega
set_option maxHeartbeats 4000000 in
set_option maxRecDepth 100000 in
theorem c_Bd_byteOut (l : Launch) (G : jm_G) (d : Nat) {h : jm_H} {b ls : Nat} {i k tot : Int32} {LT : Nat → Int64} (hB : BdA h b ls tot LT) (hout : i < 0 ∨ nI ls ≤ i ∨ k < 0 ∨ 8 ≤ k) : jm_C l G mm_Bd_byteOfLatest d [.ref (b + 3), .int i, .int k] h (some (.int (-1))) h := by
  obtain ⟨ty, y0, y1, y2, y3, tl, hL⟩ := id hB
  refine jm_ofE (by decide) rfl (Nat.le_of_ble_eq_true rfl) ?_
  refine jx_iload_n d_Bd_byteOfLatest_0 1 rfl ?_
  refine jx_if_lt (tgt := 22) d_Bd_byteOfLatest_1 (by decide) (fun c1 => ?_) (fun c1 => ?_)
  ·
    refine jx_iconst (v0 := -1) d_Bd_byteOfLatest_22 (by decide) ?_
    exact jx_iret d_Bd_byteOfLatest_23 rfl (⟨rfl, rfl⟩)
  ·
    refine jx_iload_n d_Bd_byteOfLatest_4 1 rfl ?_
    refine jx_aload_n d_Bd_byteOfLatest_5 0 rfl ?_
    refine jx_get d_Bd_byteOfLatest_6 fF_Bd_22 ty y2 ?_
    refine jx_icmp_ge (tgt := 22) d_Bd_byteOfLatest_9 (by decide) (fun c2 => ?_) (fun c2 => ?_)
    ·
      refine jx_iconst (v0 := -1) d_Bd_byteOfLatest_22 (by decide) ?_
      exact jx_iret d_Bd_byteOfLatest_23 rfl (⟨rfl, rfl⟩)
    ·
      refine jx_iload_n d_Bd_byteOfLatest_12 2 rfl ?_
      refine jx_if_lt (tgt := 22) d_Bd_byteOfLatest_13 (by decide) (fun c3 => ?_) (fun c3 => ?_)
      ·
        refine jx_iconst (v0 := -1) d_Bd_byteOfLatest_22 (by decide) ?_
        exact jx_iret d_Bd_byteOfLatest_23 rfl (⟨rfl, rfl⟩)
      ·
        refine jx_iload_n d_Bd_byteOfLatest_16 2 rfl ?_
        refine jx_bipush (v0 := 8) d_Bd_byteOfLatest_17 (by decide) ?_
        refine jx_icmp_lt (tgt := 24) d_Bd_byteOfLatest_19 (by decide) (fun c4 => ?_) (fun c4 => ?_)
        ·
          exact absurd hout (by rintro (q | q | q | q)
                                · exact c1 q
                                · exact c2 q
                                · exact c3 q
                                · exact absurd c4 (Int32.not_lt.mpr q))
        ·
          refine jx_iconst (v0 := -1) d_Bd_byteOfLatest_22 (by decide) ?_
          exact jx_iret d_Bd_byteOfLatest_23 rfl (⟨rfl, rfl⟩)
def q_bc1 (x : Int64) : Int64 := x - (q_us x 1 &&& 6148914691236517205)
def q_bc2 (x : Int64) : Int64 := (x &&& 3689348814741910323) + (q_us x 2 &&& 3689348814741910323)
def q_bc3 (x : Int64) : Int64 := (x + q_us x 4) &&& 1085102592571150095
def q_bc (x : Int64) : Int32 :=
  let a := q_bc3 (q_bc2 (q_bc1 x))
  let b := a + q_us a 8
  let c := b + q_us b 16
  let e := c + q_us c 32
  Int64.toInt32 e &&& 127
set_option maxHeartbeats 4000000 in
set_option maxRecDepth 100000 in
theorem c_Lo_bitCount (l : Launch) (G : jm_G) (d : Nat) {h : jm_H} {x : Int64} : jm_C l G mm_Lo_bitCount d [.long x] h (some (.int (q_bc x))) h := by
  refine jm_ofFE (by decide +kernel) rfl (Nat.le_of_ble_eq_true rfl) ?_
  refine jx_lload_n d_Lo_bitCount_0 0 rfl ?_
  refine jx_lload_n d_Lo_bitCount_1 0 rfl ?_
  refine jx_iconst (v0 := 1) d_Lo_bitCount_2 (by decide) ?_
  refine jx_lushr d_Lo_bitCount_3 ?_
  refine jx_ldc2 d_Lo_bitCount_4 lk_Lo_314 ?_
  refine jx_land d_Lo_bitCount_7 ?_
  refine jx_lsub d_Lo_bitCount_8 ?_
  refine jx_topl fun x1 ex1 => ?_
  refine jx_lstore_n (lv' := [(0, .long (x1))]) d_Lo_bitCount_9 (by decide) rfl ?_
  refine jx_lload_n d_Lo_bitCount_10 0 rfl ?_
  refine jx_ldc2 d_Lo_bitCount_11 lk_Lo_316 ?_
  refine jx_land d_Lo_bitCount_14 ?_
  refine jx_lload_n d_Lo_bitCount_15 0 rfl ?_
  refine jx_iconst (v0 := 2) d_Lo_bitCount_16 (by decide) ?_
  refine jx_lushr d_Lo_bitCount_17 ?_
  refine jx_ldc2 d_Lo_bitCount_18 lk_Lo_316 ?_
  refine jx_land d_Lo_bitCount_21 ?_
  refine jx_ladd d_Lo_bitCount_22 ?_
  refine jx_topl fun x2 ex2 => ?_
  refine jx_lstore_n (lv' := [(0, .long (x2))]) d_Lo_bitCount_23 (by decide) rfl ?_
  refine jx_lload_n d_Lo_bitCount_24 0 rfl ?_
  refine jx_lload_n d_Lo_bitCount_25 0 rfl ?_
  refine jx_iconst (v0 := 4) d_Lo_bitCount_26 (by decide) ?_
  refine jx_lushr d_Lo_bitCount_27 ?_
  refine jx_ladd d_Lo_bitCount_28 ?_
  refine jx_ldc2 d_Lo_bitCount_29 lk_Lo_318 ?_
  refine jx_land d_Lo_bitCount_32 ?_
  refine jx_topl fun x3 ex3 => ?_
  refine jx_lstore_n (lv' := [(0, .long (x3))]) d_Lo_bitCount_33 (by decide) rfl ?_
  refine jx_lload_n d_Lo_bitCount_34 0 rfl ?_
  refine jx_lload_n d_Lo_bitCount_35 0 rfl ?_
  refine jx_bipush (v0 := 8) d_Lo_bitCount_36 (by decide) ?_
  refine jx_lushr d_Lo_bitCount_38 ?_
  refine jx_ladd d_Lo_bitCount_39 ?_
  refine jx_topl fun x4 ex4 => ?_
  refine jx_lstore_n (lv' := [(0, .long (x4))]) d_Lo_bitCount_40 (by decide) rfl ?_
  refine jx_lload_n d_Lo_bitCount_41 0 rfl ?_
  refine jx_lload_n d_Lo_bitCount_42 0 rfl ?_
  refine jx_bipush (v0 := 16) d_Lo_bitCount_43 (by decide) ?_
  refine jx_lushr d_Lo_bitCount_45 ?_
  refine jx_ladd d_Lo_bitCount_46 ?_
  refine jx_topl fun x5 ex5 => ?_
  refine jx_lstore_n (lv' := [(0, .long (x5))]) d_Lo_bitCount_47 (by decide) rfl ?_
  refine jx_lload_n d_Lo_bitCount_48 0 rfl ?_
  refine jx_lload_n d_Lo_bitCount_49 0 rfl ?_
  refine jx_bipush (v0 := 32) d_Lo_bitCount_50 (by decide) ?_
  refine jx_lushr d_Lo_bitCount_52 ?_
  refine jx_ladd d_Lo_bitCount_53 ?_
  refine jx_topl fun x6 ex6 => ?_
  refine jx_lstore_n (lv' := [(0, .long (x6))]) d_Lo_bitCount_54 (by decide) rfl ?_
  refine jx_lload_n d_Lo_bitCount_55 0 rfl ?_
  refine jx_l2i d_Lo_bitCount_56 ?_
  refine jx_bipush (v0 := 127) d_Lo_bitCount_57 (by decide) ?_
  refine jx_iand d_Lo_bitCount_59 ?_
  exact jx_iret d_Lo_bitCount_60 rfl (⟨by subst ex6; subst ex5; subst ex4; subst ex3; subst ex2; subst ex1; rfl, rfl⟩)
