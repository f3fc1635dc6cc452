set_option maxHeartbeats 4000000 in
set_option maxRecDepth 100000 in
theorem c_Wk_take3 (l : Launch) (G : jm_G) (d : Nat) (hd : 3 ≤ d) {h : jm_H} {w n : Nat} {kd : Int32} {v : Int64} {S : Nat → Int64} {f : Nat} {D z : Int32} (hW : WkA h w n kd v S) (hn : n < 40) : jm_C l G mm_Wk_take d [.ref w, .ref f, .int 3, .int D, .int z] h (some (.int z)) (wk_push h w n D.toInt64) := by
  obtain ⟨tw, w0, w1, w2, w3, ts, hS⟩ := id hW
  refine jm_ofE (by decide) rfl (Nat.le_of_ble_eq_true rfl) ?_
  refine jx_iload_n d_Wk_take_0 2 rfl ?_
  refine jx_tableIn (off := 47) (tgt := 48) d_Wk_take_1 (by decide) (by decide) (by decide) (by decide) ?_
  refine jx_aload_n d_Wk_take_48 0 rfl ?_
  refine jx_iload_n d_Wk_take_49 3 rfl ?_
  refine jx_i2l d_Wk_take_50 ?_
  refine jx_callV (M2 := mm_Wk_push) rfl tw lk_Wk_46 wi_Wk_push ws_Wk_push d_Wk_take_51 (c_Wk_push l G (d - 1) hW (by omega)) cd_Wk_push rfl rfl (Nat.le_of_ble_eq_true rfl) (jm_fok (by omega)) (jm_look (by decide) (by omega)) ?_
  refine jx_iload d_Wk_take_54 4 rfl ?_
  exact jx_iret d_Wk_take_56 rfl (⟨rfl, rfl⟩)
set_option maxHeartbeats 4000000 in
set_option maxRecDepth 100000 in
theorem c_Wk_take7 (l : Launch) (G : jm_G) (d : Nat) (hd : 3 ≤ d) {h : jm_H} {w n : Nat} {kd : Int32} {v : Int64} {S : Nat → Int64} {f : Nat} {D z : Int32} (hW : WkA h w n kd v S) (h1 : 1 ≤ n) (hn : n ≤ 40) : jm_C l G mm_Wk_take d [.ref w, .ref f, .int 7, .int D, .int z] h (some (.int z)) (wk_push (jm_put h w 1 (.int (nI (n - 1)))) w (n - 1) (-S (n - 1))) := by
  obtain ⟨tw, w0, w1, w2, w3, ts, hS⟩ := id hW
  refine jm_ofE (by decide) rfl (Nat.le_of_ble_eq_true rfl) ?_
  refine jx_iload_n d_Wk_take_0 2 rfl ?_
  refine jx_tableIn (off := 65) (tgt := 66) d_Wk_take_1 (by decide) (by decide) (by decide) (by decide) ?_
  refine jx_aload_n d_Wk_take_66 0 rfl ?_
  refine jx_aload_n d_Wk_take_67 0 rfl ?_
  refine jx_callV (M2 := mm_Wk_pop) rfl tw lk_Wk_42 wi_Wk_pop ws_Wk_pop d_Wk_take_68 (c_Wk_pop l G (d - 1) hW (by omega) (by omega)) cd_Wk_pop rfl rfl (Nat.le_of_ble_eq_true rfl) (jm_fok (by omega)) (jm_look (by decide) (by omega)) ?_
  refine jx_lneg d_Wk_take_71 ?_
  refine jx_callV (M2 := mm_Wk_push) rfl tw lk_Wk_46 wi_Wk_push ws_Wk_push d_Wk_take_72 (c_Wk_push l G (d - 1) (hW).hgt (by omega)) cd_Wk_push rfl rfl (Nat.le_of_ble_eq_true rfl) (jm_fok (by omega)) (jm_look (by decide) (by omega)) ?_
  refine jx_iload d_Wk_take_75 4 rfl ?_
  exact jx_iret d_Wk_take_77 rfl (⟨rfl, rfl⟩)
set_option maxHeartbeats 4000000 in
set_option maxRecDepth 100000 in
theorem c_Wk_take81 (l : Launch) (G : jm_G) (d : Nat) (hd : 3 ≤ d) {h : jm_H} {w n : Nat} {kd : Int32} {v : Int64} {S : Nat → Int64} {f : Nat} {D z : Int32} (hW : WkA h w n kd v S) (h1 : 1 ≤ n) (hn : n ≤ 40) (hc : 0 < S (n - 1)) : jm_C l G mm_Wk_take d [.ref w, .ref f, .int 8, .int D, .int z] h (some (.int z)) (jm_put h w 1 (.int (nI (n - 1)))) := by
  obtain ⟨tw, w0, w1, w2, w3, ts, hS⟩ := id hW
  refine jm_ofE (by decide) rfl (Nat.le_of_ble_eq_true rfl) ?_
  refine jx_iload_n d_Wk_take_0 2 rfl ?_
  refine jx_tableIn (off := 77) (tgt := 78) d_Wk_take_1 (by decide) (by decide) (by decide) (by decide) ?_
  refine jx_aload_n d_Wk_take_78 0 rfl ?_
  refine jx_callV (M2 := mm_Wk_pop) rfl tw lk_Wk_42 wi_Wk_pop ws_Wk_pop d_Wk_take_79 (c_Wk_pop l G (d - 1) hW (by omega) (by omega)) cd_Wk_pop rfl rfl (Nat.le_of_ble_eq_true rfl) (jm_fok (by omega)) (jm_look (by decide) (by omega)) ?_
  refine jx_lconst (v0 := 0) d_Wk_take_82 (by decide) ?_
  refine jx_lcmp d_Wk_take_83 ?_
  refine jx_if_leL (tgt := 92) d_Wk_take_84 (by decide) (fun c1 => ?_) (fun c1 => ?_)
  · exact absurd hc (Int64.not_lt.mpr c1)
  ·
    refine jx_iload d_Wk_take_87 4 rfl ?_
    refine jx_goto (tgt := 93) d_Wk_take_89 (by decide) ?_
    exact jx_iret d_Wk_take_93 rfl (⟨rfl, rfl⟩)
set_option maxHeartbeats 4000000 in
set_option maxRecDepth 100000 in
theorem c_Wk_take80 (l : Launch) (G : jm_G) (d : Nat) (hd : 3 ≤ d) {h : jm_H} {w n : Nat} {kd : Int32} {v : Int64} {S : Nat → Int64} {f : Nat} {D z : Int32} (hW : WkA h w n kd v S) (h1 : 1 ≤ n) (hn : n ≤ 40) (hc : S (n - 1) ≤ 0) : jm_C l G mm_Wk_take d [.ref w, .ref f, .int 8, .int D, .int z] h (some (.int D)) (jm_put h w 1 (.int (nI (n - 1)))) := by
  obtain ⟨tw, w0, w1, w2, w3, ts, hS⟩ := id hW
  refine jm_ofE (by decide) rfl (Nat.le_of_ble_eq_true rfl) ?_
  refine jx_iload_n d_Wk_take_0 2 rfl ?_
  refine jx_tableIn (off := 77) (tgt := 78) d_Wk_take_1 (by decide) (by decide) (by decide) (by decide) ?_
  refine jx_aload_n d_Wk_take_78 0 rfl ?_
  refine jx_callV (M2 := mm_Wk_pop) rfl tw lk_Wk_42 wi_Wk_pop ws_Wk_pop d_Wk_take_79 (c_Wk_pop l G (d - 1) hW (by omega) (by omega)) cd_Wk_pop rfl rfl (Nat.le_of_ble_eq_true rfl) (jm_fok (by omega)) (jm_look (by decide) (by omega)) ?_
  refine jx_lconst (v0 := 0) d_Wk_take_82 (by decide) ?_
  refine jx_lcmp d_Wk_take_83 ?_
  refine jx_if_leL (tgt := 92) d_Wk_take_84 (by decide) (fun c1 => ?_) (fun c1 => ?_)
  ·
    refine jx_iload_n d_Wk_take_92 3 rfl ?_
    exact jx_iret d_Wk_take_93 rfl (⟨rfl, rfl⟩)
  · exact absurd hc (Int64.not_le.mpr c1)
set_option maxHeartbeats 4000000 in
set_option maxRecDepth 100000 in
theorem c_Wk_take9 (l : Launch) (G : jm_G) (d : Nat) (hd : 3 ≤ d) {h : jm_H} {w f : Nat} {D z : Int32} : jm_C l G mm_Wk_take d [.ref w, .ref f, .int 9, .int D, .int z] h (some (.int D)) h := by
  refine jm_ofE (by decide) rfl (Nat.le_of_ble_eq_true rfl) ?_
  refine jx_iload_n d_Wk_take_0 2 rfl ?_
  refine jx_tableIn (off := 93) (tgt := 94) d_Wk_take_1 (by decide) (by decide) (by decide) (by decide) ?_
  refine jx_iload_n d_Wk_take_94 3 rfl ?_
  exact jx_iret d_Wk_take_95 rfl (⟨rfl, rfl⟩)
set_option maxHeartbeats 4000000 in
set_option maxRecDepth 100000 in
theorem c_Wk_take21 (l : Launch) (G : jm_G) (d : Nat) (hd : 3 ≤ d) {h : jm_H} {w n : Nat} {kd : Int32} {v : Int64} {S : Nat → Int64} {f L N i : Nat} {SK : Nat → Int32} {SV : Nat → Int64} {z : Int32} (hW : WkA h w n kd v S) (hn : n < 40) (hF : FmA h f L N) (hN : N ≤ 40) (hSK : arI h (f + 4) 40 SK) (hSV : arL h (f + 5) 40 SV) (hi : i < N) (hk : SK i = 1) : jm_C l G mm_Wk_take d [.ref w, .ref f, .int 2, .int (nI i), .int z] h (some (.int z)) (wk_push h w n (SV i)) := by
  obtain ⟨tw, w0, w1, w2, w3, ts, hS⟩ := id hW
  refine jm_ofE (by decide) rfl (Nat.le_of_ble_eq_true rfl) ?_
  refine jx_iload_n d_Wk_take_0 2 rfl ?_
  refine jx_tableIn (off := 56) (tgt := 57) d_Wk_take_1 (by decide) (by decide) (by decide) (by decide) ?_
  refine jx_aload_n d_Wk_take_57 0 rfl ?_
  refine jx_aload_n d_Wk_take_58 1 rfl ?_
  refine jx_iload_n d_Wk_take_59 3 rfl ?_
  refine jx_callV (M2 := mm_Wk_pushResult) rfl tw lk_Wk_50 wi_Wk_pushResult ws_Wk_pushResult d_Wk_take_60 (c_Wk_pushResult1 l G (d - 1) (by omega) hW hn hF hN hSK hSV hi hk) cd_Wk_pushResult rfl rfl (Nat.le_of_ble_eq_true rfl) (jm_fok (by omega)) (jm_look (by decide) (by omega)) ?_
  refine jx_iload d_Wk_take_63 4 rfl ?_
  exact jx_iret d_Wk_take_65 rfl (⟨rfl, rfl⟩)
set_option maxHeartbeats 4000000 in
set_option maxRecDepth 100000 in
theorem c_Wk_take20 (l : Launch) (G : jm_G) (d : Nat) (hd : 3 ≤ d) {h : jm_H} {w n : Nat} {kd : Int32} {v : Int64} {S : Nat → Int64} {f L N i : Nat} {SK : Nat → Int32} {SV : Nat → Int64} {z : Int32} (hW : WkA h w n kd v S) (hF : FmA h f L N) (hN : N ≤ 40) (hSK : arI h (f + 4) 40 SK) (hSV : arL h (f + 5) 40 SV) (hi : i < N) (hk : ¬ SK i = 1) : jm_C l G mm_Wk_take d [.ref w, .ref f, .int 2, .int (nI i), .int z] h (some (.int z)) (jm_put h w 2 (.int 3)) := by
  obtain ⟨tw, w0, w1, w2, w3, ts, hS⟩ := id hW
  refine jm_ofE (by decide) rfl (Nat.le_of_ble_eq_true rfl) ?_
  refine jx_iload_n d_Wk_take_0 2 rfl ?_
  refine jx_tableIn (off := 56) (tgt := 57) d_Wk_take_1 (by decide) (by decide) (by decide) (by decide) ?_
  refine jx_aload_n d_Wk_take_57 0 rfl ?_
  refine jx_aload_n d_Wk_take_58 1 rfl ?_
  refine jx_iload_n d_Wk_take_59 3 rfl ?_
  refine jx_callV (M2 := mm_Wk_pushResult) rfl tw lk_Wk_50 wi_Wk_pushResult ws_Wk_pushResult d_Wk_take_60 (c_Wk_pushResult0 l G (d - 1) (by omega) hW hF hN hSK hSV hi hk) cd_Wk_pushResult rfl rfl (Nat.le_of_ble_eq_true rfl) (jm_fok (by omega)) (jm_look (by decide) (by omega)) ?_
  refine jx_iload d_Wk_take_63 4 rfl ?_
  exact jx_iret d_Wk_take_65 rfl (⟨rfl, rfl⟩)
set_option maxHeartbeats 4000000 in
set_option maxRecDepth 100000 in
theorem c_Wk_take43 (l : Launch) (G : jm_G) (d : Nat) (hd : 3 ≤ d) {h : jm_H} {w n : Nat} {kd : Int32} {v : Int64} {S : Nat → Int64} {f : Nat} {D z : Int32} (hW : WkA h w n kd v S) (h1 : 2 ≤ n) (hn : n ≤ 40) : jm_C l G mm_Wk_take d [.ref w, .ref f, .int 43, .int D, .int z] h (some (.int z)) (wk_push (jm_put (jm_put h w 1 (.int (nI (n - 1)))) w 1 (.int (nI (n - 1 - 1)))) w (n - 1 - 1) (S (n - 1 - 1) + S (n - 1))) := by
  obtain ⟨tw, w0, w1, w2, w3, ts, hS⟩ := id hW
  refine jm_ofE (by decide) rfl (Nat.le_of_ble_eq_true rfl) ?_
  refine jx_iload_n d_Wk_take_0 2 rfl ?_
  refine jx_tableOut (tgt := 96) d_Wk_take_1 (by decide) (by decide) ?_
  refine jx_aload_n d_Wk_take_96 0 rfl ?_
  refine jx_callV (M2 := mm_Wk_pop) rfl tw lk_Wk_42 wi_Wk_pop ws_Wk_pop d_Wk_take_97 (c_Wk_pop l G (d - 1) hW (by omega) (by omega)) cd_Wk_pop rfl rfl (Nat.le_of_ble_eq_true rfl) (jm_fok (by omega)) (jm_look (by decide) (by omega)) ?_
  refine jx_lstore (lv' := [(5, .long (S (n - 1))), (0, .ref (w)), (1, .ref (f)), (2, .int (43)), (3, .int (D)), (4, .int (z))]) d_Wk_take_100 (by decide) rfl ?_
  refine jx_aload_n d_Wk_take_102 1 rfl ?_
  refine jx_callV (M2 := mm_Wk_pop) rfl tw lk_Wk_42 wi_Wk_pop ws_Wk_pop d_Wk_take_103 (c_Wk_pop l G (d - 1) (hW).hgt (by omega) (by omega)) cd_Wk_pop rfl rfl (Nat.le_of_ble_eq_true rfl) (jm_fok (by omega)) (jm_look (by decide) (by omega)) ?_
  refine jx_lstore (lv' := [(7, .long (S (n - 1 - 1))), (5, .long (S (n - 1))), (0, .ref (w)), (1, .ref (f)), (2, .int (43)), (3, .int (D)), (4, .int (z))]) d_Wk_take_106 (by decide) rfl ?_
  refine jx_aload_n d_Wk_take_108 2 rfl ?_
  refine jx_iload_n d_Wk_take_109 4 rfl ?_
  refine jx_lload d_Wk_take_110 0 rfl ?_
  refine jx_lload d_Wk_take_112 1 rfl ?_
  refine jx_callV (M2 := mm_Wk_join) rfl tw lk_Wk_54 wi_Wk_join ws_Wk_join d_Wk_take_114 (c_Wk_join43 l G (d - 1) (by omega) (x := S (n - 1 - 1)) (y := S (n - 1)) ((hW).hgt).hgt (by omega)) cd_Wk_join rfl rfl (Nat.le_of_ble_eq_true rfl) (jm_fok (by omega)) (jm_look (by decide) (by omega)) ?_
  refine jx_iload d_Wk_take_117 6 rfl ?_
  exact jx_iret d_Wk_take_119 rfl (⟨rfl, rfl⟩)
set_option maxHeartbeats 4000000 in
set_option maxRecDepth 100000 in
theorem c_Wk_take45 (l : Launch) (G : jm_G) (d : Nat) (hd : 3 ≤ d) {h : jm_H} {w n : Nat} {kd : Int32} {v : Int64} {S : Nat → Int64} {f : Nat} {D z : Int32} (hW : WkA h w n kd v S) (h1 : 2 ≤ n) (hn : n ≤ 40) : jm_C l G mm_Wk_take d [.ref w, .ref f, .int 45, .int D, .int z] h (some (.int z)) (wk_push (jm_put (jm_put h w 1 (.int (nI (n - 1)))) w 1 (.int (nI (n - 1 - 1)))) w (n - 1 - 1) (S (n - 1 - 1) - S (n - 1))) := by
  obtain ⟨tw, w0, w1, w2, w3, ts, hS⟩ := id hW
  refine jm_ofE (by decide) rfl (Nat.le_of_ble_eq_true rfl) ?_
  refine jx_iload_n d_Wk_take_0 2 rfl ?_
  refine jx_tableOut (tgt := 96) d_Wk_take_1 (by decide) (by decide) ?_
  refine jx_aload_n d_Wk_take_96 0 rfl ?_
  refine jx_callV (M2 := mm_Wk_pop) rfl tw lk_Wk_42 wi_Wk_pop ws_Wk_pop d_Wk_take_97 (c_Wk_pop l G (d - 1) hW (by omega) (by omega)) cd_Wk_pop rfl rfl (Nat.le_of_ble_eq_true rfl) (jm_fok (by omega)) (jm_look (by decide) (by omega)) ?_
  refine jx_lstore (lv' := [(5, .long (S (n - 1))), (0, .ref (w)), (1, .ref (f)), (2, .int (45)), (3, .int (D)), (4, .int (z))]) d_Wk_take_100 (by decide) rfl ?_
  refine jx_aload_n d_Wk_take_102 1 rfl ?_
  refine jx_callV (M2 := mm_Wk_pop) rfl tw lk_Wk_42 wi_Wk_pop ws_Wk_pop d_Wk_take_103 (c_Wk_pop l G (d - 1) (hW).hgt (by omega) (by omega)) cd_Wk_pop rfl rfl (Nat.le_of_ble_eq_true rfl) (jm_fok (by omega)) (jm_look (by decide) (by omega)) ?_
  refine jx_lstore (lv' := [(7, .long (S (n - 1 - 1))), (5, .long (S (n - 1))), (0, .ref (w)), (1, .ref (f)), (2, .int (45)), (3, .int (D)), (4, .int (z))]) d_Wk_take_106 (by decide) rfl ?_
  refine jx_aload_n d_Wk_take_108 2 rfl ?_
  refine jx_iload_n d_Wk_take_109 4 rfl ?_
  refine jx_lload d_Wk_take_110 0 rfl ?_
  refine jx_lload d_Wk_take_112 1 rfl ?_
  refine jx_callV (M2 := mm_Wk_join) rfl tw lk_Wk_54 wi_Wk_join ws_Wk_join d_Wk_take_114 (c_Wk_join45 l G (d - 1) (by omega) (x := S (n - 1 - 1)) (y := S (n - 1)) ((hW).hgt).hgt (by omega)) cd_Wk_join rfl rfl (Nat.le_of_ble_eq_true rfl) (jm_fok (by omega)) (jm_look (by decide) (by omega)) ?_
  refine jx_iload d_Wk_take_117 6 rfl ?_
  exact jx_iret d_Wk_take_119 rfl (⟨rfl, rfl⟩)
set_option maxHeartbeats 4000000 in
set_option maxRecDepth 100000 in
theorem c_Wk_take42 (l : Launch) (G : jm_G) (d : Nat) (hd : 3 ≤ d) {h : jm_H} {w n : Nat} {kd : Int32} {v : Int64} {S : Nat → Int64} {f : Nat} {D z : Int32} (hW : WkA h w n kd v S) (h1 : 2 ≤ n) (hn : n ≤ 40) : jm_C l G mm_Wk_take d [.ref w, .ref f, .int 42, .int D, .int z] h (some (.int z)) (wk_push (jm_put (jm_put h w 1 (.int (nI (n - 1)))) w 1 (.int (nI (n - 1 - 1)))) w (n - 1 - 1) (S (n - 1 - 1) * S (n - 1))) := by
  obtain ⟨tw, w0, w1, w2, w3, ts, hS⟩ := id hW
  refine jm_ofE (by decide) rfl (Nat.le_of_ble_eq_true rfl) ?_
  refine jx_iload_n d_Wk_take_0 2 rfl ?_
  refine jx_tableOut (tgt := 96) d_Wk_take_1 (by decide) (by decide) ?_
  refine jx_aload_n d_Wk_take_96 0 rfl ?_
  refine jx_callV (M2 := mm_Wk_pop) rfl tw lk_Wk_42 wi_Wk_pop ws_Wk_pop d_Wk_take_97 (c_Wk_pop l G (d - 1) hW (by omega) (by omega)) cd_Wk_pop rfl rfl (Nat.le_of_ble_eq_true rfl) (jm_fok (by omega)) (jm_look (by decide) (by omega)) ?_
  refine jx_lstore (lv' := [(5, .long (S (n - 1))), (0, .ref (w)), (1, .ref (f)), (2, .int (42)), (3, .int (D)), (4, .int (z))]) d_Wk_take_100 (by decide) rfl ?_
  refine jx_aload_n d_Wk_take_102 1 rfl ?_
  refine jx_callV (M2 := mm_Wk_pop) rfl tw lk_Wk_42 wi_Wk_pop ws_Wk_pop d_Wk_take_103 (c_Wk_pop l G (d - 1) (hW).hgt (by omega) (by omega)) cd_Wk_pop rfl rfl (Nat.le_of_ble_eq_true rfl) (jm_fok (by omega)) (jm_look (by decide) (by omega)) ?_
  refine jx_lstore (lv' := [(7, .long (S (n - 1 - 1))), (5, .long (S (n - 1))), (0, .ref (w)), (1, .ref (f)), (2, .int (42)), (3, .int (D)), (4, .int (z))]) d_Wk_take_106 (by decide) rfl ?_
  refine jx_aload_n d_Wk_take_108 2 rfl ?_
  refine jx_iload_n d_Wk_take_109 4 rfl ?_
  refine jx_lload d_Wk_take_110 0 rfl ?_
  refine jx_lload d_Wk_take_112 1 rfl ?_
  refine jx_callV (M2 := mm_Wk_join) rfl tw lk_Wk_54 wi_Wk_join ws_Wk_join d_Wk_take_114 (c_Wk_join42 l G (d - 1) (by omega) (x := S (n - 1 - 1)) (y := S (n - 1)) ((hW).hgt).hgt (by omega)) cd_Wk_join rfl rfl (Nat.le_of_ble_eq_true rfl) (jm_fok (by omega)) (jm_look (by decide) (by omega)) ?_
  refine jx_iload d_Wk_take_117 6 rfl ?_
  exact jx_iret d_Wk_take_119 rfl (⟨rfl, rfl⟩)
set_option maxHeartbeats 4000000 in
set_option maxRecDepth 100000 in
theorem c_Wk_take47 (l : Launch) (G : jm_G) (d : Nat) (hd : 3 ≤ d) {h : jm_H} {w n : Nat} {kd : Int32} {v : Int64} {S : Nat → Int64} {f : Nat} {D z : Int32} (hW : WkA h w n kd v S) (h1 : 2 ≤ n) (hn : n ≤ 40) (hz : ¬ S (n - 1) = 0) : jm_C l G mm_Wk_take d [.ref w, .ref f, .int 47, .int D, .int z] h (some (.int z)) (wk_push (jm_put (jm_put h w 1 (.int (nI (n - 1)))) w 1 (.int (nI (n - 1 - 1)))) w (n - 1 - 1) (S (n - 1 - 1) / S (n - 1))) := by
  obtain ⟨tw, w0, w1, w2, w3, ts, hS⟩ := id hW
  refine jm_ofE (by decide) rfl (Nat.le_of_ble_eq_true rfl) ?_
  refine jx_iload_n d_Wk_take_0 2 rfl ?_
  refine jx_tableOut (tgt := 96) d_Wk_take_1 (by decide) (by decide) ?_
  refine jx_aload_n d_Wk_take_96 0 rfl ?_
  refine jx_callV (M2 := mm_Wk_pop) rfl tw lk_Wk_42 wi_Wk_pop ws_Wk_pop d_Wk_take_97 (c_Wk_pop l G (d - 1) hW (by omega) (by omega)) cd_Wk_pop rfl rfl (Nat.le_of_ble_eq_true rfl) (jm_fok (by omega)) (jm_look (by decide) (by omega)) ?_
  refine jx_lstore (lv' := [(5, .long (S (n - 1))), (0, .ref (w)), (1, .ref (f)), (2, .int (47)), (3, .int (D)), (4, .int (z))]) d_Wk_take_100 (by decide) rfl ?_
  refine jx_aload_n d_Wk_take_102 1 rfl ?_
  refine jx_callV (M2 := mm_Wk_pop) rfl tw lk_Wk_42 wi_Wk_pop ws_Wk_pop d_Wk_take_103 (c_Wk_pop l G (d - 1) (hW).hgt (by omega) (by omega)) cd_Wk_pop rfl rfl (Nat.le_of_ble_eq_true rfl) (jm_fok (by omega)) (jm_look (by decide) (by omega)) ?_
  refine jx_lstore (lv' := [(7, .long (S (n - 1 - 1))), (5, .long (S (n - 1))), (0, .ref (w)), (1, .ref (f)), (2, .int (47)), (3, .int (D)), (4, .int (z))]) d_Wk_take_106 (by decide) rfl ?_
  refine jx_aload_n d_Wk_take_108 2 rfl ?_
  refine jx_iload_n d_Wk_take_109 4 rfl ?_
  refine jx_lload d_Wk_take_110 0 rfl ?_
  refine jx_lload d_Wk_take_112 1 rfl ?_
  refine jx_callV (M2 := mm_Wk_join) rfl tw lk_Wk_54 wi_Wk_join ws_Wk_join d_Wk_take_114 (c_Wk_join47 l G (d - 1) (by omega) (x := S (n - 1 - 1)) (y := S (n - 1)) ((hW).hgt).hgt (by omega) hz) cd_Wk_join rfl rfl (Nat.le_of_ble_eq_true rfl) (jm_fok (by omega)) (jm_look (by decide) (by omega)) ?_
  refine jx_iload d_Wk_take_117 6 rfl ?_
  exact jx_iret d_Wk_take_119 rfl (⟨rfl, rfl⟩)
set_option maxHeartbeats 4000000 in
set_option maxRecDepth 100000 in
theorem c_Wk_take4 (l : Launch) (G : jm_G) (d : Nat) (hd : 3 ≤ d) {h : jm_H} {w n : Nat} {kd : Int32} {v : Int64} {S : Nat → Int64} {f : Nat} {D z : Int32} (hW : WkA h w n kd v S) (h1 : 2 ≤ n) (hn : n ≤ 40) : jm_C l G mm_Wk_take d [.ref w, .ref f, .int 4, .int D, .int z] h (some (.int z)) (wk_push (jm_put (jm_put h w 1 (.int (nI (n - 1)))) w 1 (.int (nI (n - 1 - 1)))) w (n - 1 - 1) (if S (n - 1) < S (n - 1 - 1) then S (n - 1) else S (n - 1 - 1))) := by
  obtain ⟨tw, w0, w1, w2, w3, ts, hS⟩ := id hW
  refine jm_ofE (by decide) rfl (Nat.le_of_ble_eq_true rfl) ?_
  refine jx_iload_n d_Wk_take_0 2 rfl ?_
  refine jx_tableIn (off := 95) (tgt := 96) d_Wk_take_1 (by decide) (by decide) (by decide) (by decide) ?_
  refine jx_aload_n d_Wk_take_96 0 rfl ?_
  refine jx_callV (M2 := mm_Wk_pop) rfl tw lk_Wk_42 wi_Wk_pop ws_Wk_pop d_Wk_take_97 (c_Wk_pop l G (d - 1) hW (by omega) (by omega)) cd_Wk_pop rfl rfl (Nat.le_of_ble_eq_true rfl) (jm_fok (by omega)) (jm_look (by decide) (by omega)) ?_
  refine jx_lstore (lv' := [(5, .long (S (n - 1))), (0, .ref (w)), (1, .ref (f)), (2, .int (4)), (3, .int (D)), (4, .int (z))]) d_Wk_take_100 (by decide) rfl ?_
  refine jx_aload_n d_Wk_take_102 1 rfl ?_
  refine jx_callV (M2 := mm_Wk_pop) rfl tw lk_Wk_42 wi_Wk_pop ws_Wk_pop d_Wk_take_103 (c_Wk_pop l G (d - 1) (hW).hgt (by omega) (by omega)) cd_Wk_pop rfl rfl (Nat.le_of_ble_eq_true rfl) (jm_fok (by omega)) (jm_look (by decide) (by omega)) ?_
  refine jx_lstore (lv' := [(7, .long (S (n - 1 - 1))), (5, .long (S (n - 1))), (0, .ref (w)), (1, .ref (f)), (2, .int (4)), (3, .int (D)), (4, .int (z))]) d_Wk_take_106 (by decide) rfl ?_
  refine jx_aload_n d_Wk_take_108 2 rfl ?_
  refine jx_iload_n d_Wk_take_109 4 rfl ?_
  refine jx_lload d_Wk_take_110 0 rfl ?_
  refine jx_lload d_Wk_take_112 1 rfl ?_
  refine jx_callV (M2 := mm_Wk_join) rfl tw lk_Wk_54 wi_Wk_join ws_Wk_join d_Wk_take_114 (c_Wk_join4 l G (d - 1) (by omega) (x := S (n - 1 - 1)) (y := S (n - 1)) ((hW).hgt).hgt (by omega)) cd_Wk_join rfl rfl (Nat.le_of_ble_eq_true rfl) (jm_fok (by omega)) (jm_look (by decide) (by omega)) ?_
  refine jx_iload d_Wk_take_117 6 rfl ?_
  exact jx_iret d_Wk_take_119 rfl (⟨rfl, rfl⟩)
set_option maxHeartbeats 4000000 in
set_option maxRecDepth 100000 in
theorem c_Wk_take5 (l : Launch) (G : jm_G) (d : Nat) (hd : 3 ≤ d) {h : jm_H} {w n : Nat} {kd : Int32} {v : Int64} {S : Nat → Int64} {f : Nat} {D z : Int32} (hW : WkA h w n kd v S) (h1 : 2 ≤ n) (hn : n ≤ 40) : jm_C l G mm_Wk_take d [.ref w, .ref f, .int 5, .int D, .int z] h (some (.int z)) (wk_push (jm_put (jm_put h w 1 (.int (nI (n - 1)))) w 1 (.int (nI (n - 1 - 1)))) w (n - 1 - 1) (if S (n - 1 - 1) < S (n - 1) then S (n - 1) else S (n - 1 - 1))) := by
  obtain ⟨tw, w0, w1, w2, w3, ts, hS⟩ := id hW
  refine jm_ofE (by decide) rfl (Nat.le_of_ble_eq_true rfl) ?_
  refine jx_iload_n d_Wk_take_0 2 rfl ?_
  refine jx_tableIn (off := 95) (tgt := 96) d_Wk_take_1 (by decide) (by decide) (by decide) (by decide) ?_
  refine jx_aload_n d_Wk_take_96 0 rfl ?_
  refine jx_callV (M2 := mm_Wk_pop) rfl tw lk_Wk_42 wi_Wk_pop ws_Wk_pop d_Wk_take_97 (c_Wk_pop l G (d - 1) hW (by omega) (by omega)) cd_Wk_pop rfl rfl (Nat.le_of_ble_eq_true rfl) (jm_fok (by omega)) (jm_look (by decide) (by omega)) ?_
  refine jx_lstore (lv' := [(5, .long (S (n - 1))), (0, .ref (w)), (1, .ref (f)), (2, .int (5)), (3, .int (D)), (4, .int (z))]) d_Wk_take_100 (by decide) rfl ?_
  refine jx_aload_n d_Wk_take_102 1 rfl ?_
  refine jx_callV (M2 := mm_Wk_pop) rfl tw lk_Wk_42 wi_Wk_pop ws_Wk_pop d_Wk_take_103 (c_Wk_pop l G (d - 1) (hW).hgt (by omega) (by omega)) cd_Wk_pop rfl rfl (Nat.le_of_ble_eq_true rfl) (jm_fok (by omega)) (jm_look (by decide) (by omega)) ?_
  refine jx_lstore (lv' := [(7, .long (S (n - 1 - 1))), (5, .long (S (n - 1))), (0, .ref (w)), (1, .ref (f)), (2, .int (5)), (3, .int (D)), (4, .int (z))]) d_Wk_take_106 (by decide) rfl ?_
  refine jx_aload_n d_Wk_take_108 2 rfl ?_
  refine jx_iload_n d_Wk_take_109 4 rfl ?_
  refine jx_lload d_Wk_take_110 0 rfl ?_
  refine jx_lload d_Wk_take_112 1 rfl ?_
  refine jx_callV (M2 := mm_Wk_join) rfl tw lk_Wk_54 wi_Wk_join ws_Wk_join d_Wk_take_114 (c_Wk_join5 l G (d - 1) (by omega) (x := S (n - 1 - 1)) (y := S (n - 1)) ((hW).hgt).hgt (by omega)) cd_Wk_join rfl rfl (Nat.le_of_ble_eq_true rfl) (jm_fok (by omega)) (jm_look (by decide) (by omega)) ?_
  refine jx_iload d_Wk_take_117 6 rfl ?_
  exact jx_iret d_Wk_take_119 rfl (⟨rfl, rfl⟩)
set_option maxHeartbeats 4000000 in
set_option maxRecDepth 100000 in
theorem c_Wk_take470 (l : Launch) (G : jm_G) (d : Nat) (hd : 3 ≤ d) {h : jm_H} {w n : Nat} {kd : Int32} {v : Int64} {S : Nat → Int64} {f : Nat} {D z : Int32} (hW : WkA h w n kd v S) (h1 : 2 ≤ n) (hn : n ≤ 40) (hz : S (n - 1) = 0) : jm_C l G mm_Wk_take d [.ref w, .ref f, .int 47, .int D, .int z] h (some (.int z)) (jm_put (jm_put (jm_put h w 1 (.int (nI (n - 1)))) w 1 (.int (nI (n - 1 - 1)))) w 2 (.int 2)) := by
  obtain ⟨tw, w0, w1, w2, w3, ts, hS⟩ := id hW
  refine jm_ofE (by decide) rfl (Nat.le_of_ble_eq_true rfl) ?_
  refine jx_iload_n d_Wk_take_0 2 rfl ?_
  refine jx_tableOut (tgt := 96) d_Wk_take_1 (by decide) (by decide) ?_
  refine jx_aload_n d_Wk_take_96 0 rfl ?_
  refine jx_callV (M2 := mm_Wk_pop) rfl tw lk_Wk_42 wi_Wk_pop ws_Wk_pop d_Wk_take_97 (c_Wk_pop l G (d - 1) hW (by omega) (by omega)) cd_Wk_pop rfl rfl (Nat.le_of_ble_eq_true rfl) (jm_fok (by omega)) (jm_look (by decide) (by omega)) ?_
  refine jx_lstore (lv' := [(5, .long (S (n - 1))), (0, .ref (w)), (1, .ref (f)), (2, .int (47)), (3, .int (D)), (4, .int (z))]) d_Wk_take_100 (by decide) rfl ?_
  refine jx_aload_n d_Wk_take_102 1 rfl ?_
  refine jx_callV (M2 := mm_Wk_pop) rfl tw lk_Wk_42 wi_Wk_pop ws_Wk_pop d_Wk_take_103 (c_Wk_pop l G (d - 1) (hW).hgt (by omega) (by omega)) cd_Wk_pop rfl rfl (Nat.le_of_ble_eq_true rfl) (jm_fok (by omega)) (jm_look (by decide) (by omega)) ?_
  refine jx_lstore (lv' := [(7, .long (S (n - 1 - 1))), (5, .long (S (n - 1))), (0, .ref (w)), (1, .ref (f)), (2, .int (47)), (3, .int (D)), (4, .int (z))]) d_Wk_take_106 (by decide) rfl ?_
  refine jx_aload_n d_Wk_take_108 2 rfl ?_
  refine jx_iload_n d_Wk_take_109 4 rfl ?_
  refine jx_lload d_Wk_take_110 0 rfl ?_
  refine jx_lload d_Wk_take_112 1 rfl ?_
  refine jx_callV (M2 := mm_Wk_join) rfl tw lk_Wk_54 wi_Wk_join ws_Wk_join d_Wk_take_114 (c_Wk_join470 l G (d - 1) (by omega) ((hW).hgt).hgt hz) cd_Wk_join rfl rfl (Nat.le_of_ble_eq_true rfl) (jm_fok (by omega)) (jm_look (by decide) (by omega)) ?_
  refine jx_iload d_Wk_take_117 6 rfl ?_
  exact jx_iret d_Wk_take_119 rfl (⟨rfl, rfl⟩)
