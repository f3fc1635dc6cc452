/-- the Work at w, its stack at w + 1: height n, kind, value, the stack's longs -/
def WkA (h : jm_H) (w n : Nat) (kd : Int32) (v : Int64) (S : Nat → Int64) : Prop := h.2.2.1 w = (jm_o 7, 4) ∧ h.2.2.2 w 0 = .ref (w + 1) ∧ h.2.2.2 w 1 = .int (nI n) ∧ h.2.2.2 w 2 = .int kd ∧ h.2.2.2 w 3 = .long v ∧ h.2.2.1 (w + 1) = (jm_a 2, 40) ∧ arL h (w + 1) 40 S
def S_wk (w : Nat) (x : Nat) : Prop := x = w ∨ x = w + 1
def wk_push (h : jm_H) (w n : Nat) (x : Int64) : jm_H := jm_put (jm_put h (w + 1) n (.long x)) w 1 (.int (nI (n + 1)))
theorem WkA.push {h : jm_H} {w n : Nat} {kd : Int32} {v x : Int64} {S : Nat → Int64} (hW : WkA h w n kd v S) : WkA (wk_push h w n x) w (n + 1) kd v (jm_up S n x) := by
  obtain ⟨tw, w0, w1, w2, w3, ts, hS⟩ := hW
  exact ⟨tw, jm_rd_k (by decide) (jm_rd_a (by omega) w0), jm_rd_s _ _ _ _, jm_rd_k (by decide) (jm_rd_a (by omega) w2), jm_rd_k (by decide) (jm_rd_a (by omega) w3), ts, hS.put.keep (by omega)⟩
theorem WkA.hgt {h : jm_H} {w n n' : Nat} {kd : Int32} {v : Int64} {S : Nat → Int64} (hW : WkA h w n kd v S) : WkA (jm_put h w 1 (.int (nI n'))) w n' kd v S := by
  obtain ⟨tw, w0, w1, w2, w3, ts, hS⟩ := hW
  exact ⟨tw, jm_rd_k (by decide) w0, jm_rd_s _ _ _ _, jm_rd_k (by decide) w2, jm_rd_k (by decide) w3, ts, hS.keep (by omega)⟩
theorem WkA.knd {h : jm_H} {w n : Nat} {kd k' : Int32} {v : Int64} {S : Nat → Int64} (hW : WkA h w n kd v S) : WkA (jm_put h w 2 (.int k')) w n k' v S := by
  obtain ⟨tw, w0, w1, w2, w3, ts, hS⟩ := hW
  exact ⟨tw, jm_rd_k (by decide) w0, jm_rd_k (by decide) w1, jm_rd_s _ _ _ _, jm_rd_k (by decide) w3, ts, hS.keep (by omega)⟩
theorem WkA.val {h : jm_H} {w n : Nat} {kd : Int32} {v v' : Int64} {S : Nat → Int64} (hW : WkA h w n kd v S) : WkA (jm_put h w 3 (.long v')) w n kd v' S := by
  obtain ⟨tw, w0, w1, w2, w3, ts, hS⟩ := hW
  exact ⟨tw, jm_rd_k (by decide) w0, jm_rd_k (by decide) w1, jm_rd_k (by decide) w2, jm_rd_s _ _ _ _, ts, hS.keep (by omega)⟩
theorem wk_push_fr {h h1 : jm_H} {w n : Nat} {x : Int64} (q : jm_fr (S_wk w) h h1) : jm_fr (S_wk w) h (wk_push h1 w n x) := (q.put (Or.inr rfl)).put (Or.inl rfl)
theorem jm_ofF {l : Launch} {G : jm_G} {M : jm_M} {h : jm_H} {d : Nat} {args : List Value} {Q : Option Value → jm_H → Prop} (hy : plainFor M.1 = true) (htb0 : M.2.2.2.2 = []) (hlen : (lg_sl args).length ≤ M.2.2.1)
    (k : jm_X l G M h.1 h.2.1 (jm_zn G d h.1 h.2.1) (fun r h' => ∃ v, r = .inl v ∧ Q v h') 0 (lv_args 0 args) [] h) : jm_CP l G M d args h Q := by
  obtain ⟨r, h', a1, a2, a3, a4, ⟨v, rfl, hq⟩, kv⟩ := k
  refine ⟨v, h', ⟨a1, a2, ?_⟩, hq⟩
  refine va_MetF (cc := M.2.1) (maxL := M.2.2.1) (ret := M.2.2.2.1) hy rfl ?_
  intro p e s m args' below meth c s₁ B hml hv
  obtain ⟨rfl, hR, hK, hN⟩ := hv
  have hts := atoms_spec (ws := jm_ws M) B.pre
  have hl := lv_entry args (n := M.2.2.1) hlen
  rw [lg_entry_eq]
  generalize (lg_sl args ++ List.replicate (M.2.2.1 - (lg_sl args).length) Slot.unset).toArray = ls at hl ⊢
  have htab : c.exceptionTable.toList = M.2.2.2.2 := by
    rw [htb0]
    have := BodyLoose.noHandlers B (hts _ List.mem_cons_self)
    simpa using this
  have C : jm_Cx G M p s m args.toArray meth c := ⟨B.exec, B.bytes, hml, B.returns, B.notSynchronized, (name_of_methodNamed B.named B.method).1, findClass_of_methodNamed B.named, htab, fun w hw => hts w (List.mem_cons_of_mem _ hw), hK, hN⟩
  have e1 : h.1 = s.heap.size := hR.1
  have W9 := kv p e s m args.toArray below meth c s.heap [] ls C e1 (Nat.le_refl _) (Nat.le_refl _) hR va_S.rf hl
  rw [Nat.sub_self, Nat.sub_self] at W9
  exact W9
theorem jm_ofFE {l : Launch} {G : jm_G} {M : jm_M} {h : jm_H} {d : Nat} {args : List Value} {v : Option Value} {h' : jm_H} (hy : plainFor M.1 = true) (htb0 : M.2.2.2.2 = []) (hlen : (lg_sl args).length ≤ M.2.2.1)
    (k : jm_X l G M h.1 h.2.1 (jm_zn G d h.1 h.2.1) (fun r h9 => r = .inl v ∧ h9 = h') 0 (lv_args 0 args) [] h) : jm_C l G M d args h v h' := by
  obtain ⟨v9, h9, hC, e1, e2⟩ := jm_ofF (Q := fun v9 h9 => v9 = v ∧ h9 = h') hy htb0 hlen (jx_imp k (fun r h9 q => ⟨v, q.1, rfl, q.2⟩))
  subst e1; subst e2
  exact hC
set_option maxHeartbeats 4000000 in
set_option maxRecDepth 100000 in
theorem c_Wk_push (l : Launch) (G : jm_G) (d : Nat) {h : jm_H} {w n : Nat} {kd : Int32} {v : Int64} {S : Nat → Int64} {x : Int64} (hW : WkA h w n kd v S) (hn : n < 40) : jm_C l G mm_Wk_push d [.ref w, .long x] h none (wk_push h w n x) := by
  obtain ⟨tw, w0, w1, w2, w3, ts, hS⟩ := id hW
  refine jm_ofE (by decide) rfl (Nat.le_of_ble_eq_true rfl) ?_
  refine jx_aload_n d_Wk_push_0 0 rfl ?_
  refine jx_get d_Wk_push_1 fF_Wk_15 tw w1 ?_
  refine jx_if_ltN (tgt := 39) (n) d_Wk_push_4 rfl (by omega) (by decide) (fun c1 => ?_) (fun c1 => ?_)
  · omega
  ·
    refine jx_aload_n d_Wk_push_7 0 rfl ?_
    refine jx_get d_Wk_push_8 fF_Wk_15 tw w1 ?_
    refine jx_aload_n d_Wk_push_11 0 rfl ?_
    refine jx_get d_Wk_push_12 fF_Wk_9 tw w0 ?_
    refine jx_alen (v0 := 40) d_Wk_push_15 ts (by decide) ?_
    refine jx_icmp_geN (tgt := 39) (n) (40) d_Wk_push_16 rfl rfl (by omega) (by omega) (by decide) (fun c2 => ?_) (fun c2 => ?_)
    · omega
    ·
      refine jx_aload_n d_Wk_push_19 0 rfl ?_
      refine jx_get d_Wk_push_20 fF_Wk_9 tw w0 ?_
      refine jx_aload_n d_Wk_push_23 0 rfl ?_
      refine jx_get d_Wk_push_24 fF_Wk_15 tw w1 ?_
      refine jx_lload_n d_Wk_push_27 1 rfl ?_
      refine jx_last d_Wk_push_28 ts rfl (jm_vinN (by omega) (by decide)) ?_
      rw [jm_putN (by omega)]
      refine jx_aload_n d_Wk_push_29 0 rfl ?_
      refine jx_dup d_Wk_push_30 rfl ?_
      refine jx_get d_Wk_push_31 fF_Wk_15 tw (jm_rd_a (jm_ne_oa tw ts) w1) ?_
      refine jx_iconst (v0 := 1) d_Wk_push_34 (by decide) ?_
      refine jx_iadd d_Wk_push_35 ?_
      refine jx_ati (nI_add (n) (1)) ?_
      refine jx_put (v0 := .int (nI ((n) + (1)))) d_Wk_push_36 fF_Wk_15 jv_Wk ft_Wk_height tw rfl rfl ?_
      exact jx_vret d_Wk_push_39 rfl (⟨rfl, rfl⟩)
set_option maxHeartbeats 4000000 in
set_option maxRecDepth 100000 in
theorem c_Wk_pop (l : Launch) (G : jm_G) (d : Nat) {h : jm_H} {w n : Nat} {kd : Int32} {v : Int64} {S : Nat → Int64} (hW : WkA h w n kd v S) (h1 : 1 ≤ n) (hn : n ≤ 40) : jm_C l G mm_Wk_pop d [.ref w] h (some (.long (S (n - 1)))) (jm_put h w 1 (.int (nI (n - 1)))) := by
  obtain ⟨tw, w0, w1, w2, w3, ts, hS⟩ := id hW
  refine jm_ofE (by decide) rfl (Nat.le_of_ble_eq_true rfl) ?_
  refine jx_aload_n d_Wk_pop_0 0 rfl ?_
  refine jx_get d_Wk_pop_1 fF_Wk_15 tw w1 ?_
  refine jx_if_leN (tgt := 19) (n) d_Wk_pop_4 rfl (by omega) (by decide) (fun c1 => ?_) (fun c1 => ?_)
  · omega
  ·
    refine jx_aload_n d_Wk_pop_7 0 rfl ?_
    refine jx_get d_Wk_pop_8 fF_Wk_15 tw w1 ?_
    refine jx_aload_n d_Wk_pop_11 0 rfl ?_
    refine jx_get d_Wk_pop_12 fF_Wk_9 tw w0 ?_
    refine jx_alen (v0 := 40) d_Wk_pop_15 ts (by decide) ?_
    refine jx_icmp_leN (tgt := 21) (n) (40) d_Wk_pop_16 rfl rfl (by omega) (by omega) (by decide) (fun c2 => ?_) (fun c2 => ?_)
    ·
      refine jx_aload_n d_Wk_pop_21 0 rfl ?_
      refine jx_dup d_Wk_pop_22 rfl ?_
      refine jx_get d_Wk_pop_23 fF_Wk_15 tw w1 ?_
      refine jx_iconst (v0 := 1) d_Wk_pop_26 (by decide) ?_
      refine jx_isub d_Wk_pop_27 ?_
      refine jx_ati (pk_sub (a := n) (b := 1) (by omega)) ?_
      refine jx_put (v0 := .int (nI ((n) - (1)))) d_Wk_pop_28 fF_Wk_15 jv_Wk ft_Wk_height tw rfl rfl ?_
      refine jx_aload_n d_Wk_pop_31 0 rfl ?_
      refine jx_get d_Wk_pop_32 fF_Wk_9 tw (jm_rd_k (by decide) w0) ?_
      refine jx_aload_n d_Wk_pop_35 0 rfl ?_
      refine jx_get d_Wk_pop_36 fF_Wk_15 tw (jm_rd_s _ _ _ _) ?_
      refine jx_lald d_Wk_pop_39 ts rfl (jm_vinN (by omega) (by decide)) (jm_atN (by omega) ((arL.keep hS (Ne.symm (jm_ne_oa tw ts))) _ (by omega))) ?_
      exact jx_lret d_Wk_pop_40 rfl (⟨rfl, rfl⟩)
    · omega
set_option maxHeartbeats 4000000 in
set_option maxRecDepth 100000 in
theorem c_Ma_min (l : Launch) (G : jm_G) (d : Nat) {h : jm_H} {x y : Int64} : jm_C l G mm_Ma_min d [.long x, .long y] h (some (.long (if y < x then y else x))) h := by
  refine jm_ofFE (by decide +kernel) rfl (Nat.le_of_ble_eq_true rfl) ?_
  refine jx_lload_n d_Ma_min_0 0 rfl ?_
  refine jx_lload_n d_Ma_min_1 1 rfl ?_
  refine jx_lcmp d_Ma_min_2 ?_
  refine jx_if_gtL (tgt := 10) d_Ma_min_3 (by decide) (fun c1 => ?_) (fun c1 => ?_)
  ·
    refine jx_lload_n d_Ma_min_10 1 rfl ?_
    exact jx_lret d_Ma_min_11 rfl (⟨by rw [if_pos c1], rfl⟩)
  ·
    refine jx_lload_n d_Ma_min_6 0 rfl ?_
    refine jx_goto (tgt := 11) d_Ma_min_7 (by decide) ?_
    exact jx_lret d_Ma_min_11 rfl (⟨by rw [if_neg (Int64.not_lt.mpr c1)], rfl⟩)
set_option maxHeartbeats 4000000 in
set_option maxRecDepth 100000 in
theorem c_Ma_max (l : Launch) (G : jm_G) (d : Nat) {h : jm_H} {x y : Int64} : jm_C l G mm_Ma_max d [.long x, .long y] h (some (.long (if x < y then y else x))) h := by
  refine jm_ofFE (by decide +kernel) rfl (Nat.le_of_ble_eq_true rfl) ?_
  refine jx_lload_n d_Ma_max_0 0 rfl ?_
  refine jx_lload_n d_Ma_max_1 1 rfl ?_
  refine jx_lcmp d_Ma_max_2 ?_
  refine jx_if_ltL (tgt := 10) d_Ma_max_3 (by decide) (fun c1 => ?_) (fun c1 => ?_)
  ·
    refine jx_lload_n d_Ma_max_10 1 rfl ?_
    exact jx_lret d_Ma_max_11 rfl (⟨by rw [if_pos c1], rfl⟩)
  ·
    refine jx_lload_n d_Ma_max_6 0 rfl ?_
    refine jx_goto (tgt := 11) d_Ma_max_7 (by decide) ?_
    exact jx_lret d_Ma_max_11 rfl (⟨by rw [if_neg (Int64.not_lt.mpr c1)], rfl⟩)
set_option maxHeartbeats 4000000 in
set_option maxRecDepth 100000 in
theorem c_Wk_divide0 (l : Launch) (G : jm_G) (d : Nat) {h : jm_H} {w n : Nat} {kd : Int32} {v : Int64} {S : Nat → Int64} {x y : Int64} (hW : WkA h w n kd v S) (hz : y = 0) : jm_C l G mm_Wk_divide d [.ref w, .long x, .long y] h none (jm_put h w 2 (.int 2)) := by
  obtain ⟨tw, w0, w1, w2, w3, ts, hS⟩ := id hW
  refine jm_ofE (by decide) rfl (Nat.le_of_ble_eq_true rfl) ?_
  refine jx_lload_n d_Wk_divide_0 2 rfl ?_
  refine jx_lconst (v0 := 0) d_Wk_divide_1 (by decide) ?_
  refine jx_lcmp d_Wk_divide_2 ?_
  refine jx_if_neL (tgt := 12) d_Wk_divide_3 (by decide) (fun c1 => ?_) (fun c1 => ?_)
  · exact absurd hz c1
  ·
    refine jx_aload_n d_Wk_divide_6 0 rfl ?_
    refine jx_iconst (v0 := 2) d_Wk_divide_7 (by decide) ?_
    refine jx_put (v0 := .int (2)) d_Wk_divide_8 fF_Wk_19 jv_Wk ft_Wk_kind tw rfl rfl ?_
    exact jx_vret d_Wk_divide_11 rfl (⟨rfl, rfl⟩)
set_option maxHeartbeats 4000000 in
set_option maxRecDepth 100000 in
theorem c_Wk_divide (l : Launch) (G : jm_G) (d : Nat) (hd : 1 ≤ d) {h : jm_H} {w n : Nat} {kd : Int32} {v : Int64} {S : Nat → Int64} {x y : Int64} (hW : WkA h w n kd v S) (hn : n < 40) (hz : ¬ y = 0) : jm_C l G mm_Wk_divide d [.ref w, .long x, .long y] h none (wk_push h w n (x / y)) := by
  obtain ⟨tw, w0, w1, w2, w3, ts, hS⟩ := id hW
  refine jm_ofE (by decide) rfl (Nat.le_of_ble_eq_true rfl) ?_
  refine jx_lload_n d_Wk_divide_0 2 rfl ?_
  refine jx_lconst (v0 := 0) d_Wk_divide_1 (by decide) ?_
  refine jx_lcmp d_Wk_divide_2 ?_
  refine jx_if_neL (tgt := 12) d_Wk_divide_3 (by decide) (fun c1 => ?_) (fun c1 => ?_)
  ·
    refine jx_aload_n d_Wk_divide_12 0 rfl ?_
    refine jx_lload_n d_Wk_divide_13 1 rfl ?_
    refine jx_lload_n d_Wk_divide_14 2 rfl ?_
    refine jx_ldiv d_Wk_divide_15 hz ?_
    refine jx_callV (M2 := mm_Wk_push) rfl tw lk_Wk_46 wi_Wk_push ws_Wk_push d_Wk_divide_16 (c_Wk_push l G (d - 1) hW (by omega)) cd_Wk_push rfl rfl (Nat.le_of_ble_eq_true rfl) (jm_fok (by omega)) (jm_look (by decide) (by omega)) ?_
    exact jx_vret d_Wk_divide_19 rfl (⟨rfl, rfl⟩)
  · exact absurd c1 hz
set_option maxHeartbeats 4000000 in
set_option maxRecDepth 100000 in
theorem c_Wk_join43 (l : Launch) (G : jm_G) (d : Nat) (hd : 2 ≤ d) {h : jm_H} {w n : Nat} {kd : Int32} {v : Int64} {S : Nat → Int64} {x y : Int64} (hW : WkA h w n kd v S) (hn : n < 40) : jm_C l G mm_Wk_join d [.ref w, .int 43, .long x, .long y] h none (wk_push h w n (x + y)) := by
  obtain ⟨tw, w0, w1, w2, w3, ts, hS⟩ := id hW
  refine jm_ofE (by decide) rfl (Nat.le_of_ble_eq_true rfl) ?_
  refine jx_iload_n d_Wk_join_0 1 rfl ?_
  refine jx_lookup (off := 51) (tgt := 52) d_Wk_join_1 (by decide) (by decide) (by decide) ?_
  refine jx_aload_n d_Wk_join_52 0 rfl ?_
  refine jx_lload_n d_Wk_join_53 2 rfl ?_
  refine jx_lload d_Wk_join_54 3 rfl ?_
  refine jx_ladd d_Wk_join_56 ?_
  refine jx_callV (M2 := mm_Wk_push) rfl tw lk_Wk_46 wi_Wk_push ws_Wk_push d_Wk_join_57 (c_Wk_push l G (d - 1) hW (by omega)) cd_Wk_push rfl rfl (Nat.le_of_ble_eq_true rfl) (jm_fok (by omega)) (jm_look (by decide) (by omega)) ?_
  exact jx_vret d_Wk_join_60 rfl (⟨rfl, rfl⟩)
set_option maxHeartbeats 4000000 in
set_option maxRecDepth 100000 in
theorem c_Wk_join45 (l : Launch) (G : jm_G) (d : Nat) (hd : 2 ≤ d) {h : jm_H} {w n : Nat} {kd : Int32} {v : Int64} {S : Nat → Int64} {x y : Int64} (hW : WkA h w n kd v S) (hn : n < 40) : jm_C l G mm_Wk_join d [.ref w, .int 45, .long x, .long y] h none (wk_push h w n (x - y)) := by
  obtain ⟨tw, w0, w1, w2, w3, ts, hS⟩ := id hW
  refine jm_ofE (by decide) rfl (Nat.le_of_ble_eq_true rfl) ?_
  refine jx_iload_n d_Wk_join_0 1 rfl ?_
  refine jx_lookup (off := 60) (tgt := 61) d_Wk_join_1 (by decide) (by decide) (by decide) ?_
  refine jx_aload_n d_Wk_join_61 0 rfl ?_
  refine jx_lload_n d_Wk_join_62 2 rfl ?_
  refine jx_lload d_Wk_join_63 3 rfl ?_
  refine jx_lsub d_Wk_join_65 ?_
  refine jx_callV (M2 := mm_Wk_push) rfl tw lk_Wk_46 wi_Wk_push ws_Wk_push d_Wk_join_66 (c_Wk_push l G (d - 1) hW (by omega)) cd_Wk_push rfl rfl (Nat.le_of_ble_eq_true rfl) (jm_fok (by omega)) (jm_look (by decide) (by omega)) ?_
  exact jx_vret d_Wk_join_69 rfl (⟨rfl, rfl⟩)
set_option maxHeartbeats 4000000 in
set_option maxRecDepth 100000 in
theorem c_Wk_join42 (l : Launch) (G : jm_G) (d : Nat) (hd : 2 ≤ d) {h : jm_H} {w n : Nat} {kd : Int32} {v : Int64} {S : Nat → Int64} {x y : Int64} (hW : WkA h w n kd v S) (hn : n < 40) : jm_C l G mm_Wk_join d [.ref w, .int 42, .long x, .long y] h none (wk_push h w n (x * y)) := by
  obtain ⟨tw, w0, w1, w2, w3, ts, hS⟩ := id hW
  refine jm_ofE (by decide) rfl (Nat.le_of_ble_eq_true rfl) ?_
  refine jx_iload_n d_Wk_join_0 1 rfl ?_
  refine jx_lookup (off := 69) (tgt := 70) d_Wk_join_1 (by decide) (by decide) (by decide) ?_
  refine jx_aload_n d_Wk_join_70 0 rfl ?_
  refine jx_lload_n d_Wk_join_71 2 rfl ?_
  refine jx_lload d_Wk_join_72 3 rfl ?_
  refine jx_lmul d_Wk_join_74 ?_
  refine jx_callV (M2 := mm_Wk_push) rfl tw lk_Wk_46 wi_Wk_push ws_Wk_push d_Wk_join_75 (c_Wk_push l G (d - 1) hW (by omega)) cd_Wk_push rfl rfl (Nat.le_of_ble_eq_true rfl) (jm_fok (by omega)) (jm_look (by decide) (by omega)) ?_
  exact jx_vret d_Wk_join_78 rfl (⟨rfl, rfl⟩)
set_option maxHeartbeats 4000000 in
set_option maxRecDepth 100000 in
theorem c_Wk_join47 (l : Launch) (G : jm_G) (d : Nat) (hd : 2 ≤ d) {h : jm_H} {w n : Nat} {kd : Int32} {v : Int64} {S : Nat → Int64} {x y : Int64} (hW : WkA h w n kd v S) (hn : n < 40) (hz : ¬ y = 0) : jm_C l G mm_Wk_join d [.ref w, .int 47, .long x, .long y] h none (wk_push h w n (x / y)) := by
  obtain ⟨tw, w0, w1, w2, w3, ts, hS⟩ := id hW
  refine jm_ofE (by decide) rfl (Nat.le_of_ble_eq_true rfl) ?_
  refine jx_iload_n d_Wk_join_0 1 rfl ?_
  refine jx_lookup (off := 78) (tgt := 79) d_Wk_join_1 (by decide) (by decide) (by decide) ?_
  refine jx_aload_n d_Wk_join_79 0 rfl ?_
  refine jx_lload_n d_Wk_join_80 2 rfl ?_
  refine jx_lload d_Wk_join_81 3 rfl ?_
  refine jx_callV (M2 := mm_Wk_divide) rfl tw lk_Wk_67 wi_Wk_divide ws_Wk_divide d_Wk_join_83 (c_Wk_divide l G (d - 1) (by omega) hW hn hz) cd_Wk_divide rfl rfl (Nat.le_of_ble_eq_true rfl) (jm_fok (by omega)) (jm_look (by decide) (by omega)) ?_
  exact jx_vret d_Wk_join_86 rfl (⟨rfl, rfl⟩)
set_option maxHeartbeats 4000000 in
set_option maxRecDepth 100000 in
theorem c_Wk_join4 (l : Launch) (G : jm_G) (d : Nat) (hd : 2 ≤ d) {h : jm_H} {w n : Nat} {kd : Int32} {v : Int64} {S : Nat → Int64} {x y : Int64} (hW : WkA h w n kd v S) (hn : n < 40) : jm_C l G mm_Wk_join d [.ref w, .int 4, .long x, .long y] h none (wk_push h w n (if y < x then y else x)) := by
  obtain ⟨tw, w0, w1, w2, w3, ts, hS⟩ := id hW
  refine jm_ofE (by decide) rfl (Nat.le_of_ble_eq_true rfl) ?_
  refine jx_iload_n d_Wk_join_0 1 rfl ?_
  refine jx_lookup (off := 86) (tgt := 87) d_Wk_join_1 (by decide) (by decide) (by decide) ?_
  refine jx_aload_n d_Wk_join_87 0 rfl ?_
  refine jx_lload_n d_Wk_join_88 2 rfl ?_
  refine jx_lload d_Wk_join_89 3 rfl ?_
  refine jx_callS (M2 := mm_Ma_min) lk_Wk_71 wt_Ma_min d_Wk_join_91 (c_Ma_min l G (d - 1)) cd_Ma_min rfl rfl (Nat.le_of_ble_eq_true rfl) (jm_fok (by omega)) (jm_look (by decide) (by omega)) ?_
  refine jx_callV (M2 := mm_Wk_push) rfl tw lk_Wk_46 wi_Wk_push ws_Wk_push d_Wk_join_94 (c_Wk_push l G (d - 1) hW (by omega)) cd_Wk_push rfl rfl (Nat.le_of_ble_eq_true rfl) (jm_fok (by omega)) (jm_look (by decide) (by omega)) ?_
  exact jx_vret d_Wk_join_97 rfl (⟨rfl, rfl⟩)
set_option maxHeartbeats 4000000 in
set_option maxRecDepth 100000 in
theorem c_Wk_join5 (l : Launch) (G : jm_G) (d : Nat) (hd : 2 ≤ d) {h : jm_H} {w n : Nat} {kd : Int32} {v : Int64} {S : Nat → Int64} {x y : Int64} (hW : WkA h w n kd v S) (hn : n < 40) : jm_C l G mm_Wk_join d [.ref w, .int 5, .long x, .long y] h none (wk_push h w n (if x < y then y else x)) := by
  obtain ⟨tw, w0, w1, w2, w3, ts, hS⟩ := id hW
  refine jm_ofE (by decide) rfl (Nat.le_of_ble_eq_true rfl) ?_
  refine jx_iload_n d_Wk_join_0 1 rfl ?_
  refine jx_lookup (off := 97) (tgt := 98) d_Wk_join_1 (by decide) (by decide) (by decide) ?_
  refine jx_aload_n d_Wk_join_98 0 rfl ?_
  refine jx_lload_n d_Wk_join_99 2 rfl ?_
  refine jx_lload d_Wk_join_100 3 rfl ?_
  refine jx_callS (M2 := mm_Ma_max) lk_Wk_77 wt_Ma_max d_Wk_join_102 (c_Ma_max l G (d - 1)) cd_Ma_max rfl rfl (Nat.le_of_ble_eq_true rfl) (jm_fok (by omega)) (jm_look (by decide) (by omega)) ?_
  refine jx_callV (M2 := mm_Wk_push) rfl tw lk_Wk_46 wi_Wk_push ws_Wk_push d_Wk_join_105 (c_Wk_push l G (d - 1) hW (by omega)) cd_Wk_push rfl rfl (Nat.le_of_ble_eq_true rfl) (jm_fok (by omega)) (jm_look (by decide) (by omega)) ?_
  exact jx_vret d_Wk_join_108 rfl (⟨rfl, rfl⟩)
set_option maxHeartbeats 4000000 in
set_option maxRecDepth 100000 in
theorem c_Wk_join470 (l : Launch) (G : jm_G) (d : Nat) (hd : 2 ≤ d) {h : jm_H} {w n : Nat} {kd : Int32} {v : Int64} {S : Nat → Int64} {x y : Int64} (hW : WkA h w n kd v S) (hz : y = 0) : jm_C l G mm_Wk_join d [.ref w, .int 47, .long x, .long y] h none (jm_put h w 2 (.int 2)) := by
  obtain ⟨tw, w0, w1, w2, w3, ts, hS⟩ := id hW
  refine jm_ofE (by decide) rfl (Nat.le_of_ble_eq_true rfl) ?_
  refine jx_iload_n d_Wk_join_0 1 rfl ?_
  refine jx_lookup (off := 78) (tgt := 79) d_Wk_join_1 (by decide) (by decide) (by decide) ?_
  refine jx_aload_n d_Wk_join_79 0 rfl ?_
  refine jx_lload_n d_Wk_join_80 2 rfl ?_
  refine jx_lload d_Wk_join_81 3 rfl ?_
  refine jx_callV (M2 := mm_Wk_divide) rfl tw lk_Wk_67 wi_Wk_divide ws_Wk_divide d_Wk_join_83 (c_Wk_divide0 l G (d - 1) hW hz) cd_Wk_divide rfl rfl (Nat.le_of_ble_eq_true rfl) (jm_fok (by omega)) (jm_look (by decide) (by omega)) ?_
  exact jx_vret d_Wk_join_86 rfl (⟨rfl, rfl⟩)
set_option maxHeartbeats 4000000 in
set_option maxRecDepth 100000 in
theorem c_Wk_pushResult1 (l : Launch) (G : jm_G) (d : Nat) (hd : 1 ≤ d) {h : jm_H} {w n : Nat} {kd : Int32} {v : Int64} {S : Nat → Int64} {f L N i : Nat} {SK : Nat → Int32} {SV : Nat → Int64} (hW : WkA h w n kd v S) (hn : n < 40) (hF : FmA h f L N) (hN : N ≤ 40) (hSK : arI h (f + 4) 40 SK) (hSV : arL h (f + 5) 40 SV) (hi : i < N) (hk : SK i = 1) : jm_C l G mm_Wk_pushResult d [.ref w, .ref f, .int (nI i)] h none (wk_push h w n (SV i)) := by
  obtain ⟨tw, w0, w1, w2, w3, ts, hS⟩ := id hW
  refine jm_ofE (by decide) rfl (Nat.le_of_ble_eq_true rfl) ?_
  refine jx_iload_n d_Wk_pushResult_0 2 rfl ?_
  refine jx_if_ltN (tgt := 22) (i) d_Wk_pushResult_1 rfl (by omega) (by decide) (fun c1 => ?_) (fun c1 => ?_)
  · omega
  ·
    refine jx_iload_n d_Wk_pushResult_4 2 rfl ?_
    refine jx_aload_n d_Wk_pushResult_5 1 rfl ?_
    refine jx_get d_Wk_pushResult_6 fF_Wk_58 hF.1 hF.2.2.2.2.2.2.2.1 ?_
    refine jx_icmp_geN (tgt := 22) (i) (N) d_Wk_pushResult_9 rfl rfl (by omega) (by omega) (by decide) (fun c2 => ?_) (fun c2 => ?_)
    · omega
    ·
      refine jx_aload_n d_Wk_pushResult_12 1 rfl ?_
      refine jx_get d_Wk_pushResult_13 fF_Wk_61 hF.1 hF.2.2.2.2.2.1 ?_
      refine jx_iload_n d_Wk_pushResult_16 2 rfl ?_
      refine jx_iald d_Wk_pushResult_17 hF.2.2.2.2.2.2.2.2.2.2.2.1 rfl (jm_vinN (by omega) (by decide)) (jm_atN (by omega) (hSK _ (by omega))) ?_
      refine jx_iconst (v0 := 1) d_Wk_pushResult_18 (by decide) ?_
      refine jx_icmp_eq (tgt := 28) d_Wk_pushResult_19 (by decide) (fun c3 => ?_) (fun c3 => ?_)
      ·
        refine jx_aload_n d_Wk_pushResult_28 0 rfl ?_
        refine jx_aload_n d_Wk_pushResult_29 1 rfl ?_
        refine jx_get d_Wk_pushResult_30 fF_Wk_64 hF.1 hF.2.2.2.2.2.2.1 ?_
        refine jx_iload_n d_Wk_pushResult_33 2 rfl ?_
        refine jx_lald d_Wk_pushResult_34 hF.2.2.2.2.2.2.2.2.2.2.2.2 rfl (jm_vinN (by omega) (by decide)) (jm_atN (by omega) (hSV _ (by omega))) ?_
        refine jx_callV (M2 := mm_Wk_push) rfl tw lk_Wk_46 wi_Wk_push ws_Wk_push d_Wk_pushResult_35 (c_Wk_push l G (d - 1) hW (by omega)) cd_Wk_push rfl rfl (Nat.le_of_ble_eq_true rfl) (jm_fok (by omega)) (jm_look (by decide) (by omega)) ?_
        exact jx_vret d_Wk_pushResult_38 rfl (⟨rfl, rfl⟩)
      · exact absurd hk c3
set_option maxHeartbeats 4000000 in
set_option maxRecDepth 100000 in
theorem c_Wk_pushResult0 (l : Launch) (G : jm_G) (d : Nat) (hd : 1 ≤ d) {h : jm_H} {w n : Nat} {kd : Int32} {v : Int64} {S : Nat → Int64} {f L N i : Nat} {SK : Nat → Int32} {SV : Nat → Int64} (hW : WkA h w n kd v S) (hF : FmA h f L N) (hN : N ≤ 40) (hSK : arI h (f + 4) 40 SK) (hSV : arL h (f + 5) 40 SV) (hi : i < N) (hk : ¬ SK i = 1) : jm_C l G mm_Wk_pushResult d [.ref w, .ref f, .int (nI i)] h none (jm_put h w 2 (.int 3)) := by
  obtain ⟨tw, w0, w1, w2, w3, ts, hS⟩ := id hW
  refine jm_ofE (by decide) rfl (Nat.le_of_ble_eq_true rfl) ?_
  refine jx_iload_n d_Wk_pushResult_0 2 rfl ?_
  refine jx_if_ltN (tgt := 22) (i) d_Wk_pushResult_1 rfl (by omega) (by decide) (fun c1 => ?_) (fun c1 => ?_)
  · omega
  ·
    refine jx_iload_n d_Wk_pushResult_4 2 rfl ?_
    refine jx_aload_n d_Wk_pushResult_5 1 rfl ?_
    refine jx_get d_Wk_pushResult_6 fF_Wk_58 hF.1 hF.2.2.2.2.2.2.2.1 ?_
    refine jx_icmp_geN (tgt := 22) (i) (N) d_Wk_pushResult_9 rfl rfl (by omega) (by omega) (by decide) (fun c2 => ?_) (fun c2 => ?_)
    · omega
    ·
      refine jx_aload_n d_Wk_pushResult_12 1 rfl ?_
      refine jx_get d_Wk_pushResult_13 fF_Wk_61 hF.1 hF.2.2.2.2.2.1 ?_
      refine jx_iload_n d_Wk_pushResult_16 2 rfl ?_
      refine jx_iald d_Wk_pushResult_17 hF.2.2.2.2.2.2.2.2.2.2.2.1 rfl (jm_vinN (by omega) (by decide)) (jm_atN (by omega) (hSK _ (by omega))) ?_
      refine jx_iconst (v0 := 1) d_Wk_pushResult_18 (by decide) ?_
      refine jx_icmp_eq (tgt := 28) d_Wk_pushResult_19 (by decide) (fun c3 => ?_) (fun c3 => ?_)
      · exact absurd c3 hk
      ·
        refine jx_aload_n d_Wk_pushResult_22 0 rfl ?_
        refine jx_iconst (v0 := 3) d_Wk_pushResult_23 (by decide) ?_
        refine jx_put (v0 := .int (3)) d_Wk_pushResult_24 fF_Wk_19 jv_Wk ft_Wk_kind tw rfl rfl ?_
        exact jx_vret d_Wk_pushResult_27 rfl (⟨rfl, rfl⟩)
