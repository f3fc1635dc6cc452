set_option maxHeartbeats 4000000 in
set_option maxRecDepth 100000 in
theorem fl_part1 (l : Launch) (G : jm_G) {n0 s0 d : Nat} {Post : jm_r → jm_H → Prop} {h : jm_H} {a : Nat} {s s' : MS} (hd : 1 ≤ d) (hK : MdK h a) (hz : s.1 3 = 0) (hC : jm_C l G mm_Md_part (d - 1) [.ref a] (mdH h a s) (some (.int 1)) (mdH h a s')) (k : jm_X l G mm_Md_formula n0 s0 (jm_zn G d n0 s0) Post 22 [(1, .int 0), (0, .ref a)] [] (mdH h a s')) : jm_X l G mm_Md_formula n0 s0 (jm_zn G d n0 s0) Post 22 [(1, .int 1), (0, .ref a)] [] (mdH h a s) := by
  refine jx_aload_n d_Md_formula_22 1 rfl ?_
  refine jx_get d_Md_formula_23 fF_Md_144 (md_tg hK) ((show (mdH h a s).2.2.2 a 3 = Value.int (s.1 3) from md_ri rfl).trans (congrArg Value.int hz)) ?_
  refine jx_if_ne (tgt := 77) d_Md_formula_26 (by decide) (fun c1 => absurd c1 (by decide)) (fun c1 => ?_)
  refine jx_iload_n d_Md_formula_29 0 rfl ?_
  refine jx_if_ne (tgt := 49) d_Md_formula_30 (by decide) (fun c2 => ?_) (fun c2 => absurd c2 (by decide))
  refine jx_iload_n d_Md_formula_49 0 rfl ?_
  refine jx_if_eq (tgt := 69) d_Md_formula_50 (by decide) (fun c3 => absurd c3 (by decide)) (fun c3 => ?_)
  refine jx_aload_n d_Md_formula_53 1 rfl ?_
  refine jx_callV (M2 := mm_Md_part) rfl (md_tg hK) lk_Md_198 wi_Md_part ws_Md_part d_Md_formula_54 hC cd_Md_part rfl rfl (Nat.le_of_ble_eq_true rfl) (jm_fok (by omega)) (jm_look (by decide) (by omega)) ?_
  refine jx_if_ne (tgt := 64) d_Md_formula_57 (by decide) (fun c4 => ?_) (fun c4 => absurd c4 (by decide))
  refine jx_iconst (v0 := 0) d_Md_formula_64 (by decide) ?_
  refine jx_istore_n (lv' := [(1, .int (0)), (0, .ref (a))]) d_Md_formula_65 (by decide) rfl ?_
  refine jx_goto (tgt := 22) d_Md_formula_66 (by decide) ?_
  exact k
set_option maxHeartbeats 4000000 in
set_option maxRecDepth 100000 in
theorem fl_part0 (l : Launch) (G : jm_G) {n0 s0 d : Nat} {Post : jm_r → jm_H → Prop} {h : jm_H} {a : Nat} {s s' : MS} (hd : 1 ≤ d) (hK : MdK h a) (hz : s.1 3 = 0) (hC : jm_C l G mm_Md_part (d - 1) [.ref a] (mdH h a s) (some (.int 0)) (mdH h a s')) (k : jm_X l G mm_Md_formula n0 s0 (jm_zn G d n0 s0) Post 22 [(1, .int 1), (0, .ref a)] [] (mdH h a s')) : jm_X l G mm_Md_formula n0 s0 (jm_zn G d n0 s0) Post 22 [(1, .int 1), (0, .ref a)] [] (mdH h a s) := by
  refine jx_aload_n d_Md_formula_22 1 rfl ?_
  refine jx_get d_Md_formula_23 fF_Md_144 (md_tg hK) ((show (mdH h a s).2.2.2 a 3 = Value.int (s.1 3) from md_ri rfl).trans (congrArg Value.int hz)) ?_
  refine jx_if_ne (tgt := 77) d_Md_formula_26 (by decide) (fun c1 => absurd c1 (by decide)) (fun c1 => ?_)
  refine jx_iload_n d_Md_formula_29 0 rfl ?_
  refine jx_if_ne (tgt := 49) d_Md_formula_30 (by decide) (fun c2 => ?_) (fun c2 => absurd c2 (by decide))
  refine jx_iload_n d_Md_formula_49 0 rfl ?_
  refine jx_if_eq (tgt := 69) d_Md_formula_50 (by decide) (fun c3 => absurd c3 (by decide)) (fun c3 => ?_)
  refine jx_aload_n d_Md_formula_53 1 rfl ?_
  refine jx_callV (M2 := mm_Md_part) rfl (md_tg hK) lk_Md_198 wi_Md_part ws_Md_part d_Md_formula_54 hC cd_Md_part rfl rfl (Nat.le_of_ble_eq_true rfl) (jm_fok (by omega)) (jm_look (by decide) (by omega)) ?_
  refine jx_if_ne (tgt := 64) d_Md_formula_57 (by decide) (fun c4 => absurd c4 (by decide)) (fun c4 => ?_)
  refine jx_iconst (v0 := 1) d_Md_formula_60 (by decide) ?_
  refine jx_goto (tgt := 65) d_Md_formula_61 (by decide) ?_
  refine jx_istore_n (lv' := [(1, .int (1)), (0, .ref (a))]) d_Md_formula_65 (by decide) rfl ?_
  refine jx_goto (tgt := 22) d_Md_formula_66 (by decide) ?_
  exact k
set_option maxHeartbeats 4000000 in
set_option maxRecDepth 100000 in
theorem fl_beh (l : Launch) (G : jm_G) {n0 s0 d : Nat} {Post : jm_r → jm_H → Prop} {h : jm_H} {a : Nat} {s s' : MS} {b : Int32} (hd : 1 ≤ d) (hK : MdK h a) (hz : s.1 3 = 0) (ht : ¬ s.1 24 = -2) (hC : jm_C l G mm_Md_behind (d - 1) [.ref a] (mdH h a s) (some (.int b)) (mdH h a s')) (k : jm_X l G mm_Md_formula n0 s0 (jm_zn G d n0 s0) Post 22 [(1, .int b), (0, .ref a)] [] (mdH h a s')) : jm_X l G mm_Md_formula n0 s0 (jm_zn G d n0 s0) Post 22 [(1, .int 0), (0, .ref a)] [] (mdH h a s) := by
  refine jx_aload_n d_Md_formula_22 1 rfl ?_
  refine jx_get d_Md_formula_23 fF_Md_144 (md_tg hK) ((show (mdH h a s).2.2.2 a 3 = Value.int (s.1 3) from md_ri rfl).trans (congrArg Value.int hz)) ?_
  refine jx_if_ne (tgt := 77) d_Md_formula_26 (by decide) (fun c1 => absurd c1 (by decide)) (fun c1 => ?_)
  refine jx_iload_n d_Md_formula_29 0 rfl ?_
  refine jx_if_ne (tgt := 49) d_Md_formula_30 (by decide) (fun c2 => absurd c2 (by decide)) (fun c2 => ?_)
  refine jx_aload_n d_Md_formula_33 1 rfl ?_
  refine jx_get d_Md_formula_34 fF_Md_117 (md_tg hK) (show (mdH h a s).2.2.2 a 24 = Value.int (s.1 24) from md_ri rfl) ?_
  refine jx_bipush (v0 := -2) d_Md_formula_37 (by decide) ?_
  refine jx_icmp_ne (tgt := 49) d_Md_formula_39 (by decide) (fun c3 => ?_) (fun c3 => ?_)
  ·
    refine jx_iload_n d_Md_formula_49 0 rfl ?_
    refine jx_if_eq (tgt := 69) d_Md_formula_50 (by decide) (fun c4 => ?_) (fun c4 => absurd c4 (by decide))
    refine jx_aload_n d_Md_formula_69 1 rfl ?_
    refine jx_callV (M2 := mm_Md_behind) rfl (md_tg hK) lk_Md_202 wi_Md_behind ws_Md_behind d_Md_formula_70 hC cd_Md_behind rfl rfl (Nat.le_of_ble_eq_true rfl) (jm_fok (by omega)) (jm_look (by decide) (by omega)) ?_
    refine jx_istore_n (lv' := [(1, .int (b)), (0, .ref (a))]) d_Md_formula_73 (by decide) rfl ?_
    refine jx_goto (tgt := 22) d_Md_formula_74 (by decide) ?_
    exact k
  · exact absurd c3 ht
set_option maxHeartbeats 4000000 in
set_option maxRecDepth 100000 in
theorem fl_behE (l : Launch) (G : jm_G) {n0 s0 d : Nat} {Post : jm_r → jm_H → Prop} {h : jm_H} {a : Nat} {s s' : MS} {b : Int32} {w : Nat} (hd : 1 ≤ d) (hK : MdK h a) (hz : s.1 3 = 0) (ht : s.1 24 = -2) (hw : s.1 35 = nI (w + 1)) (hw9 : w < 100) (hC : jm_C l G mm_Md_behind (d - 1) [.ref a] (mdH h a s) (some (.int b)) (mdH h a s')) (k : jm_X l G mm_Md_formula n0 s0 (jm_zn G d n0 s0) Post 22 [(1, .int b), (0, .ref a)] [] (mdH h a s')) : jm_X l G mm_Md_formula n0 s0 (jm_zn G d n0 s0) Post 22 [(1, .int 0), (0, .ref a)] [] (mdH h a s) := by
  refine jx_aload_n d_Md_formula_22 1 rfl ?_
  refine jx_get d_Md_formula_23 fF_Md_144 (md_tg hK) ((show (mdH h a s).2.2.2 a 3 = Value.int (s.1 3) from md_ri rfl).trans (congrArg Value.int hz)) ?_
  refine jx_if_ne (tgt := 77) d_Md_formula_26 (by decide) (fun c1 => absurd c1 (by decide)) (fun c1 => ?_)
  refine jx_iload_n d_Md_formula_29 0 rfl ?_
  refine jx_if_ne (tgt := 49) d_Md_formula_30 (by decide) (fun c2 => absurd c2 (by decide)) (fun c2 => ?_)
  refine jx_aload_n d_Md_formula_33 1 rfl ?_
  refine jx_get d_Md_formula_34 fF_Md_117 (md_tg hK) (show (mdH h a s).2.2.2 a 24 = Value.int (s.1 24) from md_ri rfl) ?_
  refine jx_bipush (v0 := -2) d_Md_formula_37 (by decide) ?_
  refine jx_icmp_ne (tgt := 49) d_Md_formula_39 (by decide) (fun c3 => ?_) (fun c3 => ?_)
  · exact absurd ht c3
  ·
    refine jx_aload_n d_Md_formula_42 1 rfl ?_
    refine jx_get d_Md_formula_43 fF_Md_157 (md_tg hK) ((show (mdH h a s).2.2.2 a 35 = Value.int (s.1 35) from md_ri rfl).trans (congrArg Value.int hw)) ?_
    refine jx_if_leN (tgt := 77) (w + 1) d_Md_formula_46 rfl (by omega) (by decide) (fun c4 => ?_) (fun c4 => ?_)
    · omega
    ·
      refine jx_iload_n d_Md_formula_49 0 rfl ?_
      refine jx_if_eq (tgt := 69) d_Md_formula_50 (by decide) (fun c5 => ?_) (fun c5 => absurd c5 (by decide))
      refine jx_aload_n d_Md_formula_69 1 rfl ?_
      refine jx_callV (M2 := mm_Md_behind) rfl (md_tg hK) lk_Md_202 wi_Md_behind ws_Md_behind d_Md_formula_70 hC cd_Md_behind rfl rfl (Nat.le_of_ble_eq_true rfl) (jm_fok (by omega)) (jm_look (by decide) (by omega)) ?_
      refine jx_istore_n (lv' := [(1, .int (b)), (0, .ref (a))]) d_Md_formula_73 (by decide) rfl ?_
      refine jx_goto (tgt := 22) d_Md_formula_74 (by decide) ?_
      exact k
set_option maxHeartbeats 4000000 in
set_option maxRecDepth 100000 in
theorem fl_flt (l : Launch) (G : jm_G) {n0 s0 d : Nat} {Post : jm_r → jm_H → Prop} {h : jm_H} {a : Nat} {s : MS} {b : Int32} (hK : MdK h a) (hz : ¬ s.1 3 = 0) (k : jm_X l G mm_Md_formula n0 s0 (jm_zn G d n0 s0) Post 77 [(0, .ref a)] [] (mdH h a s)) : jm_X l G mm_Md_formula n0 s0 (jm_zn G d n0 s0) Post 22 [(1, .int b), (0, .ref a)] [] (mdH h a s) := by
  refine jx_aload_n d_Md_formula_22 1 rfl ?_
  refine jx_get d_Md_formula_23 fF_Md_144 (md_tg hK) (show (mdH h a s).2.2.2 a 3 = Value.int (s.1 3) from md_ri rfl) ?_
  refine jx_if_ne (tgt := 77) d_Md_formula_26 (by decide) (fun c1 => ?_) (fun c1 => ?_)
  ·
    exact jx_lv [1] rfl k
  · exact absurd c1 hz
set_option maxHeartbeats 4000000 in
set_option maxRecDepth 100000 in
theorem fl_end (l : Launch) (G : jm_G) {n0 s0 d : Nat} {Post : jm_r → jm_H → Prop} {h : jm_H} {a : Nat} {s : MS} (hK : MdK h a) (hz : s.1 3 = 0) (ht : s.1 24 = -2) (hw : s.1 35 = nI 0) (k : jm_X l G mm_Md_formula n0 s0 (jm_zn G d n0 s0) Post 77 [(0, .ref a)] [] (mdH h a s)) : jm_X l G mm_Md_formula n0 s0 (jm_zn G d n0 s0) Post 22 [(1, .int 0), (0, .ref a)] [] (mdH h a s) := by
  refine jx_aload_n d_Md_formula_22 1 rfl ?_
  refine jx_get d_Md_formula_23 fF_Md_144 (md_tg hK) ((show (mdH h a s).2.2.2 a 3 = Value.int (s.1 3) from md_ri rfl).trans (congrArg Value.int hz)) ?_
  refine jx_if_ne (tgt := 77) d_Md_formula_26 (by decide) (fun c1 => absurd c1 (by decide)) (fun c1 => ?_)
  refine jx_iload_n d_Md_formula_29 0 rfl ?_
  refine jx_if_ne (tgt := 49) d_Md_formula_30 (by decide) (fun c2 => absurd c2 (by decide)) (fun c2 => ?_)
  refine jx_aload_n d_Md_formula_33 1 rfl ?_
  refine jx_get d_Md_formula_34 fF_Md_117 (md_tg hK) (show (mdH h a s).2.2.2 a 24 = Value.int (s.1 24) from md_ri rfl) ?_
  refine jx_bipush (v0 := -2) d_Md_formula_37 (by decide) ?_
  refine jx_icmp_ne (tgt := 49) d_Md_formula_39 (by decide) (fun c3 => ?_) (fun c3 => ?_)
  · exact absurd ht c3
  ·
    refine jx_aload_n d_Md_formula_42 1 rfl ?_
    refine jx_get d_Md_formula_43 fF_Md_157 (md_tg hK) ((show (mdH h a s).2.2.2 a 35 = Value.int (s.1 35) from md_ri rfl).trans (congrArg Value.int hw)) ?_
    refine jx_if_le (tgt := 77) d_Md_formula_46 (by decide) (fun c4 => ?_) (fun c4 => absurd c4 (by decide))
    exact jx_lv [1] rfl k
