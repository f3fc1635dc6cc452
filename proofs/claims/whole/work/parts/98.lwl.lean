theorem by_15 (x : Int32) : ∃ C, C < 16 ∧ x &&& 15 = nI C := by
  refine ⟨x.toBitVec.toNat % 16, Nat.mod_lt _ (by decide), ?_⟩
  apply Int32.toBitVec_inj.mp
  apply BitVec.eq_of_toNat_eq
  show (x.toBitVec &&& 15#32).toNat = (BitVec.ofNat 32 (x.toBitVec.toNat % 16)).toNat
  rw [BitVec.toNat_and, BitVec.toNat_ofNat, BitVec.toNat_ofNat]
  have h1 := Nat.and_two_pow_sub_one_eq_mod x.toBitVec.toNat 4
  have h2 : (15 : Nat) % 2 ^ 32 = 2 ^ 4 - 1 := by decide
  rw [h2, h1]
  have : x.toBitVec.toNat % 2 ^ 4 < 2 ^ 4 := Nat.mod_lt _ (by decide)
  have e : x.toBitVec.toNat % 16 = x.toBitVec.toNat % 2 ^ 4 := rfl
  omega
theorem law_le {len i : Nat} (hlen : len ≤ 3072) (hi : i ≤ len) (h : ¬ nI len - 6 < nI i) : i + 6 ≤ len := by
  have e2 : (nI i).toInt = (i : Int) := Int32.toInt_ofNat_of_lt (by omega)
  by_cases q : 6 ≤ len
  · have e1 : nI len - 6 = nI (len - 6) := pk_sub (a := len) (b := 6) q
    have e3 : (nI (len - 6)).toInt = ((len - 6 : Nat) : Int) := Int32.toInt_ofNat_of_lt (by omega)
    rw [i32_lt, e1, e3, e2] at h
    omega
  · have e1 := (by decide +kernel : ∀ len : Fin 6, (nI len.val - 6).toInt = (len.val : Int) - 6) ⟨len, by omega⟩
    simp only at e1
    rw [i32_lt, e1, e2] at h
    omega
set_option maxHeartbeats 4000000 in
set_option maxRecDepth 100000 in
theorem lp_law {l : Launch} {G : jm_G} {d n0 s0 : Nat} {Post : jm_r → jm_H → Prop} {sc len : Nat} {S : Nat → Int32} {x z0 : Nat} (hl : l.stackTraces = false) (hd : 96 ≤ d) (hsb : sc < G.2.2) (hlen : len ≤ 3072) (ke : ∀ j h, j ≤ 512 → LI sc len S x j z0 h → Post (.inl (some (.int 1))) h) (t : Nat) : ∀ (i j : Nat) (h : jm_H), len - i < t → i = 6 * j → i ≤ len → LI sc len S x j z0 h → jm_X l G mm_Lw_law n0 s0 (jm_zn G d n0 s0) Post 23 [(4, .int (nI i)), (3, .ref (x + 47)), (2, .ref (x + 18)), (1, .ref x), (0, .ref sc)] [] h := by
  induction t with
  | zero => intro i j h h1; omega
  | succ t ih =>
    intro i j h ht hij hil hL
    refine jx_iload d_Lw_law_23 0 rfl ?_
    refine jx_aload_n d_Lw_law_25 4 rfl ?_
    refine jx_slen (v0 := nI len) d_Lw_law_26 hsb hL.1.1 rfl ?_
    refine jx_bipush (v0 := 6) d_Lw_law_27 (by decide) ?_
    refine jx_isub d_Lw_law_29 ?_
    refine jx_icmp_gt (tgt := 667) d_Lw_law_30 (by decide) (fun c => ?_) (fun c => ?_)
    · refine jx_iconst (v0 := 1) d_Lw_law_667 (by decide) ?_
      exact jx_zret d_Lw_law_668 rfl (by first | rfl | decide) (ke j h (by omega) hL)
    · have hi6 := law_le hlen hil c
      refine jx_aload_n d_Lw_law_33 4 rfl ?_
      refine jx_iload d_Lw_law_34 0 rfl ?_
      refine jx_sald d_Lw_law_36 hsb hL.1.1 (jm_vinN (n := i) (show i < len by omega) (show len < 2 ^ 31 by omega)) (jm_atN (n := i) (show i < 2 ^ 31 by omega) (hL.1.2.1 i (by omega))) ?_
      refine jx_bipush (v0 := 15) d_Lw_law_37 (by decide) ?_
      refine jx_iand d_Lw_law_39 ?_
      have nxt : ∀ h2, LI sc len S x (j + 1) z0 h2 → jm_X l G mm_Lw_law n0 s0 (jm_zn G d n0 s0) Post 661 [(4, .int (nI i)), (3, .ref (x + 47)), (2, .ref (x + 18)), (1, .ref x), (0, .ref sc)] [] h2 := fun h2 hL2 => by
        refine jx_iinc (v0 := nI (i + 6)) (lv' := [(4, .int (nI (i + 6))), (3, .ref (x + 47)), (2, .ref (x + 18)), (1, .ref x), (0, .ref sc)]) d_Lw_law_661 0 rfl (nI_add _ 6) (by decide) rfl ?_
        refine jx_goto (tgt := 23) d_Lw_law_664 (by decide) ?_
        exact ih (i + 6) (j + 1) h2 (by omega) (by omega) (by omega) hL2
      obtain ⟨C, hC, eC⟩ := by_15 (S i)
      refine jx_ati eC ?_
      clear eC
      match C, hC with
      | 0, _ =>
        refine jx_tableIn (x := nI 0) (tgt := 104) d_Lw_law_40 (by decide) (by decide) rfl (by decide) ?_
        exact lc_feed hl hd hsb hL hi6 hlen nxt
      | 1, _ =>
        refine jx_tableIn (x := nI 1) (tgt := 208) d_Lw_law_40 (by decide) (by decide) rfl (by decide) ?_
        exact lc_end hl hd hsb hL hi6 hlen nxt
      | 2, _ =>
        refine jx_tableIn (x := nI 2) (tgt := 244) d_Lw_law_40 (by decide) (by decide) rfl (by decide) ?_
        exact lc_define hl hd hsb hL hi6 hlen nxt
      | 3, _ =>
        refine jx_tableIn (x := nI 3) (tgt := 257) d_Lw_law_40 (by decide) (by decide) rfl (by decide) ?_
        exact lc_fault hl hd hsb hL hi6 hlen nxt
      | 4, _ =>
        refine jx_tableIn (x := nI 4) (tgt := 270) d_Lw_law_40 (by decide) (by decide) rfl (by decide) ?_
        exact lc_remove hl hd hsb hL hi6 hlen nxt
      | 5, _ =>
        refine jx_tableIn (x := nI 5) (tgt := 321) d_Lw_law_40 (by decide) (by decide) rfl (by decide) ?_
        exact lc_build hl hd hsb hL hi6 hlen nxt
      | 6, _ =>
        refine jx_tableIn (x := nI 6) (tgt := 365) d_Lw_law_40 (by decide) (by decide) rfl (by decide) ?_
        exact lc_buildAll hl hd hsb hL hi6 hlen nxt
      | 7, _ =>
        refine jx_tableIn (x := nI 7) (tgt := 378) d_Lw_law_40 (by decide) (by decide) rfl (by decide) ?_
        exact lc_value hl hd hsb hL hi6 hlen nxt
      | 8, _ =>
        refine jx_tableIn (x := nI 8) (tgt := 421) d_Lw_law_40 (by decide) (by decide) rfl (by decide) ?_
        exact lc_state hl hd hsb hL hi6 hlen nxt
      | 9, _ =>
        refine jx_tableIn (x := nI 9) (tgt := 465) d_Lw_law_40 (by decide) (by decide) rfl (by decide) ?_
        exact lc_readers hl hd hsb hL hi6 hlen nxt
      | 10, _ =>
        refine jx_tableIn (x := nI 10) (tgt := 537) d_Lw_law_40 (by decide) (by decide) rfl (by decide) ?_
        exact lc_built hl hd hsb hL hi6 hlen nxt
      | 11, _ =>
        refine jx_tableIn (x := nI 11) (tgt := 605) d_Lw_law_40 (by decide) (by decide) rfl (by decide) ?_
        exact lc_count hl hd hsb hL hi6 hlen nxt
      | 12, _ =>
        refine jx_tableOut (x := nI 12) (tgt := 661) d_Lw_law_40 (by decide) (by decide) ?_
        exact nxt h hL.up
      | 13, _ =>
        refine jx_tableOut (x := nI 13) (tgt := 661) d_Lw_law_40 (by decide) (by decide) ?_
        exact nxt h hL.up
      | 14, _ =>
        refine jx_tableOut (x := nI 14) (tgt := 661) d_Lw_law_40 (by decide) (by decide) ?_
        exact nxt h hL.up
      | 15, _ =>
        refine jx_tableOut (x := nI 15) (tgt := 661) d_Lw_law_40 (by decide) (by decide) ?_
        exact nxt h hL.up
      | C + 16, hC => exact absurd hC (by omega)
theorem eqs_0 (R : Nat → CRec) (T : Nat → Term) : EqS 0 (fun _ => 0) 0 0 R T 0 0 (fun _ => 0) s_0 (fun _ => 0) := by
  refine ⟨⟨rfl, by omega, fun i hi => by omega⟩, rfl, rfl, rfl, fun i hi => by omega, fun c hc => ⟨rfl, Nat.zero_le 40⟩, fun p hp => by omega, fun c hc ht => ?_, fun i j hi hj ti tj h => ?_⟩
  · cases ht
  · cases ti
set_option maxHeartbeats 4000000 in
set_option maxRecDepth 100000 in
theorem x_Lw_law (l : Launch) (G : jm_G) (d : Nat) (hl : l.stackTraces = false) (hd : 96 ≤ d) {h : jm_H} {sc len : Nat} {S : Nat → Int32} (hsb : sc < G.2.2) (hsc : sc < h.1) (ts : h.2.2.1 sc = (0, len + 1)) (hS : arI h sc len S) (hlen : len ≤ 3072) : jm_X l G mm_Lw_law h.1 h.2.1 (jm_zn G d h.1 h.2.1) (fun r h9 => ∃ v, r = .inl v ∧ v = some (.int 1) ∧ h9.1 ≤ h.1 + 3632 ∧ h9.2.1 ≤ h.2.1 + 173301) 0 (lv_args 0 [.ref sc]) [] h := by
  obtain ⟨x, hx⟩ : ∃ x, h.1 = x := ⟨_, rfl⟩
  refine jx_newG (c := 0) (a := x) hx d_Lw_law_0 rfl jl_CW jt_CW_ok lk_Lw_8 wk_CW wn_CW fun n1 w1 => ?_
  refine jx_dup d_Lw_law_3 rfl ?_
  obtain ⟨u1, g1, hC1, rfl, z1, s1, b1, r1⟩ := c_CW_init l G (d - 1) (by omega) (h := n1) (x := x) w1.1 w1.2.2.1
  refine jx_callI (M2 := mm_CW_init) rfl rfl lk_Lw_52 wi_CW_init d_Lw_law_4 hC1 cd_CW_init rfl rfl (Nat.le_of_ble_eq_true rfl) (jm_fok (by omega)) (jm_look (by decide) (by omega)) ?_
  refine jx_astore_n (lv' := [(1, .ref x), (0, .ref sc)]) d_Lw_law_7 (by decide) rfl ?_
  refine jx_newG (c := 8) (a := x + 18) z1 d_Lw_law_8 rfl jl_Md jt_Md_ok lk_Lw_53 wk_Md wn_Md fun n2 w2 => ?_
  refine jx_dup d_Lw_law_11 rfl ?_
  obtain ⟨u2, g2, hC2, rfl, z2, s2, b2, k2, e2⟩ := c_Md_init l G (d - 1) (by omega) (h := n2) (a := x + 18) w2.1 w2.2.2.1 (fun k => w2.2.2.2.1 k)
  refine jx_callI (M2 := mm_Md_init) rfl rfl lk_Lw_55 wi_Md_init d_Lw_law_12 hC2 cd_Md_init rfl rfl (Nat.le_of_ble_eq_true rfl) (jm_fok (by omega)) (jm_look (by decide) (by omega)) ?_
  refine jx_astore_n (lv' := [(2, .ref (x + 18)), (1, .ref x), (0, .ref sc)]) d_Lw_law_15 (by decide) rfl ?_
  refine jx_iconst (v0 := 1) d_Lw_law_16 (by decide) ?_
  refine jx_newaG (t := 2) (N := 1) (a := x + 47) (show g2.1 = x + 47 by omega) d_Lw_law_17 (by decide) rfl (by intro C0 h; cases h) wa_long (by decide) (by decide) (by decide) fun n3 w3 => ?_
  refine jx_astore_n (lv' := [(3, .ref (x + 47)), (2, .ref (x + 18)), (1, .ref x), (0, .ref sc)]) d_Lw_law_19 (by decide) rfl ?_
  refine jx_iconst (v0 := 0) d_Lw_law_20 (by decide) ?_
  refine jx_ati (show (0 : Int32) = nI 0 from rfl) ?_
  refine jx_istore (lv' := [(4, .int (nI 0)), (3, .ref (x + 47)), (2, .ref (x + 18)), (1, .ref x), (0, .ref sc)]) d_Lw_law_21 (by decide) rfl ?_
  have q1 : ∀ b, b < x → n1.2.2.1 b = h.2.2.1 b ∧ ∀ j, n1.2.2.2 b j = h.2.2.2 b j := fun b hb => w1.2.2.2.2 b (by omega)
  have q2 : ∀ b, b < x + 18 → n2.2.2.1 b = g1.2.2.1 b ∧ ∀ j, n2.2.2.2 b j = g1.2.2.2 b j := fun b hb => w2.2.2.2.2 b (by omega)
  have q3 : ∀ b, b < x + 47 → n3.2.2.1 b = g2.2.2.1 b ∧ ∀ j, n3.2.2.2 b j = g2.2.2.2 b j := fun b hb => w3.2.2.2.2 b (by omega)
  have q4 : ∀ b, b < x + 18 → n3.2.2.1 b = g1.2.2.1 b ∧ ∀ j, n3.2.2.2 b j = g1.2.2.2 b j := fun b hb => ⟨(q3 b (by omega)).1.trans ((b2 b hb).1.trans (q2 b hb).1), fun j => ((q3 b (by omega)).2 j).trans (((b2 b hb).2 j).trans ((q2 b hb).2 j))⟩
  have q5 : ∀ b, b < x → n3.2.2.1 b = h.2.2.1 b ∧ ∀ j, n3.2.2.2 b j = h.2.2.2 b j := fun b hb => ⟨(q4 b (by omega)).1.trans ((b1 b hb).1.trans (q1 b hb).1), fun j => ((q4 b (by omega)).2 j).trans (((b1 b hb).2 j).trans ((q1 b hb).2 j))⟩
  have y1 := w1.2.1
  have y2 := w2.2.1
  have y3 := w3.2.1
  have y4 := w3.1
  have hCW : CW0 n3 x := r1.ag fun b hb => q4 b hb.2
  have hMI : MdI n3 (x + 18) s_0 := MdI.ag ⟨k2, e2⟩ fun b hb => q3 b (by omega)
  have hI := hCW.to (fun _ => newRec 0 0 0 0 0 0 0 (fun _ => 0) (fun _ => 0) (fun _ => 0) (fun _ => 0) (fun _ => 0)) (fun _ => .null) (Y := x + 48) (by omega) (by omega)
  have hL : LI sc len S x 0 (h.2.1 + 23797) n3 := ⟨⟨(q5 sc (by omega)).1.trans ts, fun j hj => ((q5 sc (by omega)).2 j).trans (hS j hj), by omega, w3.2.2.1, by omega, 0, w3.2.2.2.1 0⟩, ⟨s_0, fun _ => 0, 0, fun _ => 0, 0, 0, 0, _, _, 0, 0, fun _ => 0, hMI, hI, eqs_0 _ _⟩, by omega, by omega⟩
  refine lp_law hl hd hsb hlen (fun j h9 hj hL9 => ⟨_, rfl, rfl, ?_, ?_⟩) (len + 1) 0 0 n3 (by omega) rfl (by omega) hL
  · have := hL9.2.2.1
    omega
  · have := hL9.2.2.2
    omega
