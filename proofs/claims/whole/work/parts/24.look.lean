def DistF (R : Nat → CRec) (m : Nat) : Prop := ∀ p q, p < m → q < m → p ≠ q → k_f (R p) ≠ k_f (R q)
def rseen (r : CRec) (SK : Nat → Int32) (SV : Nat → Int64) : CRec := (k_a r, k_f r, k_n r, k_w r, k_k r, k_v r, k_L r, k_N r, k_ST r, k_DT r, k_NA r, SK, SV)
def rres (r : CRec) (kd : Int32) (v : Int64) : CRec := (k_a r, k_f r, k_n r, true, kd, v, k_L r, k_N r, k_ST r, k_DT r, k_NA r, k_SK r, k_SV r)
def upR (R : Nat → CRec) (p : Nat) (r : CRec) (q : Nat) : CRec := if q = p then r else R q
theorem upR_eq {R : Nat → CRec} {p : Nat} {r : CRec} : upR R p r p = r := if_pos rfl
theorem upR_ne {R : Nat → CRec} {p q : Nat} {r : CRec} (h : q ≠ p) : upR R p r q = R q := if_neg h
theorem upR_up {R : Nat → CRec} {p : Nat} {r r' : CRec} : upR (upR R p r) p r' = upR R p r' := funext fun q => by
  unfold upR
  split <;> rfl
theorem q_ix_congr {R R' : Nat → CRec} {m : Nat} {u : Int64} (h : ∀ p, p < m → k_n (R' p) = k_n (R p)) : q_ix R' m u = q_ix R m u := by
  induction m with
  | zero => rfl
  | succ m ih =>
    unfold q_ix
    rw [h m (by omega), ih fun p hp => h p (by omega)]
theorem resf_congr {R R' : Nat → CRec} {m : Nat} {u : Int64} (h : ∀ p, p < m → k_n (R' p) = k_n (R p) ∧ k_k (R' p) = k_k (R p) ∧ k_v (R' p) = k_v (R p)) : resf R' m u = resf R m u := by
  unfold resf
  rw [q_ix_congr fun p hp => (h p hp).1]
  cases e : q_ix R m u with
  | none => rfl
  | some p =>
    have := h p (q_ix_some e).1
    show (k_k (R' p), k_v (R' p)) = (k_k (R p), k_v (R p))
    rw [this.2.1, this.2.2]
theorem SortR.congr {R R' : Nat → CRec} {m : Nat} (hs : SortR R m) (h : ∀ p, p < m → k_n (R' p) = k_n (R p)) : SortR R' m := fun p q h1 h2 => by rw [h p (by omega), h q h2]; exact hs p q h1 h2
theorem DistF.congr {R R' : Nat → CRec} {m : Nat} (hs : DistF R m) (h : ∀ p, p < m → k_f (R' p) = k_f (R p)) : DistF R' m := fun p q h1 h2 h3 => by rw [h p h1, h q h2]; exact hs p q h1 h2 h3
theorem FmA.arr {h : jm_H} {f L N i : Nat} (p : FmA h f L N) (h1 : 1 ≤ i) (h2 : i ≤ 5) : ∃ t n, h.2.2.1 (f + i) = (jm_a t, n) := by
  obtain ⟨-, -, -, -, -, -, -, -, t1, t2, t3, t4, t5⟩ := p
  rcases (by omega : i = 1 ∨ i = 2 ∨ i = 3 ∨ i = 4 ∨ i = 5) with rfl | rfl | rfl | rfl | rfl
  · exact ⟨_, _, t1⟩
  · exact ⟨_, _, t2⟩
  · exact ⟨_, _, t3⟩
  · exact ⟨_, _, t4⟩
  · exact ⟨_, _, t5⟩
theorem FmA.sep {h : jm_H} {f g L N L' N' i j : Nat} (p : FmA h f L N) (q : FmA h g L' N') (hne : f ≠ g) (hi : i ≤ 5) (hj : j ≤ 5) : f + i ≠ g + j := by
  intro e
  rcases Nat.lt_trichotomy i j with h1 | h1 | h1
  · obtain ⟨t, n, ht⟩ := q.arr (i := j - i) (by omega) (by omega)
    exact jm_ne_oa p.1 ht (by omega)
  · omega
  · obtain ⟨t, n, ht⟩ := p.arr (i := i - j) (by omega) (by omega)
    exact jm_ne_oa q.1 ht (by omega)
theorem CsA.seen {h : jm_H} {b m p i : Nat} {R : Nat → CRec} {RS : Nat → Int64} {kd : Int32} {v : Int64} (hC : CsA h b m R RS) (hp : p < m) (hd : DistF R m) : CsA (jm_put (jm_put h (k_f (R p) + 4) i (.int kd)) (k_f (R p) + 5) i (.long v)) b m (upR R p (rseen (R p) (jm_up (k_SK (R p)) i kd) (jm_up (k_SV (R p)) i v))) RS := by
  obtain ⟨tb, b0, b1, b2, t1, t2, hRS, hm, hR⟩ := hC
  obtain ⟨r1, r2, r3⟩ := hR p hp
  obtain ⟨tf, -, -, -, -, -, -, -, s1, s2, s3, s4, s5⟩ := r3.1
  have e1 : b ≠ k_f (R p) + 4 := jm_ne_oa tb s4
  have e2 : b ≠ k_f (R p) + 5 := jm_ne_oa tb s5
  have e3 : b + 1 ≠ k_f (R p) + 4 := jm_ne_aa t1 s4 (by decide)
  have e4 : b + 1 ≠ k_f (R p) + 5 := jm_ne_aa t1 s5 (by decide)
  have e5 : b + 2 ≠ k_f (R p) + 4 := jm_ne_aa t2 s4 (by decide)
  have e6 : b + 2 ≠ k_f (R p) + 5 := jm_ne_k t2 s5 (by decide)
  refine ⟨tb, jm_rd_a e2 (jm_rd_a e1 b0), jm_rd_a e2 (jm_rd_a e1 b1), jm_rd_a e2 (jm_rd_a e1 b2), t1, t2, (hRS.keep e5).keep e6, hm, fun q hq => ?_⟩
  obtain ⟨q1, q2, q3⟩ := hR q hq
  have c1 : k_a (R q) ≠ k_f (R p) + 4 := jm_ne_oa q2.1 s4
  have c2 : k_a (R q) ≠ k_f (R p) + 5 := jm_ne_oa q2.1 s5
  by_cases e : q = p
  · subst e
    rw [upR_eq]
    refine ⟨jm_rd_a e4 (jm_rd_a e3 q1), ?_, ?_⟩
    · exact (q2.put c1).put c2
    · exact ⟨(q3.1.put (by omega)).put (by omega), (q3.2.1.keep (by omega)).keep (by omega), (q3.2.2.1.keep (by omega)).keep (by omega), (q3.2.2.2.1.keep (by omega)).keep (by omega), q3.2.2.2.2.1.put.keep (by omega), (q3.2.2.2.2.2.1.keep (by omega)).put, q3.2.2.2.2.2.2⟩
  · rw [upR_ne e]
    have hne := hd q p hq hp e
    have S := fun (i j : Nat) (hi : i ≤ 5) (hj : j ≤ 5) => q3.1.sep r3.1 hne hi hj
    exact ⟨jm_rd_a e4 (jm_rd_a e3 q1), (q2.put c1).put c2, (q3.put (S 0 4 (by decide) (by decide)) (S 1 4 (by decide) (by decide)) (S 2 4 (by decide) (by decide)) (S 3 4 (by decide) (by decide)) (S 4 4 (by decide) (by decide)) (S 5 4 (by decide) (by decide))).put (S 0 5 (by decide) (by decide)) (S 1 5 (by decide) (by decide)) (S 2 5 (by decide) (by decide)) (S 3 5 (by decide) (by decide)) (S 4 5 (by decide) (by decide)) (S 5 5 (by decide) (by decide))⟩
def Seen (R0 : Nat → CRec) (m p i : Nat) (R : Nat → CRec) : Prop := ∃ SK SV, R = upR R0 p (rseen (R0 p) SK SV) ∧ ∀ j, j < i → (SK j, SV j) = resf R0 m (k_NA (R0 p) j)
theorem Seen.same {R0 R : Nat → CRec} {m p i : Nat} (h : Seen R0 m p i R) : ∀ q, k_n (R q) = k_n (R0 q) ∧ k_f (R q) = k_f (R0 q) ∧ k_k (R q) = k_k (R0 q) ∧ k_v (R q) = k_v (R0 q) ∧ k_NA (R q) = k_NA (R0 q) ∧ k_N (R q) = k_N (R0 q) ∧ k_a (R q) = k_a (R0 q) := by
  obtain ⟨SK, SV, rfl, -⟩ := h
  intro q
  by_cases e : q = p
  · subst e; rw [upR_eq]; exact ⟨rfl, rfl, rfl, rfl, rfl, rfl, rfl⟩
  · rw [upR_ne e]; exact ⟨rfl, rfl, rfl, rfl, rfl, rfl, rfl⟩
theorem Seen.start {R0 : Nat → CRec} {m p : Nat} : Seen R0 m p 0 R0 := ⟨k_SK (R0 p), k_SV (R0 p), funext fun q => by
  by_cases e : q = p
  · subst e; rw [upR_eq]; rfl
  · rw [upR_ne e], fun j hj => by omega⟩
theorem Seen.step {R0 R : Nat → CRec} {m p i : Nat} {kd : Int32} {v : Int64} (h : Seen R0 m p i R) (hr : resf R m (k_NA (R p) i) = (kd, v)) : Seen R0 m p (i + 1) (upR R p (rseen (R p) (jm_up (k_SK (R p)) i kd) (jm_up (k_SV (R p)) i v))) := by
  have hs := h.same
  have e1 : resf R m (k_NA (R p) i) = resf R0 m (k_NA (R0 p) i) := by rw [resf_congr (R := R0) (R' := R) fun q hq => ⟨(hs q).1, (hs q).2.2.1, (hs q).2.2.2.1⟩, (hs p).2.2.2.2.1]
  obtain ⟨SK, SV, rfl, hj⟩ := h
  refine ⟨jm_up SK i kd, jm_up SV i v, ?_, fun j hj1 => ?_⟩
  · rw [upR_up, upR_eq]
    rfl
  · by_cases e : j = i
    · subst e
      rw [jm_up_eq, jm_up_eq, ← hr, e1]
    · rw [jm_up_ne e, jm_up_ne e]
      exact hj j (by omega)
set_option maxHeartbeats 4000000 in
set_option maxRecDepth 100000 in
theorem lp_Cs_look (l : Launch) (G : jm_G) {h0 : jm_H} {b m : Nat} {R0 : Nat → CRec} {RS : Nat → Int64} {n0 s0 d p : Nat} {Post : jm_r → jm_H → Prop} (hd : 3 ≤ d) (hs0 : SortR R0 m) (hd0 : DistF R0 m) (hp : p < m) (hN : k_N (R0 p) ≤ 40) (kk : ∀ R h, CsA h b m R RS → Seen R0 m p (k_N (R0 p)) R → jm_fr (fun x => x = k_f (R0 p) + 4 ∨ x = k_f (R0 p) + 5) h0 h → Post (.inl none) h) (t : Nat) : ∀ (i : Nat) (R : Nat → CRec) (h : jm_H), k_N (R0 p) - i < t → i ≤ k_N (R0 p) → CsA h b m R RS → Seen R0 m p i R → jm_fr (fun x => x = k_f (R0 p) + 4 ∨ x = k_f (R0 p) + 5) h0 h → jm_X l G mm_Cs_look n0 s0 (jm_zn G d n0 s0) Post 2 [(2, .int (nI i)), (0, .ref b), (1, .ref (k_f (R p)))] [] h := by
  induction t with
  | zero => intro i R h hm; omega
  | succ t ih =>
    intro i R h hm2 hiN hC hsn hfr
    obtain ⟨tb, b0, b1, b2, t1, t2, hRS, hm, hR⟩ := id hC
    have hsame := hsn.same
    have hNe := (hsame p).2.2.2.2.2.1
    have hs : SortR R m := hs0.congr fun q _ => (hsame q).1
    have hdf : DistF R m := hd0.congr fun q _ => (hsame q).2.1
    refine jx_iload_n d_Cs_look_2 0 rfl ?_
    refine jx_aload_n d_Cs_look_3 2 rfl ?_
    refine jx_get d_Cs_look_4 fF_Cs_50 (hR p hp).2.2.1.1 (hR p hp).2.2.1.2.2.2.2.2.2.2.1 ?_
    refine jx_icmp_geN (tgt := 49) (i) (k_N (R p)) d_Cs_look_7 rfl rfl (by omega) (by omega) (by decide) (fun c1 => ?_) (fun c1 => ?_)
    ·
      exact jx_vret d_Cs_look_49 rfl (kk _ _ hC ((show i = k_N (R0 p) by omega) ▸ hsn) hfr)
    ·
      refine jx_aload_n d_Cs_look_10 1 rfl ?_
      refine jx_aload_n d_Cs_look_11 2 rfl ?_
      refine jx_get d_Cs_look_12 fF_Cs_55 (hR p hp).2.2.1.1 (hR p hp).2.2.1.2.2.2.2.1 ?_
      refine jx_iload_n d_Cs_look_15 0 rfl ?_
      refine jx_lald d_Cs_look_16 (hR p hp).2.2.1.2.2.2.2.2.2.2.2.2.2.1 rfl (jm_vinN (by omega) (by decide)) (jm_atN (by omega) ((hR p hp).2.2.2.2.2.1 _ (by omega))) ?_
      cases e2 : q_ix R m (k_NA (R p) i) with
      | none =>
        have hC2 := c_Cs_find l G (d - 1) (by omega) (u := (k_NA (R p) i)) hC hs
        rw [e2] at hC2
        have hr2 : resf R m (k_NA (R p) i) = (0, 0) := by unfold resf; rw [e2]
        refine jx_callV (M2 := mm_Cs_find) rfl tb lk_Cs_58 wi_Cs_find ws_Cs_find d_Cs_look_17 hC2 cd_Cs_find rfl rfl (Nat.le_of_ble_eq_true rfl) (jm_fok (by omega)) (jm_look (by decide) (by omega)) ?_
        refine jx_astore_nN (lv' := [(3, .null), (2, .int (nI (i))), (0, .ref (b)), (1, .ref (k_f (R p)))]) d_Cs_look_20 (by decide) rfl ?_
        refine jx_aload_n d_Cs_look_21 3 rfl ?_
        refine jx_get d_Cs_look_22 fF_Cs_62 (hR p hp).2.2.1.1 (hR p hp).2.2.1.2.2.2.2.2.1 ?_
        refine jx_iload_n d_Cs_look_25 1 rfl ?_
        refine jx_aload_n d_Cs_look_26 2 rfl ?_
        refine jx_aload_nN d_Cs_look_27 0 rfl ?_
        refine jx_callV (M2 := mm_Cs_kindOf) rfl tb lk_Cs_66 wi_Cs_kindOf ws_Cs_kindOf d_Cs_look_28 (c_Cs_kindOf_n l G (d - 1)) cd_Cs_kindOf rfl rfl (Nat.le_of_ble_eq_true rfl) (jm_fok (by omega)) (jm_look (by decide) (by omega)) ?_
        refine jx_iast d_Cs_look_31 (hR p hp).2.2.1.2.2.2.2.2.2.2.2.2.2.2.1 rfl (jm_vinN (by omega) (by decide)) ?_
        rw [jm_putN (by omega)]
        refine jx_aload_n d_Cs_look_32 3 rfl ?_
        refine jx_get d_Cs_look_33 fF_Cs_70 (hR p hp).2.2.1.1 (jm_rd_a (jm_ne_oa (hR p hp).2.2.1.1 (hR p hp).2.2.1.2.2.2.2.2.2.2.2.2.2.2.1) (hR p hp).2.2.1.2.2.2.2.2.2.1) ?_
        refine jx_iload_n d_Cs_look_36 1 rfl ?_
        refine jx_aload_n d_Cs_look_37 2 rfl ?_
        refine jx_aload_nN d_Cs_look_38 0 rfl ?_
        refine jx_callV (M2 := mm_Cs_valueOf) rfl tb lk_Cs_73 wi_Cs_valueOf ws_Cs_valueOf d_Cs_look_39 (c_Cs_valueOf_n l G (d - 1)) cd_Cs_valueOf rfl rfl (Nat.le_of_ble_eq_true rfl) (jm_fok (by omega)) (jm_look (by decide) (by omega)) ?_
        refine jx_last d_Cs_look_42 (hR p hp).2.2.1.2.2.2.2.2.2.2.2.2.2.2.2 rfl (jm_vinN (by omega) (by decide)) ?_
        rw [jm_putN (by omega)]
        refine jx_iinc (v0 := nI (i + 1)) (lv' := [(2, .int (nI (i + 1))), (3, .null), (0, .ref (b)), (1, .ref (k_f (R p)))]) d_Cs_look_43 1 rfl (nI_add _ 1) (by decide) rfl ?_
        refine jx_goto (tgt := 2) d_Cs_look_46 (by decide) ?_
        refine jx_lv [0, 2, 3] rfl ?_
        have hss := hsn.step hr2
        have hz := hss.same
        have hfp := (hsn.same p).2.1
        have kx := ih (i + 1) _ _ (by omega) (by omega) (hC.seen hp hdf) hss ((hfr.put (by simp only [hfp]; exact Or.inl trivial)).put (by simp only [hfp]; exact Or.inr trivial))
        rw [(hz p).2.1, ← hfp] at kx
        exact kx
      | some p2 =>
        have hp2 := q_ix_some e2
        have hC2 := c_Cs_find l G (d - 1) (by omega) (u := (k_NA (R p) i)) hC hs
        rw [e2] at hC2
        have hr2 : resf R m (k_NA (R p) i) = (k_k (R p2), k_v (R p2)) := by unfold resf; rw [e2]
        refine jx_callV (M2 := mm_Cs_find) rfl tb lk_Cs_58 wi_Cs_find ws_Cs_find d_Cs_look_17 hC2 cd_Cs_find rfl rfl (Nat.le_of_ble_eq_true rfl) (jm_fok (by omega)) (jm_look (by decide) (by omega)) ?_
        refine jx_astore_n (lv' := [(3, .ref (k_a (R p2))), (2, .int (nI (i))), (0, .ref (b)), (1, .ref (k_f (R p)))]) d_Cs_look_20 (by decide) rfl ?_
        refine jx_aload_n d_Cs_look_21 3 rfl ?_
        refine jx_get d_Cs_look_22 fF_Cs_62 (hR p hp).2.2.1.1 (hR p hp).2.2.1.2.2.2.2.2.1 ?_
        refine jx_iload_n d_Cs_look_25 1 rfl ?_
        refine jx_aload_n d_Cs_look_26 2 rfl ?_
        refine jx_aload_n d_Cs_look_27 0 rfl ?_
        refine jx_callV (M2 := mm_Cs_kindOf) rfl tb lk_Cs_66 wi_Cs_kindOf ws_Cs_kindOf d_Cs_look_28 (c_Cs_kindOf_c l G (d - 1) (hR p2 hp2.1).2.1.1 (hR p2 hp2.1).2.1.2.2.2.2.1) cd_Cs_kindOf rfl rfl (Nat.le_of_ble_eq_true rfl) (jm_fok (by omega)) (jm_look (by decide) (by omega)) ?_
        refine jx_iast d_Cs_look_31 (hR p hp).2.2.1.2.2.2.2.2.2.2.2.2.2.2.1 rfl (jm_vinN (by omega) (by decide)) ?_
        rw [jm_putN (by omega)]
        refine jx_aload_n d_Cs_look_32 3 rfl ?_
        refine jx_get d_Cs_look_33 fF_Cs_70 (hR p hp).2.2.1.1 (jm_rd_a (jm_ne_oa (hR p hp).2.2.1.1 (hR p hp).2.2.1.2.2.2.2.2.2.2.2.2.2.2.1) (hR p hp).2.2.1.2.2.2.2.2.2.1) ?_
        refine jx_iload_n d_Cs_look_36 1 rfl ?_
        refine jx_aload_n d_Cs_look_37 2 rfl ?_
        refine jx_aload_n d_Cs_look_38 0 rfl ?_
        refine jx_callV (M2 := mm_Cs_valueOf) rfl tb lk_Cs_73 wi_Cs_valueOf ws_Cs_valueOf d_Cs_look_39 (c_Cs_valueOf_c l G (d - 1) (hR p2 hp2.1).2.1.1 (jm_rd_a (jm_ne_oa (hR p2 hp2.1).2.1.1 (hR p hp).2.2.1.2.2.2.2.2.2.2.2.2.2.2.1) (hR p2 hp2.1).2.1.2.2.2.2.2)) cd_Cs_valueOf rfl rfl (Nat.le_of_ble_eq_true rfl) (jm_fok (by omega)) (jm_look (by decide) (by omega)) ?_
        refine jx_last d_Cs_look_42 (hR p hp).2.2.1.2.2.2.2.2.2.2.2.2.2.2.2 rfl (jm_vinN (by omega) (by decide)) ?_
        rw [jm_putN (by omega)]
        refine jx_iinc (v0 := nI (i + 1)) (lv' := [(2, .int (nI (i + 1))), (3, .ref (k_a (R p2))), (0, .ref (b)), (1, .ref (k_f (R p)))]) d_Cs_look_43 1 rfl (nI_add _ 1) (by decide) rfl ?_
        refine jx_goto (tgt := 2) d_Cs_look_46 (by decide) ?_
        refine jx_lv [0, 2, 3] rfl ?_
        have hss := hsn.step hr2
        have hz := hss.same
        have hfp := (hsn.same p).2.1
        have kx := ih (i + 1) _ _ (by omega) (by omega) (hC.seen hp hdf) hss ((hfr.put (by simp only [hfp]; exact Or.inl trivial)).put (by simp only [hfp]; exact Or.inr trivial))
        rw [(hz p).2.1, ← hfp] at kx
        exact kx
set_option maxHeartbeats 4000000 in
set_option maxRecDepth 100000 in
theorem c_Cs_look (l : Launch) (G : jm_G) (d : Nat) (hd : 3 ≤ d) {h : jm_H} {b m p : Nat} {R0 : Nat → CRec} {RS : Nat → Int64} (hC : CsA h b m R0 RS) (hs : SortR R0 m) (hdf : DistF R0 m) (hp : p < m) : jm_CP l G mm_Cs_look d [.ref b, .ref (k_f (R0 p))] h (fun v h9 => v = none ∧ ∃ R, CsA h9 b m R RS ∧ Seen R0 m p (k_N (R0 p)) R ∧ jm_fr (fun x => x = k_f (R0 p) + 4 ∨ x = k_f (R0 p) + 5) h h9) := by
  obtain ⟨tb, b0, b1, b2, t1, t2, hRS, hm, hR⟩ := id hC
  have hN := (hR p hp).2.2.2.2.2.2.2.2.1
  refine jm_of (by decide) rfl (Nat.le_of_ble_eq_true rfl) ?_
  refine jx_iconst (v0 := 0) d_Cs_look_0 (by decide) ?_
  refine jx_istore_n (lv' := [(2, .int (0)), (0, .ref (b)), (1, .ref (k_f (R0 p)))]) d_Cs_look_1 (by decide) rfl ?_
  exact lp_Cs_look l G hd hs hdf hp hN (fun R h9 q1 q2 q3 => ⟨_, rfl, rfl, R, q1, q2, q3⟩) (k_N (R0 p) + 1) 0 R0 h (by omega) (by omega) hC Seen.start jm_fr.rf
