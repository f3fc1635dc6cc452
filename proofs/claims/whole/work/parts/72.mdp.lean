/-! workOut of the reference -/
def zz (s1 : MS) (c : Nat) (kv : Int32 × Int64) : MS := maz (mal (mai s1 4 c kv.1) 5 c kv.2) 6 c true
def SeeI (z s : MS) (c i : Nat) : Prop := s.1 = z.1 ∧ s.2.1 = z.2.1 ∧ (∀ j, j ≠ 14 → s.2.2.1 j = z.2.2.1 j) ∧ (∀ j, j ≠ 15 → s.2.2.2.1 j = z.2.2.2.1 j) ∧ s.2.2.2.2 = z.2.2.2.2 ∧ (∀ q, q < 40 * c ∨ 40 * c + i ≤ q → s.2.2.1 14 q = z.2.2.1 14 q ∧ s.2.2.2.1 15 q = z.2.2.2.1 15 q) ∧ ∀ k, k < i → z.2.2.1 9 (40 * c + k) = 1 → (s.2.2.1 14 (40 * c + k), s.2.2.2.1 15 (40 * c + k)) = m_res z (z.2.2.2.1 13 (40 * c + k))
theorem SeeI.res {z s : MS} {c i : Nat} (h : SeeI z s c i) (u : Int64) : m_res s u = m_res z u := m_res_k (by rw [h.2.2.2.2.1]) (h.2.2.2.1 3 (by decide)) (h.2.2.1 4 (by decide)) (h.2.2.2.1 5 (by decide)) u
theorem SeeI.step {z s : MS} {c i : Nat} (h : SeeI z s c i) : SeeI z (m_see s (40 * c + i)) c (i + 1) := by
  have hr := h.res
  obtain ⟨h1, h2, h3, h4, h5, h6, h7⟩ := h
  have e9 := h3 9 (by decide)
  have e13 := h4 13 (by decide)
  refine ⟨h1, h2, fun j hj => ?_, fun j hj => ?_, h5, fun q hq => ?_, fun k hk h9 => ?_⟩
  · rw [← h3 j hj]
    simp [m_see, mai, mal, jm_up, hj]
  · rw [← h4 j hj]
    simp [m_see, mai, mal, jm_up, hj]
  · have hne : q ≠ 40 * c + i := by omega
    rw [← (h6 q (by omega)).1, ← (h6 q (by omega)).2]
    exact ⟨by simp [m_see, mai, mal, jm_up, hne], by simp [m_see, mai, mal, jm_up, hne]⟩
  · by_cases e : k = i
    · subst e
      have q1 : (m_see s (40 * c + k)).2.2.1 14 (40 * c + k) = if s.2.2.1 9 (40 * c + k) = 1 then (m_res s (s.2.2.2.1 13 (40 * c + k))).1 else 0 := by simp [m_see, mai, mal, jm_up]
      have q2 : (m_see s (40 * c + k)).2.2.2.1 15 (40 * c + k) = if s.2.2.1 9 (40 * c + k) = 1 then (m_res s (s.2.2.2.1 13 (40 * c + k))).2 else 0 := by simp [m_see, mai, mal, jm_up]
      rw [q1, q2, e9, e13, if_pos h9, if_pos h9, hr]
    · have hne : 40 * c + k ≠ 40 * c + i := by omega
      rw [← h7 k (by omega) h9]
      exact Prod.ext (by simp [m_see, mai, mal, jm_up, e]) (by simp [m_see, mai, mal, jm_up, e])
/-- u is put into the first ls of F, which stand in their order -/
def InsO (F F' : Nat → Int64) (ls : Nat) (u : Int64) : Prop := ∃ k, k ≤ ls ∧ (∀ j, j < k → F' j = F j) ∧ F' k = u ∧ (∀ j, k < j → j ≤ ls → F' j = F (j - 1)) ∧ (∀ j, k ≤ j → j < ls → u < F j) ∧ (k = 0 ∨ F (k - 1) ≤ u)
def InsI (z s : MS) (F : Nat → Int64) (ls k : Nat) (u : Int64) : Prop := s.1 = z.1 ∧ s.2.1 = z.2.1 ∧ s.2.2.1 = z.2.2.1 ∧ (∀ j, j ≠ 16 → s.2.2.2.1 j = z.2.2.2.1 j) ∧ s.2.2.2.2 = z.2.2.2.2 ∧ (∀ j, j < k → s.2.2.2.1 16 j = F j) ∧ (∀ j, k < j → j ≤ ls → s.2.2.2.1 16 j = F (j - 1)) ∧ ∀ j, k ≤ j → j < ls → u < F j
/-- what workOut leaves -/
def WoP (N : Nat → Nat) (t : Term) (z s' : MS) (c ls : Nat) : Prop :=
  (∀ k, k ≠ 19 → k ≠ 21 → k ≠ 39 → k ≠ 43 → s'.1 k = z.1 k) ∧ s'.1 19 = z.1 19 + 1 ∧ s'.1 21 = nI (ls + 1) ∧ (∀ k, k ≠ 44 → s'.2.1 k = z.2.1 k) ∧
  (∀ j, j ≠ 4 → j ≠ 14 → j ≠ 26 → j ≠ 27 → s'.2.2.1 j = z.2.2.1 j) ∧ s'.2.2.1 4 = jm_up (z.2.2.1 4) c (ev (m_res z) t).1 ∧ (∀ j, j ≠ 5 → j ≠ 15 → j ≠ 16 → j ≠ 28 → s'.2.2.2.1 j = z.2.2.2.1 j) ∧ s'.2.2.2.1 5 = jm_up (z.2.2.2.1 5) c (ev (m_res z) t).2 ∧
  (∀ j, j ≠ 6 → s'.2.2.2.2 j = z.2.2.2.2 j) ∧ s'.2.2.2.2 6 = jm_up (z.2.2.2.2 6) c true ∧ (∀ q, q < 40 * c ∨ 40 * c + N c ≤ q → s'.2.2.1 14 q = z.2.2.1 14 q ∧ s'.2.2.2.1 15 q = z.2.2.2.1 15 q) ∧
  (∀ k, k < N c → z.2.2.1 9 (40 * c + k) = 1 → (s'.2.2.1 14 (40 * c + k), s'.2.2.2.1 15 (40 * c + k)) = m_res z (z.2.2.2.1 13 (40 * c + k))) ∧ InsO (z.2.2.2.1 16) (s'.2.2.2.1 16) ls (nM z c)
/-- a name's result hangs on its own cell alone -/
theorem m_res_up {z s1 : MS} {c : Nat} {kv : Int32 × Int64} (h2 : s1.2.2.2.2 2 = z.2.2.2.2 2) (h3 : s1.2.2.2.1 3 = z.2.2.2.1 3) (h4 : s1.2.2.1 4 = jm_up (z.2.2.1 4) c kv.1) (h5 : s1.2.2.2.1 5 = jm_up (z.2.2.2.1 5) c kv.2) {u : Int64} (hu : u ≠ nM z c) : m_res s1 u = m_res z u := by
  unfold m_res
  rw [m_cell_k h2 h3, h4, h5]
  cases e : m_cell z u with
  | none => rfl
  | some c' =>
    have hne : c' ≠ c := fun q => hu (by rw [← q]; exact (m_cell_s e).2.2.symm)
    show (jm_up (z.2.2.1 4) c kv.1 c', if jm_up (z.2.2.1 4) c kv.1 c' = 1 then jm_up (z.2.2.2.1 5) c kv.2 c' else 0) = _
    rw [jm_up_ne hne, jm_up_ne hne]
section WOU
variable {l : Launch} {G : jm_G} {n0 s0 d : Nat} {Post : jm_r → jm_H → Prop} {h : jm_H} {a c : Nat} {N : Nat → Nat}
theorem wl_see (hd : 2 ≤ d) (hK : MdK h a) (hc : c < 64) {z : MS} {x : Int64} (hN : NcOK z N) (kk : ∀ s, SeeI z s c (N c) → jm_X l G mm_Md_workOut n0 s0 (jm_zn G d n0 s0) Post 151 [(0, .ref a), (1, .int (nI c))] [] (mdH h a s)) (t : Nat) : ∀ (i : Nat) (s : MS), N c - i < t → i ≤ N c → SeeI z s c i → jm_X l G mm_Md_workOut n0 s0 (jm_zn G d n0 s0) Post 63 [(4, .int (nI (40 * c + i))), (2, .long (x)), (0, .ref (a)), (1, .int (nI (c)))] [] (mdH h a s) := by
  induction t with
  | zero => intro i s hm; omega
  | succ t ih =>
    intro i s hm hi hS
    have hNs : NcOK s N := fun c' hc' => by rw [hS.2.2.1 8 (by decide)]; exact hN c' hc'
    by_cases e : i = N c
    · subst e
      exact we_Md_workOut l G hK hNs hc (kk s hS)
    · by_cases c9 : s.2.2.1 9 (40 * c + i) = 1
      · exact wq_Md_workOut1 l G hd hK hNs hc (by omega) c9 (ih (i + 1) _ (by omega) (by omega) hS.step)
      · exact wq_Md_workOut0 l G hd hK hNs hc (by omega) c9 (ih (i + 1) _ (by omega) (by omega) hS.step)
theorem wl_ins (hK : MdK h a) (hc : c < 64) {z : MS} {ls : Nat} (hls : z.1 21 = nI ls) (h63 : ls < 64) {F : Nat → Int64} {u : Int64} (hu : z.2.2.2.1 3 c = u) (kk : ∀ s', (∀ k, k ≠ 21 → s'.1 k = z.1 k) → s'.1 21 = nI (ls + 1) → s'.2.1 = z.2.1 → s'.2.2.1 = z.2.2.1 → (∀ j, j ≠ 16 → s'.2.2.2.1 j = z.2.2.2.1 j) → s'.2.2.2.2 = z.2.2.2.2 → InsO F (s'.2.2.2.1 16) ls u → Post (.inl none) (mdH h a s')) (k : Nat) : ∀ (s : MS), k ≤ ls → InsI z s F ls k u → jm_X l G mm_Md_workOut n0 s0 (jm_zn G d n0 s0) Post 167 [(4, .int (nI (k))), (0, .ref a), (1, .int (nI c))] [] (mdH h a s) := by
  induction k with
  | zero =>
    intro s hk hI
    obtain ⟨h1, h2, h3, h4, h5, h6, h7, h8⟩ := hI
    refine wf_Md_workOut0 l G hK hc (ls := ls) (by rw [h1]; exact hls) ?_
    have e3 := h4 3 (by decide)
    refine kk _ (fun k hk => ?_) rfl h2 h3 (fun j hj => ?_) h5 ⟨0, Nat.zero_le _, fun j hj => by omega, ?_, fun j g1 g2 => ?_, h8, Or.inl rfl⟩
    · rw [← h1]; simp [mi, mal, jm_up, hk]
    · rw [← h4 j hj]; simp [mi, mal, jm_up, hj]
    · rw [← hu, ← e3]; simp [mi, mal, jm_up]
    · rw [← h7 j g1 g2]; simp [mi, mal, jm_up, show j ≠ 0 by omega]
  | succ k ih =>
    intro s hk hI
    obtain ⟨h1, h2, h3, h4, h5, h6, h7, h8⟩ := id hI
    have e3 := h4 3 (by decide)
    have ek := h6 k (by omega)
    by_cases q : u < F k
    · refine wj_Md_workOut l G hK hc (by omega) (by rw [e3, hu, ek]; exact q) (ih _ (by omega) ⟨h1, h2, h3, fun j hj => ?_, h5, fun j hj => ?_, fun j g1 g2 => ?_, fun j g1 g2 => ?_⟩)
      · rw [← h4 j hj]; simp [mal, jm_up, hj]
      · rw [← h6 j (by omega)]; simp [mal, jm_up, show j ≠ k + 1 by omega]
      · by_cases e : j = k + 1
        · subst e
          rw [Nat.add_sub_cancel, ← ek]
          simp [mal, jm_up]
        · rw [← h7 j (by omega) g2]; simp [mal, jm_up, e]
      · by_cases e : j = k
        · rw [e]; exact q
        · exact h8 j (by omega) g2
    · refine wf_Md_workOut1 l G hK hc (ls := ls) (by rw [h1]; exact hls) (by omega) (by rw [e3, hu, ek]; exact Int64.not_lt.mp q) ?_
      refine kk _ (fun k hk => ?_) rfl h2 h3 (fun j hj => ?_) h5 ⟨k + 1, hk, fun j hj => ?_, ?_, fun j g1 g2 => ?_, h8, Or.inr ?_⟩
      · rw [← h1]; simp [mi, mal, jm_up, hk]
      · rw [← h4 j hj]; simp [mi, mal, jm_up, hj]
      · rw [← h6 j hj]; simp [mi, mal, jm_up, show j ≠ k + 1 by omega]
      · rw [← hu, ← e3]; simp [mi, mal, jm_up]
      · rw [← h7 j g1 g2]; simp [mi, mal, jm_up, show j ≠ k + 1 by omega]
      · rw [Nat.add_sub_cancel]; exact Int64.not_lt.mp q
end WOU
set_option maxHeartbeats 4000000 in
set_option maxRecDepth 100000 in
theorem wh_Md_workOut0 (l : Launch) (G : jm_G) {h : jm_H} {a : Nat} {s : MS} {s1 : MS} {c : Nat} {x : Int64} {n0 s0 d : Nat} {Post : jm_r → jm_H → Prop} (hd : 1 ≤ d) (hK : MdK h a) (hc : c < 64) (hC1 : jm_C l G mm_Md_work (d - 1) [.ref a, .int (nI c)] (mdH h a (mi s 39 0)) (some (.long x)) (mdH h a s1)) (he1 : s1.1 39 = 0) (kk : jm_X l G mm_Md_workOut n0 s0 (jm_zn G d n0 s0) Post 63 [(4, .int (nI (40 * c))), (2, .long (x)), (0, .ref (a)), (1, .int (nI (c)))] [] (mdH h a (zz s1 c (1, x)))) : jm_X l G mm_Md_workOut n0 s0 (jm_zn G d n0 s0) Post 0 [(0, .ref a), (1, .int (nI c))] [] (mdH h a s) := by
  refine jx_aload_n d_Md_workOut_0 0 rfl ?_
  refine jx_iconst (v0 := 0) d_Md_workOut_1 (by decide) ?_
  refine jx_put (v0 := .int (0)) d_Md_workOut_2 fF_Md_231 jv_Md ft_Md_error (md_tg hK) rfl rfl ?_
  refine jx_ath (md_wi (k := 39) rfl) ?_
  refine jx_aload_n d_Md_workOut_5 0 rfl ?_
  refine jx_iload_n d_Md_workOut_6 1 rfl ?_
  refine jx_callV (M2 := mm_Md_work) rfl (md_tg hK) lk_Md_250 wi_Md_work ws_Md_work d_Md_workOut_7 hC1 cd_Md_work rfl rfl (Nat.le_of_ble_eq_true rfl) (jm_fok (by omega)) (jm_look (by decide) (by omega)) ?_
  refine jx_lstore_n (lv' := [(2, .long (x)), (0, .ref (a)), (1, .int (nI (c)))]) d_Md_workOut_10 (by decide) rfl ?_
  refine jx_aload_n d_Md_workOut_11 1 rfl ?_
  refine jx_get d_Md_workOut_12 fF_Md_21 (md_tg hK) (md_rr hK (k := 7) (j := 4) rfl rfl rfl) ?_
  refine jx_iload_n d_Md_workOut_15 2 rfl ?_
  refine jx_aload_n d_Md_workOut_16 1 rfl ?_
  refine jx_get d_Md_workOut_17 fF_Md_231 (md_tg hK) ((show (mdH h a s1).2.2.2 a 39 = Value.int (s1.1 39) from md_ri rfl).trans (congrArg Value.int he1)) ?_
  refine jx_if_le (tgt := 30) d_Md_workOut_20 (by decide) (fun c1 => ?_) (fun c1 => absurd c1 (by decide))
  refine jx_iconst (v0 := 1) d_Md_workOut_30 (by decide) ?_
  refine jx_iast d_Md_workOut_31 (md_ta hK (j := 4) rfl) rfl (jm_vinN (show c < 64 by omega) (by decide)) ?_
  refine jx_ath ((jm_putN (show c < 2 ^ 31 by omega)).trans (md_wai (j := 4) (show c < 64 by omega))) ?_
  refine jx_aload_n d_Md_workOut_32 1 rfl ?_
  refine jx_get d_Md_workOut_33 fF_Md_24 (md_tg hK) (md_rr hK (k := 8) (j := 5) rfl rfl rfl) ?_
  refine jx_iload_n d_Md_workOut_36 2 rfl ?_
  refine jx_aload_n d_Md_workOut_37 1 rfl ?_
  refine jx_get d_Md_workOut_38 fF_Md_231 (md_tg hK) ((show (mdH h a (mai s1 4 c 1)).2.2.2 a 39 = Value.int (s1.1 39) from md_ri rfl).trans (congrArg Value.int he1)) ?_
  refine jx_if_le (tgt := 48) d_Md_workOut_41 (by decide) (fun c2 => ?_) (fun c2 => absurd c2 (by decide))
  refine jx_lload_n d_Md_workOut_48 0 rfl ?_
  refine jx_last d_Md_workOut_49 (md_ta hK (j := 5) rfl) rfl (jm_vinN (show c < 64 by omega) (by decide)) ?_
  refine jx_ath ((jm_putN (show c < 2 ^ 31 by omega)).trans (md_wal (j := 5) (show c < 64 by omega))) ?_
  refine jx_aload_n d_Md_workOut_50 1 rfl ?_
  refine jx_get d_Md_workOut_51 fF_Md_27 (md_tg hK) (md_rr hK (k := 9) (j := 6) rfl rfl rfl) ?_
  refine jx_iload_n d_Md_workOut_54 2 rfl ?_
  refine jx_iconst (v0 := 1) d_Md_workOut_55 (by decide) ?_
  refine jx_zast d_Md_workOut_56 (md_ta hK (j := 6) rfl) rfl (jm_vinN (show c < 64 by omega) (by decide)) ?_
  refine jx_ath ((jm_putN (show c < 2 ^ 31 by omega)).trans (show jm_put (mdH h a (mal (mai s1 4 c 1) 5 c x)) (a + 6) c (narrow .boolean (.int 1)) = mdH h a (maz (mal (mai s1 4 c 1) 5 c x) 6 c true) from md_waz (j := 6) (v := true) (show c < 64 by omega))) ?_
  refine jx_bipush (v0 := 40) d_Md_workOut_57 (by decide) ?_
  refine jx_iload_n d_Md_workOut_59 2 rfl ?_
  refine jx_imul d_Md_workOut_60 ?_
  refine jx_ati (pk_mul (40) (c)) ?_
  refine jx_istore (lv' := [(4, .int (nI ((40) * (c)))), (2, .long (x)), (0, .ref (a)), (1, .int (nI (c)))]) d_Md_workOut_61 (by decide) rfl ?_
  exact kk
set_option maxHeartbeats 4000000 in
set_option maxRecDepth 100000 in
theorem wh_Md_workOut2 (l : Launch) (G : jm_G) {h : jm_H} {a : Nat} {s : MS} {s1 : MS} {c : Nat} {x : Int64} {n0 s0 d : Nat} {Post : jm_r → jm_H → Prop} (hd : 1 ≤ d) (hK : MdK h a) (hc : c < 64) (hC1 : jm_C l G mm_Md_work (d - 1) [.ref a, .int (nI c)] (mdH h a (mi s 39 0)) (some (.long x)) (mdH h a s1)) (he1 : s1.1 39 = 2) (kk : jm_X l G mm_Md_workOut n0 s0 (jm_zn G d n0 s0) Post 63 [(4, .int (nI (40 * c))), (2, .long (x)), (0, .ref (a)), (1, .int (nI (c)))] [] (mdH h a (zz s1 c (2, 0)))) : jm_X l G mm_Md_workOut n0 s0 (jm_zn G d n0 s0) Post 0 [(0, .ref a), (1, .int (nI c))] [] (mdH h a s) := by
  refine jx_aload_n d_Md_workOut_0 0 rfl ?_
  refine jx_iconst (v0 := 0) d_Md_workOut_1 (by decide) ?_
  refine jx_put (v0 := .int (0)) d_Md_workOut_2 fF_Md_231 jv_Md ft_Md_error (md_tg hK) rfl rfl ?_
  refine jx_ath (md_wi (k := 39) rfl) ?_
  refine jx_aload_n d_Md_workOut_5 0 rfl ?_
  refine jx_iload_n d_Md_workOut_6 1 rfl ?_
  refine jx_callV (M2 := mm_Md_work) rfl (md_tg hK) lk_Md_250 wi_Md_work ws_Md_work d_Md_workOut_7 hC1 cd_Md_work rfl rfl (Nat.le_of_ble_eq_true rfl) (jm_fok (by omega)) (jm_look (by decide) (by omega)) ?_
  refine jx_lstore_n (lv' := [(2, .long (x)), (0, .ref (a)), (1, .int (nI (c)))]) d_Md_workOut_10 (by decide) rfl ?_
  refine jx_aload_n d_Md_workOut_11 1 rfl ?_
  refine jx_get d_Md_workOut_12 fF_Md_21 (md_tg hK) (md_rr hK (k := 7) (j := 4) rfl rfl rfl) ?_
  refine jx_iload_n d_Md_workOut_15 2 rfl ?_
  refine jx_aload_n d_Md_workOut_16 1 rfl ?_
  refine jx_get d_Md_workOut_17 fF_Md_231 (md_tg hK) ((show (mdH h a s1).2.2.2 a 39 = Value.int (s1.1 39) from md_ri rfl).trans (congrArg Value.int he1)) ?_
  refine jx_if_le (tgt := 30) d_Md_workOut_20 (by decide) (fun c1 => absurd c1 (by decide)) (fun c1 => ?_)
  refine jx_aload_n d_Md_workOut_23 1 rfl ?_
  refine jx_get d_Md_workOut_24 fF_Md_231 (md_tg hK) ((show (mdH h a s1).2.2.2 a 39 = Value.int (s1.1 39) from md_ri rfl).trans (congrArg Value.int he1)) ?_
  refine jx_goto (tgt := 31) d_Md_workOut_27 (by decide) ?_
  refine jx_iast d_Md_workOut_31 (md_ta hK (j := 4) rfl) rfl (jm_vinN (show c < 64 by omega) (by decide)) ?_
  refine jx_ath ((jm_putN (show c < 2 ^ 31 by omega)).trans (md_wai (j := 4) (show c < 64 by omega))) ?_
  refine jx_aload_n d_Md_workOut_32 1 rfl ?_
  refine jx_get d_Md_workOut_33 fF_Md_24 (md_tg hK) (md_rr hK (k := 8) (j := 5) rfl rfl rfl) ?_
  refine jx_iload_n d_Md_workOut_36 2 rfl ?_
  refine jx_aload_n d_Md_workOut_37 1 rfl ?_
  refine jx_get d_Md_workOut_38 fF_Md_231 (md_tg hK) ((show (mdH h a (mai s1 4 c 2)).2.2.2 a 39 = Value.int (s1.1 39) from md_ri rfl).trans (congrArg Value.int he1)) ?_
  refine jx_if_le (tgt := 48) d_Md_workOut_41 (by decide) (fun c2 => absurd c2 (by decide)) (fun c2 => ?_)
  refine jx_lconst (v0 := 0) d_Md_workOut_44 (by decide) ?_
  refine jx_goto (tgt := 49) d_Md_workOut_45 (by decide) ?_
  refine jx_last d_Md_workOut_49 (md_ta hK (j := 5) rfl) rfl (jm_vinN (show c < 64 by omega) (by decide)) ?_
  refine jx_ath ((jm_putN (show c < 2 ^ 31 by omega)).trans (md_wal (j := 5) (show c < 64 by omega))) ?_
  refine jx_aload_n d_Md_workOut_50 1 rfl ?_
  refine jx_get d_Md_workOut_51 fF_Md_27 (md_tg hK) (md_rr hK (k := 9) (j := 6) rfl rfl rfl) ?_
  refine jx_iload_n d_Md_workOut_54 2 rfl ?_
  refine jx_iconst (v0 := 1) d_Md_workOut_55 (by decide) ?_
  refine jx_zast d_Md_workOut_56 (md_ta hK (j := 6) rfl) rfl (jm_vinN (show c < 64 by omega) (by decide)) ?_
  refine jx_ath ((jm_putN (show c < 2 ^ 31 by omega)).trans (show jm_put (mdH h a (mal (mai s1 4 c 2) 5 c 0)) (a + 6) c (narrow .boolean (.int 1)) = mdH h a (maz (mal (mai s1 4 c 2) 5 c 0) 6 c true) from md_waz (j := 6) (v := true) (show c < 64 by omega))) ?_
  refine jx_bipush (v0 := 40) d_Md_workOut_57 (by decide) ?_
  refine jx_iload_n d_Md_workOut_59 2 rfl ?_
  refine jx_imul d_Md_workOut_60 ?_
  refine jx_ati (pk_mul (40) (c)) ?_
  refine jx_istore (lv' := [(4, .int (nI ((40) * (c)))), (2, .long (x)), (0, .ref (a)), (1, .int (nI (c)))]) d_Md_workOut_61 (by decide) rfl ?_
  exact kk
set_option maxHeartbeats 4000000 in
set_option maxRecDepth 100000 in
theorem wh_Md_workOut3 (l : Launch) (G : jm_G) {h : jm_H} {a : Nat} {s : MS} {s1 : MS} {c : Nat} {x : Int64} {n0 s0 d : Nat} {Post : jm_r → jm_H → Prop} (hd : 1 ≤ d) (hK : MdK h a) (hc : c < 64) (hC1 : jm_C l G mm_Md_work (d - 1) [.ref a, .int (nI c)] (mdH h a (mi s 39 0)) (some (.long x)) (mdH h a s1)) (he1 : s1.1 39 = 3) (kk : jm_X l G mm_Md_workOut n0 s0 (jm_zn G d n0 s0) Post 63 [(4, .int (nI (40 * c))), (2, .long (x)), (0, .ref (a)), (1, .int (nI (c)))] [] (mdH h a (zz s1 c (3, 0)))) : jm_X l G mm_Md_workOut n0 s0 (jm_zn G d n0 s0) Post 0 [(0, .ref a), (1, .int (nI c))] [] (mdH h a s) := by
  refine jx_aload_n d_Md_workOut_0 0 rfl ?_
  refine jx_iconst (v0 := 0) d_Md_workOut_1 (by decide) ?_
  refine jx_put (v0 := .int (0)) d_Md_workOut_2 fF_Md_231 jv_Md ft_Md_error (md_tg hK) rfl rfl ?_
  refine jx_ath (md_wi (k := 39) rfl) ?_
  refine jx_aload_n d_Md_workOut_5 0 rfl ?_
  refine jx_iload_n d_Md_workOut_6 1 rfl ?_
  refine jx_callV (M2 := mm_Md_work) rfl (md_tg hK) lk_Md_250 wi_Md_work ws_Md_work d_Md_workOut_7 hC1 cd_Md_work rfl rfl (Nat.le_of_ble_eq_true rfl) (jm_fok (by omega)) (jm_look (by decide) (by omega)) ?_
  refine jx_lstore_n (lv' := [(2, .long (x)), (0, .ref (a)), (1, .int (nI (c)))]) d_Md_workOut_10 (by decide) rfl ?_
  refine jx_aload_n d_Md_workOut_11 1 rfl ?_
  refine jx_get d_Md_workOut_12 fF_Md_21 (md_tg hK) (md_rr hK (k := 7) (j := 4) rfl rfl rfl) ?_
  refine jx_iload_n d_Md_workOut_15 2 rfl ?_
  refine jx_aload_n d_Md_workOut_16 1 rfl ?_
  refine jx_get d_Md_workOut_17 fF_Md_231 (md_tg hK) ((show (mdH h a s1).2.2.2 a 39 = Value.int (s1.1 39) from md_ri rfl).trans (congrArg Value.int he1)) ?_
  refine jx_if_le (tgt := 30) d_Md_workOut_20 (by decide) (fun c1 => absurd c1 (by decide)) (fun c1 => ?_)
  refine jx_aload_n d_Md_workOut_23 1 rfl ?_
  refine jx_get d_Md_workOut_24 fF_Md_231 (md_tg hK) ((show (mdH h a s1).2.2.2 a 39 = Value.int (s1.1 39) from md_ri rfl).trans (congrArg Value.int he1)) ?_
  refine jx_goto (tgt := 31) d_Md_workOut_27 (by decide) ?_
  refine jx_iast d_Md_workOut_31 (md_ta hK (j := 4) rfl) rfl (jm_vinN (show c < 64 by omega) (by decide)) ?_
  refine jx_ath ((jm_putN (show c < 2 ^ 31 by omega)).trans (md_wai (j := 4) (show c < 64 by omega))) ?_
  refine jx_aload_n d_Md_workOut_32 1 rfl ?_
  refine jx_get d_Md_workOut_33 fF_Md_24 (md_tg hK) (md_rr hK (k := 8) (j := 5) rfl rfl rfl) ?_
  refine jx_iload_n d_Md_workOut_36 2 rfl ?_
  refine jx_aload_n d_Md_workOut_37 1 rfl ?_
  refine jx_get d_Md_workOut_38 fF_Md_231 (md_tg hK) ((show (mdH h a (mai s1 4 c 3)).2.2.2 a 39 = Value.int (s1.1 39) from md_ri rfl).trans (congrArg Value.int he1)) ?_
  refine jx_if_le (tgt := 48) d_Md_workOut_41 (by decide) (fun c2 => absurd c2 (by decide)) (fun c2 => ?_)
  refine jx_lconst (v0 := 0) d_Md_workOut_44 (by decide) ?_
  refine jx_goto (tgt := 49) d_Md_workOut_45 (by decide) ?_
  refine jx_last d_Md_workOut_49 (md_ta hK (j := 5) rfl) rfl (jm_vinN (show c < 64 by omega) (by decide)) ?_
  refine jx_ath ((jm_putN (show c < 2 ^ 31 by omega)).trans (md_wal (j := 5) (show c < 64 by omega))) ?_
  refine jx_aload_n d_Md_workOut_50 1 rfl ?_
  refine jx_get d_Md_workOut_51 fF_Md_27 (md_tg hK) (md_rr hK (k := 9) (j := 6) rfl rfl rfl) ?_
  refine jx_iload_n d_Md_workOut_54 2 rfl ?_
  refine jx_iconst (v0 := 1) d_Md_workOut_55 (by decide) ?_
  refine jx_zast d_Md_workOut_56 (md_ta hK (j := 6) rfl) rfl (jm_vinN (show c < 64 by omega) (by decide)) ?_
  refine jx_ath ((jm_putN (show c < 2 ^ 31 by omega)).trans (show jm_put (mdH h a (mal (mai s1 4 c 3) 5 c 0)) (a + 6) c (narrow .boolean (.int 1)) = mdH h a (maz (mal (mai s1 4 c 3) 5 c 0) 6 c true) from md_waz (j := 6) (v := true) (show c < 64 by omega))) ?_
  refine jx_bipush (v0 := 40) d_Md_workOut_57 (by decide) ?_
  refine jx_iload_n d_Md_workOut_59 2 rfl ?_
  refine jx_imul d_Md_workOut_60 ?_
  refine jx_ati (pk_mul (40) (c)) ?_
  refine jx_istore (lv' := [(4, .int (nI ((40) * (c)))), (2, .long (x)), (0, .ref (a)), (1, .int (nI (c)))]) d_Md_workOut_61 (by decide) rfl ?_
  exact kk
set_option maxHeartbeats 4000000 in
set_option maxRecDepth 100000 in
theorem c_Md_workOut (l : Launch) (G : jm_G) (d : Nat) (hd : 4 ≤ d) {h : jm_H} {a : Nat} {s : MS} {N : Nat → Nat} {c i ls : Nat} {PL : Nat → Int32} {t : Term} (hK : MdK h a) (hc : c < 64) (hN : NcOK s N) (hrt : s.2.2.1 7 c = nI i) (ht : Tree t) (hR : RepC s c PL t i 0 (N c)) (hls : s.1 21 = nI ls) (h63 : ls < 64) (hself : ∀ k, k < N c → s.2.2.1 9 (40 * c + k) = 1 → s.2.2.2.1 13 (40 * c + k) ≠ nM s c) : jm_CP l G mm_Md_workOut d [.ref a, .int (nI c)] (mdH h a s) (fun v h9 => v = none ∧ ∃ s', h9 = mdH h a s' ∧ WoP N t s s' c ls) := by
  have hNc := (hN c hc).2
  refine jm_of (by decide) rfl (Nat.le_of_ble_eq_true rfl) ?_
  obtain ⟨v1, g1, hC1, rfl, s1, rfl, hF, he1⟩ := c_Md_work l G (d - 1) (by omega) (h := h) (a := a) (s := mi s 39 0) (c := c) (i := i) (n := N c) (PL := PL) (t := t) hK hc rfl hrt ht hR hNc
  have er : m_res (mi s 39 0) = m_res s := funext fun u => m_res_c (s := s) (s' := mi s 39 0) rfl u
  rw [er] at hC1 he1
  have main : ∀ x, jm_X l G mm_Md_workOut (mdH h a s).1 (mdH h a s).2.1 (jm_zn G d (mdH h a s).1 (mdH h a s).2.1) (fun r h' => ∃ v, r = .inl v ∧ v = none ∧ ∃ s', h' = mdH h a s' ∧ WoP N t s s' c ls) 63 [(4, .int (nI (40 * c))), (2, .long (x)), (0, .ref (a)), (1, .int (nI (c)))] [] (mdH h a (zz s1 c (ev (m_res s) t))) := by
    intro x
    have z4 : (zz s1 c (ev (m_res s) t)).2.2.1 4 = jm_up (s.2.2.1 4) c (ev (m_res s) t).1 := congrArg (fun F => jm_up F c (ev (m_res s) t).1) (hF.2.2.1 4 (by decide) (by decide))
    have z5 : (zz s1 c (ev (m_res s) t)).2.2.2.1 5 = jm_up (s.2.2.2.1 5) c (ev (m_res s) t).2 := congrArg (fun F => jm_up F c (ev (m_res s) t).2) (hF.2.2.2.1 5 (by decide))
    have z6 : (zz s1 c (ev (m_res s) t)).2.2.2.2 6 = jm_up (s.2.2.2.2 6) c true := congrArg (fun F : Nat → Nat → Bool => jm_up (F 6) c true) hF.2.2.2.2
    have zi : ∀ j, j ≠ 4 → (zz s1 c (ev (m_res s) t)).2.2.1 j = s1.2.2.1 j := fun j hj => if_neg hj
    have zl : ∀ j, j ≠ 5 → (zz s1 c (ev (m_res s) t)).2.2.2.1 j = s1.2.2.2.1 j := fun j hj => if_neg hj
    have zb : ∀ j, j ≠ 6 → (zz s1 c (ev (m_res s) t)).2.2.2.2 j = s.2.2.2.2 j := fun j hj => (if_neg hj).trans (show s1.2.2.2.2 j = s.2.2.2.2 j by rw [hF.2.2.2.2]; rfl)
    have hNz : NcOK (zz s1 c (ev (m_res s) t)) N := fun c' hc' => by rw [zi 8 (by decide), hF.2.2.1 8 (by decide) (by decide)]; exact hN c' hc'
    refine wl_see (by omega) hK hc hNz (fun s2 hS => ?_) (N c + 1) 0 _ (by omega) (by omega) ⟨rfl, rfl, fun _ _ => rfl, fun _ _ => rfl, rfl, fun _ _ => ⟨rfl, rfl⟩, fun k hk => by omega⟩
    obtain ⟨e1, e2, e3, e4, e5, e6, e7⟩ := hS
    have f1 : ∀ k, k ≠ 43 → k ≠ 39 → s2.1 k = s.1 k := fun k g1 g2 => by
      rw [e1]
      exact (hF.1 k g1 g2).trans (if_neg g2)
    refine wm_Md_workOut l G hK (ls := ls) (by rw [f1 21 (by decide) (by decide)]; exact hls) ?_
    have hz3 : s2.2.2.2.1 3 = s.2.2.2.1 3 := (e4 3 (by decide)).trans ((zl 3 (by decide)).trans (hF.2.2.2.1 3 (by decide)))
    have hz16 : s2.2.2.2.1 16 = s.2.2.2.1 16 := (e4 16 (by decide)).trans ((zl 16 (by decide)).trans (hF.2.2.2.1 16 (by decide)))
    refine wl_ins (z := mi s2 19 (s2.1 19 + 1)) hK hc (ls := ls) (show s2.1 21 = _ by rw [f1 21 (by decide) (by decide)]; exact hls) h63 (F := s.2.2.2.1 16) (u := nM s c) (show s2.2.2.2.1 3 c = _ by rw [hz3]; rfl) (fun s' p1 p2 p3 p4 p5 p6 p7 => ⟨_, rfl, rfl, s', rfl, ?_⟩) ls _ (Nat.le_refl _) ⟨rfl, rfl, rfl, fun _ _ => rfl, rfl, fun j hj => by show s2.2.2.2.1 16 j = _; rw [hz16], fun j g1 g2 => by omega, fun j g1 g2 => by omega⟩
    refine ⟨fun k g1 g2 g3 g4 => ?_, ?_, p2, fun k hk => ?_, fun j g1 g2 g3 g4 => ?_, ?_, fun j g1 g2 g3 g4 => ?_, ?_, fun j g1 => ?_, ?_, fun q hq => ?_, fun k hk h9 => ?_, p7⟩
    · rw [p1 k g2]
      exact (if_neg g1).trans (f1 k g4 g3)
    · rw [p1 19 (by decide)]
      show s2.1 19 + 1 = _
      rw [f1 19 (by decide) (by decide)]
    · rw [p3]
      show s2.2.1 k = _
      rw [e2]
      exact hF.2.1 k hk
    · rw [p4]
      show s2.2.2.1 j = _
      rw [e3 j g2, zi j g1]
      exact hF.2.2.1 j g3 g4
    · rw [p4]
      show s2.2.2.1 4 = _
      rw [e3 4 (by decide)]
      exact z4
    · rw [p5 j g3]
      show s2.2.2.2.1 j = _
      rw [e4 j g2, zl j g1]
      exact hF.2.2.2.1 j g4
    · rw [p5 5 (by decide)]
      show s2.2.2.2.1 5 = _
      rw [e4 5 (by decide)]
      exact z5
    · rw [p6]
      show s2.2.2.2.2 j = _
      rw [e5]
      exact zb j g1
    · rw [p6]
      show s2.2.2.2.2 6 = _
      rw [e5]
      exact z6
    · rw [p4, p5 15 (by decide)]
      show s2.2.2.1 14 q = _ ∧ s2.2.2.2.1 15 q = _
      rw [(e6 q hq).1, (e6 q hq).2, zi 14 (by decide), zl 15 (by decide), hF.2.2.1 14 (by decide) (by decide), hF.2.2.2.1 15 (by decide)]
      exact ⟨rfl, rfl⟩
    · rw [p4, p5 15 (by decide)]
      show (s2.2.2.1 14 (40 * c + k), s2.2.2.2.1 15 (40 * c + k)) = _
      have z9 : (zz s1 c (ev (m_res s) t)).2.2.1 9 = s.2.2.1 9 := (zi 9 (by decide)).trans (hF.2.2.1 9 (by decide) (by decide))
      have z13 : (zz s1 c (ev (m_res s) t)).2.2.2.1 13 = s.2.2.2.1 13 := (zl 13 (by decide)).trans (hF.2.2.2.1 13 (by decide))
      have := e7 k hk (by rw [z9]; exact h9)
      rw [this, z13]
      exact m_res_up (zb 2 (by decide)) ((zl 3 (by decide)).trans (hF.2.2.2.1 3 (by decide))) z4 z5 (hself k hk h9)
  by_cases e : (ev (m_res s) t).1 = 1
  · rw [if_pos e] at he1
    have ee : ev (m_res s) t = (1, (ev (m_res s) t).2) := Prod.ext e rfl
    refine wh_Md_workOut0 l G (by omega) hK hc hC1 he1 ?_
    rw [← ee]
    exact main _
  · rw [if_neg e] at he1
    obtain ⟨q0, q1 | q1⟩ := ev_err0 (ρ := m_res s) t ht e
    · have ee : ev (m_res s) t = (2, 0) := Prod.ext q1 q0
      refine wh_Md_workOut2 l G (by omega) hK hc hC1 (he1.trans q1) ?_
      rw [← ee]
      exact main _
    · have ee : ev (m_res s) t = (3, 0) := Prod.ext q1 q0
      refine wh_Md_workOut3 l G (by omega) hK hc hC1 (he1.trans q1) ?_
      rw [← ee]
      exact main _
