/-! what the reference looks up -/
theorem firstN_ok {f : Nat → Bool} {n i : Nat} (h : firstN f n = some i) : i < n ∧ f i = true ∧ ∀ j, j < i → f j = false := by
  induction n with
  | zero => cases h
  | succ n ih =>
    unfold firstN at h
    cases e : firstN f n with
    | some j =>
      rw [e] at h
      cases h
      have := ih e
      exact ⟨by omega, this.2⟩
    | none =>
      rw [e] at h
      by_cases q : f n = true
      · have h : (if f n = true then some n else none) = some i := h
        rw [if_pos q] at h
        cases h
        refine ⟨by omega, q, fun j hj => ?_⟩
        cases e2 : f j with
        | false => rfl
        | true =>
          exfalso
          have : ∀ m, m ≤ i → firstN f m = none → j < m → False := by
            intro m
            induction m with
            | zero => intro _ _ h; omega
            | succ m ihm =>
              intro h1 h2 h3
              unfold firstN at h2
              cases e3 : firstN f m with
              | some x => rw [e3] at h2; cases h2
              | none =>
                rw [e3] at h2
                have h2 : (if f m = true then some m else none) = none := h2
                by_cases e4 : j = m
                · subst e4
                  rw [if_pos e2] at h2
                  cases h2
                · exact ihm (by omega) e3 (by omega)
          exact this i (Nat.le_refl _) e hj
      · have h : (if f n = true then some n else none) = some i := h
        rw [if_neg q] at h
        cases h
theorem firstN_no {f : Nat → Bool} {n : Nat} (h : firstN f n = none) : ∀ j, j < n → f j = false := by
  intro j hj
  induction n with
  | zero => omega
  | succ n ih =>
    unfold firstN at h
    cases e : firstN f n with
    | some x => rw [e] at h; cases h
    | none =>
      rw [e] at h
      have h : (if f n = true then some n else none) = none := h
      by_cases e4 : j = n
      · subst e4
        cases e2 : f j with
        | false => rfl
        | true => rw [if_pos e2] at h; cases h
      · exact ih e (by omega)
def tM (s : MS) (c : Nat) : Bool := s.2.2.2.2 2 c
def nM (s : MS) (c : Nat) : Int64 := s.2.2.2.1 3 c
def mcf (s : MS) (u : Int64) (c : Nat) : Bool := tM s c && decide (nM s c = u)
def m_cell (s : MS) (u : Int64) : Option Nat := firstN (mcf s u) 64
theorem m_cell_s {s : MS} {u : Int64} {c : Nat} (h : m_cell s u = some c) : c < 64 ∧ tM s c = true ∧ nM s c = u := by
  obtain ⟨h1, h2, -⟩ := firstN_ok h
  unfold mcf at h2
  rw [Bool.and_eq_true, decide_eq_true_iff] at h2
  exact ⟨h1, h2.1, h2.2⟩
theorem m_cell_n {s : MS} {u : Int64} (h : m_cell s u = none) {c : Nat} (hc : c < 64) (ht : tM s c = true) : nM s c ≠ u := fun e => by
  have := firstN_no h c hc
  unfold mcf at this
  rw [ht, e] at this
  simp at this
/-- the result that a name has -/
def m_res (s : MS) (u : Int64) : Int32 × Int64 := match m_cell s u with
  | none => (0, 0)
  | some c => (s.2.2.1 4 c, if s.2.2.1 4 c = 1 then s.2.2.2.1 5 c else 0)
/-- node k of cell c is this name's -/
def mrf (s : MS) (c : Nat) (u : Int64) (k : Nat) : Bool := decide (s.2.2.1 9 (40 * c + k) = 1) && decide (s.2.2.2.1 13 (40 * c + k) = u)
def m_rd (s : MS) (N : Nat → Nat) (c : Nat) (u : Int64) : Bool := anyN (mrf s c u) (N c)
def NcOK (s : MS) (N : Nat → Nat) : Prop := ∀ c, c < 64 → s.2.2.1 8 c = nI (N c) ∧ N c ≤ 40
def msf (s : MS) (c : Nat) (k : Nat) : Bool := decide (s.2.2.1 9 (40 * c + k) = 1) && decide ((s.2.2.1 14 (40 * c + k), s.2.2.2.1 15 (40 * c + k)) ≠ m_res s (s.2.2.2.1 13 (40 * c + k)))
def m_stale (s : MS) (N : Nat → Nat) (c : Nat) : Bool := !s.2.2.2.2 6 c || anyN (msf s c) (N c)
theorem jb_t {b : Bool} (h : b = true) : (1 : Int32) = jb b := by rw [h]; rfl
theorem jb_f {b : Bool} (h : b = false) : (0 : Int32) = jb b := by rw [h]; rfl
set_option maxHeartbeats 4000000 in
set_option maxRecDepth 100000 in
theorem lp_Md_cellOf (l : Launch) (G : jm_G) {h : jm_H} {a : Nat} {s : MS} {u : Int64} {n0 s0 d : Nat} {Post : jm_r → jm_H → Prop} (hK : MdK h a) (k1 : ∀ i, i < 64 → (∀ j, j < i → mcf s u j = false) → mcf s u i = true → Post (.inl (some (.int (nI i)))) (mdH h a s)) (k2 : (∀ j, j < 64 → mcf s u j = false) → Post (.inl (some (.int (-1)))) (mdH h a s)) (t : Nat) : ∀ i, 64 - i < t → i ≤ 64 → (∀ j, j < i → mcf s u j = false) → jm_X l G mm_Md_cellOf n0 s0 (jm_zn G d n0 s0) Post 2 [(3, .int (nI (i))), (0, .ref (a)), (1, .long (u))] [] (mdH h a s) := by
  induction t with
  | zero => intro i hm; omega
  | succ t ih =>
    intro i hm hi hno
    refine jx_iload_n d_Md_cellOf_2 0 rfl ?_
    refine jx_bipush (v0 := 64) d_Md_cellOf_3 (by decide) ?_
    refine jx_icmp_geN (tgt := 36) (i) (64) d_Md_cellOf_5 rfl rfl (by omega) (by omega) (by decide) (fun c1 => ?_) (fun c1 => ?_)
    ·
      refine jx_iconst (v0 := -1) d_Md_cellOf_36 (by decide) ?_
      exact jx_iret d_Md_cellOf_37 rfl (k2 (fun j hj => hno j (by omega)))
    ·
      refine jx_aload_n d_Md_cellOf_8 1 rfl ?_
      refine jx_get d_Md_cellOf_9 fF_Md_13 (md_tg hK) (md_rr hK (k := 5) (j := 2) rfl rfl rfl) ?_
      refine jx_iload_n d_Md_cellOf_12 0 rfl ?_
      refine jx_zald d_Md_cellOf_13 (md_ta hK (j := 2) rfl) rfl (jm_vinN (show i < 64 by omega) (by decide)) (jm_atN (show i < 2 ^ 31 by omega) (show (mdH h a s).2.2.2 (a + 2) i = Value.int (jb (s.2.2.2.2 2 i)) from md_raz (j := 2) (show i < 64 by omega))) ?_
      refine jx_if_eq (tgt := 30) d_Md_cellOf_14 (by decide) (fun c2 => ?_) (fun c2 => ?_)
      ·
        refine jx_iinc (v0 := nI (i + 1)) (lv' := [(3, .int (nI (i + 1))), (0, .ref (a)), (1, .long (u))]) d_Md_cellOf_30 0 rfl (nI_add _ 1) (by decide) rfl ?_
        refine jx_goto (tgt := 2) d_Md_cellOf_33 (by decide) ?_
        exact ih (i + 1) (by omega) (by omega) (fun j hj => by by_cases e : j = i; (rw [e]; exact (show mcf s u i = false from by unfold mcf tM; rw [jb0 c2]; rfl)); exact hno j (by omega))
      ·
        refine jx_aload_n d_Md_cellOf_17 1 rfl ?_
        refine jx_get d_Md_cellOf_18 fF_Md_17 (md_tg hK) (md_rr hK (k := 6) (j := 3) rfl rfl rfl) ?_
        refine jx_iload_n d_Md_cellOf_21 0 rfl ?_
        refine jx_lald d_Md_cellOf_22 (md_ta hK (j := 3) rfl) rfl (jm_vinN (show i < 64 by omega) (by decide)) (jm_atN (show i < 2 ^ 31 by omega) (show (mdH h a s).2.2.2 (a + 3) i = Value.long (s.2.2.2.1 3 i) from md_ral (j := 3) (show i < 64 by omega))) ?_
        refine jx_lload_n d_Md_cellOf_23 2 rfl ?_
        refine jx_lcmp d_Md_cellOf_24 ?_
        refine jx_if_neL (tgt := 30) d_Md_cellOf_25 (by decide) (fun c3 => ?_) (fun c3 => ?_)
        ·
          refine jx_iinc (v0 := nI (i + 1)) (lv' := [(3, .int (nI (i + 1))), (0, .ref (a)), (1, .long (u))]) d_Md_cellOf_30 0 rfl (nI_add _ 1) (by decide) rfl ?_
          refine jx_goto (tgt := 2) d_Md_cellOf_33 (by decide) ?_
          exact ih (i + 1) (by omega) (by omega) (fun j hj => by by_cases e : j = i; (rw [e]; exact (show mcf s u i = false from by unfold mcf nM; rw [decide_eq_false c3]; exact Bool.and_false _)); exact hno j (by omega))
        ·
          refine jx_iload_n d_Md_cellOf_28 0 rfl ?_
          exact jx_iret d_Md_cellOf_29 rfl (k1 i (by omega) hno (by unfold mcf tM nM; rw [jb1 c2, decide_eq_true c3]; rfl))
set_option maxHeartbeats 4000000 in
set_option maxRecDepth 100000 in
theorem c_Md_cellOf (l : Launch) (G : jm_G) (d : Nat) {h : jm_H} {a : Nat} {s : MS} {u : Int64} (hK : MdK h a) : jm_C l G mm_Md_cellOf d [.ref a, .long u] (mdH h a s) (some (.int (ixv (m_cell s u)))) (mdH h a s) := by
  refine jm_ofE (by decide) rfl (Nat.le_of_ble_eq_true rfl) ?_
  refine jx_iconst (v0 := 0) d_Md_cellOf_0 (by decide) ?_
  refine jx_istore_n (lv' := [(3, .int (0)), (0, .ref (a)), (1, .long (u))]) d_Md_cellOf_1 (by decide) rfl ?_
  exact lp_Md_cellOf l G hK (fun i h1 h2 h3 => ⟨by unfold m_cell; rw [firstN_some h1 h2 h3]; rfl, rfl⟩) (fun h1 => ⟨by unfold m_cell; rw [firstN_none h1]; rfl, rfl⟩) 65 0 (by omega) (by omega) (fun j hj => by omega)
set_option maxHeartbeats 4000000 in
set_option maxRecDepth 100000 in
theorem lp_Md_cellCount (l : Launch) (G : jm_G) {h : jm_H} {a : Nat} {s : MS} {n0 s0 d : Nat} {Post : jm_r → jm_H → Prop} (hK : MdK h a) (k1 : Post (.inl (some (.int (nI (cnt (tM s) 64))))) (mdH h a s)) (t : Nat) : ∀ i, 64 - i < t → i ≤ 64 → jm_X l G mm_Md_cellCount n0 s0 (jm_zn G d n0 s0) Post 4 [(2, .int (nI (i))), (1, .int (nI (cnt (tM s) i))), (0, .ref (a))] [] (mdH h a s) := by
  induction t with
  | zero => intro i hm; omega
  | succ t ih =>
    intro i hm hi
    have hc := cnt_le (tM s) i
    refine jx_iload_n d_Md_cellCount_4 0 rfl ?_
    refine jx_bipush (v0 := 64) d_Md_cellCount_5 (by decide) ?_
    refine jx_icmp_geN (tgt := 33) (i) (64) d_Md_cellCount_7 rfl rfl (by omega) (by omega) (by decide) (fun c1 => ?_) (fun c1 => ?_)
    ·
      refine jx_iload_n d_Md_cellCount_33 1 rfl ?_
      exact jx_iret d_Md_cellCount_34 rfl (by rw [show i = 64 by omega]; exact k1)
    ·
      refine jx_aload_n d_Md_cellCount_10 2 rfl ?_
      refine jx_get d_Md_cellCount_11 fF_Md_13 (md_tg hK) (md_rr hK (k := 5) (j := 2) rfl rfl rfl) ?_
      refine jx_iload_n d_Md_cellCount_14 0 rfl ?_
      refine jx_zald d_Md_cellCount_15 (md_ta hK (j := 2) rfl) rfl (jm_vinN (show i < 64 by omega) (by decide)) (jm_atN (show i < 2 ^ 31 by omega) (show (mdH h a s).2.2.2 (a + 2) i = Value.int (jb (s.2.2.2.2 2 i)) from md_raz (j := 2) (show i < 64 by omega))) ?_
      refine jx_if_eq (tgt := 25) d_Md_cellCount_16 (by decide) (fun c2 => ?_) (fun c2 => ?_)
      ·
        refine jx_iload_n d_Md_cellCount_25 1 rfl ?_
        refine jx_istore_n (lv' := [(1, .int (nI (cnt (tM s) i))), (2, .int (nI (i))), (0, .ref (a))]) d_Md_cellCount_26 (by decide) rfl ?_
        refine jx_iinc (v0 := nI (i + 1)) (lv' := [(2, .int (nI (i + 1))), (1, .int (nI (cnt (tM s) i))), (0, .ref (a))]) d_Md_cellCount_27 1 rfl (nI_add _ 1) (by decide) rfl ?_
        refine jx_goto (tgt := 4) d_Md_cellCount_30 (by decide) ?_
        have e9 := ih (i + 1) (by omega) (by omega)
        rw [cnt_f (show tM s i = false from jb0 c2)] at e9
        exact e9
      ·
        refine jx_iload_n d_Md_cellCount_19 1 rfl ?_
        refine jx_iconst (v0 := 1) d_Md_cellCount_20 (by decide) ?_
        refine jx_iadd d_Md_cellCount_21 ?_
        refine jx_ati (nI_add (cnt (tM s) i) (1)) ?_
        refine jx_goto (tgt := 26) d_Md_cellCount_22 (by decide) ?_
        refine jx_istore_n (lv' := [(1, .int (nI ((cnt (tM s) i) + (1)))), (2, .int (nI (i))), (0, .ref (a))]) d_Md_cellCount_26 (by decide) rfl ?_
        refine jx_iinc (v0 := nI (i + 1)) (lv' := [(2, .int (nI (i + 1))), (1, .int (nI ((cnt (tM s) i) + (1)))), (0, .ref (a))]) d_Md_cellCount_27 1 rfl (nI_add _ 1) (by decide) rfl ?_
        refine jx_goto (tgt := 4) d_Md_cellCount_30 (by decide) ?_
        have e9 := ih (i + 1) (by omega) (by omega)
        rw [cnt_t (show tM s i = true from jb1 c2)] at e9
        exact e9
set_option maxHeartbeats 4000000 in
set_option maxRecDepth 100000 in
theorem c_Md_cellCount (l : Launch) (G : jm_G) (d : Nat) {h : jm_H} {a : Nat} {s : MS} (hK : MdK h a) : jm_C l G mm_Md_cellCount d [.ref a] (mdH h a s) (some (.int (nI (cnt (tM s) 64)))) (mdH h a s) := by
  refine jm_ofE (by decide) rfl (Nat.le_of_ble_eq_true rfl) ?_
  refine jx_iconst (v0 := 0) d_Md_cellCount_0 (by decide) ?_
  refine jx_istore_n (lv' := [(1, .int (0)), (0, .ref (a))]) d_Md_cellCount_1 (by decide) rfl ?_
  refine jx_iconst (v0 := 0) d_Md_cellCount_2 (by decide) ?_
  refine jx_istore_n (lv' := [(2, .int (0)), (1, .int (0)), (0, .ref (a))]) d_Md_cellCount_3 (by decide) rfl ?_
  exact lp_Md_cellCount l G hK ⟨rfl, rfl⟩ 65 0 (by omega) (by omega)
set_option maxHeartbeats 4000000 in
set_option maxRecDepth 100000 in
theorem lp_Md_howMany (l : Launch) (G : jm_G) {h : jm_H} {u : Int64} {n0 s0 d : Nat} {Post : jm_r → jm_H → Prop} (k1 : Post (.inl (some (.int (nI (cnt (bt u) 64))))) h) (t : Nat) : ∀ i, 64 - i < t → i ≤ 64 → jm_X l G mm_Md_howMany n0 s0 (jm_zn G d n0 s0) Post 4 [(3, .int (nI (i))), (2, .int (nI (cnt (bt u) i))), (0, .long (u))] [] h := by
  induction t with
  | zero => intro i hm; omega
  | succ t ih =>
    intro i hm hi
    have hc := cnt_le (bt u) i
    refine jx_iload_n d_Md_howMany_4 0 rfl ?_
    refine jx_bipush (v0 := 64) d_Md_howMany_5 (by decide) ?_
    refine jx_icmp_geN (tgt := 34) (i) (64) d_Md_howMany_7 rfl rfl (by omega) (by omega) (by decide) (fun c1 => ?_) (fun c1 => ?_)
    ·
      refine jx_iload_n d_Md_howMany_34 1 rfl ?_
      exact jx_iret d_Md_howMany_35 rfl (by rw [show i = 64 by omega]; exact k1)
    ·
      refine jx_lload_n d_Md_howMany_10 2 rfl ?_
      refine jx_iload_n d_Md_howMany_11 0 rfl ?_
      refine jx_lshr d_Md_howMany_12 ?_
      refine jx_lconst (v0 := 1) d_Md_howMany_13 (by decide) ?_
      refine jx_land d_Md_howMany_14 ?_
      refine jx_lconst (v0 := 1) d_Md_howMany_15 (by decide) ?_
      refine jx_lcmp d_Md_howMany_16 ?_
      refine jx_if_neL (tgt := 26) d_Md_howMany_17 (by decide) (fun c2 => ?_) (fun c2 => ?_)
      ·
        refine jx_iload_n d_Md_howMany_26 1 rfl ?_
        refine jx_istore_n (lv' := [(2, .int (nI (cnt (bt u) i))), (3, .int (nI (i))), (0, .long (u))]) d_Md_howMany_27 (by decide) rfl ?_
        refine jx_iinc (v0 := nI (i + 1)) (lv' := [(3, .int (nI (i + 1))), (2, .int (nI (cnt (bt u) i))), (0, .long (u))]) d_Md_howMany_28 1 rfl (nI_add _ 1) (by decide) rfl ?_
        refine jx_goto (tgt := 4) d_Md_howMany_31 (by decide) ?_
        have e9 := ih (i + 1) (by omega) (by omega)
        rw [cnt_f (Bool.eq_false_iff.mpr (fun q => c2 ((bt_shr1 (by omega)).mpr q)))] at e9
        exact e9
      ·
        refine jx_iload_n d_Md_howMany_20 1 rfl ?_
        refine jx_iconst (v0 := 1) d_Md_howMany_21 (by decide) ?_
        refine jx_iadd d_Md_howMany_22 ?_
        refine jx_ati (nI_add (cnt (bt u) i) (1)) ?_
        refine jx_goto (tgt := 27) d_Md_howMany_23 (by decide) ?_
        refine jx_istore_n (lv' := [(2, .int (nI ((cnt (bt u) i) + (1)))), (3, .int (nI (i))), (0, .long (u))]) d_Md_howMany_27 (by decide) rfl ?_
        refine jx_iinc (v0 := nI (i + 1)) (lv' := [(3, .int (nI (i + 1))), (2, .int (nI ((cnt (bt u) i) + (1)))), (0, .long (u))]) d_Md_howMany_28 1 rfl (nI_add _ 1) (by decide) rfl ?_
        refine jx_goto (tgt := 4) d_Md_howMany_31 (by decide) ?_
        have e9 := ih (i + 1) (by omega) (by omega)
        rw [cnt_t ((bt_shr1 (by omega)).mp c2)] at e9
        exact e9
set_option maxHeartbeats 4000000 in
set_option maxRecDepth 100000 in
theorem c_Md_howMany (l : Launch) (G : jm_G) (d : Nat) {h : jm_H} {u : Int64} : jm_C l G mm_Md_howMany d [.long u] h (some (.int (nI (cnt (bt u) 64)))) h := by
  refine jm_ofE (by decide) rfl (Nat.le_of_ble_eq_true rfl) ?_
  refine jx_iconst (v0 := 0) d_Md_howMany_0 (by decide) ?_
  refine jx_istore_n (lv' := [(2, .int (0)), (0, .long (u))]) d_Md_howMany_1 (by decide) rfl ?_
  refine jx_iconst (v0 := 0) d_Md_howMany_2 (by decide) ?_
  refine jx_istore_n (lv' := [(3, .int (0)), (2, .int (0)), (0, .long (u))]) d_Md_howMany_3 (by decide) rfl ?_
  exact lp_Md_howMany l G ⟨rfl, rfl⟩ 65 0 (by omega) (by omega)
set_option maxHeartbeats 4000000 in
set_option maxRecDepth 100000 in
theorem lp_Md_reads (l : Launch) (G : jm_G) {h : jm_H} {a : Nat} {s : MS} {u : Int64} {N : Nat → Nat} {c : Nat} {n0 s0 d : Nat} {Post : jm_r → jm_H → Prop} (hK : MdK h a) (hN : NcOK s N) (hc : c < 64) (k1 : m_rd s N c u = true → Post (.inl (some (.int 1))) (mdH h a s)) (k2 : m_rd s N c u = false → Post (.inl (some (.int 0))) (mdH h a s)) (t : Nat) : ∀ i, 40 - i < t → i ≤ N c → (∀ j, j < i → mrf s c u j = false) → jm_X l G mm_Md_reads n0 s0 (jm_zn G d n0 s0) Post 6 [(4, .int (nI (40 * c + i))), (0, .ref (a)), (1, .int (nI (c))), (2, .long (u))] [] (mdH h a s) := by
  have hNc := (hN c hc).2
  induction t with
  | zero => intro i hm; omega
  | succ t ih =>
    intro i hm hi hno
    refine jx_iload d_Md_reads_6 0 rfl ?_
    refine jx_bipush (v0 := 40) d_Md_reads_8 (by decide) ?_
    refine jx_iload_n d_Md_reads_10 2 rfl ?_
    refine jx_imul d_Md_reads_11 ?_
    refine jx_ati (pk_mul (40) (c)) ?_
    refine jx_aload_n d_Md_reads_12 1 rfl ?_
    refine jx_get d_Md_reads_13 fF_Md_33 (md_tg hK) (md_rr hK (k := 11) (j := 8) rfl rfl rfl) ?_
    refine jx_iload_n d_Md_reads_16 2 rfl ?_
    refine jx_iald d_Md_reads_17 (md_ta hK (j := 8) rfl) rfl (jm_vinN (show c < 64 by omega) (by decide)) (jm_atN (show c < 2 ^ 31 by omega) ((show (mdH h a s).2.2.2 (a + 8) c = Value.int (s.2.2.1 8 c) from md_rai (j := 8) (show c < 64 by omega)).trans (congrArg Value.int (hN c hc).1))) ?_
    refine jx_iadd d_Md_reads_18 ?_
    refine jx_ati (nI_add ((40) * (c)) (N c)) ?_
    refine jx_icmp_geN (tgt := 53) (40 * c + i) (((40) * (c)) + (N c)) d_Md_reads_19 rfl rfl (by omega) (by omega) (by decide) (fun c1 => ?_) (fun c1 => ?_)
    ·
      refine jx_iconst (v0 := 0) d_Md_reads_53 (by decide) ?_
      exact jx_zret d_Md_reads_54 rfl (by first | rfl | decide) (k2 (anyN_false.mpr fun j hj => hno j (by omega)))
    ·
      refine jx_aload_n d_Md_reads_22 1 rfl ?_
      refine jx_get d_Md_reads_23 fF_Md_36 (md_tg hK) (md_rr hK (k := 12) (j := 9) rfl rfl rfl) ?_
      refine jx_iload d_Md_reads_26 0 rfl ?_
      refine jx_iald d_Md_reads_28 (md_ta hK (j := 9) rfl) rfl (jm_vinN (show 40 * c + i < 2560 by omega) (by decide)) (jm_atN (show 40 * c + i < 2 ^ 31 by omega) (show (mdH h a s).2.2.2 (a + 9) (40 * c + i) = Value.int (s.2.2.1 9 (40 * c + i)) from md_rai (j := 9) (show 40 * c + i < 2560 by omega))) ?_
      refine jx_iconst (v0 := 1) d_Md_reads_29 (by decide) ?_
      refine jx_icmp_ne (tgt := 47) d_Md_reads_30 (by decide) (fun c2 => ?_) (fun c2 => ?_)
      ·
        refine jx_iinc (v0 := nI (40 * c + i + 1)) (lv' := [(4, .int (nI (40 * c + i + 1))), (0, .ref (a)), (1, .int (nI (c))), (2, .long (u))]) d_Md_reads_47 0 rfl (nI_add _ 1) (by decide) rfl ?_
        refine jx_goto (tgt := 6) d_Md_reads_50 (by decide) ?_
        exact ih (i + 1) (by omega) (by omega) (fun j hj => by by_cases e : j = i; (rw [e]; exact (show mrf s c u i = false from by unfold mrf; rw [decide_eq_false c2]; rfl)); exact hno j (by omega))
      ·
        refine jx_aload_n d_Md_reads_33 1 rfl ?_
        refine jx_get d_Md_reads_34 fF_Md_48 (md_tg hK) (md_rr hK (k := 16) (j := 13) rfl rfl rfl) ?_
        refine jx_iload d_Md_reads_37 0 rfl ?_
        refine jx_lald d_Md_reads_39 (md_ta hK (j := 13) rfl) rfl (jm_vinN (show 40 * c + i < 2560 by omega) (by decide)) (jm_atN (show 40 * c + i < 2 ^ 31 by omega) (show (mdH h a s).2.2.2 (a + 13) (40 * c + i) = Value.long (s.2.2.2.1 13 (40 * c + i)) from md_ral (j := 13) (show 40 * c + i < 2560 by omega))) ?_
        refine jx_lload_n d_Md_reads_40 3 rfl ?_
        refine jx_lcmp d_Md_reads_41 ?_
        refine jx_if_neL (tgt := 47) d_Md_reads_42 (by decide) (fun c3 => ?_) (fun c3 => ?_)
        ·
          refine jx_iinc (v0 := nI (40 * c + i + 1)) (lv' := [(4, .int (nI (40 * c + i + 1))), (0, .ref (a)), (1, .int (nI (c))), (2, .long (u))]) d_Md_reads_47 0 rfl (nI_add _ 1) (by decide) rfl ?_
          refine jx_goto (tgt := 6) d_Md_reads_50 (by decide) ?_
          exact ih (i + 1) (by omega) (by omega) (fun j hj => by by_cases e : j = i; (rw [e]; exact (show mrf s c u i = false from by unfold mrf; rw [decide_eq_false c3]; exact Bool.and_false _)); exact hno j (by omega))
        ·
          refine jx_iconst (v0 := 1) d_Md_reads_45 (by decide) ?_
          exact jx_zret d_Md_reads_46 rfl (by first | rfl | decide) (k1 (anyN_iff.mpr ⟨i, by omega, by unfold mrf; rw [decide_eq_true c2, decide_eq_true c3]; rfl⟩))
set_option maxHeartbeats 4000000 in
set_option maxRecDepth 100000 in
theorem c_Md_reads (l : Launch) (G : jm_G) (d : Nat) {h : jm_H} {a : Nat} {s : MS} {u : Int64} {N : Nat → Nat} {c : Nat} (hK : MdK h a) (hN : NcOK s N) (hc : c < 64) : jm_C l G mm_Md_reads d [.ref a, .int (nI c), .long u] (mdH h a s) (some (.int (jb (m_rd s N c u)))) (mdH h a s) := by
  refine jm_ofE (by decide) rfl (Nat.le_of_ble_eq_true rfl) ?_
  refine jx_bipush (v0 := 40) d_Md_reads_0 (by decide) ?_
  refine jx_iload_n d_Md_reads_2 1 rfl ?_
  refine jx_imul d_Md_reads_3 ?_
  refine jx_ati (pk_mul (40) (c)) ?_
  refine jx_istore (lv' := [(4, .int (nI ((40) * (c)))), (0, .ref (a)), (1, .int (nI (c))), (2, .long (u))]) d_Md_reads_4 (by decide) rfl ?_
  exact lp_Md_reads l G hK hN hc (fun q => ⟨by rw [q]; rfl, rfl⟩) (fun q => ⟨by rw [q]; rfl, rfl⟩) 41 0 (by omega) (by omega) (fun j hj => by omega)
set_option maxHeartbeats 4000000 in
set_option maxRecDepth 100000 in
theorem c_Md_resultOf (l : Launch) (G : jm_G) (d : Nat) (hd : 1 ≤ d) {h : jm_H} {a : Nat} {s : MS} {u : Int64} (hK : MdK h a) : jm_C l G mm_Md_resultOf d [.ref a, .long u] (mdH h a s) (some (.int (m_res s u).1)) (mdH h a s) := by
  refine jm_ofE (by decide) rfl (Nat.le_of_ble_eq_true rfl) ?_
  refine jx_aload_n d_Md_resultOf_0 0 rfl ?_
  refine jx_lload_n d_Md_resultOf_1 1 rfl ?_
  cases e1 : m_cell s u with
  | none =>
    have hC1 := c_Md_cellOf l G (d - 1) (h := h) (a := a) (s := s) (u := u) hK
    rw [e1] at hC1
    refine jx_callV (M2 := mm_Md_cellOf) rfl (md_tg hK) lk_Md_214 wi_Md_cellOf ws_Md_cellOf d_Md_resultOf_2 hC1 cd_Md_cellOf rfl rfl (Nat.le_of_ble_eq_true rfl) (jm_fok (by omega)) (jm_look (by decide) (by omega)) ?_
    refine jx_istore_n (lv' := [(3, .int (-1)), (0, .ref (a)), (1, .long (u))]) d_Md_resultOf_5 (by decide) rfl ?_
    refine jx_iload_n d_Md_resultOf_6 0 rfl ?_
    refine jx_if_ge (tgt := 14) d_Md_resultOf_7 (by decide) (fun c2 => absurd c2 (by decide)) (fun c2 => ?_)
    refine jx_iconst (v0 := 0) d_Md_resultOf_10 (by decide) ?_
    refine jx_goto (tgt := 20) d_Md_resultOf_11 (by decide) ?_
    exact jx_iret d_Md_resultOf_20 rfl (⟨by unfold m_res; rw [e1]; first | done | rfl, rfl⟩)
  | some p1 =>
    have hp1 := m_cell_s e1
    have hC1 := c_Md_cellOf l G (d - 1) (h := h) (a := a) (s := s) (u := u) hK
    rw [e1] at hC1
    refine jx_callV (M2 := mm_Md_cellOf) rfl (md_tg hK) lk_Md_214 wi_Md_cellOf ws_Md_cellOf d_Md_resultOf_2 hC1 cd_Md_cellOf rfl rfl (Nat.le_of_ble_eq_true rfl) (jm_fok (by omega)) (jm_look (by decide) (by omega)) ?_
    refine jx_istore_n (lv' := [(3, .int (nI (p1))), (0, .ref (a)), (1, .long (u))]) d_Md_resultOf_5 (by decide) rfl ?_
    refine jx_iload_n d_Md_resultOf_6 0 rfl ?_
    refine jx_if_geN (tgt := 14) (p1) d_Md_resultOf_7 rfl (by omega) (by decide) (fun c3 => ?_) (fun c3 => ?_)
    ·
      refine jx_aload_n d_Md_resultOf_14 1 rfl ?_
      refine jx_get d_Md_resultOf_15 fF_Md_21 (md_tg hK) (md_rr hK (k := 7) (j := 4) rfl rfl rfl) ?_
      refine jx_iload_n d_Md_resultOf_18 0 rfl ?_
      refine jx_iald d_Md_resultOf_19 (md_ta hK (j := 4) rfl) rfl (jm_vinN (show p1 < 64 by omega) (by decide)) (jm_atN (show p1 < 2 ^ 31 by omega) (show (mdH h a s).2.2.2 (a + 4) p1 = Value.int (s.2.2.1 4 p1) from md_rai (j := 4) (show p1 < 64 by omega))) ?_
      exact jx_iret d_Md_resultOf_20 rfl (⟨by unfold m_res; rw [e1], rfl⟩)
    · omega
set_option maxHeartbeats 4000000 in
set_option maxRecDepth 100000 in
theorem c_Md_valueOf (l : Launch) (G : jm_G) (d : Nat) (hd : 1 ≤ d) {h : jm_H} {a : Nat} {s : MS} {u : Int64} (hK : MdK h a) : jm_C l G mm_Md_valueOf d [.ref a, .long u] (mdH h a s) (some (.long (m_res s u).2)) (mdH h a s) := by
  refine jm_ofE (by decide) rfl (Nat.le_of_ble_eq_true rfl) ?_
  refine jx_aload_n d_Md_valueOf_0 0 rfl ?_
  refine jx_lload_n d_Md_valueOf_1 1 rfl ?_
  cases e1 : m_cell s u with
  | none =>
    have hC1 := c_Md_cellOf l G (d - 1) (h := h) (a := a) (s := s) (u := u) hK
    rw [e1] at hC1
    refine jx_callV (M2 := mm_Md_cellOf) rfl (md_tg hK) lk_Md_214 wi_Md_cellOf ws_Md_cellOf d_Md_valueOf_2 hC1 cd_Md_cellOf rfl rfl (Nat.le_of_ble_eq_true rfl) (jm_fok (by omega)) (jm_look (by decide) (by omega)) ?_
    refine jx_istore_n (lv' := [(3, .int (-1)), (0, .ref (a)), (1, .long (u))]) d_Md_valueOf_5 (by decide) rfl ?_
    refine jx_iload_n d_Md_valueOf_6 0 rfl ?_
    refine jx_if_lt (tgt := 20) d_Md_valueOf_7 (by decide) (fun c2 => ?_) (fun c2 => absurd c2 (by decide))
    refine jx_lconst (v0 := 0) d_Md_valueOf_20 (by decide) ?_
    refine jx_goto (tgt := 30) d_Md_valueOf_21 (by decide) ?_
    exact jx_lret d_Md_valueOf_30 rfl (⟨by unfold m_res; rw [e1]; first | done | rfl, rfl⟩)
  | some p1 =>
    have hp1 := m_cell_s e1
    have hC1 := c_Md_cellOf l G (d - 1) (h := h) (a := a) (s := s) (u := u) hK
    rw [e1] at hC1
    refine jx_callV (M2 := mm_Md_cellOf) rfl (md_tg hK) lk_Md_214 wi_Md_cellOf ws_Md_cellOf d_Md_valueOf_2 hC1 cd_Md_cellOf rfl rfl (Nat.le_of_ble_eq_true rfl) (jm_fok (by omega)) (jm_look (by decide) (by omega)) ?_
    refine jx_istore_n (lv' := [(3, .int (nI (p1))), (0, .ref (a)), (1, .long (u))]) d_Md_valueOf_5 (by decide) rfl ?_
    refine jx_iload_n d_Md_valueOf_6 0 rfl ?_
    refine jx_if_ltN (tgt := 20) (p1) d_Md_valueOf_7 rfl (by omega) (by decide) (fun c3 => ?_) (fun c3 => ?_)
    · omega
    ·
      refine jx_aload_n d_Md_valueOf_10 1 rfl ?_
      refine jx_get d_Md_valueOf_11 fF_Md_21 (md_tg hK) (md_rr hK (k := 7) (j := 4) rfl rfl rfl) ?_
      refine jx_iload_n d_Md_valueOf_14 0 rfl ?_
      refine jx_iald d_Md_valueOf_15 (md_ta hK (j := 4) rfl) rfl (jm_vinN (show p1 < 64 by omega) (by decide)) (jm_atN (show p1 < 2 ^ 31 by omega) (show (mdH h a s).2.2.2 (a + 4) p1 = Value.int (s.2.2.1 4 p1) from md_rai (j := 4) (show p1 < 64 by omega))) ?_
      refine jx_iconst (v0 := 1) d_Md_valueOf_16 (by decide) ?_
      refine jx_icmp_eq (tgt := 24) d_Md_valueOf_17 (by decide) (fun c4 => ?_) (fun c4 => ?_)
      ·
        refine jx_aload_n d_Md_valueOf_24 1 rfl ?_
        refine jx_get d_Md_valueOf_25 fF_Md_24 (md_tg hK) (md_rr hK (k := 8) (j := 5) rfl rfl rfl) ?_
        refine jx_iload_n d_Md_valueOf_28 0 rfl ?_
        refine jx_lald d_Md_valueOf_29 (md_ta hK (j := 5) rfl) rfl (jm_vinN (show p1 < 64 by omega) (by decide)) (jm_atN (show p1 < 2 ^ 31 by omega) (show (mdH h a s).2.2.2 (a + 5) p1 = Value.long (s.2.2.2.1 5 p1) from md_ral (j := 5) (show p1 < 64 by omega))) ?_
        exact jx_lret d_Md_valueOf_30 rfl (⟨by unfold m_res; rw [e1]; show _ = Sum.inl (some (Value.long (if s.2.2.1 4 p1 = 1 then _ else _))); rw [if_pos c4], rfl⟩)
      ·
        refine jx_lconst (v0 := 0) d_Md_valueOf_20 (by decide) ?_
        refine jx_goto (tgt := 30) d_Md_valueOf_21 (by decide) ?_
        exact jx_lret d_Md_valueOf_30 rfl (⟨by unfold m_res; rw [e1]; show _ = Sum.inl (some (Value.long (if s.2.2.1 4 p1 = 1 then _ else _))); rw [if_neg c4], rfl⟩)
