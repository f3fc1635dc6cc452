/-! each call of the script: class and reference answer alike -/
theorem i32_nat {i : Int32} (h : ¬ i < 0) : ∃ k, k < 2 ^ 31 ∧ i = nI k := by
  have h1 : 0 ≤ i.toInt := by rw [i32_lt] at h; simpa using h
  have h2 := i.toInt_lt
  refine ⟨i.toInt.toNat, by omega, ?_⟩
  apply Int32.toInt_inj.mp
  have : (nI i.toInt.toNat).toInt = (i.toInt.toNat : Int) := Int32.toInt_ofNat_of_lt (by omega)
  rw [this]
  omega
theorem nI_lt' {a b : Nat} (ha : a < 2 ^ 31) (hb : b < 2 ^ 31) : nI a < nI b ↔ a < b := by
  have := nIb_le hb ha
  rw [← Int32.not_le, this]
  omega
def TyI (v : Value) : Prop := ∃ b, v = .int b
def TyL (v : Value) : Prop := ∃ b, v = .long b
def TyB (v : Value) : Prop := v = .int 0 ∨ v = .int 1
theorem SgT.c {R : Nat → CRec} {m : Nat} {T : Nat → Term} {s s' : MS} {N : Nat → Nat} {σ τ : Nat → Nat} (h : s'.2.2 = s.2.2) (hS : SgT R m T s N σ τ) : SgT R m T s' N σ τ := by
  obtain ⟨a, b, c⟩ := s
  obtain ⟨a', b', c'⟩ := s'
  have h : c' = c := h
  subst h
  exact hS
theorem DepM.th {s : MS} {N : Nat → Nat} {u : Int64} {c : Nat} (h : DepM s N u c) : c < 64 ∧ tM s c = true := h (fun c => c < 64 ∧ tM s c = true) ⟨fun c hc ht _ => ⟨hc, ht⟩, fun c j hc _ ht _ _ => ⟨hc, ht⟩⟩
theorem CWI.ok {h : jm_H} {x Y n : Nat} {B : Nat → Int32} {fc fp : Int32} {m : Nat} {R : Nat → CRec} {T : Nat → Term} {ls : Nat} {tot : Int32} {LT : Nat → Int64} (hI : CWI h x Y n B fc fp m R T ls tot LT) : m ≤ 64 ∧ SortR R m ∧ TreesOK R m T ∧ Acyc R m ∧ ls ≤ 64 := by
  obtain ⟨-, -, -, ⟨h1, h2, -, -, -, h6⟩, -, -, -, ⟨-, h7, -, -⟩, h9⟩ := hI
  exact ⟨h1, h2, h6, h9, h7⟩
section OPS
variable {l : Launch} {G : jm_G} {d : Nat} {sc len : Nat} {S : Nat → Int32} {x j z0 : Nat} {h : jm_H}
theorem op_feed (hl : l.stackTraces = false) (hd : 7 ≤ d) {wa wb wc wd we : Int32} (hL : LI sc len S x j z0 h) : OpV l G d mm_Lw_feed [(0, 16, 19, 13)] [.ref x, .int wa, .int wb, .int wc, .int wd, .int we, .ref (x + 47)] mm_Md_feed [.ref (x + 18), .int wa, .int wb, .int wc, .int wd, .int we] TyI sc len S x j z0 h := by
  obtain ⟨hO, ⟨s, N, n, B, fc, fp, m, R, T, ls, tot, LT, hM, hI, hQ⟩, hz1, hz2⟩ := hL
  have hn : s.1 2 = nI n := hQ.1.1
  by_cases q : n + 20 ≤ 2000
  · obtain ⟨v, h9, hC, ev, hI9, mv⟩ := c_CW_feed l G (d - 1) (by omega) (wa := wa) (wb := wb) (wc := wc) (wd := wd) (we := we) hI q
    subst ev
    refine opV_o (b := .int (nI (n + 20))) hO hM hz1 hz2 hI9 mv (by omega) (by omega) (fun to => lw_feed_o l G d (by omega) hI.1.1 to hC) ⟨_, rfl⟩ fun h1 hK => ?_
    exact ⟨_, _, c_Md_feed_o l G d hK hn q, rfl, _, N, rfl, by simp [m_feed, mi, mai, jm_up], hQ.feed q⟩
  · refine opV_t hO hM hz1 hz2 hI MvCW.rf (lw_feed_t l G d (by omega) hI.1.1 (c_CW_feedT l G hl (d - 1) (by omega) hI (by omega))) fun h1 hK => ?_
    exact ⟨_, _, c_Md_feed_t l G d hK hn hQ.1.2.1 (by omega), ⟨_, rfl, _, rfl⟩, _, N, rfl, by simp [mi, jm_up], hQ.thr⟩
theorem op_end (hl : l.stackTraces = false) (hd : 7 ≤ d) {wa : Int32} (hL : LI sc len S x j z0 h) : OpE l G d [.ref x, .int wa] [.ref (x + 18), .int wa] sc len S x j z0 h := by
  obtain ⟨hO, ⟨s, N, n, B, fc, fp, m, R, T, ls, tot, LT, hM, hI, hQ⟩, hz1, hz2⟩ := hL
  have hn : s.1 2 = nI n := hQ.1.1
  have hn2 := hQ.1.2.1
  by_cases q : wa < 0 ∨ nI n < wa
  · have hM9 := hM
    obtain ⟨o1, o2, o3⟩ := fin_t hO hM hI
    have hC := c_Md_end_t l G d (i := wa) o2.1 hn q
    rw [← o2.2] at hC
    obtain ⟨p1, p2, p3, p4⟩ := fin_m o1 o2 o3 (mi s 0 1)
    have ht := c_Md_thrown l G d (s := mi s 0 1) o2.1
    rw [show (mi s 0 1).1 0 = 1 from by simp [mi, jm_up]] at ht
    refine ⟨1, _, _, lw_end_t l G d (by omega) hI.1.1 (c_CW_endT l G hl (d - 1) (by omega) hI q), hC, ht, Or.inr rfl, o1, o2.1.1, p2.1.1, p1, ⟨_, N, n, B, fc, fp, m, R, T, ls, tot, LT, p2, p3, hQ.thr⟩, ?_, ?_⟩
    · show h.1 + 1 ≤ _; omega
    · show h.2.1 + 6 ≤ _; omega
  · obtain ⟨i, hi, e⟩ := i32_nat (i := wa) (fun z => q (Or.inl z))
    subst e
    have hin : i ≤ n := by
      have : ¬ nI n < nI i := fun z => q (Or.inr z)
      rw [nI_lt' (by omega) hi] at this
      omega
    obtain ⟨v, h9, hC9, ev, hI9, mv⟩ := c_CW_end l G (d - 1) hI hin
    subst ev
    have hO9 := hO.cw mv
    have hM9 := hM.cw hO.2.2.2.2.1 mv
    have hC := c_Md_end_o l G d hM9.1 hn hn2 hin
    rw [← hM9.2] at hC
    obtain ⟨p1, p2, p3, p4⟩ := fin_m hO9 hM9 hI9 (mi (mi s 0 0) 2 (nI i))
    have ht := c_Md_thrown l G d (s := mi (mi s 0 0) 2 (nI i)) hM9.1
    rw [show (mi (mi s 0 0) 2 (nI i)).1 0 = 0 from by simp [mi, jm_up]] at ht
    refine ⟨0, _, _, lw_end_o l G d (by omega) hI.1.1 hC9, hC, ht, Or.inl rfl, hO9, hM9.1.1, p2.1.1, p1, ⟨_, N, i, B, fc, fp, m, R, T, ls, tot, LT, p2, p3, (hQ.thr (v := 0)).len hin⟩, ?_, ?_⟩
    · have := mv.2.2.1
      show h9.1 ≤ _
      omega
    · have := mv.2.2.2.2
      show h9.2.1 ≤ _
      omega
theorem op_fault (hL : LI sc len S x j z0 h) : OpP l G d mm_CW_fault mm_Md_fault sc len S x j z0 h := by
  obtain ⟨hO, ⟨s, N, n, B, fc, fp, m, R, T, ls, tot, LT, hM, hI, hQ⟩, hz1, hz2⟩ := hL
  refine opP_o (b := fc) hO hM hz1 hz2 hI MvCW.rf (by omega) (by omega) (c_CW_fault l G d hI) fun h1 hK => ?_
  have h3 := c_Md_fault l G d (s := s) hK
  rw [hQ.2.1] at h3
  exact ⟨_, _, h3, rfl, _, N, rfl, hQ.thr⟩
theorem op_value (hl : l.stackTraces = false) (hd : 8 ≤ d) (hL : LI sc len S x j z0 h) : OpV l G d mm_Lw_value [(0, 7, 10, 25)] [.ref x, .ref (x + 47)] mm_Md_value [.ref (x + 18)] TyL sc len S x j z0 h := by
  obtain ⟨hO, ⟨s, N, n, B, fc, fp, m, R, T, ls, tot, LT, hM, hI, hQ⟩, hz1, hz2⟩ := hL
  obtain ⟨hm, hs, hT, hA, -⟩ := hI.ok
  by_cases q : q_nm B n = 0
  · obtain ⟨hx, hC, hI9, mv⟩ := c_CW_valueT l G hl (d - 1) (by omega) hI q
    refine opV_t hO hM hz1 hz2 hI9 mv (lw_value_t l G d (by omega) hI.1.1 hC) fun h1 hK => ?_
    obtain ⟨v, h2, hD, ev, s1, hF, e2⟩ := c_Md_value_t l G d (by omega) hK hQ.1 q
    exact ⟨_, _, hD, ⟨_, ev, _, rfl⟩, _, N, e2, by simp [mi, jm_up], hQ.fix hF⟩
  · obtain ⟨σ, τ, hS⟩ := hQ.2.2.2.2.2.sg hs
    obtain ⟨v, h9, hC, ev, hI9, mv⟩ := c_CW_value l G (d - 1) (by omega) hI q
    subst ev
    refine opV_o (b := .long (resf R m (q_nm B n)).2) hO hM hz1 hz2 hI9 mv (by omega) (by omega) (fun to => lw_value_o l G d (by omega) hI.1.1 to hC) ⟨_, rfl⟩ fun h1 hK => ?_
    obtain ⟨v, h2, hD, ev, s1, hF, e2⟩ := c_Md_value_o l G d (by omega) hK hQ.1 q
    exact ⟨_, _, hD, by rw [ev, hS.res hs], _, N, e2, by simp [mi, jm_up], hQ.fix hF⟩
theorem op_state (hl : l.stackTraces = false) (hd : 8 ≤ d) (hL : LI sc len S x j z0 h) : OpV l G d mm_Lw_state [(0, 8, 11, 25)] [.ref x, .ref (x + 47)] mm_Md_state [.ref (x + 18)] TyI sc len S x j z0 h := by
  obtain ⟨hO, ⟨s, N, n, B, fc, fp, m, R, T, ls, tot, LT, hM, hI, hQ⟩, hz1, hz2⟩ := hL
  obtain ⟨hm, hs, hT, hA, -⟩ := hI.ok
  by_cases q : q_nm B n = 0
  · obtain ⟨hx, hC, hI9, mv⟩ := c_CW_stateT l G hl (d - 1) (by omega) hI q
    refine opV_t hO hM hz1 hz2 hI9 mv (lw_state_t l G d (by omega) hI.1.1 hC) fun h1 hK => ?_
    obtain ⟨v, h2, hD, ev, s1, hF, e2⟩ := c_Md_state_t l G d (by omega) hK hQ.1 q
    exact ⟨_, _, hD, ⟨_, ev, _, rfl⟩, _, N, e2, by simp [mi, jm_up], hQ.fix hF⟩
  · obtain ⟨σ, τ, hS⟩ := hQ.2.2.2.2.2.sg hs
    obtain ⟨v, h9, hC, hI9, mv, ev⟩ := c_CW_state l G (d - 1) (by omega) hI q
    cases e : q_ix R m (q_nm B n) with
    | none =>
      rw [e] at ev
      have ev : v = some (.int (-1)) := ev
      subst ev
      refine opV_o (b := .int (-1)) hO hM hz1 hz2 hI9 mv (by omega) (by omega) (fun to => lw_state_o l G d (by omega) hI.1.1 to hC) ⟨_, rfl⟩ fun h1 hK => ?_
      obtain ⟨v, h2, hD, s1, hF, e2, ev⟩ := c_Md_state_o l G d (by omega) hK hQ.1 q hS.1
      rw [hS.cn e] at ev
      exact ⟨_, _, hD, ev, _, N, e2, by simp [mi, jm_up], hQ.fix hF⟩
    | some p =>
      rw [e] at ev
      have ev : v = some (.int (k_k (R p) + if q_stale R m (R p) = true then 4 else 0)) := ev
      subst ev
      have hp := (q_ix_some e).1
      refine opV_o (b := .int (k_k (R p) + if q_stale R m (R p) = true then 4 else 0)) hO hM hz1 hz2 hI9 mv (by omega) (by omega) (fun to => lw_state_o l G d (by omega) hI.1.1 to hC) ⟨_, rfl⟩ fun h1 hK => ?_
      obtain ⟨v, h2, hD, s1, hF, e2, ev⟩ := c_Md_state_o l G d (by omega) hK hQ.1 q hS.1
      rw [hS.cs hs e] at ev
      have ev : v = some (.int (s.2.2.1 4 (σ p) + if m_stale s N (σ p) = true then 4 else 0)) := ev
      exact ⟨_, _, hD, by rw [ev, ← hS.sta hs hT hp, (hS.2.1 p hp).2.2.1.2.2.2.1], _, N, e2, by simp [mi, jm_up], hQ.fix hF⟩
theorem op_remove (hl : l.stackTraces = false) (hd : 8 ≤ d) (hL : LI sc len S x j z0 h) : OpV l G d mm_Lw_remove [(0, 15, 18, 25)] [.ref x, .ref (x + 47)] mm_Md_remove [.ref (x + 18)] TyB sc len S x j z0 h := by
  obtain ⟨hO, ⟨s, N, n, B, fc, fp, m, R, T, ls, tot, LT, hM, hI, hQ⟩, hz1, hz2⟩ := hL
  obtain ⟨hm, hs, hT, hA, -⟩ := hI.ok
  by_cases q : q_nm B n = 0
  · obtain ⟨hx, hC, hI9, mv⟩ := c_CW_removeT l G hl (d - 1) (by omega) hI q
    refine opV_t hO hM hz1 hz2 hI9 mv (lw_remove_t l G d (by omega) hI.1.1 hC) fun h1 hK => ?_
    obtain ⟨v, h2, hD, ev, s1, hF, e2⟩ := c_Md_remove_t l G d (by omega) hK hQ.1 q
    exact ⟨_, _, hD, ⟨_, ev, Or.inl rfl⟩, _, N, e2, by simp [mi, jm_up], hQ.fix hF⟩
  · obtain ⟨σ, τ, hS⟩ := hQ.2.2.2.2.2.sg hs
    obtain ⟨v, h9, hC, ev⟩ := c_CW_remove l G (d - 1) (by omega) hI q
    cases e : q_ix R m (q_nm B n) with
    | none =>
      rw [e] at ev
      obtain ⟨ev, hI9, mv⟩ := ev
      subst ev
      refine opV_o (b := .int 0) hO hM hz1 hz2 hI9 mv (by omega) (by omega) (fun to => lw_remove_o0 l G d (by omega) hI.1.1 to hC) (Or.inl rfl) fun h1 hK => ?_
      obtain ⟨v, h2, hD, s1, hF, ev⟩ := c_Md_remove_o l G d (by omega) hK hQ.1 q
      rw [hS.cn e] at ev
      exact ⟨_, _, hD, ev.1, _, N, ev.2, by simp [mi, jm_up], (hQ.fix (v := 0) hF).len (Nat.zero_le _)⟩
    | some K =>
      rw [e] at ev
      obtain ⟨ev, hI9, mv⟩ := ev
      subst ev
      have hK9 := (q_ix_some e).1
      refine opV_o (b := .int 1) hO hM hz1 hz2 hI9 mv (by omega) (by omega) (fun to => lw_remove_o1 l G d (by omega) hI.1.1 to hC) (Or.inr rfl) fun h1 hK => ?_
      obtain ⟨v, h2, hD, s1, hF, ev⟩ := c_Md_remove_o l G d (by omega) hK hQ.1 q
      rw [hS.cs hs e] at ev
      have hQ2 : EqS 0 B fc m R T ls tot LT (mi (mi s1 0 0) 2 0) N := (hQ.fix (v := 0) hF).len (Nat.zero_le _)
      have hS2 : SgT R m T (mi (mi s1 0 0) 2 0) N σ τ := hS.c hF.2.2
      exact ⟨_, _, hD, ev.1, _, N, ev.2, by simp [maz, mi, jm_up], hQ2.1, hQ2.2.1, hQ2.2.2.1, hQ2.2.2.2.1, hQ2.2.2.2.2.1, CeQ.drop hS2 hs hK9⟩
theorem op_readers (hl : l.stackTraces = false) (hd : 8 ≤ d) {wa : Int32} (hL : LI sc len S x j z0 h) : OpV l G d mm_Lw_readers [(0, 9, 12, 25)] [.ref x, .int wa, .ref (x + 47)] mm_Md_readers [.ref (x + 18), .int wa] TyI sc len S x j z0 h := by
  obtain ⟨hO, ⟨s, N, n, B, fc, fp, m, R, T, ls, tot, LT, hM, hI, hQ⟩, hz1, hz2⟩ := hL
  obtain ⟨hm, hs, hT, hA, -⟩ := hI.ok
  by_cases q : q_nm B n = 0
  · obtain ⟨hx, hC, hI9, mv⟩ := c_CW_readersT l G hl (d - 1) (by omega) (z := wa) hI q
    refine opV_t hO hM hz1 hz2 hI9 mv (lw_readers_t l G d (by omega) hI.1.1 hC) fun h1 hK => ?_
    obtain ⟨v, h2, hD, ev, s1, hF, e2⟩ := c_Md_readers_t l G d (by omega) (z := wa) hK hQ.1 q
    exact ⟨_, _, hD, ⟨_, ev, _, rfl⟩, _, N, e2, by simp [mi, jm_up], hQ.fix hF⟩
  · obtain ⟨σ, τ, hS⟩ := hQ.2.2.2.2.2.sg hs
    by_cases hz : wa = 0
    · obtain ⟨v, h9, hC, ev, hI9, mv⟩ := c_CW_readersD l G (d - 1) (by omega) (z := wa) hI q hz
      subst ev
      have hcn : q_bc (q_dir R (q_nm B n) m) = nI (cnt (mdr s N (q_nm B n)) 64) := by
        rw [q_bc_cnt]
        congr 1
        have hb := q_dir_bt (R := R) (m := m) hm (q_nm B n) m (Nat.le_refl _)
        have hmd : ∀ p, p < m → (ment R p (q_nm B n) ↔ mdr s N (q_nm B n) (σ p) = true) := fun p hp => by
          rw [ment_nm hT hp, ← hS.rd hp]
          unfold mdr
          rw [(hS.2.1 p hp).2.1]
          simp
        refine cnt_bij (σ := σ) 64 _ (fun p hp hf => ?_) (fun p q hp hq hf hg e => ?_) (fun c hc hg => ?_)
        · have z := (hb p hp).mp hf
          exact ⟨(hS.2.1 p z.1).1, (hmd p z.1).mp z.2⟩
        · exact hS.inj ((hb p hp).mp hf).1 ((hb q hq).mp hg).1 e
        · have ht : tM s c = true := by
            unfold mdr at hg
            rw [Bool.and_eq_true] at hg
            exact hg.1
          obtain ⟨h1, h2⟩ := hS.2.2 c hc ht
          refine ⟨τ c, by omega, (hb _ (by omega)).mpr ⟨h1, (hmd _ h1).mpr ?_⟩, h2⟩
          rw [h2]
          exact hg
      refine opV_o (b := .int (q_bc (q_dir R (q_nm B n) m))) hO hM hz1 hz2 hI9 mv (by omega) (by omega) (fun to => lw_readers_o l G d (by omega) hI.1.1 to hC) ⟨_, rfl⟩ fun h1 hK => ?_
      obtain ⟨v, h2, hD, s1, hF, e2, ev⟩ := c_Md_readers_d l G d (by omega) (z := wa) hK hQ.1 q hS.1 hz
      exact ⟨_, _, hD, by rw [ev, hcn], _, N, e2, by simp [mi, jm_up], hQ.fix hF⟩
    · obtain ⟨v, h9, hC, ⟨RS, ev⟩, hI9, mv⟩ := c_CW_readersA l G (d - 1) (by omega) (z := wa) hI q hz
      subst ev
      refine opV_o (b := .int (q_bc (q_drun (q_trs R m RS m) m m (q_dir R (q_nm B n) m) 0))) hO hM hz1 hz2 hI9 mv (by omega) (by omega) (fun to => lw_readers_o l G d (by omega) hI.1.1 to hC) ⟨_, rfl⟩ fun h1 hK => ?_
      obtain ⟨v, h2, hD, s1, hF, e2, all, ev, hall⟩ := c_Md_readers_a l G d (by omega) (z := wa) hK hQ.1 q hS.1 hz
      have hcn : q_bc (q_drun (q_trs R m RS m) m m (q_dir R (q_nm B n) m) 0) = nI (cnt (bt all) 64) := by
        rw [q_bc_cnt]
        congr 1
        have hb : ∀ p, p < 64 → _ := fun p hp => drun_bt (R := R) (m := m) (RS := RS) hm (q_nm B n) (p := p) hp
        refine cnt_bij (σ := σ) 64 _ (fun p hp hf => ?_) (fun p q hp hq hf hg e => ?_) (fun c hc hg => ?_)
        · have z := (hb p hp).mp hf
          exact ⟨(hS.2.1 p z.1).1, (hall _ (hS.2.1 p z.1).1).mpr ((hS.dep hs hT hm _ z.1).mp z.2)⟩
        · exact hS.inj ((hb p hp).mp hf).1 ((hb q hq).mp hg).1 e
        · have hd9 := (hall c hc).mp hg
          obtain ⟨h1, h2⟩ := hS.2.2 c hc hd9.th.2
          refine ⟨τ c, by omega, (hb _ (by omega)).mpr ⟨h1, (hS.dep hs hT hm _ h1).mpr ?_⟩, h2⟩
          rw [h2]
          exact hd9
      exact ⟨_, _, hD, by rw [ev, hcn], _, N, e2, by simp [mi, jm_up], hQ.fix hF⟩
theorem op_built (hl : l.stackTraces = false) (hd : 8 ≤ d) {wa wb : Int32} (hL : LI sc len S x j z0 h) : OpV l G d mm_Lw_built [(0, 10, 13, 46)] [.ref x, .int wa, .int wb, .ref (x + 47)] mm_Md_built [.ref (x + 18), .int wa, .int wb] TyI sc len S x j z0 h := by
  obtain ⟨hO, ⟨s, N, n, B, fc, fp, m, R, T, ls, tot, LT, hM, hI, hQ⟩, hz1, hz2⟩ := hL
  obtain ⟨hm, hs, hT, hA, hls⟩ := hI.ok
  have h21 := hQ.2.2.2.1
  by_cases ho : wa < 0 ∨ nI ls ≤ wa ∨ wb < 0 ∨ 8 ≤ wb
  · refine opV_t hO hM hz1 hz2 hI MvCW.rf (lw_built_t l G d (by omega) hI.1.1 (c_CW_builtT1 l G hl (d - 1) (by omega) hI ho)) fun h1 hK => ?_
    exact ⟨_, _, c_Md_built_x l G d hK h21 ho, ⟨_, rfl, _, rfl⟩, _, N, rfl, by simp [mi, jm_up], hQ.thr⟩
  · obtain ⟨i, hi, e⟩ := i32_nat (i := wa) (fun z => ho (Or.inl z))
    obtain ⟨k, hk, e2⟩ := i32_nat (i := wb) (fun z => ho (Or.inr (Or.inr (Or.inl z))))
    subst e
    subst e2
    have hi2 : i < ls := by
      have : ¬ nI ls ≤ nI i := fun z => ho (Or.inr (Or.inl z))
      rw [nIb_le (by omega) hi] at this
      omega
    have hk2 : k < 8 := by
      have : ¬ nI 8 ≤ nI k := fun z => ho (Or.inr (Or.inr (Or.inr z)))
      rw [nIb_le (by omega) hk] at this
      omega
    have hb8 : m_b8 (s.2.2.2.1 16 i) k = q_b8 (LT i) k := by rw [hQ.2.2.2.2.1 i hi2, m_b8_q _ hk2]
    by_cases q : q_b8 (LT i) k = 0
    · refine opV_t hO hM hz1 hz2 hI MvCW.rf (lw_built_t l G d (by omega) hI.1.1 (c_CW_builtT0 l G hl (d - 1) (by omega) hI hi2 hk2 q)) fun h1 hK => ?_
      refine ⟨_, _, c_Md_built_i l G d hK h21 hls hi2 hk2, ⟨_, rfl, _, rfl⟩, _, N, rfl, ?_, hQ.thr⟩
      rw [hb8, if_neg (fun z => (q_b8_pos _ _).mp z q)]
      simp [mi, jm_up]
    · refine opV_o (b := .int (q_b8 (LT i) k)) hO hM hz1 hz2 hI MvCW.rf (by omega) (by omega) (fun to => lw_built_o l G d (by omega) hI.1.1 to (c_CW_built l G (d - 1) (by omega) hI hi2 hk2 q)) ⟨_, rfl⟩ fun h1 hK => ?_
      refine ⟨_, _, c_Md_built_i l G d hK h21 hls hi2 hk2, by rw [hb8], _, N, rfl, ?_, hQ.thr⟩
      rw [hb8, if_pos ((q_b8_pos _ _).mpr q)]
      simp [mi, jm_up]
theorem op_count (hl : l.stackTraces = false) (hd : 8 ≤ d) {wa : Int32} (hL : LI sc len S x j z0 h) : OpV l G d mm_Lw_count [(0, 9, 12, 19)] [.ref x, .int wa, .ref (x + 47)] mm_Md_count [.ref (x + 18), .int wa] TyI sc len S x j z0 h := by
  obtain ⟨hO, ⟨s, N, n, B, fc, fp, m, R, T, ls, tot, LT, hM, hI, hQ⟩, hz1, hz2⟩ := hL
  obtain ⟨hm, hs, hT, hA, hls⟩ := hI.ok
  obtain ⟨σ, τ, hS⟩ := hQ.2.2.2.2.2.sg hs
  by_cases ho : wa < 0 ∨ 4 < wa
  · have ho2 : wa.toInt < 0 ∨ 4 < wa.toInt := by
      rcases ho with z | z
      · exact Or.inl (i32_lt.mp z)
      · exact Or.inr (i32_lt.mp z)
    refine opV_t hO hM hz1 hz2 hI MvCW.rf (lw_count_t l G d (by omega) hI.1.1 (c_CW_countT l G hl (d - 1) (by omega) hI ho2)) fun h1 hK => ?_
    exact ⟨_, _, c_Md_count_t l G d hK ho, ⟨_, rfl, _, rfl⟩, _, N, rfl, by simp [mi, jm_up], hQ.thr⟩
  · obtain ⟨k, hk, e⟩ := i32_nat (i := wa) (fun z => ho (Or.inl z))
    subst e
    have hk2 : k ≤ 4 := by
      have : ¬ nI 4 < nI k := fun z => ho (Or.inr z)
      rw [nI_lt' (by omega) hk] at this
      omega
    have go : ∀ b : Int32, jm_C l G mm_CW_count (d - 1) [.ref x, .int (nI k)] h (some (.int b)) h → (∀ h1, MdK h1 (x + 18) → jm_C l G mm_Md_count d [.ref (x + 18), .int (nI k)] (mdH h1 (x + 18) s) (some (.int b)) (mdH h1 (x + 18) (mi s 0 0))) → OpV l G d mm_Lw_count [(0, 9, 12, 19)] [.ref x, .int (nI k), .ref (x + 47)] mm_Md_count [.ref (x + 18), .int (nI k)] TyI sc len S x j z0 h := by
      intro b hC hD
      refine opV_o (b := .int b) hO hM hz1 hz2 hI MvCW.rf (by omega) (by omega) (fun to => lw_count_o l G d (by omega) hI.1.1 to hC) ⟨_, rfl⟩ fun h1 hK => ?_
      exact ⟨_, _, hD h1 hK, rfl, _, N, rfl, by simp [mi, jm_up], hQ.thr⟩
    match k, hk2, go with
    | 0, _, go =>
      refine go _ (c_CW_count0 l G (d - 1) (by omega) hI) fun h1 hK => ?_
      have e : cnt (tM s) 64 = m := by
        have := hS.cnt (f := fun _ => true) (g := tM s) (fun p hp => (hS.2.1 p hp).2.1.symm) (fun c _ h => h)
        rw [← this]
        have hc : ∀ k, cnt (fun _ => true) k = k := fun k => by
          induction k with
          | zero => rfl
          | succ k ih => show cnt (fun _ => true) k + 1 = k + 1; rw [ih]
        exact hc m
      have := c_Md_count0 l G d (by omega) (s := s) hK hS.1
      rw [e] at this
      exact this
    | 1, _, go =>
      refine go _ (c_CW_count1 l G (d - 1) (by omega) hI) fun h1 hK => ?_
      have e : cnt (mst s N) 64 = cnt (q_stf R m) m := by
        refine (hS.cnt (fun p hp => ?_) (fun c _ h => ?_)).symm
        · unfold q_stf mst
          rw [hS.sta hs hT hp, (hS.2.1 p hp).2.1]
          rfl
        · unfold mst at h
          rw [Bool.and_eq_true] at h
          exact h.1
      have := c_Md_count1 l G d (by omega) (s := s) hK hS.1
      rw [e] at this
      exact this
    | 2, _, go =>
      refine go _ (c_CW_count2 l G (d - 1) (by omega) hI) fun h1 hK => ?_
      have := c_Md_count2 l G d (by omega) (s := s) hK hS.1
      rw [hQ.1.1] at this
      exact this
    | 3, _, go =>
      refine go _ (c_CW_count3 l G (d - 1) (by omega) hI) fun h1 hK => ?_
      have := c_Md_count3 l G d (by omega) (s := s) hK hS.1
      rw [hQ.2.2.1] at this
      exact this
    | 4, _, go =>
      refine go _ (c_CW_count4 l G (d - 1) (by omega) hI) fun h1 hK => ?_
      have := c_Md_count4 l G d (by omega) (s := s) hK hS.1
      rw [hQ.2.2.2.1] at this
      exact this
end OPS
