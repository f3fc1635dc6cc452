/-! build, buildAll, define: class and reference answer alike -/
theorem CeQ.rcg {R R' : Nat → CRec} {m : Nat} {T : Nat → Term} {s : MS} {N : Nat → Nat} (h : CeQ R m T s N) (e : ∀ p, p < m → R' p = R p) : CeQ R' m T s N := by
  obtain ⟨h1, h2, h3, h4⟩ := h
  refine ⟨h1, fun p hp => by rw [e p hp]; exact h2 p hp, fun c hc ht => ?_, h4⟩
  obtain ⟨p, hp, hn⟩ := h3 c hc ht
  exact ⟨p, hp, by rw [e p hp]; exact hn⟩
theorem build_fin {R R' : Nat → CRec} {m : Nat} {T : Nat → Term} {z s9 : MS} {N : Nat → Nat} {σ τ : Nat → Nat} {all wo set wo' : Int64} {n : Nat} {B : Nat → Int32} {fc tot : Int32} (hm : m ≤ 64) (hs : SortR R m) (hT : TreesOK R m T) (hA : Acyc R m) (hS : SgT R m T z N σ τ) (hB : BI m T R R' all all wo) (hM : BIM z s9 N (fun c => T (τ c)) set 0 wo') (hall : ∀ p, p < m → (bt all p = true ↔ bt set (σ p) = true)) (hset : ∀ c, c < 64 → bt set c = true → tM z c = true) (hMT : MT z B n) (h3 : z.1 3 = fc) (h19 : z.1 19 = tot) (LT : Nat → Int64) : EqS n B fc m R' T (cnt (bt wo) m) (tot + nI (cnt (bt wo) m)) (q_kl R' wo LT m) s9 N ∧ cnt (bt wo) m = cnt (bt wo') 64 ∧ s9.1 0 = z.1 0 := by
  obtain ⟨b1, b2, b3⟩ := build_eq hm hs hT hA hS hB hM hall hset LT
  obtain ⟨hSt, -, -, -, -, -, -, f19, f21, -⟩ := hM
  have e : ∀ k, k ≠ 19 → k ≠ 21 → k ≠ 39 → k ≠ 43 → s9.1 k = z.1 k := hSt.1
  have e1 : s9.2.2.1 1 = z.2.2.1 1 := hSt.2.2.1 1 (by decide) (by decide) (by decide) (by decide)
  refine ⟨⟨⟨(e 2 (by decide) (by decide) (by decide) (by decide)).trans hMT.1, hMT.2.1, by rw [e1]; exact hMT.2.2⟩, (e 3 (by decide) (by decide) (by decide) (by decide)).trans h3, by rw [f19, h19, b2], by rw [f21, b2], b3, b1⟩, b2, e 0 (by decide) (by decide) (by decide) (by decide)⟩
section OPB
variable {l : Launch} {G : jm_G} {d : Nat} {sc len : Nat} {S : Nat → Int32} {x j z0 : Nat} {h : jm_H}
theorem op_build (hl : l.stackTraces = false) (hd : 9 ≤ d) (hL : LI sc len S x j z0 h) : OpV l G d mm_Lw_build [(0, 8, 11, 25)] [.ref x, .ref (x + 47)] mm_Md_build [.ref (x + 18)] TyI sc len S x j z0 h := by
  obtain ⟨hO, ⟨s, N, n, B, fc, fp, m, R, T, ls, tot, LT, hM, hI, hQ⟩, hz1, hz2⟩ := hL
  obtain ⟨hm, hs, hT, hA, -⟩ := hI.ok
  by_cases q : q_nm B n = 0
  · obtain ⟨hx, hC, hI9, mv⟩ := c_CW_buildT l G hl (d - 1) (by omega) hI q
    refine opV_t hO hM hz1 hz2 hI9 mv (lw_build_t l G d (by omega) hI.1.1 hC) fun h1 hK => ?_
    obtain ⟨v, h2, hD, ev, s1, hF, e2⟩ := c_Md_build_t l G d (by omega) hK hQ.1 q
    exact ⟨_, _, hD, ⟨_, ev, _, rfl⟩, _, N, e2, by simp [mi, jm_up], hQ.fix hF⟩
  · obtain ⟨σ, τ, hS⟩ := hQ.2.2.2.2.2.sg hs
    have hTh := hS.th hs hT hA
    obtain ⟨v, h9, hC, R', wo, RS, hB, hI9, mv, ev⟩ := c_CW_build l G (d - 1) (by omega) hI q
    subst ev
    cases e : q_ix R m (q_nm B n) with
    | none =>
      rw [e] at hB hC
      have hb0 : ∀ p, p < 64 → bt (q_grun (q_trs R m RS m) m m (ixw none) 0) p = false := fun p hp => by
        cases eb : bt (q_grun (q_trs R m RS m) m m (ixw none) 0) p with
        | false => rfl
        | true =>
          have hin : InM m (0 : Int64) := fun p _ hb => by rw [bt_zero] at hb; cases hb
          have := ((grun_bt (R := R) (RS := RS) hm hin hp).mp eb).2 (fun _ => False) ⟨(fun p hp => by have := hp.2; rw [bt_zero] at this; cases this), fun _ _ _ _ _ h => h⟩
          exact this.elim
      have hw0 : ∀ p, p < 64 → bt wo p = false := fun p hp => by
        cases eb : bt wo p with
        | false => rfl
        | true => have := hB.2.1 p hp eb; rw [hb0 p hp] at this; cases this
      have hc0 : cnt (bt wo) m = 0 := cnt_none fun p hp => hw0 p (by omega)
      have hR : ∀ p, p < m → R' p = R p := fun p hp => (hB.2.2.2 p hp).1 (hb0 p (by omega))
      rw [hc0] at hI9
      refine opV_o (b := .int (-1)) hO hM hz1 hz2 hI9 mv (by omega) (by omega) (fun to => lw_build_o l G d (by omega) hI.1.1 to hC) ⟨_, rfl⟩ fun h1 hK => ?_
      obtain ⟨v, h2, hD, s1, hF, ev⟩ := c_Md_build_o l G d (by omega) hK hQ.1 q hTh
      rw [hS.cn e] at ev
      have hQ2 : EqS 0 B fc m R T ls tot LT (mi (mi s1 0 0) 2 0) N := (hQ.fix (v := 0) hF).len (Nat.zero_le _)
      refine ⟨_, _, hD, ev.1, _, N, ev.2, by simp [mi, jm_up], ⟨hQ2.1.1, hQ2.1.2.1, hQ2.1.2.2⟩, hQ2.2.1, ?_, by simp [mi, jm_up]; rfl, fun i hi => by omega, (hQ2.2.2.2.2.2.rcg hR).cg (fun _ _ => rfl) (fun _ _ => rfl) rfl⟩
      have h19 : (mi (mi (mi s1 0 0) 2 0) 21 0).1 19 = tot := hQ2.2.2.1
      rw [h19]
      exact (Int32.add_zero tot).symm
    | some p =>
      rw [e] at hB hC
      have hp := (q_ix_some e).1
      refine opV_o (b := .int (nI (cnt (bt wo) m))) hO hM hz1 hz2 hI9 mv (by omega) (by omega) (fun to => lw_build_o l G d (by omega) hI.1.1 to hC) ⟨_, rfl⟩ fun h1 hK => ?_
      obtain ⟨v, h2, hD, s1, hF, ev⟩ := c_Md_build_o l G d (by omega) hK hQ.1 q hTh
      rw [hS.cs hs e] at ev
      obtain ⟨all, s9, wo', hall, ev, e2, hBM⟩ := ev
      have hQ2 : EqS 0 B fc m R T ls tot LT (mi (mi s1 0 0) 2 0) N := (hQ.fix (v := 0) hF).len (Nat.zero_le _)
      have hS2 : SgT R m T (mi (mi (mi s1 0 0) 2 0) 21 0) N σ τ := hS.c hF.2.2
      have hin : InM m (bt1 p) := fun i hi hb => by
        rw [bt_bt1 (by omega) hi, decide_eq_true_eq] at hb
        omega
      have ha : ∀ i, i < m → (bt (q_grun (q_trs R m RS m) m m (ixw (some p)) 0) i = true ↔ bt all (σ i) = true) := fun i hi => by
        have h1 := grun_bt (R := R) (RS := RS) hm hin (p := i) (by omega)
        have h2 := hS.need hs hT hm hp hi
        rw [hall _ (hS.2.1 i hi).1, ← h2]
        exact h1.trans ⟨fun z => z.2, fun z => ⟨hi, z⟩⟩
      have hst : ∀ c, c < 64 → bt all c = true → tM (mi (mi (mi s1 0 0) 2 0) 21 0) c = true := fun c hc hb => by
        have := ((hall c hc).mp hb).th (hS.2.1 p hp).2.1
        rw [tM_c (s := s) (s' := mi (mi (mi s1 0 0) 2 0) 21 0) hF.2.2]
        exact this
      obtain ⟨f1, f2, f3⟩ := build_fin (n := 0) (B := B) (fc := fc) (tot := tot) hm hs hT hA hS2 hB hBM ha hst ⟨hQ2.1.1, hQ2.1.2.1, hQ2.1.2.2⟩ hQ2.2.1 hQ2.2.2.1 LT
      exact ⟨_, _, hD, by rw [ev, f2], s9, N, e2, by rw [f3]; simp [mi, jm_up], f1⟩
theorem op_buildAll (hd : 8 ≤ d) (hL : LI sc len S x j z0 h) : OpP l G d mm_CW_buildAll mm_Md_buildAll sc len S x j z0 h := by
  obtain ⟨hO, ⟨s, N, n, B, fc, fp, m, R, T, ls, tot, LT, hM, hI, hQ⟩, hz1, hz2⟩ := hL
  obtain ⟨hm, hs, hT, hA, -⟩ := hI.ok
  obtain ⟨σ, τ, hS⟩ := hQ.2.2.2.2.2.sg hs
  have hTh := hS.th hs hT hA
  obtain ⟨v, h9, hC, R', wo, RS, hB, hI9, mv, ev⟩ := c_CW_buildAll l G d hd hI
  subst ev
  refine opP_o (b := nI (cnt (bt wo) m)) hO hM hz1 hz2 hI9 mv (by omega) (by omega) hC fun h1 hK => ?_
  obtain ⟨v, h2, hD, all, s9, wo', hall, ev, e2, hBM⟩ := c_Md_buildAll l G d (by omega) hK hTh
  have hQ2 : EqS n B fc m R T ls tot LT (mi s 0 0) N := hQ.thr
  have hS2 : SgT R m T (mi s 0 0) N σ τ := hS.c rfl
  have hqa := q_all_bt hm m (Nat.le_refl _)
  have hin : InM m (q_all m) := fun i hi hb => (hqa i hi).mp hb
  have ha : ∀ i, i < m → (bt (q_grun (q_trs R m RS m) m m (q_all m) 0) i = true ↔ bt all (σ i) = true) := fun i hi => by
    have h1 := grun_bt (R := R) (RS := RS) hm hin (p := i) (by omega)
    refine ⟨fun _ => (hall _ (hS.2.1 i hi).1).mpr (hS.2.1 i hi).2.1, fun _ => h1.mpr ⟨hi, ?_⟩⟩
    exact NeedC.clo.1 i ⟨by omega, (hqa i (by omega)).mpr hi⟩
  obtain ⟨f1, f2, f3⟩ := build_fin hm hs hT hA hS2 hB hBM ha (fun c hc hb => (hall c hc).mp hb) hQ2.1 hQ2.2.1 hQ2.2.2.1 LT
  exact ⟨_, _, hD, by rw [ev, f2], s9, N, e2, f1⟩
/-- after reading, the cells are as they were -/
theorem EqS.fx {n : Nat} {B : Nat → Int32} {fc fc' : Int32} {m : Nat} {R : Nat → CRec} {T : Nat → Term} {ls : Nat} {tot : Int32} {LT : Nat → Int64} {s s1 s2 : MS} {N : Nat → Nat} (hQ : EqS n B fc m R T ls tot LT s N) (hF : Fix (mi s 0 0) s1) (h22 : s2.2.2 = s1.2.2) (h2 : s2.1 2 = 0) (h3 : s2.1 3 = fc') (h19 : s2.1 19 = s1.1 19) (h21 : s2.1 21 = s1.1 21) : EqS 0 B fc' m R T ls tot LT s2 N := by
  obtain ⟨f1, f2, f3, f4⟩ := hF
  obtain ⟨q1, q2, q3, q4, q5, q6⟩ := hQ
  have a19 : s1.1 19 = s.1 19 := (f1 19 (by decide) (by decide) (by decide)).trans (by simp [mi, jm_up])
  have a21 : s1.1 21 = s.1 21 := (f1 21 (by decide) (by decide) (by decide)).trans (by simp [mi, jm_up])
  refine ⟨⟨h2, by omega, fun i hi => by omega⟩, h3, h19.trans (a19.trans q3), h21.trans (a21.trans q4), fun i hi => ?_, q6.cg (fun k hk => ?_) (fun k hk => ?_) ?_⟩
  · rw [h22, (f3 16 (by omega)).2]
    exact q5 i hi
  · rw [h22, (f3 k (by omega)).1]
    rfl
  · rw [h22, (f3 k (by omega)).2]
    rfl
  · rw [h22, f4]
    rfl
theorem op_define (hd : 94 ≤ d) (hL : LI sc len S x j z0 h) : OpP l G d mm_CW_define mm_Md_define sc len S x j z0 h := by
  obtain ⟨hO, ⟨s, N, n, B, fc, fp, m, R, T, ls, tot, LT, hM, hI, hQ⟩, hz1, hz2⟩ := hL
  obtain ⟨hm, hs, hT, hA, -⟩ := hI.ok
  obtain ⟨σ, τ, hS⟩ := hQ.2.2.2.2.2.sg hs
  obtain ⟨v, h9, hC, c, nm, res, hDf, hres⟩ := c_CW_define l G d hd hI
  have hMd : ∀ h1, MdK h1 (x + 18) → _ := fun h1 hK => c_Md_define l G d (by omega) (h := h1) (a := x + 18) (s := s) (c := cu0 c) hK hQ.1 hS.1 rfl hDf
  have hcm : cnt (tM s) 64 = m := by
    have := hS.cnt (f := fun _ => true) (g := tM s) (fun p hp => (hS.2.1 p hp).2.1.symm) (fun c _ h => h)
    rw [← this]
    have hc : ∀ k, cnt (fun _ => true) k = k := fun k => by
      induction k with
      | zero => rfl
      | succ k ih => show cnt (fun _ => true) k + 1 = k + 1; rw [ih]
    exact hc m
  cases res with
  | inl e =>
    obtain ⟨ev, hI9, mv⟩ := hres
    subst ev
    refine opP_o (b := nI e.2) hO hM hz1 hz2 hI9 mv (by omega) (by omega) hC fun h1 hK => ?_
    obtain ⟨v, h2, hD, s', e2, s1, hF, ev, e3, es⟩ := hMd h1 hK
    subst es
    exact ⟨_, _, hD, ev, _, N, e2, hQ.fx hF rfl (by simp [mi, jm_up]) (by simpa [mi, jm_up] using e3) (by simp [mi, jm_up]) (by simp [mi, jm_up])⟩
  | inr y =>
    obtain ⟨L, M, ST, DT, NA, PL, ht, hcd, hL79, hN40, hcase⟩ := hres
    have hplc := Df.plc hDf (Nat.zero_le _) rfl
    have hCdN := Cdx.nmsE y.1 ht _ _ _ _ hcd
    have hn2 := hQ.1.2.1
    -- what the reference comes to
    have ref : ∀ h1, MdK h1 (x + 18) → ∃ v h2 s' s1 i, jm_C l G mm_Md_define d [.ref (x + 18)] (mdH h1 (x + 18) s) v h2 ∧ h2 = mdH h1 (x + 18) s' ∧ Fix (mi s 0 0) s1 ∧ s1.1 3 = 0 ∧ y.2.2 ≤ 40 ∧ s1.2.2.1 25 0 = nI i ∧ RepS s1 y.1 i 0 y.2.2 ∧ ((m_cell s nm = none ∧ cnt (tM s) 64 = 64 ∧ v = some (.int 0) ∧ s' = mi (mi (mi s1 3 4) 4 0) 2 0) ∨ (¬ (m_cell s nm = none ∧ cnt (tM s) 64 = 64) ∧ ∃ F : Int32, ((∀ i, i < M → ¬ bkC R m nm NA i) → F < 0) ∧ (∀ i, i < M → (∀ j, j < i → ¬ bkC R m nm NA j) → bkC R m nm NA i → ¬ F < 0 ∧ F = PL i) ∧ ((¬ F < 0 ∧ v = some (.int F) ∧ s' = mi (mi (mi s1 3 5) 4 F) 2 0) ∨ (F < 0 ∧ v = some (.int (-1)) ∧ ∃ c, c < 64 ∧ ((m_cell s nm = some c ∧ NewP (mi s1 2 0) s' c y.2.2) ∨ (m_cell s nm = none ∧ tM s c = false ∧ NewP (m_mk (mi s1 2 0) c nm) s' c y.2.2)))))) := by
      intro h1 hK
      obtain ⟨v, h2, hD, s', e2, s1, hF, hAS, hor⟩ := hMd h1 hK
      obtain ⟨⟨-, -, -, -, hk40, -, -, -, h3⟩, -, i, lo, hi, hRS, hctx⟩ := hAS
      have hlo : lo = 0 := hctx
      subst hlo
      refine ⟨v, h2, s', s1, i, hD, e2, hF, h3, hk40, hi, hRS, ?_⟩
      rcases hor with hor | ⟨hnf, all, hall, hor⟩
      · exact Or.inl hor
      · have hcell : ∀ u, m_cell s1 u = m_cell s u := fun u => (hF.cell u).trans (m_cell_c rfl u)
        have hbk : ∀ k, bkM s1 nm all k = true ↔ s1.2.2.1 17 k = 1 ∧ (s1.2.2.2.1 21 k = nm ∨ ∃ p, q_ix R m (s1.2.2.2.1 21 k) = some p ∧ DepC R m nm p) := by
          intro k
          unfold bkM
          rw [Bool.and_eq_true, decide_eq_true_eq, Bool.or_eq_true, decide_eq_true_eq, hcell]
          refine and_congr Iff.rfl (or_congr Iff.rfl ?_)
          cases e : q_ix R m (s1.2.2.2.1 21 k) with
          | none =>
            rw [hS.cn e]
            constructor
            · intro z; cases z
            · rintro ⟨p, z, -⟩; cases z
          | some p =>
            rw [hS.cs hs e]
            have hp := (q_ix_some e).1
            show bt all (σ p) = true ↔ _
            rw [hall _ (hS.2.1 p hp).1, ← hS.dep hs hT hm nm hp]
            constructor
            · intro z; exact ⟨p, rfl, z⟩
            · rintro ⟨p', z, w⟩; cases z; exact w
        have hce := circ_eq (x := nm) (all := all) (bk := fun u => u = nm ∨ ∃ p, q_ix R m u = some p ∧ DepC R m nm p) hRS hCdN hplc hn2 hbk
        exact Or.inr ⟨hnf, m_fst s1 nm all y.2.2, hce.1, hce.2, hor⟩
    have noc : NoC R m nm M NA → ∀ i, i < M → ¬ bkC R m nm NA i := fun hno i hi hb => by
      obtain ⟨n1, n2⟩ := hno i hi
      rcases hb with hb | ⟨p, hb, hd9⟩
      · exact n1 hb
      · exact n2 p hb hd9
    rcases hcase with ⟨hix, hm64, ev, hI9, mv⟩ | ⟨hnf, i, hi, hf, hbi, ev, hI9, mv⟩ | ⟨hno, ev, p, f, SK, SV, hix, hI9, mv⟩ | ⟨hno, ev, A, f, SK, SV, hix, hm64, hI9, mv⟩
    · subst ev
      refine opP_o (b := 0) hO hM hz1 hz2 hI9 mv (by omega) (by omega) hC fun h1 hK => ?_
      obtain ⟨v, h2, s', s1, i, hD, e2, hF, h3, hk40, hi25, hRS, hor⟩ := ref h1 hK
      rcases hor with ⟨-, -, ev, es⟩ | ⟨hnf, -⟩
      · subst es
        exact ⟨_, _, hD, ev, _, N, e2, hQ.fx hF rfl (by simp [mi, jm_up]) (by simp [mi, jm_up]) (by simp [mi, jm_up]) (by simp [mi, jm_up])⟩
      · exact absurd ⟨hS.cn hix, by omega⟩ hnf
    · subst ev
      refine opP_o (b := PL i) hO hM hz1 hz2 hI9 mv (by omega) (by omega) hC fun h1 hK => ?_
      obtain ⟨v, h2, s', s1, i0, hD, e2, hF, h3, hk40, hi25, hRS, hor⟩ := ref h1 hK
      rcases hor with ⟨hc0, hc1, -, -⟩ | ⟨-, F, -, hF2, hor⟩
      · refine absurd ⟨?_, by omega⟩ hnf
        cases e : q_ix R m nm with
        | none => rfl
        | some p => rw [hS.cs hs e] at hc0; cases hc0
      · obtain ⟨g1, g2⟩ := hF2 i hi hf hbi
        rcases hor with ⟨-, ev, es⟩ | ⟨g3, -, -⟩
        · subst es
          rw [g2] at ev
          exact ⟨_, _, hD, ev, _, N, e2, hQ.fx hF rfl (by simp [mi, jm_up]) (by simp [mi, jm_up]) (by simp [mi, jm_up]) (by simp [mi, jm_up])⟩
        · exact absurd g3 g1
    · subst ev
      have hp := (q_ix_some hix).1
      refine opP_o (b := -1) hO hM hz1 hz2 hI9 mv (by omega) (by omega) hC fun h1 hK => ?_
      obtain ⟨v, h2, s', s1, i0, hD, e2, hF, h3, hk40, hi25, hRS, hor⟩ := ref h1 hK
      have hcs := hS.cs hs hix
      rcases hor with ⟨hc0, -, -, -⟩ | ⟨-, F, hF1, -, hor⟩
      · rw [hcs] at hc0; cases hc0
      · have g1 := hF1 (noc hno)
        rcases hor with ⟨g3, -, -⟩ | ⟨-, ev, c9, hc9, ⟨hc0, hNP⟩ | ⟨hc0, -, -⟩⟩
        · exact absurd g1 g3
        · have hQ2 : EqS 0 B 0 m R T ls tot LT (mi s1 2 0) N := hQ.fx hF rfl (by simp [mi, jm_up]) (by simpa [mi, jm_up] using h3) (by simp [mi, jm_up]) (by simp [mi, jm_up])
          obtain ⟨σ2, τ2, hS2⟩ := hQ2.2.2.2.2.2.sg hs
          have hcs2 := hS2.cs hs hix
          have hcc : m_cell (mi s1 2 0) nm = m_cell s nm := (m_cell_c (s := s1) rfl nm).trans ((hF.cell nm).trans (m_cell_c rfl nm))
          rw [hcc, hc0] at hcs2
          have hce : c9 = σ2 p := Option.some.inj hcs2
          subst hce
          have e1 : s'.1 = (mi s1 2 0).1 := hNP.1
          refine ⟨_, _, hD, ev, s', jm_up N (σ2 p) y.2.2, e2, ⟨?_, by omega, fun i hi => by omega⟩, ?_, ?_, ?_, fun i hi => ?_, CeQ.redef hS2 hs hp hNP hk40 hRS hi25⟩
          · rw [e1]; exact hQ2.1.1
          · rw [e1]; exact hQ2.2.1
          · rw [e1]; exact hQ2.2.2.1
          · rw [e1]; exact hQ2.2.2.2.1
          · rw [newp_l hNP (by decide)]; exact hQ2.2.2.2.2.1 i hi
        · rw [hcs] at hc0; cases hc0
    · subst ev
      refine opP_o (b := -1) hO hM hz1 hz2 hI9 mv (by omega) (by omega) hC fun h1 hK => ?_
      obtain ⟨v, h2, s', s1, i0, hD, e2, hF, h3, hk40, hi25, hRS, hor⟩ := ref h1 hK
      have hcn := hS.cn hix
      rcases hor with ⟨-, hc0, -, -⟩ | ⟨-, F, hF1, -, hor⟩
      · omega
      · have g1 := hF1 (noc hno)
        rcases hor with ⟨g3, -, -⟩ | ⟨-, ev, c9, hc9, ⟨hc0, -⟩ | ⟨-, htc, hNP⟩⟩
        · exact absurd g1 g3
        · rw [hcn] at hc0; cases hc0
        · have hQ2 : EqS 0 B 0 m R T ls tot LT (mi s1 2 0) N := hQ.fx hF rfl (by simp [mi, jm_up]) (by simpa [mi, jm_up] using h3) (by simp [mi, jm_up]) (by simp [mi, jm_up])
          obtain ⟨σ2, τ2, hS2⟩ := hQ2.2.2.2.2.2.sg hs
          have htm : tM (mi s1 2 0) c9 = false := by
            have : tM (mi s1 2 0) = tM s := (tM_c (s := s1) rfl).trans (hF.tm.trans (tM_c rfl))
            rw [this]
            exact htc
          have e1 : s'.1 = (mi s1 2 0).1 := hNP.1
          refine ⟨_, _, hD, ev, s', jm_up N c9 y.2.2, e2, ⟨?_, by omega, fun i hi => by omega⟩, ?_, ?_, ?_, fun i hi => ?_, CeQ.newc hS2 hs (q_pl_le R m nm) hc9 htm hix hNP hk40 hRS hi25⟩
          · rw [e1]; exact hQ2.1.1
          · rw [e1]; exact hQ2.2.1
          · rw [e1]; exact hQ2.2.2.1
          · rw [e1]; exact hQ2.2.2.2.1
          · rw [newp_l hNP (by decide)]
            have : (m_mk (mi s1 2 0) c9 nm).2.2.2.1 16 = (mi s1 2 0).2.2.2.1 16 := by simp [m_mk, maz, mal, mai, jm_up]
            rw [this]
            exact hQ2.2.2.2.2.1 i hi
end OPB
