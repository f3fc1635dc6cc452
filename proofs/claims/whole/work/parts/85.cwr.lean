set_option maxHeartbeats 4000000 in
set_option maxRecDepth 100000 in
theorem c_Rd_refuseA (l : Launch) (G : jm_G) (d : Nat) {h : jm_H} {r : Nat} {q p : Int32} (tr : h.2.2.1 r = (jm_o 1, 7)) : jm_C l G mm_Rd_refuseAt d [.ref r, .int q, .int p] h none (jm_put (jm_put h r 3 (.int q)) r 4 (.int p)) := by
  refine jm_ofE (by decide) rfl (Nat.le_of_ble_eq_true rfl) ?_
  refine jx_aload_n d_Rd_refuseAt_0 0 rfl ?_
  refine jx_iload_n d_Rd_refuseAt_1 1 rfl ?_
  refine jx_put (v0 := .int (q)) d_Rd_refuseAt_2 fF_Rd_29 jv_Rd ft_Rd_faultCode tr rfl rfl ?_
  refine jx_aload_n d_Rd_refuseAt_5 0 rfl ?_
  refine jx_iload_n d_Rd_refuseAt_6 2 rfl ?_
  refine jx_put (v0 := .int (p)) d_Rd_refuseAt_7 fF_Rd_33 jv_Rd ft_Rd_faultPlace tr rfl rfl ?_
  exact jx_vret d_Rd_refuseAt_10 rfl (⟨rfl, rfl⟩)
set_option maxHeartbeats 4000000 in
set_option maxRecDepth 100000 in
theorem c_Rd_placeA (l : Launch) (G : jm_G) (d : Nat) {h : jm_H} {r i : Nat} {PL : Nat → Int32} (tr : h.2.2.1 r = (jm_o 1, 7)) (r6 : h.2.2.2 r 6 = .ref (r + 9)) (tp : h.2.2.1 (r + 9) = (jm_a 1, 40)) (hPL : arI h (r + 9) 40 PL) (hi : i < 40) : jm_C l G mm_Rd_placeOfName d [.ref r, .int (nI i)] h (some (.int (PL i))) h := by
  refine jm_ofE (by decide) rfl (Nat.le_of_ble_eq_true rfl) ?_
  refine jx_iload_n d_Rd_placeOfName_0 1 rfl ?_
  refine jx_if_ltN (tgt := 22) (i) d_Rd_placeOfName_1 rfl (by omega) (by decide) (fun c1 => ?_) (fun c1 => ?_)
  · omega
  ·
    refine jx_iload_n d_Rd_placeOfName_4 1 rfl ?_
    refine jx_aload_n d_Rd_placeOfName_5 0 rfl ?_
    refine jx_get d_Rd_placeOfName_6 fF_Rd_39 tr r6 ?_
    refine jx_alen (v0 := 40) d_Rd_placeOfName_9 tp (by decide) ?_
    refine jx_icmp_geN (tgt := 22) (i) (40) d_Rd_placeOfName_10 rfl rfl (by omega) (by omega) (by decide) (fun c2 => ?_) (fun c2 => ?_)
    · omega
    ·
      refine jx_aload_n d_Rd_placeOfName_13 0 rfl ?_
      refine jx_get d_Rd_placeOfName_14 fF_Rd_39 tr r6 ?_
      refine jx_iload_n d_Rd_placeOfName_17 1 rfl ?_
      refine jx_iald d_Rd_placeOfName_18 tp rfl (jm_vinN (by omega) (by decide)) (jm_atN (by omega) (hPL i (by omega))) ?_
      refine jx_goto (tgt := 23) d_Rd_placeOfName_19 (by decide) ?_
      exact jx_iret d_Rd_placeOfName_23 rfl (⟨rfl, rfl⟩)
set_option maxHeartbeats 4000000 in
set_option maxRecDepth 100000 in
theorem c_Cl_init (l : Launch) (G : jm_G) (d : Nat) (hd : 1 ≤ d) {h : jm_H} {a f : Nat} {nm : Int64} (ta : h.2.2.1 a = (jm_o 5, 5)) : jm_C l G mm_Cl_init d [.ref a, .long nm, .ref f] h none (jm_put (jm_put (jm_put (jm_put (jm_put h a 2 (.int 0)) a 3 (.int 0)) a 4 (.long 0)) a 0 (.long nm)) a 1 (.ref f)) := by
  refine jm_ofE (by decide) rfl (Nat.le_of_ble_eq_true rfl) ?_
  refine jx_aload_n d_Cl_init_0 0 rfl ?_
  refine jx_objInit d_Cl_init_1 lk_Cl_3 wi_Ob_init wc_Ob_init (show 1 ≤ d by omega) (by show 0 + 12 ≤ jm_lo d; unfold jm_lo; omega) ?_
  refine jx_aload_n d_Cl_init_4 0 rfl ?_
  refine jx_iconst (v0 := 0) d_Cl_init_5 (by decide) ?_
  refine jx_put (v0 := .int (0)) d_Cl_init_6 fF_Cl_9 jv_Cl ft_Cl_workedOut ta rfl rfl ?_
  refine jx_aload_n d_Cl_init_9 0 rfl ?_
  refine jx_iconst (v0 := 0) d_Cl_init_10 (by decide) ?_
  refine jx_put (v0 := .int (0)) d_Cl_init_11 fF_Cl_15 jv_Cl ft_Cl_kind ta rfl rfl ?_
  refine jx_aload_n d_Cl_init_14 0 rfl ?_
  refine jx_lconst (v0 := 0) d_Cl_init_15 (by decide) ?_
  refine jx_put (v0 := .long (0)) d_Cl_init_16 fF_Cl_19 jv_Cl ft_Cl_value ta rfl rfl ?_
  refine jx_aload_n d_Cl_init_19 0 rfl ?_
  refine jx_lload_n d_Cl_init_20 1 rfl ?_
  refine jx_putF (v0 := .long (nm)) d_Cl_init_21 fF_Cl_23 jv_Cl ft_Cl_name rfl ta rfl rfl ?_
  refine jx_aload_n d_Cl_init_24 0 rfl ?_
  refine jx_aload_n d_Cl_init_25 2 rfl ?_
  refine jx_put (v0 := .ref (f)) d_Cl_init_26 fF_Cl_26 jv_Cl ft_Cl_formula ta rfl rfl ?_
  exact jx_vret d_Cl_init_29 rfl (⟨rfl, rfl⟩)
section RCX
variable {h : jm_H} {r f n : Nat} {B : Nat → Int32} {c : Cur} {k L N : Nat} {ST DT : Nat → Int32} {NA : Nat → Int64} {PL : Nat → Int32} {fc fp : Int32} {nme : Int64}
theorem RdC.flt {a b : Int32} (p : RdC h r f n B c k L N ST DT NA PL fc fp nme) : RdC (jm_put (jm_put h r 3 (.int a)) r 4 (.int b)) r f n B c k L N ST DT NA PL a b nme := by
  obtain ⟨tr, r0, r1, r2, r3, r4, r5, r6, tp, ⟨ta, f0, f1, f2, f3, f4, f5, f6, tb⟩, hB, hF, hST, hDT, hNA, hPL, hdis, hcs⟩ := p
  have n1 : r + 1 ≠ r := by omega
  have k2 : ∀ {q : Nat} {v : Value}, q ≠ 3 → q ≠ 4 → h.2.2.2 r q = v → (jm_put (jm_put h r 3 (.int a)) r 4 (.int b)).2.2.2 r q = v := fun h1 h2 h3 => jm_rd_k h2 (jm_rd_k h1 h3)
  have a2 : ∀ {b' q : Nat} {v : Value}, b' ≠ r → h.2.2.2 b' q = v → (jm_put (jm_put h r 3 (.int a)) r 4 (.int b)).2.2.2 b' q = v := fun h1 h3 => jm_rd_a h1 (jm_rd_a h1 h3)
  exact ⟨tr, k2 (by decide) (by decide) r0, k2 (by decide) (by decide) r1, k2 (by decide) (by decide) r2, jm_rd_k (by decide) (jm_rd_s _ _ _ _), jm_rd_s _ _ _ _, k2 (by decide) (by decide) r5, k2 (by decide) (by decide) r6, tp, ⟨ta, a2 n1 f0, a2 n1 f1, a2 n1 f2, a2 n1 f3, a2 n1 f4, a2 n1 f5, a2 n1 f6, tb⟩, fun j hj => a2 (by omega) (hB j hj), (hF.put (jm_ne_oo hF.1 tr (by decide))).put (jm_ne_oo hF.1 tr (by decide)), (hST.keep (by omega)).keep (by omega), (hDT.keep (by omega)).keep (by omega), (hNA.keep (by omega)).keep (by omega), (hPL.keep (by omega)).keep (by omega), hdis, hcs⟩
/-- the reader gets another Formula -/
theorem RdC.xch {h' : jm_H} {g L' N' : Nat} {ST' DT' : Nat → Int32} {NA' : Nat → Int64} (p : RdC h r f n B c k L N ST DT NA PL fc fp nme) (q : Agr (fun b => b = r + 1 ∨ b = r + 2 ∨ b = r + 9) h h') (tr : h'.2.2.1 r = (jm_o 1, 7)) (w : ∀ j, j ≠ 1 → h'.2.2.2 r j = h.2.2.2 r j) (w1 : h'.2.2.2 r 1 = .ref g) (hF : FmA h' g L' N') (hS : arI h' (g + 1) 80 ST') (hD : arI h' (g + 2) 80 DT') (hNn : arL h' (g + 3) 40 NA') (hd : g = r + 3 ∨ r + 10 ≤ g) : RdC h' r g n B c k L' N' ST' DT' NA' PL fc fp nme := by
  obtain ⟨-, r0, r1, r2, r3, r4, r5, r6, tp, ⟨ta, f0, f1, f2, f3, f4, f5, f6, tb⟩, hB, -, -, -, -, hPL, -, hcs⟩ := p
  have u := q (r + 1) (Or.inl rfl)
  have v := q (r + 2) (Or.inr (Or.inl rfl))
  have z := q (r + 9) (Or.inr (Or.inr rfl))
  exact ⟨tr, (w 0 (by decide)).trans r0, w1, (w 2 (by decide)).trans r2, (w 3 (by decide)).trans r3, (w 4 (by decide)).trans r4, (w 5 (by decide)).trans r5, (w 6 (by decide)).trans r6, z.1.trans tp, ⟨u.1.trans ta, (u.2 0).trans f0, (u.2 1).trans f1, (u.2 2).trans f2, (u.2 3).trans f3, (u.2 4).trans f4, (u.2 5).trans f5, (u.2 6).trans f6, v.1.trans tb⟩, fun j hj => (v.2 j).trans (hB j hj), hF, hS, hD, hNn, fun j hj => (z.2 j).trans (hPL j hj), hd, hcs⟩
end RCX
/-- the record of a cell with a formula just read -/
def newRec (a f : Nat) (nm : Int64) (kd : Int32) (v : Int64) (L N : Nat) (ST DT : Nat → Int32) (NA : Nat → Int64) (SK : Nat → Int32) (SV : Nat → Int64) : CRec := (a, f, nm, false, kd, v, L, N, ST, DT, NA, SK, SV)
theorem RdX.trh {h : jm_H} {x Y n : Nat} {B : Nat → Int32} {fc fp : Int32} {m : Nat} {R : Nat → CRec} {f : Nat} {c : Cur} {k L N : Nat} {ST DT : Nat → Int32} {NA : Nat → Int64} {PL : Nat → Int32} {nme : Int64} {RS : Nat → Int64} (hC : CsA h (x + 11) m R RS) (hY : x + 18 ≤ Y) (hRX : RdX h x Y n B fc fp m R f c k L N ST DT NA PL nme) : RdX (q_trh R m (x + 11) h m) x Y n B fc fp m R f c k L N ST DT NA PL nme := by
  have q := q_trh_fr (R := R) (m := m) (b := x + 11) (h := h) m
  have a := Agr.of_fr q
  obtain ⟨hR, hf1, hf2, hL, hN, hf3, hTy⟩ := hRX
  exact ⟨hR.ag a (by omega) (by omega) (by omega) (by omega) (fun j hj => by omega), hf1, by rw [q.1]; exact hf2, hL, hN, hf3, hTy.ag a (by omega) (by omega)⟩
/-- a cell gets another formula -/
theorem CWI.redef {h : jm_H} {x Y n : Nat} {B : Nat → Int32} {fc fp : Int32} {m : Nat} {R : Nat → CRec} {T : Nat → Term} {ls : Nat} {tot : Int32} {LT : Nat → Int64} {f : Nat} {c : Cur} {k L N : Nat} {ST DT : Nat → Int32} {NA : Nat → Int64} {PL : Nat → Int32} {nme : Int64} {t : Term} {SK : Nat → Int32} {SV : Nat → Int64} {p : Nat} (hI : CWI h x Y n B fc fp m R T ls tot LT) (hRX : RdX h x Y n B fc fp m R f c k L N ST DT NA PL nme) (ht : Tree t) (hcd : Cdx ST DT NA PL t 0 0 L N) (hL79 : L ≤ 79) (hN40 : N ≤ 40) (hSK : arI h (f + 4) 40 SK) (hSV : arL h (f + 5) 40 SV) (hp : p < m) (hnm : nme = k_n (R p)) (hno : NoC R m nme N NA) : CWI (jm_put (jm_put (jm_put h (x + 1) 1 (.ref (k_f (R p)))) (k_a (R p)) 1 (.ref f)) (k_a (R p)) 2 (.int 0)) x Y n B fc fp m (upR R p (newRec (k_a (R p)) f (k_n (R p)) (k_k (R p)) (k_v (R p)) L N ST DT NA SK SV)) (fun q => if q = p then t else T q) ls tot LT ∧ MvCW x Y h (jm_put (jm_put (jm_put h (x + 1) 1 (.ref (k_f (R p)))) (k_a (R p)) 1 (.ref f)) (k_a (R p)) 2 (.int 0)) 0 0 := by
  obtain ⟨⟨tx, x0, x1, x2⟩, -, ⟨RS, hC⟩, hO, hA, hB, ⟨wn, kd, v, S, hW⟩, ⟨b1, b2, b3, b4⟩, hAc⟩ := id hI
  obtain ⟨hR, hf1, hf2, hL, hN, hf3, hTy⟩ := id hRX
  obtain ⟨o1, o2, o3, o4, o5, o6⟩ := id hO
  obtain ⟨a1, a2, a3, a4⟩ := hA p hp
  obtain ⟨c1, c2, c3⟩ := hC.2.2.2.2.2.2.2.2 p hp
  have hF : FmA h f L N := hR.2.2.2.2.2.2.2.2.2.2.2.1
  have hne := hf3 p hp
  generalize hh : jm_put (jm_put (jm_put h (x + 1) 1 (.ref (k_f (R p)))) (k_a (R p)) 1 (.ref f)) (k_a (R p)) 2 (.int 0) = h'
  have hka1 : k_a (R p) ≠ x + 1 := by omega
  have fr : jm_fr (fun b => b = x + 1 ∨ b = k_a (R p)) h h' := by
    rw [← hh]
    exact ((jm_fr.rf.put (Or.inl rfl)).put (Or.inr rfl)).put (Or.inr rfl)
  have a := Agr.of_fr fr
  have e1 : h'.1 = h.1 := fr.1
  have kr : ∀ j, j ≠ 1 → h'.2.2.2 (x + 1) j = h.2.2.2 (x + 1) j := fun j hj => by
    rw [← hh]
    exact jm_rd_a hka1.symm (jm_rd_a hka1.symm (jm_rd_k hj rfl))
  have kr1 : h'.2.2.2 (x + 1) 1 = .ref (k_f (R p)) := by
    rw [← hh]
    exact jm_rd_a hka1.symm (jm_rd_a hka1.symm (jm_rd_s _ _ _ _))
  have tg : ∀ b, h'.2.2.1 b = h.2.2.1 b := fun b => by rw [fr.2.2.1]
  have ca : ∀ j, j ≠ 1 → j ≠ 2 → h'.2.2.2 (k_a (R p)) j = h.2.2.2 (k_a (R p)) j := fun j h1 h2 => by
    rw [← hh]
    exact jm_rd_k h2 (jm_rd_k h1 (jm_rd_a hka1 rfl))
  have ca1 : h'.2.2.2 (k_a (R p)) 1 = .ref f := by
    rw [← hh]
    exact jm_rd_k (by decide) (jm_rd_s _ _ _ _)
  have ca2 : h'.2.2.2 (k_a (R p)) 2 = .int 0 := by
    rw [← hh]
    exact jm_rd_s _ _ _ _
  -- no formula's cells are the cell or the reader
  have fk : ∀ q, q < m → ∀ j, j ≤ 5 → ¬ (k_f (R q) + j = x + 1 ∨ k_f (R q) + j = k_a (R p)) := fun q hq j hj z => by
    obtain ⟨d1, d2, d3, d4⟩ := hA q hq
    obtain ⟨-, -, e3⟩ := hC.2.2.2.2.2.2.2.2 q hq
    rcases z with z | z
    · omega
    · by_cases j0 : j = 0
      · subst j0; exact jm_ne_oo e3.1.1 c2.1 (by decide) z
      · obtain ⟨t', nn, ht'⟩ := e3.1.arr (i := j) (by omega) hj
        exact jm_ne_oa c2.1 ht' z.symm
  have ff : ∀ j, j ≤ 5 → ¬ (f + j = x + 1 ∨ f + j = k_a (R p)) := fun j hj z => by
    rcases z with z | z
    · omega
    · by_cases j0 : j = 0
      · subst j0; exact jm_ne_oo hF.1 c2.1 (by decide) z
      · obtain ⟨t', nn, ht'⟩ := hF.arr (i := j) (by omega) hj
        exact jm_ne_oa c2.1 ht' z.symm
  have far : ∀ b, x + 2 ≤ b → b < x + 18 → ¬ (b = x + 1 ∨ b = k_a (R p)) := fun b h1 h2 z => by omega
  have hx := a x (by omega)
  have same : ∀ q, q ≠ p → upR R p (newRec (k_a (R p)) f (k_n (R p)) (k_k (R p)) (k_v (R p)) L N ST DT NA SK SV) q = R q := fun q hq => upR_ne hq
  have hg : FmA h' (k_f (R p)) (k_L (R p)) (k_N (R p)) ∧ arI h' (k_f (R p) + 1) 80 (k_ST (R p)) ∧ arI h' (k_f (R p) + 2) 80 (k_DT (R p)) ∧ arL h' (k_f (R p) + 3) 40 (k_NA (R p)) ∧ TySn h' (k_f (R p)) := by
    have := c3.ag a (fk p hp 0 (by decide)) (fk p hp 1 (by decide)) (fk p hp 2 (by decide)) (fk p hp 3 (by decide)) (fk p hp 4 (by decide)) (fk p hp 5 (by decide))
    exact ⟨this.1, this.2.1, this.2.2.1, this.2.2.2.1, ⟨_, _, this.2.2.2.2.1, this.2.2.2.2.2.1⟩⟩
  have hN40p := c3.2.2.2.2.2.2.1
  have hL79p := c3.2.2.2.2.2.2.2
  refine ⟨⟨⟨hx.1.trans tx, (hx.2 0).trans x0, (hx.2 1).trans x1, (hx.2 2).trans x2⟩, ⟨k_f (R p), c, k, k_L (R p), k_N (R p), k_ST (R p), k_DT (R p), k_NA (R p), PL, nme, hR.xch (a.weak fun b hb => far b (by omega) (by omega)) ((tg _).trans hR.1) kr kr1 hg.1 hg.2.1 hg.2.2.1 hg.2.2.2.1 (by omega), a1, by omega, by omega, by omega, fun q hq => ?_, hg.2.2.2.2⟩, ⟨RS, ?_⟩, ⟨o1, fun i j hi hj => ?_, fun i j hi hj hij => ?_, fun i j hi hj hij => ?_, fun i hi => ?_, fun i hi => ?_⟩, fun i hi => ?_, hB.ag a (far _ (by omega) (by omega)) (far _ (by omega) (by omega)), ⟨wn, kd, v, S, hW.ag a (far _ (by omega) (by omega)) (far _ (by omega) (by omega))⟩, ⟨b1, b2, b3, by omega⟩, Acyc.up o2 o1 hp rfl hAc (hnm ▸ hno)⟩, MvCW.of_fr fr fun b hb => ?_⟩
  · by_cases e : q = p
    · rw [e, upR_eq]; exact fun z => hne z.symm
    · rw [same q e]; exact o3 p q hp hq (Ne.symm e)
  · obtain ⟨tb, d0, d1, d2, t1, t2, hRS, hm, hr⟩ := hC
    have w := a (x + 11) (far _ (by omega) (by omega))
    have w1 := a (x + 11 + 1) (far _ (by omega) (by omega))
    have w2 := a (x + 11 + 2) (far _ (by omega) (by omega))
    refine ⟨w.1.trans tb, (w.2 0).trans d0, (w.2 1).trans d1, (w.2 2).trans d2, w1.1.trans t1, w2.1.trans t2, hRS.ag a (far _ (by omega) (by omega)), hm, fun q hq => ?_⟩
    by_cases e : q = p
    · rw [e, upR_eq]
      refine ⟨(w1.2 p).trans c1, ⟨(tg _).trans c2.1, (ca 0 (by decide) (by decide)).trans c2.2.1, ca1, ca2, (ca 3 (by decide) (by decide)).trans c2.2.2.2.2.1, (ca 4 (by decide) (by decide)).trans c2.2.2.2.2.2⟩, hF.ag a (ff 0 (by decide)) (ff 1 (by decide)) (ff 2 (by decide)) (ff 3 (by decide)) (ff 4 (by decide)) (ff 5 (by decide)), ?_, ?_, ?_, hSK.ag a (ff 4 (by decide)), hSV.ag a (ff 5 (by decide)), hN40, hL79⟩
      · exact hR.2.2.2.2.2.2.2.2.2.2.2.2.1.ag a (ff 1 (by decide))
      · exact hR.2.2.2.2.2.2.2.2.2.2.2.2.2.1.ag a (ff 2 (by decide))
      · exact hR.2.2.2.2.2.2.2.2.2.2.2.2.2.2.1.ag a (ff 3 (by decide))
    · rw [same q e]
      obtain ⟨q1, q2, q3⟩ := hr q hq
      obtain ⟨d1, d2, d3, d4⟩ := hA q hq
      refine ⟨(w1.2 q).trans q1, q2.ag a (fun z => ?_), q3.ag a (fk q hq 0 (by decide)) (fk q hq 1 (by decide)) (fk q hq 2 (by decide)) (fk q hq 3 (by decide)) (fk q hq 4 (by decide)) (fk q hq 5 (by decide))⟩
      rcases z with z | z
      · omega
      · exact o4 q p hq hp e z
  · have un := upR_n (R := R) (r := newRec (k_a (R p)) f (k_n (R p)) (k_k (R p)) (k_v (R p)) L N ST DT NA SK SV) (p := p) rfl
    rw [un, un]; exact o2 i j hi hj
  · by_cases e : i = p
    · rw [e, upR_eq, same j (by omega)]; exact hf3 j hj
    · by_cases e2 : j = p
      · rw [e2, upR_eq, same i e]; exact fun z => hf3 i hi z.symm
      · rw [same i e, same j e2]; exact o3 i j hi hj hij
  · have ka : ∀ q, k_a (upR R p (newRec (k_a (R p)) f (k_n (R p)) (k_k (R p)) (k_v (R p)) L N ST DT NA SK SV) q) = k_a (R q) := fun q => by
      by_cases e : q = p
      · rw [e, upR_eq]; rfl
      · rw [same q e]
    rw [ka, ka]; exact o4 i j hi hj hij
  · by_cases e : i = p
    · rw [e, upR_eq]
      show f + 5 < x + 11 ∨ x + 11 + 7 ≤ f
      omega
    · rw [same i e]; exact o5 i hi
  · show Tree (if i = p then t else T i) ∧ ∃ PL, Cdx (k_ST (upR R p (newRec (k_a (R p)) f (k_n (R p)) (k_k (R p)) (k_v (R p)) L N ST DT NA SK SV) i)) (k_DT (upR R p (newRec (k_a (R p)) f (k_n (R p)) (k_k (R p)) (k_v (R p)) L N ST DT NA SK SV) i)) (k_NA (upR R p (newRec (k_a (R p)) f (k_n (R p)) (k_k (R p)) (k_v (R p)) L N ST DT NA SK SV) i)) PL (if i = p then t else T i) 0 0 (k_L (upR R p (newRec (k_a (R p)) f (k_n (R p)) (k_k (R p)) (k_v (R p)) L N ST DT NA SK SV) i)) (k_N (upR R p (newRec (k_a (R p)) f (k_n (R p)) (k_k (R p)) (k_v (R p)) L N ST DT NA SK SV) i))
    by_cases e : i = p
    · rw [e, upR_eq, if_pos rfl]; exact ⟨ht, PL, hcd⟩
    · rw [same i e, if_neg e]; exact o6 i hi
  · obtain ⟨d1, d2, d3, d4⟩ := hA i hi
    by_cases e : i = p
    · rw [e, upR_eq]; exact ⟨hf1, by show f + 5 < _; omega, a3, by show k_a (R p) < _; omega⟩
    · rw [same i e]; exact ⟨d1, by omega, d3, by omega⟩
  · rcases hb with e | e
    · exact Or.inl (by omega)
    · exact Or.inr (by omega)
