def DistA (R : Nat → CRec) (m : Nat) : Prop := ∀ p q, p < m → q < m → p ≠ q → k_a (R p) ≠ k_a (R q)
/-- no formula lies over the Builder's arrays -/
def FarF (b : Nat) (R : Nat → CRec) (m : Nat) : Prop := ∀ p, p < m → k_f (R p) + 5 < b ∨ b + 7 ≤ k_f (R p)
theorem DistA.congr {R R' : Nat → CRec} {m : Nat} (hs : DistA R m) (h : ∀ p, p < m → k_a (R' p) = k_a (R p)) : DistA R' m := fun p q h1 h2 h3 => by rw [h p h1, h q h2]; exact hs p q h1 h2 h3
theorem FarF.congr {b : Nat} {R R' : Nat → CRec} {m : Nat} (hs : FarF b R m) (h : ∀ p, p < m → k_f (R' p) = k_f (R p)) : FarF b R' m := fun p h1 => by rw [h p h1]; exact hs p h1
theorem CsA.work {h h' : jm_H} {b m : Nat} {R : Nat → CRec} {RS : Nat → Int64} (hC : CsA h b m R RS) (q : jm_fr (S_wk (b + 4)) h h') (tw : h.2.2.1 (b + 4) = (jm_o 7, 4)) (ts : h.2.2.1 (b + 5) = (jm_a 2, 40)) (hf : FarF b R m) : CsA h' b m R RS := by
  obtain ⟨tb, b0, b1, b2, t1, t2, hRS, hm, hR⟩ := hC
  have e := q.2.2.1
  have nb : ∀ x, x < b + 4 → ¬ S_wk (b + 4) x := fun x hx q => by unfold S_wk at q; omega
  refine ⟨by rw [e]; exact tb, by rw [q.2.2.2 b (nb b (by omega))]; exact b0, by rw [q.2.2.2 b (nb b (by omega))]; exact b1, by rw [q.2.2.2 b (nb b (by omega))]; exact b2, by rw [e]; exact t1, by rw [e]; exact t2, hRS.fr q (nb _ (by omega)), hm, fun p hp => ?_⟩
  obtain ⟨r1, r2, r3⟩ := hR p hp
  obtain ⟨tf, -, -, -, -, -, -, -, s1, s2, s3, s4, s5⟩ := r3.1
  have hfp := hf p hp
  refine ⟨by rw [q.2.2.2 (b + 1) (nb _ (by omega))]; exact r1, r2.fr q (fun z => z.elim (jm_ne_oo r2.1 tw (by decide)) (jm_ne_oa r2.1 ts)), r3.fr q (fun z => z.elim (jm_ne_oo tf tw (by decide)) (jm_ne_oa tf ts)) (fun z => z.elim (Ne.symm (jm_ne_oa tw s1)) (jm_ne_aa s1 ts (by decide))) (fun z => z.elim (Ne.symm (jm_ne_oa tw s2)) (jm_ne_aa s2 ts (by decide))) ?_ (fun z => z.elim (Ne.symm (jm_ne_oa tw s4)) (jm_ne_aa s4 ts (by decide))) ?_⟩
  · unfold S_wk; omega
  · unfold S_wk; omega
def wkd (h : jm_H) (a : Nat) (kd : Int32) (v : Int64) : jm_H := jm_put (jm_put (jm_put h a 3 (.int kd)) a 4 (.long v)) a 2 (.int 1)
theorem wkd_fr {h : jm_H} {a : Nat} {kd : Int32} {v : Int64} : jm_fr (fun x => x = a) h (wkd h a kd v) := by
  refine jm_fr.put (S := fun x => x = a) (jm_fr.put (S := fun x => x = a) (jm_fr.put (S := fun x => x = a) jm_fr.rf rfl) rfl) rfl
theorem CsA.res {h : jm_H} {b m p : Nat} {R : Nat → CRec} {RS : Nat → Int64} {kd : Int32} {v : Int64} (hC : CsA h b m R RS) (hp : p < m) (hd : DistA R m) : CsA (wkd h (k_a (R p)) kd v) b m (upR R p (rres (R p) kd v)) RS := by
  obtain ⟨tb, b0, b1, b2, t1, t2, hRS, hm, hR⟩ := hC
  obtain ⟨r1, r2, r3⟩ := hR p hp
  have q : jm_fr (fun x => x = k_a (R p)) h (wkd h (k_a (R p)) kd v) := wkd_fr
  have e1 : b ≠ k_a (R p) := jm_ne_oo tb r2.1 (by decide)
  have e2 : b + 1 ≠ k_a (R p) := Ne.symm (jm_ne_oa r2.1 t1)
  have e3 : b + 2 ≠ k_a (R p) := Ne.symm (jm_ne_oa r2.1 t2)
  refine ⟨tb, by rw [q.2.2.2 b e1]; exact b0, by rw [q.2.2.2 b e1]; exact b1, by rw [q.2.2.2 b e1]; exact b2, t1, t2, hRS.fr q e3, hm, fun i hi => ?_⟩
  obtain ⟨q1, q2, q3⟩ := hR i hi
  obtain ⟨tf, -, -, -, -, -, -, -, s1, s2, s3, s4, s5⟩ := q3.1
  have F3 : FmR (wkd h (k_a (R p)) kd v) (R i) := q3.fr q (fun z => jm_ne_oo tf r2.1 (by decide) z) (fun z => Ne.symm (jm_ne_oa r2.1 s1) z) (fun z => Ne.symm (jm_ne_oa r2.1 s2) z) (fun z => Ne.symm (jm_ne_oa r2.1 s3) z) (fun z => Ne.symm (jm_ne_oa r2.1 s4) z) (fun z => Ne.symm (jm_ne_oa r2.1 s5) z)
  by_cases e : i = p
  · subst e
    rw [upR_eq]
    refine ⟨by rw [q.2.2.2 _ e2]; exact q1, ⟨q2.1, ?_, ?_, jm_rd_s _ _ _ _, ?_, ?_⟩, F3⟩
    · exact jm_rd_k (by decide) (jm_rd_k (by decide) (jm_rd_k (by decide) q2.2.1))
    · exact jm_rd_k (by decide) (jm_rd_k (by decide) (jm_rd_k (by decide) q2.2.2.1))
    · exact jm_rd_k (by decide) (jm_rd_k (by decide) (jm_rd_s _ _ _ _))
    · exact jm_rd_k (by decide) (jm_rd_s _ _ _ _)
  · rw [upR_ne e]
    exact ⟨by rw [q.2.2.2 _ e2]; exact q1, q2.fr q (fun z => hd i p hi hp e z), F3⟩
def rdone (r : CRec) (SK : Nat → Int32) (SV : Nat → Int64) (kv : Int32 × Int64) : CRec := rres (rseen r SK SV) kv.1 kv.2
def S_wo (b a f : Nat) (x : Nat) : Prop := x = f + 4 ∨ x = f + 5 ∨ S_wk (b + 4) x ∨ x = a
theorem WkA.fr {S9 : Nat → Prop} {h h' : jm_H} {w n : Nat} {kd : Int32} {v : Int64} {S : Nat → Int64} (hW : WkA h w n kd v S) (q : jm_fr S9 h h') (h1 : ¬ S9 w) (h2 : ¬ S9 (w + 1)) : WkA h' w n kd v S := by
  obtain ⟨tw, w0, w1, w2, w3, ts, hS⟩ := hW
  exact ⟨by rw [q.2.2.1]; exact tw, by rw [q.2.2.2 _ h1]; exact w0, by rw [q.2.2.2 _ h1]; exact w1, by rw [q.2.2.2 _ h1]; exact w2, by rw [q.2.2.2 _ h1]; exact w3, by rw [q.2.2.1]; exact ts, hS.fr q h2⟩
set_option maxHeartbeats 4000000 in
set_option maxRecDepth 100000 in
theorem c_Bd_workOut (l : Launch) (G : jm_G) (d : Nat) (hd : 5 ≤ d) {h : jm_H} {b m : Nat} {R : Nat → CRec} {RS : Nat → Int64} {p n : Nat} {kd : Int32} {v : Int64} {S : Nat → Int64} {t : Term} {PL : Nat → Int32} (hC : CsA h b m R RS) (hs : SortR R m) (hdf : DistF R m) (hda : DistA R m) (hfar : FarF b R m) (hp : p < m) (ty : h.2.2.1 (b + 3) = (jm_o 6, 4)) (y0 : h.2.2.2 (b + 3) 0 = .ref (b + 4)) (hW : WkA h (b + 4) n kd v S) (ht : Tree t) (hcd : Cdx (k_ST (R p)) (k_DT (R p)) (k_NA (R p)) PL t 0 0 (k_L (R p)) (k_N (R p))) : jm_CP l G mm_Bd_workOut d [.ref (b + 3), .ref b, .ref (k_a (R p))] h (fun v9 h9 => v9 = none ∧ ∃ SK SV, (∀ j, j < k_N (R p) → (SK j, SV j) = resf R m (k_NA (R p) j)) ∧ CsA h9 b m (upR R p (rdone (R p) SK SV (ev (resf R m) t))) RS ∧ jm_fr (S_wo b (k_a (R p)) (k_f (R p))) h h9 ∧ ∃ n' S', WkA h9 (b + 4) n' (ev (resf R m) t).1 (ev (resf R m) t).2 S') := by
  obtain ⟨tb, b0, b1, b2, t1, t2, hRS, hm, hR⟩ := id hC
  refine jm_of (by decide) rfl (Nat.le_of_ble_eq_true rfl) ?_
  refine jx_aload_n d_Bd_workOut_0 1 rfl ?_
  refine jx_aload_n d_Bd_workOut_1 2 rfl ?_
  refine jx_get d_Bd_workOut_2 fF_Bd_59 (hR p (by omega)).2.1.1 (hR p (by omega)).2.1.2.2.1 ?_
  obtain ⟨v1, h1, hC1, rfl, R1, hCs1, hsn, hfr1⟩ := c_Cs_look l G (d - 1) (by omega) (h := h) hC hs hdf hp
  refine jx_callV (M2 := mm_Cs_look) rfl tb lk_Bd_65 wi_Cs_look ws_Cs_look d_Bd_workOut_5 hC1 cd_Cs_look rfl rfl (Nat.le_of_ble_eq_true rfl) (jm_fok (by omega)) (jm_look (by decide) (by omega)) ?_
  have hsame := hsn.same
  obtain ⟨SK, SV, rfl, hSKV⟩ := hsn
  have hp1 := hCs1.2.2.2.2.2.2.2.2 p hp
  rw [upR_eq] at hp1
  have ta1 : h1.2.2.1 (k_a (R p)) = (jm_o 5, 5) := hp1.2.1.1
  have ta2 : h1.2.2.2 (k_a (R p)) 1 = .ref (k_f (R p)) := hp1.2.1.2.2.1
  have ty1 : h1.2.2.1 (b + 3) = (jm_o 6, 4) := by rw [hfr1.2.2.1]; exact ty
  have hne3 : ¬ (b + 3 = k_f (R p) + 4 ∨ b + 3 = k_f (R p) + 5) := by have := hfar p hp; omega
  have y01 : h1.2.2.2 (b + 3) 0 = .ref (b + 4) := by rw [hfr1.2.2.2 _ hne3]; exact y0
  have hW1 : WkA h1 (b + 4) n kd v S := hW.fr hfr1 (by have := hfar p hp; omega) (by have := hfar p hp; omega)
  have hRF : RunF h1 (b + 4) (k_f (R p)) (k_L (R p)) (k_N (R p)) (k_ST (R p)) (k_DT (R p)) SK SV := ⟨hp1.2.2.1, hp1.2.2.2.1, hp1.2.2.2.2.1, hp1.2.2.2.2.2.2.1, hp1.2.2.2.2.2.2.2.1, hW1.1, hW1.2.2.2.2.2.1, by have := hfar p hp; omega, hp1.2.2.2.2.2.2.2.2.2, hp1.2.2.2.2.2.2.2.2.1⟩
  refine jx_aload_n d_Bd_workOut_8 0 rfl ?_
  refine jx_get d_Bd_workOut_9 fF_Bd_12 ty1 y01 ?_
  refine jx_aload_n d_Bd_workOut_12 2 rfl ?_
  refine jx_get d_Bd_workOut_13 fF_Bd_59 ta1 ta2 ?_
  obtain ⟨v2, h2, hC2, rfl, hfr2, n2, S2, hW2⟩ := c_Wk_run l G (d - 1) (by omega) (h := h1) (ρ := resf R m) hW1 hRF ht hcd hSKV
  refine jx_callV (M2 := mm_Wk_run) rfl hW1.1 lk_Bd_69 wi_Wk_run ws_Wk_run d_Bd_workOut_16 hC2 cd_Wk_run rfl rfl (Nat.le_of_ble_eq_true rfl) (jm_fok (by omega)) (jm_look (by decide) (by omega)) ?_
  have ty2 : h2.2.2.1 (b + 3) = (jm_o 6, 4) := by rw [hfr2.2.2.1]; exact ty1
  have y02 : h2.2.2.2 (b + 3) 0 = .ref (b + 4) := by rw [hfr2.2.2.2 _ (by unfold S_wk; omega)]; exact y01
  have ta3 : h2.2.2.1 (k_a (R p)) = (jm_o 5, 5) := by rw [hfr2.2.2.1]; exact ta1
  have hCs2 := hCs1.work hfr2 hW1.1 hW1.2.2.2.2.2.1 (hfar.congr fun q _ => (hsame q).2.1)
  refine jx_aload_n d_Bd_workOut_19 2 rfl ?_
  refine jx_aload_n d_Bd_workOut_20 0 rfl ?_
  refine jx_get d_Bd_workOut_21 fF_Bd_12 ty2 y02 ?_
  refine jx_get d_Bd_workOut_24 fF_Bd_72 hW2.1 hW2.2.2.2.1 ?_
  refine jx_put (v0 := .int ((ev (resf R m) t).1)) d_Bd_workOut_27 fF_Bd_75 jv_Cl ft_Cl_kind ta3 rfl rfl ?_
  refine jx_aload_n d_Bd_workOut_30 2 rfl ?_
  refine jx_aload_n d_Bd_workOut_31 0 rfl ?_
  refine jx_get d_Bd_workOut_32 fF_Bd_12 ty2 (jm_rd_k (by decide) y02) ?_
  refine jx_get d_Bd_workOut_35 fF_Bd_76 hW2.1 (jm_rd_a (jm_ne_oo hW2.1 ta3 (by decide)) hW2.2.2.2.2.1) ?_
  refine jx_put (v0 := .long ((ev (resf R m) t).2)) d_Bd_workOut_38 fF_Bd_80 jv_Cl ft_Cl_value ta3 rfl rfl ?_
  refine jx_aload_n d_Bd_workOut_41 2 rfl ?_
  refine jx_iconst (v0 := 1) d_Bd_workOut_42 (by decide) ?_
  refine jx_put (v0 := .int (1)) d_Bd_workOut_43 fF_Bd_81 jv_Cl ft_Cl_workedOut ta3 rfl rfl ?_
  exact jx_vret d_Bd_workOut_46 rfl (⟨_, rfl, rfl, SK, SV, hSKV, (by
      have hz := hCs2.res (kd := (ev (resf R m) t).1) (v := (ev (resf R m) t).2) hp (hda.congr fun q _ => (hsame q).2.2.2.2.2.2)
      rw [upR_eq, upR_up] at hz
      exact hz), (by
      refine jm_fr.put (jm_fr.put (jm_fr.put ((hfr1.weak ?_).trans (hfr2.weak ?_)) ?_) ?_) ?_
      · rintro x (e | e)
        · exact Or.inl e
        · exact Or.inr (Or.inl e)
      · intro x e; exact Or.inr (Or.inr (Or.inl e))
      · exact Or.inr (Or.inr (Or.inr rfl))
      · exact Or.inr (Or.inr (Or.inr rfl))
      · exact Or.inr (Or.inr (Or.inr rfl))), n2, S2, (by
      have na : k_a (R p) ≠ b + 4 := jm_ne_oo ta3 hW2.1 (by decide)
      have nb : k_a (R p) ≠ b + 5 := jm_ne_oa ta3 hW2.2.2.2.2.2.1
      exact hW2.fr (S9 := fun x => x = k_a (R p)) wkd_fr (Ne.symm na) (Ne.symm nb))⟩)
