/-! class, reference, script and out on one heap -/
def MdI (h : jm_H) (a : Nat) (s : MS) : Prop := MdK h a ∧ h = mdH h a s
section MDI
variable {h h' : jm_H} {a : Nat} {s s' : MS}
theorem md_v_out {b j : Nat} (hb : ¬ (a ≤ b ∧ b < a + 29)) : md_v h a s b j = h.2.2.2 b j := by
  unfold md_v
  rw [if_neg (by omega)]
  have z : ∀ {q : Nat}, a < b → (q < md_ai (b - a) ∨ q < md_al (b - a) ∨ q < md_az (b - a)) → False := fun h1 h2 => by
    have := md_le28 h2
    omega
  rw [if_neg (fun q => z q.1 (Or.inl q.2)), if_neg (fun q => z q.1 (Or.inr (Or.inl q.2))), if_neg (fun q => z q.1 (Or.inr (Or.inr q.2)))]
theorem mdH_ag : Agr (fun b => ¬ (a ≤ b ∧ b < a + 29)) h (mdH h a s) := fun b hb => ⟨rfl, fun j => md_v_out hb⟩
theorem MdI.ag (p : MdI h a s) (q : Agr (fun b => a ≤ b ∧ b < a + 29) h h') : MdI h' a s := by
  obtain ⟨⟨k1, k2, k3⟩, e⟩ := p
  have q0 := q a (by omega)
  refine ⟨⟨q0.1.trans k1, fun k hk => (q0.2 k).trans (k2 k hk), fun j hj => ?_⟩, ?_⟩
  · have := md_kd_big hj
    exact (q (a + j) (by omega)).1.trans (k3 j hj)
  · refine jm_heq rfl rfl rfl fun b j => ?_
    show h'.2.2.2 b j = md_v h' a s b j
    by_cases hb : a ≤ b ∧ b < a + 29
    · have e1 : h.2.2.2 b j = md_v h a s b j := congrFun (congrFun (congrArg (fun z : jm_H => z.2.2.2) e) b) j
      have e2 := (q b hb).2 j
      have e3 : h'.2.2.2 b j = md_v h a s b j := e2.trans e1
      rw [e3]
      unfold md_v
      rw [e2]
    · exact (md_v_out hb).symm
theorem MdI.to (p : MdI h a s) (s' : MS) : MdI (mdH h a s') a s' := by
  obtain ⟨⟨k1, k2, k3⟩, e⟩ := p
  refine ⟨⟨k1, fun k hk => ?_, k3⟩, ?_⟩
  · refine md_rr ⟨k1, k2, k3⟩ ?_ ?_ rfl hk
    · unfold md_rf at hk
      split at hk <;> first | rfl | exact absurd rfl hk
    · unfold md_rf at hk
      split at hk <;> first | rfl | exact absurd rfl hk
  · refine jm_heq rfl rfl rfl fun b j => ?_
    show md_v h a s' b j = md_v (mdH h a s') a s' b j
    have : md_v (mdH h a s') a s' b j = md_v h a s' b j := by
      conv => lhs; unfold md_v
      show (if b = a then (if md_fi j = true then _ else if md_fl j = true then _ else md_v h a s' b j) else if a < b ∧ j < md_ai (b - a) then _ else if a < b ∧ j < md_al (b - a) then _ else if a < b ∧ j < md_az (b - a) then _ else md_v h a s' b j) = _
      unfold md_v
      by_cases c1 : b = a
      · rw [if_pos c1, if_pos c1]
        by_cases c2 : md_fi j = true
        · rw [if_pos c2, if_pos c2]
        · rw [if_neg c2, if_neg c2]
          by_cases c3 : md_fl j = true
          · rw [if_pos c3, if_pos c3]
          · rw [if_neg c3, if_neg c3]
      · rw [if_neg c1, if_neg c1]
        by_cases c2 : a < b ∧ j < md_ai (b - a)
        · rw [if_pos c2, if_pos c2]
        · rw [if_neg c2, if_neg c2]
          by_cases c3 : a < b ∧ j < md_al (b - a)
          · rw [if_pos c3, if_pos c3]
          · rw [if_neg c3, if_neg c3]
            by_cases c4 : a < b ∧ j < md_az (b - a)
            · rw [if_pos c4, if_pos c4]
            · rw [if_neg c4, if_neg c4]
    exact this.symm
end MDI
/-- the script at sc, out behind the reference -/
def Oth (sc len : Nat) (S : Nat → Int32) (x : Nat) (h : jm_H) : Prop := h.2.2.1 sc = (0, len + 1) ∧ arI h sc len S ∧ sc < x ∧ h.2.2.1 (x + 47) = (jm_a 2, 1) ∧ x + 48 ≤ h.1 ∧ ∃ w, h.2.2.2 (x + 47) 0 = .long w
section FIN
variable {sc len : Nat} {S : Nat → Int32} {x : Nat} {h h9 : jm_H} {s : MS} {n : Nat} {B : Nat → Int32} {fc fp : Int32} {m : Nat} {R : Nat → CRec} {T : Nat → Term} {ls : Nat} {tot : Int32} {LT : Nat → Int64} {K Sl : Nat}
theorem Oth.cw (hO : Oth sc len S x h) (mv : MvCW x (x + 48) h h9 K Sl) : Oth sc len S x h9 := by
  obtain ⟨h1, h2, h3, h4, h5, w, h6⟩ := hO
  have ns : ∀ b, b < x ∨ (x + 18 ≤ b ∧ b < x + 48) → ¬ S_cw x (x + 48) b := fun b hb z => by unfold S_cw at z; omega
  have q1 := mv.1 sc ⟨ns sc (Or.inl h3), by omega⟩
  have q2 := mv.1 (x + 47) ⟨ns _ (by omega), by omega⟩
  exact ⟨q1.1.trans h1, fun j hj => (q1.2 j).trans (h2 j hj), h3, q2.1.trans h4, Nat.le_trans h5 mv.2.1, w, (q2.2 0).trans h6⟩
theorem MdI.cw (hM : MdI h (x + 18) s) (h5 : x + 48 ≤ h.1) (mv : MvCW x (x + 48) h h9 K Sl) : MdI h9 (x + 18) s := hM.ag fun b hb => mv.1 b ⟨fun z => by unfold S_cw at z; omega, by omega⟩
theorem fin_o (hO : Oth sc len S x h9) (hM : MdI h9 (x + 18) s) (hI : CWI h9 x (x + 48) n B fc fp m R T ls tot LT) (r : Int64) : Oth sc len S x (jm_put h9 (x + 47) 0 (.long r)) ∧ MdI (jm_put h9 (x + 47) 0 (.long r)) (x + 18) s ∧ CWI (jm_put h9 (x + 47) 0 (.long r)) x (x + 48) n B fc fp m R T ls tot LT ∧ (jm_put h9 (x + 47) 0 (.long r)).2.2.2 (x + 47) 0 = .long r := by
  have ag : Agr (fun b => b ≠ x + 47) h9 (jm_put h9 (x + 47) 0 (.long r)) := fun b hb => ⟨rfl, fun j => jm_rd_a hb rfl⟩
  obtain ⟨h1, h2, h3, h4, h5, w, h6⟩ := hO
  have q1 := ag sc (by omega)
  refine ⟨⟨h1, fun j hj => (q1.2 j).trans (h2 j hj), h3, h4, h5, r, jm_rd_s _ _ _ _⟩, hM.ag (ag.weak fun b hb => by omega), hI.ag (ag.weak fun b hb => by unfold S_cw at hb; omega) (Nat.le_refl _), jm_rd_s _ _ _ _⟩
theorem fin_t (hO : Oth sc len S x h9) (hM : MdI h9 (x + 18) s) (hI : CWI h9 x (x + 48) n B fc fp m R T ls tot LT) : Oth sc len S x (jm_thr h9) ∧ MdI (jm_thr h9) (x + 18) s ∧ CWI (jm_thr h9) x (x + 48) n B fc fp m R T ls tot LT := by
  have ag := Agr.thr (h := h9)
  have hz : h9.1 ≤ (jm_thr h9).1 := by unfold jm_thr jm_new; exact Nat.le_succ _
  obtain ⟨h1, h2, h3, h4, h5, w, h6⟩ := hO
  have q1 := ag sc (by omega)
  have q2 := ag (x + 47) (by omega)
  exact ⟨⟨q1.1.trans h1, fun j hj => (q1.2 j).trans (h2 j hj), h3, q2.1.trans h4, by omega, w, (q2.2 0).trans h6⟩, hM.ag (ag.weak fun b hb => by omega), hI.ag (ag.weak fun b hb => hb.2) hz⟩
theorem fin_m (hO : Oth sc len S x h9) (hM : MdI h9 (x + 18) s) (hI : CWI h9 x (x + 48) n B fc fp m R T ls tot LT) (s' : MS) : Oth sc len S x (mdH h9 (x + 18) s') ∧ MdI (mdH h9 (x + 18) s') (x + 18) s' ∧ CWI (mdH h9 (x + 18) s') x (x + 48) n B fc fp m R T ls tot LT ∧ (mdH h9 (x + 18) s').2.2.2 (x + 47) 0 = h9.2.2.2 (x + 47) 0 := by
  have ag := mdH_ag (h := h9) (a := x + 18) (s := s')
  obtain ⟨h1, h2, h3, h4, h5, w, h6⟩ := hO
  have q1 := ag sc (by omega)
  have q2 := ag (x + 47) (by omega)
  exact ⟨⟨h1, fun j hj => (q1.2 j).trans (h2 j hj), h3, h4, h5, w, (q2.2 0).trans h6⟩, hM.to s', hI.ag (ag.weak fun b hb => by unfold S_cw at hb; omega) (Nat.le_refl _), q2.2 0⟩
end FIN
/-- before call j of the script -/
def LI (sc len : Nat) (S : Nat → Int32) (x j z0 : Nat) (h : jm_H) : Prop := Oth sc len S x h ∧ (∃ s N n B fc fp m R T ls tot LT, MdI h (x + 18) s ∧ CWI h x (x + 48) n B fc fp m R T ls tot LT ∧ EqS n B fc m R T ls tot LT s N) ∧ h.1 ≤ x + 48 + 7 * j ∧ h.2.1 ≤ z0 + 292 * j
def vL : Value → Int64
  | .int b => b.toInt64
  | .long b => b
  | _ => 0
/-- a helper's call and the reference's agree -/
def OpV (l : Launch) (G : jm_G) (d : Nat) (ML : jm_M) (hh : jm_hh) (As : List Value) (MD : jm_M) (Bs : List Value) (Ty : Value → Prop) (sc len : Nat) (S : Nat → Int32) (x j z0 : Nat) (h : jm_H) : Prop :=
  ∃ (k : Int32) (b : Value) (h1 h2 : jm_H), jm_CW l G ML hh d As h (some (.int k)) h1 ∧ jm_C l G MD d Bs h1 (some b) h2 ∧ jm_C l G mm_Md_thrown d [.ref (x + 18)] h2 (some (.int k)) h2 ∧ Ty b ∧ ((k = 0 ∧ h2.2.2.2 (x + 47) 0 = .long (vL b)) ∨ k = 1) ∧ Oth sc len S x h1 ∧ h1.2.2.1 (x + 18) = (jm_o 8, 45) ∧ h2.2.2.1 (x + 18) = (jm_o 8, 45) ∧ LI sc len S x (j + 1) z0 h2
section OPV
variable {l : Launch} {G : jm_G} {d : Nat} {ML : jm_M} {hh : jm_hh} {As : List Value} {MD : jm_M} {Bs : List Value} {Ty : Value → Prop} {sc len : Nat} {S : Nat → Int32} {x j z0 : Nat} {h h9 : jm_H} {s : MS} {n : Nat} {B : Nat → Int32} {fc fp : Int32} {m : Nat} {R : Nat → CRec} {T : Nat → Term} {ls : Nat} {tot : Int32} {LT : Nat → Int64} {K Sl : Nat}
theorem opV_o {b : Value} (hO : Oth sc len S x h) (hM : MdI h (x + 18) s) (hz1 : h.1 ≤ x + 48 + 7 * j) (hz2 : h.2.1 ≤ z0 + 292 * j) (hI : CWI h9 x (x + 48) n B fc fp m R T ls tot LT) (mv : MvCW x (x + 48) h h9 K Sl) (hK : K ≤ 7) (hS : Sl ≤ 292) (hL : h9.2.2.1 (x + 47) = (jm_a 2, 1) → jm_CW l G ML hh d As h (some (.int 0)) (jm_put h9 (x + 47) 0 (.long (vL b)))) (hT : Ty b) (hD : ∀ h1, MdK h1 (x + 18) → jm_CP l G MD d Bs (mdH h1 (x + 18) s) (fun v h2 => v = some b ∧ ∃ s' N', h2 = mdH h1 (x + 18) s' ∧ s'.1 0 = 0 ∧ EqS n B fc m R T ls tot LT s' N')) : OpV l G d ML hh As MD Bs Ty sc len S x j z0 h := by
  have hO9 := hO.cw mv
  have hM9 := hM.cw hO.2.2.2.2.1 mv
  obtain ⟨o1, o2, o3, o4⟩ := fin_o hO9 hM9 hI (vL b)
  obtain ⟨v, h2, hC, ev, s', N', e2, e3, hQ⟩ := hD _ o2.1
  rw [← o2.2] at hC
  subst ev
  subst e2
  obtain ⟨p1, p2, p3, p4⟩ := fin_m o1 o2 o3 s'
  have ht := c_Md_thrown l G d (s := s') o2.1
  rw [e3] at ht
  refine ⟨0, b, _, _, hL hO9.2.2.2.1, hC, ht, hT, Or.inl ⟨rfl, p4.trans o4⟩, o1, o2.1.1, p2.1.1, p1, ⟨s', N', n, B, fc, fp, m, R, T, ls, tot, LT, p2, p3, hQ⟩, ?_, ?_⟩
  · have := mv.2.2.1
    show h9.1 ≤ _
    omega
  · have := mv.2.2.2.2
    show h9.2.1 ≤ _
    omega
theorem opV_t (hO : Oth sc len S x h) (hM : MdI h (x + 18) s) (hz1 : h.1 ≤ x + 48 + 7 * j) (hz2 : h.2.1 ≤ z0 + 292 * j) (hI : CWI h9 x (x + 48) n B fc fp m R T ls tot LT) (mv : MvCW x (x + 48) h h9 0 0) (hL : jm_CW l G ML hh d As h (some (.int 1)) (jm_thr h9)) (hD : ∀ h1, MdK h1 (x + 18) → jm_CP l G MD d Bs (mdH h1 (x + 18) s) (fun v h2 => (∃ b, v = some b ∧ Ty b) ∧ ∃ s' N', h2 = mdH h1 (x + 18) s' ∧ s'.1 0 = 1 ∧ EqS n B fc m R T ls tot LT s' N')) : OpV l G d ML hh As MD Bs Ty sc len S x j z0 h := by
  have hO9 := hO.cw mv
  have hM9 := hM.cw hO.2.2.2.2.1 mv
  obtain ⟨o1, o2, o3⟩ := fin_t hO9 hM9 hI
  obtain ⟨v, h2, hC, ⟨b, ev, hT⟩, s', N', e2, e3, hQ⟩ := hD _ o2.1
  rw [← o2.2] at hC
  subst ev
  subst e2
  obtain ⟨p1, p2, p3, p4⟩ := fin_m o1 o2 o3 s'
  have ht := c_Md_thrown l G d (s := s') o2.1
  rw [e3] at ht
  refine ⟨1, b, _, _, hL, hC, ht, hT, Or.inr rfl, o1, o2.1.1, p2.1.1, p1, ⟨s', N', n, B, fc, fp, m, R, T, ls, tot, LT, p2, p3, hQ⟩, ?_, ?_⟩
  · have := mv.2.2.1
    show h9.1 + 1 ≤ _
    omega
  · have := mv.2.2.2.2
    show h9.2.1 + 6 ≤ _
    omega
end OPV
/-- a call without a helper -/
def OpP (l : Launch) (G : jm_G) (d : Nat) (MC MD : jm_M) (sc len : Nat) (S : Nat → Int32) (x j z0 : Nat) (h : jm_H) : Prop :=
  ∃ (b : Int32) (h1 h2 : jm_H), jm_C l G MC d [.ref x] h (some (.int b)) h1 ∧ jm_C l G MD d [.ref (x + 18)] h1 (some (.int b)) h2 ∧ h1.2.2.1 (x + 18) = (jm_o 8, 45) ∧ LI sc len S x (j + 1) z0 h2
theorem opP_o {l : Launch} {G : jm_G} {d : Nat} {MC MD : jm_M} {sc len : Nat} {S : Nat → Int32} {x j z0 : Nat} {h h9 : jm_H} {s : MS} {n : Nat} {B : Nat → Int32} {fc fp : Int32} {m : Nat} {R : Nat → CRec} {T : Nat → Term} {ls : Nat} {tot : Int32} {LT : Nat → Int64} {K Sl : Nat} {b : Int32} (hO : Oth sc len S x h) (hM : MdI h (x + 18) s) (hz1 : h.1 ≤ x + 48 + 7 * j) (hz2 : h.2.1 ≤ z0 + 292 * j) (hI : CWI h9 x (x + 48) n B fc fp m R T ls tot LT) (mv : MvCW x (x + 48) h h9 K Sl) (hK : K ≤ 7) (hS : Sl ≤ 292) (hL : jm_C l G MC d [.ref x] h (some (.int b)) h9) (hD : ∀ h1, MdK h1 (x + 18) → jm_CP l G MD d [.ref (x + 18)] (mdH h1 (x + 18) s) (fun v h2 => v = some (.int b) ∧ ∃ s' N', h2 = mdH h1 (x + 18) s' ∧ EqS n B fc m R T ls tot LT s' N')) : OpP l G d MC MD sc len S x j z0 h := by
  have hO9 := hO.cw mv
  have hM9 := hM.cw hO.2.2.2.2.1 mv
  obtain ⟨v, h2, hC, ev, s', N', e2, hQ⟩ := hD _ hM9.1
  rw [← hM9.2] at hC
  subst ev
  subst e2
  obtain ⟨p1, p2, p3, p4⟩ := fin_m hO9 hM9 hI s'
  refine ⟨b, _, _, hL, hC, hM9.1.1, p1, ⟨s', N', n, B, fc, fp, m, R, T, ls, tot, LT, p2, p3, hQ⟩, ?_, ?_⟩
  · have := mv.2.2.1
    show h9.1 ≤ _
    omega
  · have := mv.2.2.2.2
    show h9.2.1 ≤ _
    omega
/-- end() answers nothing -/
def OpE (l : Launch) (G : jm_G) (d : Nat) (As Bs : List Value) (sc len : Nat) (S : Nat → Int32) (x j z0 : Nat) (h : jm_H) : Prop :=
  ∃ (k : Int32) (h1 h2 : jm_H), jm_CW l G mm_Lw_end [(0, 5, 8, 19)] d As h (some (.int k)) h1 ∧ jm_C l G mm_Md_end d Bs h1 none h2 ∧ jm_C l G mm_Md_thrown d [.ref (x + 18)] h2 (some (.int k)) h2 ∧ (k = 0 ∨ k = 1) ∧ Oth sc len S x h1 ∧ h1.2.2.1 (x + 18) = (jm_o 8, 45) ∧ h2.2.2.1 (x + 18) = (jm_o 8, 45) ∧ LI sc len S x (j + 1) z0 h2
