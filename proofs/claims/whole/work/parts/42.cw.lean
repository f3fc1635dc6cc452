/-! CellWorks as a whole: x, its Reader at x + 1, Cells at x + 11, Builder at x + 14; what is made later lies from Y on -/
/-- two heaps agree on P -/
def Agr (P : Nat → Prop) (h h' : jm_H) : Prop := ∀ b, P b → h'.2.2.1 b = h.2.2.1 b ∧ ∀ j, h'.2.2.2 b j = h.2.2.2 b j
theorem Agr.of_fr {S9 : Nat → Prop} {h h' : jm_H} (q : jm_fr S9 h h') : Agr (fun b => ¬ S9 b) h h' := fun b hb => ⟨by rw [q.2.2.1], q.2.2.2 b hb⟩
theorem Agr.weak {P Q : Nat → Prop} {h h' : jm_H} (q : Agr P h h') (hP : ∀ b, Q b → P b) : Agr Q h h' := fun b hb => q b (hP b hb)
theorem Agr.trans {P : Nat → Prop} {h h1 h2 : jm_H} (p : Agr P h h1) (q : Agr P h1 h2) : Agr P h h2 := fun b hb => ⟨(q b hb).1.trans (p b hb).1, fun j => ((q b hb).2 j).trans ((p b hb).2 j)⟩
theorem Agr.thr {h : jm_H} : Agr (fun b => b < h.1) h (jm_thr h) := fun b hb => ⟨by simp [jm_thr, jm_new, Nat.ne_of_lt hb], fun j => by simp [jm_thr, jm_new, Nat.ne_of_lt hb]⟩
theorem Agr.bel {a : Nat} {h h' : jm_H} (q : Bel a h h') : Agr (fun b => b < a) h h' := q
section AG
variable {P : Nat → Prop} {h h' : jm_H}
theorem arI.ag {b n : Nat} {F : Nat → Int32} (p : arI h b n F) (q : Agr P h h') (hb : P b) : arI h' b n F := fun j hj => ((q b hb).2 j).trans (p j hj)
theorem arL.ag {b n : Nat} {F : Nat → Int64} (p : arL h b n F) (q : Agr P h h') (hb : P b) : arL h' b n F := fun j hj => ((q b hb).2 j).trans (p j hj)
theorem FmA.ag {f L N : Nat} (p : FmA h f L N) (q : Agr P h h') (h0 : P f) (h1 : P (f + 1)) (h2 : P (f + 2)) (h3 : P (f + 3)) (h4 : P (f + 4)) (h5 : P (f + 5)) : FmA h' f L N := by
  obtain ⟨tf, g0, g1, g2, g3, g4, g5, g6, t1, t2, t3, t4, t5⟩ := p
  have w := (q f h0).2
  exact ⟨(q f h0).1.trans tf, (w 0).trans g0, (w 1).trans g1, (w 2).trans g2, (w 3).trans g3, (w 4).trans g4, (w 5).trans g5, (w 6).trans g6, (q _ h1).1.trans t1, (q _ h2).1.trans t2, (q _ h3).1.trans t3, (q _ h4).1.trans t4, (q _ h5).1.trans t5⟩
theorem CellA.ag {r : CRec} (p : CellA h r) (q : Agr P h h') (h0 : P (k_a r)) : CellA h' r := by
  obtain ⟨t, g0, g1, g2, g3, g4⟩ := p
  have w := (q _ h0).2
  exact ⟨(q _ h0).1.trans t, (w 0).trans g0, (w 1).trans g1, (w 2).trans g2, (w 3).trans g3, (w 4).trans g4⟩
theorem FmR.ag {r : CRec} (p : FmR h r) (q : Agr P h h') (h0 : P (k_f r)) (h1 : P (k_f r + 1)) (h2 : P (k_f r + 2)) (h3 : P (k_f r + 3)) (h4 : P (k_f r + 4)) (h5 : P (k_f r + 5)) : FmR h' r :=
  ⟨p.1.ag q h0 h1 h2 h3 h4 h5, p.2.1.ag q h1, p.2.2.1.ag q h2, p.2.2.2.1.ag q h3, p.2.2.2.2.1.ag q h4, p.2.2.2.2.2.1.ag q h5, p.2.2.2.2.2.2⟩
theorem CsA.ag {b m : Nat} {R : Nat → CRec} {RS : Nat → Int64} (p : CsA h b m R RS) (q : Agr P h h') (h0 : P b) (h1 : P (b + 1)) (h2 : P (b + 2)) (hR : ∀ i, i < m → P (k_a (R i)) ∧ ∀ j, j ≤ 5 → P (k_f (R i) + j)) : CsA h' b m R RS := by
  obtain ⟨tb, b0, b1, b2, t1, t2, hRS, hm, hr⟩ := p
  have w := (q b h0).2
  refine ⟨(q b h0).1.trans tb, (w 0).trans b0, (w 1).trans b1, (w 2).trans b2, (q _ h1).1.trans t1, (q _ h2).1.trans t2, hRS.ag q h2, hm, fun i hi => ?_⟩
  obtain ⟨r1, r2, r3⟩ := hr i hi
  obtain ⟨p1, p2⟩ := hR i hi
  exact ⟨((q _ h1).2 i).trans r1, r2.ag q p1, r3.ag q (p2 0 (by decide)) (p2 1 (by decide)) (p2 2 (by decide)) (p2 3 (by decide)) (p2 4 (by decide)) (p2 5 (by decide))⟩
theorem BdA.ag {b ls : Nat} {tot : Int32} {LT : Nat → Int64} (p : BdA h b ls tot LT) (q : Agr P h h') (h1 : P (b + 3)) (h2 : P (b + 6)) : BdA h' b ls tot LT := by
  obtain ⟨ty, y0, y1, y2, y3, tl, hL⟩ := p
  have w := (q _ h1).2
  exact ⟨(q _ h1).1.trans ty, (w 0).trans y0, (w 1).trans y1, (w 2).trans y2, (w 3).trans y3, (q _ h2).1.trans tl, hL.ag q h2⟩
theorem WkA.ag {w n : Nat} {kd : Int32} {v : Int64} {S : Nat → Int64} (p : WkA h w n kd v S) (q : Agr P h h') (h1 : P w) (h2 : P (w + 1)) : WkA h' w n kd v S := by
  obtain ⟨tw, w0, w1, w2, w3, ts, hS⟩ := p
  have u := (q _ h1).2
  exact ⟨(q _ h1).1.trans tw, (u 0).trans w0, (u 1).trans w1, (u 2).trans w2, (u 3).trans w3, (q _ h2).1.trans ts, hS.ag q h2⟩
theorem RdC.ag {r f n : Nat} {B : Nat → Int32} {c : Cur} {k L N : Nat} {ST DT : Nat → Int32} {NA : Nat → Int64} {PL : Nat → Int32} {fc fp : Int32} {nme : Int64} (p : RdC h r f n B c k L N ST DT NA PL fc fp nme) (q : Agr P h h') (h0 : P r) (h1 : P (r + 1)) (h2 : P (r + 2)) (h9 : P (r + 9)) (hf : ∀ j, j ≤ 5 → P (f + j)) : RdC h' r f n B c k L N ST DT NA PL fc fp nme := by
  obtain ⟨tr, r0, r1, r2, r3, r4, r5, r6, tp, ⟨ta, f0, f1, f2, f3, f4, f5, f6, tb⟩, hB, hF, hST, hDT, hNA, hPL, hdis, hcs⟩ := p
  have w := (q _ h0).2
  have u := (q _ h1).2
  exact ⟨(q _ h0).1.trans tr, (w 0).trans r0, (w 1).trans r1, (w 2).trans r2, (w 3).trans r3, (w 4).trans r4, (w 5).trans r5, (w 6).trans r6, (q _ h9).1.trans tp, ⟨(q _ h1).1.trans ta, (u 0).trans f0, (u 1).trans f1, (u 2).trans f2, (u 3).trans f3, (u 4).trans f4, (u 5).trans f5, (u 6).trans f6, (q _ h2).1.trans tb⟩, fun j hj => ((q _ h2).2 j).trans (hB j hj), hF.ag q (hf 0 (by decide)) (hf 1 (by decide)) (hf 2 (by decide)) (hf 3 (by decide)) (hf 4 (by decide)) (hf 5 (by decide)), hST.ag q (hf 1 (by decide)), hDT.ag q (hf 2 (by decide)), hNA.ag q (hf 3 (by decide)), hPL.ag q h9, hdis, hcs⟩
end AG
section RC
variable {h : jm_H} {r f n : Nat} {B : Nat → Int32} {c : Cur} {k L N : Nat} {ST DT : Nat → Int32} {NA : Nat → Int64} {PL : Nat → Int32} {fc fp : Int32} {nme : Int64}
/-- the tape's length is set -/
theorem RdC.len {n' : Nat} (p : RdC h r f n B c k L N ST DT NA PL fc fp nme) : RdC (jm_put h (r + 1) 1 (.int (nI n'))) r f n' B c k L N ST DT NA PL fc fp nme := by
  obtain ⟨tr, r0, r1, r2, r3, r4, r5, r6, tp, ⟨ta, f0, f1, f2, f3, f4, f5, f6, tb⟩, hB, hF, hST, hDT, hNA, hPL, hdis, hcs⟩ := p
  have n1 : r ≠ r + 1 := by omega
  exact ⟨tr, jm_rd_a n1 r0, jm_rd_a n1 r1, jm_rd_a n1 r2, jm_rd_a n1 r3, jm_rd_a n1 r4, jm_rd_a n1 r5, jm_rd_a n1 r6, tp, ⟨ta, jm_rd_k (by decide) f0, jm_rd_s _ _ _ _, jm_rd_k (by decide) f2, jm_rd_k (by decide) f3, jm_rd_k (by decide) f4, jm_rd_k (by decide) f5, jm_rd_k (by decide) f6, tb⟩, fun j hj => jm_rd_a (by omega) (hB j hj), hF.put (jm_ne_oo hF.1 ta (by decide)), hST.keep (by omega), hDT.keep (by omega), hNA.keep (by omega), hPL.keep (by omega), hdis, hcs⟩
theorem RdC.byte {i : Nat} {v : Int32} (p : RdC h r f n B c k L N ST DT NA PL fc fp nme) : RdC (jm_put h (r + 2) i (.int v)) r f n (jm_up B i v) c k L N ST DT NA PL fc fp nme := by
  obtain ⟨tr, r0, r1, r2, r3, r4, r5, r6, tp, ⟨ta, f0, f1, f2, f3, f4, f5, f6, tb⟩, hB, hF, hST, hDT, hNA, hPL, hdis, hcs⟩ := p
  have n1 : r ≠ r + 2 := by omega
  have n2 : r + 1 ≠ r + 2 := by omega
  exact ⟨tr, jm_rd_a n1 r0, jm_rd_a n1 r1, jm_rd_a n1 r2, jm_rd_a n1 r3, jm_rd_a n1 r4, jm_rd_a n1 r5, jm_rd_a n1 r6, tp, ⟨ta, jm_rd_a n2 f0, jm_rd_a n2 f1, jm_rd_a n2 f2, jm_rd_a n2 f3, jm_rd_a n2 f4, jm_rd_a n2 f5, jm_rd_a n2 f6, tb⟩, arI.put (h := h) hB, hF.put (by omega), hST.keep (by omega), hDT.keep (by omega), hNA.keep (by omega), hPL.keep (by omega), hdis, hcs⟩
def q_add (B : Nat → Int32) (n : Nat) (w : Int32) : Nat → Int32 := jm_up (jm_up (jm_up (jm_up B n (q_byte w 24)) (n + 1) (q_byte w 16)) (n + 2) (q_byte w 8)) (n + 3) (q_byte w 0)
theorem RdC.add {w : Int32} (p : RdC h r f n B c k L N ST DT NA PL fc fp nme) : RdC (tp_add h (r + 1) (r + 2) n w) r f (n + 4) (q_add B n w) c k L N ST DT NA PL fc fp nme := p.byte.len.byte.len.byte.len.byte.len
theorem tp_add_fr {S9 : Nat → Prop} {h0 : jm_H} {w : Int32} (q : jm_fr S9 h0 h) (h1 : S9 (r + 1)) (h2 : S9 (r + 2)) : jm_fr S9 h0 (tp_add h (r + 1) (r + 2) n w) := (((((((q.put h2).put h1).put h2).put h1).put h2).put h1).put h2).put h1
theorem RdC.rew (p : RdC h r f n B c k L N ST DT NA PL fc fp nme) : RdS (jm_put h (r + 1) 2 (.int 0)) r f n B (cu0 c) k L N ST DT NA PL fc fp nme := by
  obtain ⟨tr, r0, r1, r2, r3, r4, r5, r6, tp, ⟨ta, f0, f1, f2, f3, f4, f5, f6, tb⟩, hB, hF, hST, hDT, hNA, hPL, hdis, hcs⟩ := p
  have n1 : r ≠ r + 1 := by omega
  exact ⟨tr, jm_rd_a n1 r0, jm_rd_a n1 r1, jm_rd_a n1 r2, jm_rd_a n1 r3, jm_rd_a n1 r4, jm_rd_a n1 r5, jm_rd_a n1 r6, tp, ⟨ta, jm_rd_k (by decide) f0, jm_rd_k (by decide) f1, jm_rd_s _ _ _ _, jm_rd_k (by decide) f3, jm_rd_k (by decide) f4, jm_rd_k (by decide) f5, jm_rd_k (by decide) f6, tb⟩, fun j hj => jm_rd_a (by omega) (hB j hj), hF.put (jm_ne_oo hF.1 ta (by decide)), hST.keep (by omega), hDT.keep (by omega), hNA.keep (by omega), hPL.keep (by omega), hdis, Nat.zero_le _, Or.inl hcs⟩
theorem RdC.only (p : RdC h r f n B c k L N ST DT NA PL fc fp nme) (hn : n ≤ 2000) : RdC (tp_only h (r + 1) n B c.2.2.2.1 c.2.2.2.2) r f n B (cu_adv B n (cu_adv B n (cu0 c))) k L N ST DT NA PL fc fp nme := RdS.core p.rew.tok.tok hn
theorem tp_only_fr {nm : Int64} {nu : Int32} {a : Nat} : jm_fr (fun x => x = a) h (tp_only h a n B nm nu) := by
  have t : ∀ (h : jm_H) (p : Nat) (nm : Int64) (nu : Int32), jm_fr (fun x => x = a) h (tp_tok h a n B p nm nu) := fun h p nm nu => ((((jm_fr.rf.put (S := fun x => x = a) rfl).put rfl).put rfl).put rfl).put rfl
  exact ((jm_fr.rf.put (S := fun x => x = a) rfl).trans (t _ _ _ _)).trans (t _ _ _ _)
end RC
def AdrR (x Y : Nat) (h : jm_H) (m : Nat) (R : Nat → CRec) : Prop := ∀ p, p < m → (k_f (R p) = x + 4 ∨ Y ≤ k_f (R p)) ∧ k_f (R p) + 5 < h.1 ∧ Y ≤ k_a (R p) ∧ k_a (R p) < h.1
def S_cw (x Y b : Nat) : Prop := (x ≤ b ∧ b < x + 18) ∨ Y ≤ b
/-- what a Formula has seen, whatever it is -/
def TySn (h : jm_H) (f : Nat) : Prop := ∃ SK SV, arI h (f + 4) 40 SK ∧ arL h (f + 5) 40 SV
theorem TySn.ag {P : Nat → Prop} {h h' : jm_H} {f : Nat} (p : TySn h f) (q : Agr P h h') (h4 : P (f + 4)) (h5 : P (f + 5)) : TySn h' f := by
  obtain ⟨SK, SV, a, b⟩ := p
  exact ⟨SK, SV, a.ag q h4, b.ag q h5⟩
/-- the reader's part: where its Formula lies -/
def RdX (h : jm_H) (x Y n : Nat) (B : Nat → Int32) (fc fp : Int32) (m : Nat) (R : Nat → CRec) (f : Nat) (c : Cur) (k L N : Nat) (ST DT : Nat → Int32) (NA : Nat → Int64) (PL : Nat → Int32) (nme : Int64) : Prop := RdC h (x + 1) f n B c k L N ST DT NA PL fc fp nme ∧ (f = x + 4 ∨ Y ≤ f) ∧ f + 5 < h.1 ∧ L < 2 ^ 31 ∧ N < 2 ^ 31 ∧ (∀ p, p < m → f ≠ k_f (R p)) ∧ TySn h f
def CWI (h : jm_H) (x Y n : Nat) (B : Nat → Int32) (fc fp : Int32) (m : Nat) (R : Nat → CRec) (T : Nat → Term) (ls : Nat) (tot : Int32) (LT : Nat → Int64) : Prop :=
  (h.2.2.1 x = (jm_o 0, 3) ∧ h.2.2.2 x 0 = .ref (x + 1) ∧ h.2.2.2 x 1 = .ref (x + 11) ∧ h.2.2.2 x 2 = .ref (x + 11 + 3)) ∧
  (∃ f c k L N ST DT NA PL nme, RdX h x Y n B fc fp m R f c k L N ST DT NA PL nme) ∧ (∃ RS, CsA h (x + 11) m R RS) ∧ CsOK (x + 11) m R T ∧ AdrR x Y h m R ∧ BdA h (x + 11) ls tot LT ∧ (∃ n kd v S, WkA h (x + 11 + 4) n kd v S) ∧ (n ≤ 2000 ∧ ls ≤ 64 ∧ x + 18 ≤ Y ∧ Y ≤ h.1) ∧ Acyc R m
/-- it stays while nothing of its own changes -/
theorem CWI.ag {h h' : jm_H} {x Y n : Nat} {B : Nat → Int32} {fc fp : Int32} {m : Nat} {R : Nat → CRec} {T : Nat → Term} {ls : Nat} {tot : Int32} {LT : Nat → Int64} (p : CWI h x Y n B fc fp m R T ls tot LT) (q : Agr (fun b => S_cw x Y b ∧ b < h.1) h h') (hz : h.1 ≤ h'.1) : CWI h' x Y n B fc fp m R T ls tot LT := by
  obtain ⟨⟨tx, x0, x1, x2⟩, ⟨f, c, k, L, N, ST, DT, NA, PL, nme, hR, hf1, hf2, hL, hN, hf3, hTy⟩, ⟨RS, hC⟩, hO, hA, hB, ⟨wn, kd, v, S, hW⟩, ⟨b1, b2, b3, b4⟩, hAc⟩ := p
  have inx : ∀ b, x ≤ b → b < x + 18 → S_cw x Y b ∧ b < h.1 := fun b q1 q2 => ⟨Or.inl ⟨q1, q2⟩, by omega⟩
  have iny : ∀ b, Y ≤ b → b < h.1 → S_cw x Y b ∧ b < h.1 := fun b q1 q2 => ⟨Or.inr q1, q2⟩
  have hx := q x (inx x (by omega) (by omega))
  have fj : ∀ j, j ≤ 5 → S_cw x Y (f + j) ∧ f + j < h.1 := fun j hj => by
    rcases hf1 with e | e
    · exact inx _ (by omega) (by omega)
    · exact iny _ (by omega) (by omega)
  refine ⟨⟨hx.1.trans tx, (hx.2 0).trans x0, (hx.2 1).trans x1, (hx.2 2).trans x2⟩, ⟨f, c, k, L, N, ST, DT, NA, PL, nme, ?_, hf1, by omega, hL, hN, hf3, hTy.ag q (fj 4 (by decide)) (fj 5 (by decide))⟩, ⟨RS, ?_⟩, hO, ?_, ?_, ⟨wn, kd, v, S, ?_⟩, ⟨b1, b2, b3, by omega⟩, hAc⟩
  · refine hR.ag q (inx _ (by omega) (by omega)) (inx _ (by omega) (by omega)) (inx _ (by omega) (by omega)) (inx _ (by omega) (by omega)) (fun j hj => ?_)
    rcases hf1 with e | e
    · exact inx _ (by omega) (by omega)
    · exact iny _ (by omega) (by omega)
  · refine hC.ag q (inx _ (by omega) (by omega)) (inx _ (by omega) (by omega)) (inx _ (by omega) (by omega)) (fun i hi => ?_)
    obtain ⟨a1, a2, a3, a4⟩ := hA i hi
    refine ⟨iny _ (by omega) (by omega), fun j hj => ?_⟩
    rcases a1 with e | e
    · exact inx _ (by omega) (by omega)
    · exact iny _ (by omega) (by omega)
  · intro i hi
    obtain ⟨a1, a2, a3, a4⟩ := hA i hi
    exact ⟨a1, by omega, a3, by omega⟩
  · exact hB.ag q (inx _ (by omega) (by omega)) (inx _ (by omega) (by omega))
  · exact hW.ag q (inx _ (by omega) (by omega)) (inx _ (by omega) (by omega))
