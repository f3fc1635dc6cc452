/-! what a call leaves of the rest -/
def MvCW (x Y : Nat) (h h' : jm_H) (K S : Nat) : Prop := Agr (fun b => ¬ S_cw x Y b ∧ b < h.1) h h' ∧ h.1 ≤ h'.1 ∧ h'.1 ≤ h.1 + K ∧ h.2.1 ≤ h'.2.1 ∧ h'.2.1 ≤ h.2.1 + S
theorem MvCW.of_fr {S9 : Nat → Prop} {x Y : Nat} {h h' : jm_H} (q : jm_fr S9 h h') (hS : ∀ b, S9 b → S_cw x Y b) : MvCW x Y h h' 0 0 := ⟨(Agr.of_fr q).weak fun b hb z => hb.1 (hS b z), by rw [q.1]; exact Nat.le_refl _, by rw [q.1]; exact Nat.le_refl _, by rw [q.2.1]; exact Nat.le_refl _, by rw [q.2.1]; exact Nat.le_refl _⟩
theorem MvCW.rf {x Y : Nat} {h : jm_H} : MvCW x Y h h 0 0 := ⟨fun b _ => ⟨rfl, fun _ => rfl⟩, Nat.le_refl _, Nat.le_refl _, Nat.le_refl _, Nat.le_refl _⟩
theorem MvCW.thr {x Y : Nat} {h h' : jm_H} {K S : Nat} (q : MvCW x Y h h' K S) : MvCW x Y h (jm_thr h') (K + 1) (S + 6) := by
  obtain ⟨q1, q2, q3, q4, q5⟩ := q
  refine ⟨fun b hb => ?_, ?_, ?_, ?_, ?_⟩
  · have := Agr.thr (h := h') b (by have := hb.2; omega)
    exact ⟨this.1.trans (q1 b hb).1, fun j => (this.2 j).trans ((q1 b hb).2 j)⟩
  · show h.1 ≤ h'.1 + 1; omega
  · show h'.1 + 1 ≤ _; omega
  · show h.2.1 ≤ h'.2.1 + 6; omega
  · show h'.2.1 + 6 ≤ _; omega
def S_rx (x f b : Nat) : Prop := b = x + 3 ∨ S_rd (x + 1) f b
theorem S_rx_cw {x Y f b : Nat} (h1 : f = x + 4 ∨ Y ≤ f) (h : S_rx x f b) : S_cw x Y b := by
  unfold S_rx S_rd at h
  unfold S_cw
  omega
section CM
variable {h h' : jm_H} {x Y n n' : Nat} {B B' : Nat → Int32} {fc fp fc' fp' : Int32} {m : Nat} {R : Nat → CRec} {T : Nat → Term} {ls : Nat} {tot : Int32} {LT : Nat → Int64} {f : Nat} {c c' : Cur} {k L N k' L' N' : Nat} {ST DT ST' DT' : Nat → Int32} {NA NA' : Nat → Int64} {PL PL' : Nat → Int32} {nme nme' : Int64}
/-- the reader has changed alone -/
theorem CWI.mkR (p : CWI h x Y n B fc fp m R T ls tot LT) (hX : RdX h x Y n B fc fp m R f c k L N ST DT NA PL nme) (q : jm_fr (S_rx x f) h h') (hR' : RdC h' (x + 1) f n' B' c' k' L' N' ST' DT' NA' PL' fc' fp' nme') (hn : n' ≤ 2000) (hL' : L' < 2 ^ 31) (hN' : N' < 2 ^ 31) : CWI h' x Y n' B' fc' fp' m R T ls tot LT := by
  obtain ⟨⟨tx, x0, x1, x2⟩, -, ⟨RS, hC⟩, hO, hA, hB, ⟨wn, kd, v, S, hW⟩, ⟨b1, b2, b3, b4⟩, hAc⟩ := p
  obtain ⟨hR, hf1, hf2, hL, hN, hf3, hTy⟩ := hX
  have hF : FmA h f L N := hR.2.2.2.2.2.2.2.2.2.2.2.1
  have a := Agr.of_fr q
  have e1 : h'.1 = h.1 := q.1
  have out : ∀ b, (b = x ∨ (x + 11 ≤ b ∧ b < x + 18)) → ¬ S_rx x f b := fun b hb z => by
    unfold S_rx S_rd at z
    omega
  have hx := a x (out x (Or.inl rfl))
  refine ⟨⟨hx.1.trans tx, (hx.2 0).trans x0, (hx.2 1).trans x1, (hx.2 2).trans x2⟩, ⟨f, c', k', L', N', ST', DT', NA', PL', nme', hR', hf1, by omega, hL', hN', hf3, hTy.ag a (fun z => by unfold S_rx S_rd at z; omega) (fun z => by unfold S_rx S_rd at z; omega)⟩, ⟨RS, ?_⟩, hO, fun i hi => ?_, ?_, ⟨wn, kd, v, S, ?_⟩, ⟨hn, b2, b3, by omega⟩, hAc⟩
  · refine hC.ag a (out _ (by omega)) (out _ (by omega)) (out _ (by omega)) (fun i hi => ?_)
    obtain ⟨a1, a2, a3, a4⟩ := hA i hi
    obtain ⟨-, c2, c3⟩ := hC.2.2.2.2.2.2.2.2 i hi
    have hne := hf3 i hi
    constructor
    · have g0 := jm_ne_oo c2.1 hF.1 (by decide)
      have g : ∀ j, 1 ≤ j → j ≤ 5 → k_a (R i) ≠ f + j := fun j j1 j2 => by
        obtain ⟨t, nn, ht⟩ := hF.arr j1 j2
        exact jm_ne_oa c2.1 ht
      have g1 := g 1 (by decide) (by decide)
      have g2 := g 2 (by decide) (by decide)
      have g3 := g 3 (by decide) (by decide)
      have g4 := g 4 (by decide) (by decide)
      have g5 := g 5 (by decide) (by decide)
      unfold S_rx S_rd
      omega
    · intro j hj
      have sp := fun j' (hj' : j' ≤ 5) => hF.sep c3.1 hne (i := j') (j := j) hj' hj
      have s0 := sp 0 (by decide)
      have s1 := sp 1 (by decide)
      have s2 := sp 2 (by decide)
      have s3 := sp 3 (by decide)
      have s4 := sp 4 (by decide)
      have s5 := sp 5 (by decide)
      unfold S_rx S_rd
      omega
  · obtain ⟨a1, a2, a3, a4⟩ := hA i hi
    exact ⟨a1, by omega, a3, by omega⟩
  · exact hB.ag a (out _ (by omega)) (out _ (by omega))
  · exact hW.ag a (out _ (by omega)) (out _ (by omega))
/-- what building may change is CellWorks' own -/
theorem S_B_cw {b : Nat} (hA : AdrR x Y h m R) (hz : S_B (x + 11) R m b) : S_cw x Y b := by
  unfold S_B S_run S_wk S_bd at hz
  unfold S_cw
  rcases hz with (hz | ⟨p, hp, hz⟩) | hz | hz
  · omega
  · obtain ⟨a1, a2, a3, a4⟩ := hA p hp
    omega
  · omega
  · omega
/-- cells and builder have changed, no cell has come or gone -/
theorem CWI.mkC {R' : Nat → CRec} {ls' : Nat} {tot' : Int32} {LT' : Nat → Int64} (p : CWI h x Y n B fc fp m R T ls tot LT) (q : jm_fr (S_B (x + 11) R m) h h') (hs : ∀ i, i < m → SameR (R' i) (R i)) (hC' : ∃ RS, CsA h' (x + 11) m R' RS) (hB' : BdA h' (x + 11) ls' tot' LT') (hl : ls' ≤ 64) (hW' : ∃ n kd v S, WkA h' (x + 11 + 4) n kd v S) : CWI h' x Y n B fc fp m R' T ls' tot' LT' := by
  obtain ⟨⟨tx, x0, x1, x2⟩, ⟨f, c, k, L, N, ST, DT, NA, PL, nme, hR, hf1, hf2, hL, hN, hf3, hTy⟩, ⟨RS, hC⟩, hO, hA, hB, -, ⟨b1, b2, b3, b4⟩, ⟨rk, hrk⟩⟩ := p
  have hF : FmA h f L N := hR.2.2.2.2.2.2.2.2.2.2.2.1
  have a := Agr.of_fr q
  have e1 : h'.1 = h.1 := q.1
  have out : ∀ b, x ≤ b → b < x + 11 → (∀ p, p < m → b ≠ k_f (R p) + 4 ∧ b ≠ k_f (R p) + 5) → ¬ S_B (x + 11) R m b := fun b h1 h2 h3 z => by
    unfold S_B S_run S_wk S_bd at z
    rcases z with (z | ⟨p, hp, z⟩) | z | z
    · omega
    · obtain ⟨a1, a2, a3, a4⟩ := hA p hp
      have := h3 p hp
      omega
    · omega
    · omega
  have lo : ∀ b, (b = x ∨ b = x + 1 ∨ b = x + 2 ∨ b = x + 3 ∨ b = x + 10) → ¬ S_B (x + 11) R m b := fun b hb => out b (by omega) (by omega) (fun p hp => by
    obtain ⟨a1, a2, a3, a4⟩ := hA p hp
    omega)
  have hx := a x (lo x (Or.inl rfl))
  have hfj : ∀ j, j ≤ 5 → ¬ S_B (x + 11) R m (f + j) := fun j hj z => by
    unfold S_B S_run S_wk S_bd at z
    rcases z with (z | ⟨p, hp, z⟩) | z | z
    · omega
    · obtain ⟨a1, a2, a3, a4⟩ := hA p hp
      obtain ⟨-, c2, c3⟩ := hC.2.2.2.2.2.2.2.2 p hp
      have s4 := hF.sep c3.1 (hf3 p hp) (i := j) (j := 4) hj (by decide)
      have s5 := hF.sep c3.1 (hf3 p hp) (i := j) (j := 5) hj (by decide)
      rcases z with z | z | z
      · by_cases j0 : j = 0
        · subst j0
          exact jm_ne_oo hF.1 c2.1 (by decide) z
        · obtain ⟨t, nn, ht⟩ := hF.arr (i := j) (by omega) hj
          exact jm_ne_oa c2.1 ht z.symm
      · exact s4 z
      · exact s5 z
    · omega
    · omega
  refine ⟨⟨hx.1.trans tx, (hx.2 0).trans x0, (hx.2 1).trans x1, (hx.2 2).trans x2⟩, ⟨f, c, k, L, N, ST, DT, NA, PL, nme, ?_, hf1, by omega, hL, hN, fun i hi => by rw [(hs i hi).2.1]; exact hf3 i hi, hTy.ag a (hfj 4 (by decide)) (hfj 5 (by decide))⟩, hC', hO.congr hs, fun i hi => ?_, hB', hW', ⟨b1, hl, b3, by omega⟩, ⟨rk, fun i hi j hj => ?_⟩⟩
  · exact hR.ag a (lo _ (by omega)) (lo _ (by omega)) (lo _ (by omega)) (lo _ (by omega)) hfj
  · obtain ⟨a1, a2, a3, a4⟩ := hA i hi
    obtain ⟨s1, s2, -⟩ := hs i hi
    rw [s1, s2]
    exact ⟨a1, by omega, a3, by omega⟩
  · apply hrk i hi j
    obtain ⟨jj, j1, j2⟩ := hj
    obtain ⟨s1, s2, s3, s4, s5, s6, s7, s8⟩ := hs i hi
    rw [s5] at j1
    rw [s8, q_ix_congr (R := R) fun q hq => (hs q hq).2.2.1] at j2
    exact ⟨jj, j1, j2⟩
end CM
