/-! a cell more, or a cell anew: what stays -/
theorem rk_bound (rk : Nat → Nat) : ∀ m, ∃ M, ∀ p, p < m → rk p < M
  | 0 => ⟨0, fun p hp => by omega⟩
  | m + 1 => by
    obtain ⟨M, h⟩ := rk_bound rk m
    refine ⟨M + rk m + 1, fun p hp => ?_⟩
    by_cases e : p = m
    · rw [e]; omega
    · have := h p (by omega); omega
theorem acyc_ext {m m' X : Nat} {od : Nat → Nat} {E E' : Nat → Nat → Prop} {D : Nat → Prop} {rk : Nat → Nat} (hE : ∀ p i, p < m → E p i → rk i < rk p) (hod : ∀ p, p < m' → p ≠ X → od p < m) (h1 : ∀ p i, p < m' → i < m' → p ≠ X → i ≠ X → E' p i → E (od p) (od i)) (hD : ∀ p i, p < m → i < m → E p i → D i → D p) (h2 : ∀ p, p < m' → p ≠ X → E' p X → D (od p)) (h3 : ∀ i, i < m' → i ≠ X → E' X i → ¬ D (od i)) (h4 : ¬ E' X X) : ∃ rk' : Nat → Nat, ∀ p i, p < m' → i < m' → E' p i → rk' i < rk' p := by
  classical
  obtain ⟨M, hM⟩ := rk_bound rk m
  refine ⟨fun p => if p = X then M else if D (od p) then M + 1 + rk (od p) else rk (od p), fun p i hp hi he => ?_⟩
  show (if i = X then M else if D (od i) then M + 1 + rk (od i) else rk (od i)) < (if p = X then M else if D (od p) then M + 1 + rk (od p) else rk (od p))
  by_cases pX : p = X
  · by_cases iX : i = X
    · rw [pX, iX] at he; exact absurd he h4
    · rw [if_pos pX, if_neg iX, if_neg (h3 i hi iX (pX ▸ he))]
      exact hM _ (hod i hi iX)
  · rw [if_neg pX]
    by_cases iX : i = X
    · rw [if_pos iX, if_pos (h2 p hp pX (iX ▸ he))]
      omega
    · rw [if_neg iX]
      have e := h1 p i hp hi pX iX he
      have lt := hE _ _ (hod p hp pX) e
      by_cases dp : D (od p)
      · rw [if_pos dp]
        split <;> omega
      · rw [if_neg dp, if_neg (fun di => dp (hD _ _ (hod p hp pX) (hod i hi iX) e di))]
        exact lt
section NEW
variable {R : Nat → CRec} {m : Nat} {r : CRec}
theorem insR_lt {K j : Nat} (h : j < K) : insR R K r j = R j := by unfold insR; rw [if_pos h]
theorem insR_eq {K : Nat} : insR R K r K = r := by unfold insR; rw [if_neg (by omega), if_pos rfl]
theorem insR_gt {K j : Nat} (h : K < j) : insR R K r j = R (j - 1) := by unfold insR; rw [if_neg (by omega), if_neg (by omega)]
def odI (K j : Nat) : Nat := if j < K then j else j - 1
theorem insR_od {K j : Nat} (h : j ≠ K) : insR R K r j = R (odI K j) := by
  unfold odI
  by_cases e : j < K
  · rw [insR_lt e, if_pos e]
  · rw [insR_gt (by omega), if_neg e]
theorem odI_lt {K j : Nat} (hK : K ≤ m) (hj : j < m + 1) (h : j ≠ K) : odI K j < m := by unfold odI; split <;> omega
theorem odI_inj {K i j : Nat} (hi : i ≠ K) (hj : j ≠ K) (h : i ≠ j) : odI K i ≠ odI K j := by unfold odI; split <;> split <;> omega
theorem odI_mono {K i j : Nat} (hi : i ≠ K) (hj : j ≠ K) (h : i < j) : odI K i < odI K j := by unfold odI; split <;> split <;> omega
theorem SortR.ins (hs : SortR R m) (hn : q_ix R m (k_n r) = none) : SortR (insR R (q_pl R m (k_n r)) r) (m + 1) := by
  have hK := q_pl_le R m (k_n r)
  have sp := q_pl_spec (k_n r) hs
  intro p q hpq hq
  by_cases pK : p = q_pl R m (k_n r)
  · rw [pK, insR_eq, insR_gt (by omega)]
    have h1 : ¬ k_n (R (q - 1)) < k_n r := fun h => by
      have := (sp (q - 1) (by omega)).mp h
      omega
    have h2 := q_ix_none.mp hn (q - 1) (by omega)
    exact Int64.not_le.mp fun h3 => h2 (Int64.le_antisymm h3 (Int64.not_lt.mp h1))
  · by_cases qK : q = q_pl R m (k_n r)
    · rw [qK, insR_eq, insR_lt (by omega)]
      exact (sp p (by omega)).mpr (by omega)
    · rw [insR_od pK, insR_od qK]
      exact hs _ _ (odI_mono pK qK hpq) (odI_lt hK hq qK)
/-- which names lead where, with a cell more -/
theorem ix_ins (hs : SortR R m) {K : Nat} (hK : K ≤ m) {u : Int64} {i : Nat} (h : q_ix (insR R K r) (m + 1) u = some i) : i < m + 1 ∧ (i = K ∧ u = k_n r ∨ i ≠ K ∧ q_ix R m u = some (odI K i)) := by
  obtain ⟨h1, h2⟩ := q_ix_some h
  refine ⟨h1, ?_⟩
  by_cases e : i = K
  · rw [e, insR_eq] at h2
    exact Or.inl ⟨e, h2.symm⟩
  · rw [insR_od e] at h2
    have := q_ix_of hs (odI_lt hK h1 e)
    rw [h2] at this
    exact Or.inr ⟨e, this⟩
/-- no circle: the names of the new formula -/
def NoC (R : Nat → CRec) (m : Nat) (nm : Int64) (N : Nat) (NA : Nat → Int64) : Prop := ∀ j, j < N → NA j ≠ nm ∧ ∀ p, q_ix R m (NA j) = some p → ¬ DepC R m nm p
theorem Acyc.ins (hs : SortR R m) (hm : m < 64) (hA : Acyc R m) (hC : NoC R m (k_n r) (k_N r) (k_NA r)) : Acyc (insR R (q_pl R m (k_n r)) r) (m + 1) := by
  obtain ⟨rk, hrk⟩ := hA
  have hK := q_pl_le R m (k_n r)
  have key := acyc_ext (m := m) (m' := m + 1) (X := q_pl R m (k_n r)) (od := odI (q_pl R m (k_n r))) (E := fun p i => rdR R m p i) (E' := fun p i => rdR (insR R (q_pl R m (k_n r)) r) (m + 1) p i) (D := DepC R m (k_n r)) (rk := rk) (fun p i hp he => hrk p hp i he) (fun p hp hX => odI_lt hK hp hX) (fun p i hp hi pX iX he => ?_) (fun p i hp hi he hd => DepC.clo.2 p i hp (by omega) he hd) (fun p hp pX he => ?_) (fun i hi iX he => ?_) (fun he => ?_)
  · obtain ⟨rk', h'⟩ := key
    exact ⟨rk', fun p hp i hi => h' p i hp hi.lt hi⟩
  · obtain ⟨j, j1, j2⟩ := he
    rw [insR_od pX] at j1 j2
    rcases (ix_ins hs hK j2).2 with ⟨e, -⟩ | ⟨-, e⟩
    · exact absurd e iX
    · exact ⟨j, j1, e⟩
  · obtain ⟨j, j1, j2⟩ := he
    rw [insR_od pX] at j1 j2
    rcases (ix_ins hs hK j2).2 with ⟨-, e⟩ | ⟨e, -⟩
    · exact DepC.clo.1 _ (odI_lt hK hp pX) ⟨j, j1, e⟩
    · exact absurd rfl e
  · obtain ⟨j, j1, j2⟩ := he
    rw [insR_eq] at j1 j2
    rcases (ix_ins hs hK j2).2 with ⟨e, -⟩ | ⟨-, e⟩
    · exact absurd e iX
    · exact (hC j j1).2 _ e
  · obtain ⟨j, j1, j2⟩ := he
    rw [insR_eq] at j1 j2
    rcases (ix_ins hs hK j2).2 with ⟨-, e⟩ | ⟨e, -⟩
    · exact (hC j j1).1 e
    · exact absurd rfl e
theorem upR_n {p : Nat} (h : k_n r = k_n (R p)) (q : Nat) : k_n (upR R p r q) = k_n (R q) := by
  by_cases e : q = p
  · rw [e, upR_eq]; exact h
  · rw [upR_ne e]
theorem Acyc.up (hs : SortR R m) (hm : m ≤ 64) {p0 : Nat} (hp0 : p0 < m) (hn : k_n r = k_n (R p0)) (hA : Acyc R m) (hC : NoC R m (k_n r) (k_N r) (k_NA r)) : Acyc (upR R p0 r) m := by
  obtain ⟨rk, hrk⟩ := hA
  have hix : ∀ u, q_ix (upR R p0 r) m u = q_ix R m u := fun u => q_ix_congr fun q hq => upR_n hn q
  have ix0 : q_ix R m (k_n r) = some p0 := by rw [hn]; exact q_ix_of hs hp0
  have key := acyc_ext (m := m) (m' := m) (X := p0) (od := fun p => p) (E := fun p i => rdR R m p i) (E' := fun p i => rdR (upR R p0 r) m p i) (D := DepC R m (k_n r)) (rk := rk) (fun p i hp he => hrk p hp i he) (fun p hp _ => hp) (fun p i hp hi pX iX he => ?_) (fun p i hp hi he hd => DepC.clo.2 p i hp (by omega) he hd) (fun p hp pX he => ?_) (fun i hi iX he => ?_) (fun he => ?_)
  · obtain ⟨rk', h'⟩ := key
    exact ⟨rk', fun p hp i hi => h' p i hp hi.lt hi⟩
  · obtain ⟨j, j1, j2⟩ := he
    rw [upR_ne pX] at j1 j2
    rw [hix] at j2
    exact ⟨j, j1, j2⟩
  · obtain ⟨j, j1, j2⟩ := he
    rw [upR_ne pX] at j1 j2
    rw [hix] at j2
    exact DepC.clo.1 p hp ⟨j, j1, (q_ix_some j2).2.symm.trans hn.symm⟩
  · obtain ⟨j, j1, j2⟩ := he
    rw [upR_eq] at j1 j2
    rw [hix] at j2
    exact (hC j j1).2 _ j2
  · obtain ⟨j, j1, j2⟩ := he
    rw [upR_eq] at j1 j2
    rw [hix] at j2
    exact (hC j j1).1 ((q_ix_some j2).2.symm.trans hn.symm)
/-- what firstInCircle finds is what closes a circle -/
theorem back_iff (hm : m ≤ 64) {RS : Nat → Int64} {u : Int64} {NA : Nat → Int64} {j : Nat} : q_back R m (q_drun (q_trs R m RS m) m m (q_dir R u m) 0) u NA j = true ↔ NA j = u ∨ ∃ p, q_ix R m (NA j) = some p ∧ DepC R m u p := by
  cases e : q_ix R m (NA j) with
  | none =>
    rw [q_back_n e, decide_eq_true_iff]
    exact ⟨Or.inl, fun h => h.elim id (fun ⟨p, h, _⟩ => by cases h)⟩
  | some p =>
    have hp := (q_ix_some e).1
    rw [q_back_s e, Bool.or_eq_true, decide_eq_true_iff, drun_bt hm u (by omega)]
    constructor
    · rintro (h | ⟨-, h⟩)
      · exact Or.inl h
      · exact Or.inr ⟨p, rfl, h⟩
    · rintro (h | ⟨p', h1, h2⟩)
      · exact Or.inl h
      · cases h1
        exact Or.inr ⟨hp, h2⟩
theorem NoC.of (hm : m ≤ 64) {RS : Nat → Int64} {u : Int64} {NA : Nat → Int64} {N : Nat} (h : firstN (q_back R m (q_drun (q_trs R m RS m) m m (q_dir R u m) 0) u NA) N = none) : NoC R m u N NA := fun j hj => by
  have h1 := firstN_no h j hj
  refine ⟨fun e => ?_, fun p e hd => ?_⟩
  · rw [back_iff hm |>.mpr (Or.inl e)] at h1
    cases h1
  · rw [back_iff hm |>.mpr (Or.inr ⟨p, e, hd⟩)] at h1
    cases h1
end NEW
