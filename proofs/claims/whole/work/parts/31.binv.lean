/-! building: what holds while cells are built -/
def TreesOK (R : Nat → CRec) (m : Nat) (T : Nat → Term) : Prop := ∀ p, p < m → Tree (T p) ∧ ∃ PL, Cdx (k_ST (R p)) (k_DT (R p)) (k_NA (R p)) PL (T p) 0 0 (k_L (R p)) (k_N (R p))
/-- the cell at p reads the one at i -/
def rdR (R : Nat → CRec) (m p i : Nat) : Prop := ∃ j, j < k_N (R p) ∧ q_ix R m (k_NA (R p) j) = some i
theorem bt_rds {R : Nat → CRec} {m : Nat} {NA : Nat → Int64} {n i : Nat} (hm : m ≤ 64) (hi : i < 64) : bt (q_rds R m NA n) i = true ↔ ∃ j, j < n ∧ q_ix R m (NA j) = some i := by
  induction n with
  | zero =>
    constructor
    · intro h
      have : bt 0 i = true := h
      rw [bt_zero] at this
      cases this
    · rintro ⟨j, hj, -⟩
      omega
  | succ n ih =>
    cases e : q_ix R m (NA n) with
    | none =>
      rw [q_rds_n e, ih]
      constructor
      · rintro ⟨j, hj, h⟩; exact ⟨j, by omega, h⟩
      · rintro ⟨j, hj, h⟩
        by_cases e2 : j = n
        · subst e2; rw [e] at h; cases h
        · exact ⟨j, by omega, h⟩
    | some p =>
      have hp := (q_ix_some e).1
      rw [q_rds_s e, bt_ins (by omega) hi, Bool.or_eq_true, ih, decide_eq_true_eq]
      constructor
      · rintro (⟨j, hj, h⟩ | rfl)
        · exact ⟨j, by omega, h⟩
        · exact ⟨n, by omega, e⟩
      · rintro ⟨j, hj, h⟩
        by_cases e2 : j = n
        · subst e2; rw [e] at h; cases h; exact Or.inr rfl
        · exact Or.inl ⟨j, by omega, h⟩
theorem bt_tr {R : Nat → CRec} {m p i : Nat} (hm : m ≤ 64) (hi : i < 64) : bt (q_tr R m p) i = true ↔ rdR R m p i := bt_rds hm hi
theorem rdR.lt {R : Nat → CRec} {m p i : Nat} (h : rdR R m p i) : i < m := by
  obtain ⟨j, -, h⟩ := h
  exact (q_ix_some h).1
theorem bt_open {a d : Int64} {p : Nat} (hp : p < 64) : (a &&& (d ^^^ -1)) &&& bt1 p ≠ 0 ↔ bt a p = true ∧ bt d p = false := by
  rw [bt_has hp, bt_and, bt_not hp, Bool.and_eq_true, Bool.not_eq_true']
theorem bt_sub {a d : Int64} : a &&& (d ^^^ -1) = 0 ↔ ∀ i, i < 64 → bt a i = true → bt d i = true := by
  constructor
  · intro h i hi ha
    cases e : bt d i with
    | true => rfl
    | false =>
      exact absurd h (bt_ne0.mpr ⟨i, hi, by rw [bt_and, bt_not hi, ha, e]; rfl⟩)
  · intro h
    apply Classical.byContradiction
    intro hn
    obtain ⟨i, hi, q⟩ := bt_ne0.mp hn
    rw [bt_and, bt_not hi, Bool.and_eq_true] at q
    rw [h i hi q.1] at q
    exact absurd q.2 (by decide)
/-- what a tree gives hangs on the results of its own names -/
theorem ev_congrE {ρ ρ' : Int64 → Int32 × Int64} {ST DT : Nat → Int32} {NA : Nat → Int64} {PL : Nat → Int32} (t : Term) (ht : Tree t) : ∀ (L N L' N' : Nat), Cdx ST DT NA PL t L N L' N' → (∀ j, N ≤ j → j < N' → ρ' (NA j) = ρ (NA j)) → ev ρ' t = ev ρ t := by
  have bin : ∀ (a b : Term) (u : Int32), Tree a → Tree b → (∀ (L N L' N' : Nat), Cdx ST DT NA PL a L N L' N' → (∀ j, N ≤ j → j < N' → ρ' (NA j) = ρ (NA j)) → ev ρ' a = ev ρ a) → (∀ (L N L' N' : Nat), Cdx ST DT NA PL b L N L' N' → (∀ j, N ≤ j → j < N' → ρ' (NA j) = ρ (NA j)) → ev ρ' b = ev ρ b) →
      ∀ (L N L' N' : Nat), (∃ L1 N1 L2, Cdx ST DT NA PL a L N L1 N1 ∧ Cdx ST DT NA PL b L1 N1 L2 N' ∧ ST L2 = u ∧ L' = L2 + 1) → (∀ j, N ≤ j → j < N' → ρ' (NA j) = ρ (NA j)) → ev ρ' a = ev ρ a ∧ ev ρ' b = ev ρ b := by
    intro a b u ta tb ha hb L N L' N' h hj
    obtain ⟨L1, N1, L2, c1, c2, -, -⟩ := h
    have l1 := Cdx.le ta c1
    have l2 := Cdx.le tb c2
    exact ⟨ha _ _ _ _ c1 fun j h1 h2 => hj j h1 (by omega), hb _ _ _ _ c2 fun j h1 h2 => hj j (by omega) h2⟩
  refine Tree.rec9 (P := fun t => ∀ (L N L' N' : Nat), Cdx ST DT NA PL t L N L' N' → (∀ j, N ≤ j → j < N' → ρ' (NA j) = ρ (NA j)) → ev ρ' t = ev ρ t) ?_ ?_ ?_ ?_ ?_ ?_ ?_ ?_ ?_ ?_ t ht
  · intro v L N L' N' h hj
    rfl
  · intro u p L N L' N' h hj
    obtain ⟨-, -, c3, -, -, rfl⟩ := h
    have := hj N (Nat.le_refl _) (by omega)
    rw [c3] at this
    show (if (ρ' u).1 = 1 then ((1, (ρ' u).2) : Int32 × Int64) else (3, 0)) = (if (ρ u).1 = 1 then (1, (ρ u).2) else (3, 0))
    rw [this]
  · intro t tt ih L N L' N' h hj
    obtain ⟨L1, c1, -, -⟩ := h
    have := ih _ _ _ _ c1 hj
    show (if (ev ρ' t).1 = 1 then ((1, -(ev ρ' t).2) : Int32 × Int64) else ev ρ' t) = (if (ev ρ t).1 = 1 then (1, -(ev ρ t).2) else ev ρ t)
    rw [this]
  · intro a b ta tb ha hb L N L' N' h hj
    obtain ⟨e1, e2⟩ := bin a b _ ta tb ha hb L N L' N' h hj
    show ev2 (ev ρ' a) (ev ρ' b) _ = ev2 (ev ρ a) (ev ρ b) _
    rw [e1, e2]
  · intro a b ta tb ha hb L N L' N' h hj
    obtain ⟨e1, e2⟩ := bin a b _ ta tb ha hb L N L' N' h hj
    show ev2 (ev ρ' a) (ev ρ' b) _ = ev2 (ev ρ a) (ev ρ b) _
    rw [e1, e2]
  · intro a b ta tb ha hb L N L' N' h hj
    obtain ⟨e1, e2⟩ := bin a b _ ta tb ha hb L N L' N' h hj
    show ev2 (ev ρ' a) (ev ρ' b) _ = ev2 (ev ρ a) (ev ρ b) _
    rw [e1, e2]
  · intro a b ta tb ha hb L N L' N' h hj
    obtain ⟨e1, e2⟩ := bin a b _ ta tb ha hb L N L' N' h hj
    show ev2 (ev ρ' a) (ev ρ' b) _ = ev2 (ev ρ a) (ev ρ b) _
    rw [e1, e2]
  · intro a b ta tb ha hb L N L' N' h hj
    obtain ⟨e1, e2⟩ := bin a b _ ta tb ha hb L N L' N' h hj
    show ev2 (ev ρ' a) (ev ρ' b) _ = ev2 (ev ρ a) (ev ρ b) _
    rw [e1, e2]
  · intro o a b ta tb ha hb L N L' N' h hj
    obtain ⟨e1, e2⟩ := bin a b _ ta tb ha hb L N L' N' h hj
    show ev2 (ev ρ' a) (ev ρ' b) _ = ev2 (ev ρ a) (ev ρ b) _
    rw [e1, e2]
  · intro a b c ta tb tc ha hb hc L N L' N' h hj
    obtain ⟨L1, N1, L2, N2, c1, -, -, c2, -, -, c3⟩ := h
    have l1 := Cdx.le ta c1
    have l2 := Cdx.le tb c2
    have l3 := Cdx.le tc c3
    have e1 := ha _ _ _ _ c1 fun j h1 h2 => hj j h1 (by omega)
    have e2 := hb _ _ _ _ c2 fun j h1 h2 => hj j (by omega) (by omega)
    have e3 := hc _ _ _ _ c3 fun j h1 h2 => hj j (by omega) h2
    show (if (ev ρ' a).1 = 1 then (if 0 < (ev ρ' a).2 then ev ρ' b else ev ρ' c) else ev ρ' a) = (if (ev ρ a).1 = 1 then (if 0 < (ev ρ a).2 then ev ρ b else ev ρ c) else ev ρ a)
    rw [e1, e2, e3]
theorem ev_congr {ρ ρ' : Int64 → Int32 × Int64} {ST DT : Nat → Int32} {NA : Nat → Int64} {PL : Nat → Int32} {t : Term} {L N : Nat} (ht : Tree t) (hc : Cdx ST DT NA PL t 0 0 L N) (h : ∀ j, j < N → ρ' (NA j) = ρ (NA j)) : ev ρ' t = ev ρ t := ev_congrE t ht _ _ _ _ hc fun j _ hj => h j hj
theorem anyN_congr {f g : Nat → Bool} {n : Nat} (h : ∀ i, i < n → f i = g i) : anyN f n = anyN g n := by
  induction n with
  | zero => rfl
  | succ n ih =>
    unfold anyN
    rw [ih fun i hi => h i (by omega), h n (by omega)]
theorem q_stale_congr {R R' : Nat → CRec} {m : Nat} {r : CRec} (h : ∀ j, j < k_N r → resf R' m (k_NA r j) = resf R m (k_NA r j)) : q_stale R' m r = q_stale R m r := by
  unfold q_stale
  rw [anyN_congr (g := q_moved R m r) fun i hi => by unfold q_moved; rw [h i hi]]
/-- one cell, built -/
def BIp (m : Nat) (T : Nat → Term) (R0 R : Nat → CRec) (done wo : Int64) (p : Nat) : Prop := (bt done p = false → R p = R0 p) ∧ (bt done p = true → bt wo p = false → R p = R0 p ∧ q_stale R m (R0 p) = false) ∧ (bt wo p = true → q_stale R m (R0 p) = true ∧ ∃ SK SV, (∀ j, j < k_N (R0 p) → (SK j, SV j) = resf R m (k_NA (R0 p) j)) ∧ R p = rdone (R0 p) SK SV (ev (resf R m) (T p)))
def BI (m : Nat) (T : Nat → Term) (R0 R : Nat → CRec) (all done wo : Int64) : Prop := (∀ p, p < 64 → bt done p = true → bt all p = true) ∧ (∀ p, p < 64 → bt wo p = true → bt done p = true) ∧ (∀ p, p < m → bt done p = true → ∀ i, rdR R0 m p i → bt done i = true) ∧ ∀ p, p < m → BIp m T R0 R done wo p
/-- what never changes of a record while it is built -/
def SameR (r r0 : CRec) : Prop := k_a r = k_a r0 ∧ k_f r = k_f r0 ∧ k_n r = k_n r0 ∧ k_L r = k_L r0 ∧ k_N r = k_N r0 ∧ k_ST r = k_ST r0 ∧ k_DT r = k_DT r0 ∧ k_NA r = k_NA r0
theorem SameR.rf {r : CRec} : SameR r r := ⟨rfl, rfl, rfl, rfl, rfl, rfl, rfl, rfl⟩
theorem SameR.done {r : CRec} {SK : Nat → Int32} {SV : Nat → Int64} {kv : Int32 × Int64} : SameR (rdone r SK SV kv) r := ⟨rfl, rfl, rfl, rfl, rfl, rfl, rfl, rfl⟩
theorem BI.same {m : Nat} {T : Nat → Term} {R0 R : Nat → CRec} {all done wo : Int64} (h : BI m T R0 R all done wo) (hm : m ≤ 64) : ∀ p, p < m → SameR (R p) (R0 p) := by
  intro p hp
  obtain ⟨h1, h2, h3, h4⟩ := h
  obtain ⟨a1, a2, a3⟩ := h4 p hp
  cases e : bt done p with
  | false => rw [a1 e]; exact SameR.rf
  | true =>
    cases e2 : bt wo p with
    | false => rw [(a2 e e2).1]; exact SameR.rf
    | true =>
      obtain ⟨-, SK, SV, -, h⟩ := a3 e2
      rw [h]
      exact SameR.done
theorem BI.start {m : Nat} {T : Nat → Term} {R0 : Nat → CRec} {all : Int64} : BI m T R0 R0 all 0 0 := by
  refine ⟨fun p _ h => ?_, fun p _ h => ?_, fun p _ h => ?_, fun p _ => ⟨fun _ => rfl, fun h => ?_, fun h => ?_⟩⟩
  all_goals
    rw [bt_zero] at h
    cases h
theorem TreesOK.congr {R R' : Nat → CRec} {m : Nat} {T : Nat → Term} (h : TreesOK R m T) (hs : ∀ p, p < m → SameR (R' p) (R p)) : TreesOK R' m T := by
  intro p hp
  obtain ⟨h1, PL, h2⟩ := h p hp
  obtain ⟨e1, e2, e3, e4, e5, e6, e7, e8⟩ := hs p hp
  exact ⟨h1, PL, by rw [e4, e5, e6, e7, e8]; exact h2⟩
/-- a cell that is not stale -/
theorem BI.fresh {m p : Nat} {T : Nat → Term} {R0 R : Nat → CRec} {all done wo : Int64} (h : BI m T R0 R all done wo) (hm : m ≤ 64) (hp : p < m) (ha : bt all p = true) (hd : bt done p = false) (hr : ∀ i, rdR R0 m p i → bt done i = true) (hs : q_stale R m (R p) = false) : BI m T R0 R all (done ||| bt1 p) wo := by
  obtain ⟨h1, h2, h3, h4⟩ := h
  have hI : ∀ q, q < 64 → bt (done ||| bt1 p) q = (bt done q || decide (q = p)) := fun q hq => bt_ins (by omega) hq
  refine ⟨fun q hq z => ?_, fun q hq z => ?_, fun q hq z i hi => ?_, fun q hq => ?_⟩
  · rw [hI q hq, Bool.or_eq_true, decide_eq_true_eq] at z
    rcases z with z | rfl
    · exact h1 q hq z
    · exact ha
  · rw [hI q hq, h2 q hq z]; rfl
  · have hi' := hi.lt
    rw [hI i (by omega)]
    rw [hI q (by omega), Bool.or_eq_true, decide_eq_true_eq] at z
    rcases z with z | rfl
    · rw [h3 q hq z i hi]; rfl
    · rw [hr i hi]; rfl
  · obtain ⟨a1, a2, a3⟩ := h4 q hq
    refine ⟨fun z => ?_, fun z w => ?_, a3⟩
    · rw [hI q (by omega), Bool.or_eq_false_iff] at z
      exact a1 z.1
    · by_cases e : q = p
      · subst e
        have := a1 hd
        rw [this] at hs
        exact ⟨this, hs⟩
      · rw [hI q (by omega), Bool.or_eq_true, decide_eq_true_eq] at z
        exact a2 (z.resolve_right e) w
/-- the results of names that a built cell reads stay when another cell is worked out -/
theorem resf_up {m p : Nat} {R : Nat → CRec} {r : CRec} {u : Int64} (hn : k_n r = k_n (R p)) (h : q_ix R m u ≠ some p) : resf (upR R p r) m u = resf R m u := by
  have hc : q_ix (upR R p r) m u = q_ix R m u := q_ix_congr fun q _ => by
    by_cases e : q = p
    · subst e; rw [upR_eq, hn]
    · rw [upR_ne e]
  unfold resf
  rw [hc]
  cases e : q_ix R m u with
  | none => rfl
  | some i =>
    have : i ≠ p := fun e2 => h (e2 ▸ e)
    show (k_k (upR R p r i), k_v (upR R p r i)) = _
    rw [upR_ne this]
theorem BI.worked {m p : Nat} {T : Nat → Term} {R0 R : Nat → CRec} {all done wo : Int64} {SK : Nat → Int32} {SV : Nat → Int64} (h : BI m T R0 R all done wo) (hm : m ≤ 64) (hT : TreesOK R0 m T) (hp : p < m) (ha : bt all p = true) (hd : bt done p = false) (hr : ∀ i, rdR R0 m p i → bt done i = true) (hs : q_stale R m (R p) = true) (hSK : ∀ j, j < k_N (R p) → (SK j, SV j) = resf R m (k_NA (R p) j)) : BI m T R0 (upR R p (rdone (R p) SK SV (ev (resf R m) (T p)))) all (done ||| bt1 p) (wo ||| bt1 p) := by
  have hsame := h.same hm
  obtain ⟨h1, h2, h3, h4⟩ := h
  have hI : ∀ q, q < 64 → bt (done ||| bt1 p) q = (bt done q || decide (q = p)) := fun q hq => bt_ins (by omega) hq
  have hJ : ∀ q, q < 64 → bt (wo ||| bt1 p) q = (bt wo q || decide (q = p)) := fun q hq => bt_ins (by omega) hq
  have hRp : R p = R0 p := (h4 p hp).1 hd
  have hix : ∀ u, q_ix R m u = q_ix R0 m u := fun u => q_ix_congr fun q hq => (hsame q hq).2.2.1
  -- a name that stands in a cell of done, or in p, is not p's
  have key : ∀ q, q < m → (bt done q = true ∨ q = p) → ∀ j, j < k_N (R0 q) → resf (upR R p (rdone (R p) SK SV (ev (resf R m) (T p)))) m (k_NA (R0 q) j) = resf R m (k_NA (R0 q) j) := by
    intro q hq hz j hj
    refine resf_up rfl fun e => ?_
    rw [hix] at e
    have hrd : rdR R0 m q p := ⟨j, hj, e⟩
    rcases hz with hz | rfl
    · rw [h3 q hq hz p hrd] at hd; cases hd
    · rw [hr q hrd] at hd; cases hd
  have evk : ∀ q, q < m → (bt done q = true ∨ q = p) → ev (resf (upR R p (rdone (R p) SK SV (ev (resf R m) (T p)))) m) (T q) = ev (resf R m) (T q) := by
    intro q hq hz
    obtain ⟨t1, PL, t2⟩ := hT q hq
    exact ev_congr t1 t2 (key q hq hz)
  refine ⟨fun q hq z => ?_, fun q hq z => ?_, fun q hq z i hi => ?_, fun q hq => ?_⟩
  · rw [hI q hq, Bool.or_eq_true, decide_eq_true_eq] at z
    rcases z with z | rfl
    · exact h1 q hq z
    · exact ha
  · rw [hJ q hq, Bool.or_eq_true, decide_eq_true_eq] at z
    rw [hI q hq, Bool.or_eq_true, decide_eq_true_eq]
    exact z.imp (h2 q hq) id
  · have hi' := hi.lt
    rw [hI i (by omega)]
    rw [hI q (by omega), Bool.or_eq_true, decide_eq_true_eq] at z
    rcases z with z | rfl
    · rw [h3 q hq z i hi]; rfl
    · rw [hr i hi]; rfl
  · obtain ⟨a1, a2, a3⟩ := h4 q hq
    by_cases e : q = p
    · subst e
      refine ⟨fun z => ?_, fun z w => ?_, fun z => ⟨?_, SK, SV, ?_, ?_⟩⟩
      · rw [hI q (by omega)] at z; simp at z
      · rw [hJ q (by omega)] at w; simp at w
      · rw [q_stale_congr (R := R) (key q hq (Or.inr rfl)), ← hRp]
        exact hs
      · intro j hj
        rw [key q hq (Or.inr rfl) j hj, ← hRp]
        exact hSK j (by rw [hRp]; exact hj)
      · rw [upR_eq, evk q hq (Or.inr rfl), hRp]
    · have b1 : bt (done ||| bt1 p) q = bt done q := by rw [hI q (by omega)]; simp [e]
      have b2 : bt (wo ||| bt1 p) q = bt wo q := by rw [hJ q (by omega)]; simp [e]
      unfold BIp
      rw [b1, b2, upR_ne e]
      refine ⟨a1, fun z w => ?_, fun z => ?_⟩
      · rw [q_stale_congr (R := R) (key q hq (Or.inl z))]
        exact a2 z w
      · have zd := h2 q (by omega) z
        obtain ⟨c1, SK', SV', c2, c3⟩ := a3 z
        refine ⟨by rw [q_stale_congr (R := R) (key q hq (Or.inl zd))]; exact c1, SK', SV', fun j hj => by rw [key q hq (Or.inl zd) j hj]; exact c2 j hj, ?_⟩
        rw [evk q hq (Or.inl zd)]
        exact c3
/-- no circles -/
def Acyc (R : Nat → CRec) (m : Nat) : Prop := ∃ rk : Nat → Nat, ∀ p, p < m → ∀ i, rdR R m p i → rk i < rk p
/-- a set that holds the ground of its cells -/
def AllOK (R : Nat → CRec) (m : Nat) (all : Int64) : Prop := (∀ p, p < 64 → bt all p = true → p < m) ∧ ∀ p, p < m → bt all p = true → ∀ i, rdR R m p i → bt all i = true
theorem ready_exists {R : Nat → CRec} {m : Nat} {all done : Int64} (hm : m ≤ 64) (hA : Acyc R m) (hall : AllOK R m all) (hsub : ∀ p, p < 64 → bt done p = true → bt all p = true) (hne : done ≠ all) : ∃ p, p < m ∧ bt all p = true ∧ bt done p = false ∧ ∀ i, rdR R m p i → bt done i = true := by
  obtain ⟨rk, hrk⟩ := hA
  have h0 : ∃ p, p < m ∧ bt all p = true ∧ bt done p = false := by
    apply Classical.byContradiction
    intro hn
    apply hne
    apply bt_ext
    intro p hp
    cases e : bt done p with
    | true => rw [hsub p hp e]
    | false =>
      cases e2 : bt all p with
      | false => rfl
      | true => exact absurd ⟨p, hall.1 p hp e2, e2, e⟩ hn
  obtain ⟨p, hp, h1, h2⟩ := h0
  have key : ∀ n p, rk p < n → p < m → bt all p = true → bt done p = false → ∃ p, p < m ∧ bt all p = true ∧ bt done p = false ∧ ∀ i, rdR R m p i → bt done i = true := by
    intro n
    induction n with
    | zero => intro p h; omega
    | succ n ih =>
      intro p hn hp h1 h2
      by_cases hr : ∀ i, rdR R m p i → bt done i = true
      · exact ⟨p, hp, h1, h2, hr⟩
      · obtain ⟨i, hi⟩ := Classical.not_forall.mp hr
        obtain ⟨hi1, hi2⟩ := Classical.not_imp.mp hi
        exact ih i (by have := hrk p hp i hi1; omega) hi1.lt (hall.2 p hp h1 i hi1) (by cases e : bt done i with | false => rfl | true => exact absurd e hi2)
  exact key (rk p + 1) p (by omega) hp h1 h2
