/-! sets of the class's cells: what depends on a name, and what a cell needs -/
/-- a set that grows till it stays, or till the rounds are used up -/
theorem run_cl {F : Int64 → Int64} {run : Nat → Int64 → Int64 → Int64} {Cl P : Int64 → Prop} {m : Nat} (h0 : ∀ s b, run 0 s b = s) (h1 : ∀ f s b, run (f + 1) s b = if s = b then s else run f (F s) s) (hm : m ≤ 64) (hsub : ∀ s, P s → Sub64 s (F s)) (hP : ∀ s, P s → P (F s)) (hlt : ∀ s, P s → ∀ p, p < 64 → bt s p = true → p < m) (hfix : ∀ s, P s → (F s = s ↔ Cl s)) (hfull : ∀ s, P s → (∀ p, p < m → bt s p = true) → Cl s) : ∀ f s b, P s → (s = b → Cl s) → (Cl s ∨ m ≤ f + cnt (bt s) m) → Cl (run f s b) ∧ P (run f s b) ∧ Sub64 s (run f s b) := by
  intro f
  induction f with
  | zero =>
    intro s b hp h2 h3
    rw [h0]
    refine ⟨?_, hp, fun _ _ q => q⟩
    rcases h3 with h3 | h3
    · exact h3
    · have := cnt_le (bt s) m
      exact hfull s hp (cnt_full (by omega))
  | succ f ih =>
    intro s b hp h2 h3
    rw [h1]
    by_cases e : s = b
    · rw [if_pos e]
      exact ⟨h2 e, hp, fun _ _ q => q⟩
    · rw [if_neg e]
      have key : Cl (F s) ∨ m ≤ f + cnt (bt (F s)) m := by
        by_cases q : F s = s
        · rw [q]; exact Or.inl ((hfix s hp).mp q)
        · rcases h3 with h3 | h3
          · exact absurd ((hfix s hp).mpr h3) q
          · right
            have : ∃ c, c < 64 ∧ bt s c ≠ bt (F s) c := Classical.byContradiction fun hn => q (bt_ext fun p hp => Classical.byContradiction fun hb => hn ⟨p, hp, fun e => hb e.symm⟩)
            obtain ⟨c, hc, hb⟩ := this
            have hs := hsub s hp
            have b1 : bt s c = false := by
              cases e1 : bt s c with
              | false => rfl
              | true => exact absurd (e1.trans (hs c hc e1).symm) hb
            have b2 : bt (F s) c = true := by
              cases e1 : bt (F s) c with
              | true => rfl
              | false => exact absurd (b1.trans e1.symm) hb
            have hcm := hlt (F s) (hP s hp) c hc b2
            have := cnt_lt (f := bt s) (g := bt (F s)) (n := m) (fun p hp' q => hs p (by omega) q) hcm b1 b2
            omega
      have := ih (F s) s (hP s hp) (fun q => by rw [q]; exact (hfix s hp).mp q) key
      exact ⟨this.1, this.2.1, fun c hc q => this.2.2 c hc (hsub s hp c hc q)⟩
section SETS
variable {R : Nat → CRec} {m : Nat} {RS : Nat → Int64}
def ment (R : Nat → CRec) (p : Nat) (u : Int64) : Prop := ∃ j, j < k_N (R p) ∧ k_NA (R p) j = u
/-- the set reaches no cell beyond -/
def InM (m : Nat) (s : Int64) : Prop := ∀ p, p < 64 → bt s p = true → p < m
theorem bt_and0 {x y : Int64} : x &&& y = 0 ↔ ∀ i, i < 64 → bt x i = true → bt y i = false := by
  constructor
  · intro h i hi hx
    have := congrArg (fun z => bt z i) h
    simp only [bt_and, bt_zero, hx, Bool.true_and] at this
    exact this
  · intro h
    apply bt_ext
    intro i hi
    rw [bt_and, bt_zero]
    cases e : bt x i with
    | false => rfl
    | true => rw [h i hi e]; rfl
theorem trs_bt (hm : m ≤ 64) {p i : Nat} (hp : p < m) (hi : i < 64) : bt (q_trs R m RS m p) i = true ↔ rdR R m p i := by
  rw [q_trs_at hp]
  exact bt_tr hm hi
theorem q_dir_bt (hm : m ≤ 64) (u : Int64) : ∀ n, n ≤ m → ∀ p, p < 64 → (bt (q_dir R u n) p = true ↔ p < n ∧ ment R p u) := by
  intro n
  induction n with
  | zero =>
    intro _ p hp
    unfold q_dir
    rw [bt_zero]
    exact ⟨(fun h => by cases h), (fun h => by omega)⟩
  | succ n ih =>
    intro hn p hp
    have ih := ih (by omega) p hp
    have hq : q_ment (k_NA (R n)) (k_N (R n)) u = true ↔ ment R n u := by unfold q_ment ment; exact decide_eq_true_iff
    unfold q_dir
    by_cases e : q_ment (k_NA (R n)) (k_N (R n)) u = true
    · rw [if_pos e, bt_ins (by omega) hp, Bool.or_eq_true, ih, decide_eq_true_iff]
      constructor
      · rintro (⟨a1, a2⟩ | rfl)
        · exact ⟨by omega, a2⟩
        · exact ⟨by omega, hq.mp e⟩
      · rintro ⟨a1, a2⟩
        by_cases e2 : p = n
        · exact Or.inr e2
        · exact Or.inl ⟨by omega, a2⟩
    · rw [if_neg e, ih]
      constructor
      · rintro ⟨a1, a2⟩; exact ⟨by omega, a2⟩
      · rintro ⟨a1, a2⟩
        refine ⟨?_, a2⟩
        by_cases e2 : p = n
        · rw [e2] at a2; exact absurd (hq.mpr a2) e
        · omega
/-- what depends on what is in the set is in it -/
def UpC (R : Nat → CRec) (m : Nat) (s : Int64) : Prop := ∀ p i, p < m → i < 64 → rdR R m p i → bt s i = true → bt s p = true
theorem dps_sub (hm : m ≤ 64) (s : Int64) : ∀ n, n ≤ m → Sub64 s (q_dps (q_trs R m RS m) s n) := by
  intro n
  induction n with
  | zero => intro _ _ _ q; exact q
  | succ n ih =>
    intro hn p hp q
    have := ih (by omega) p hp q
    show bt (if _ then _ else _) p = true
    split
    · exact this
    · rw [bt_ins (by omega) hp, this]; rfl
theorem dps_snd (hm : m ≤ 64) (D : Nat → Prop) (hD : ∀ p i, p < m → i < 64 → rdR R m p i → D i → D p) (s : Int64) (hs : ∀ p, p < 64 → bt s p = true → D p) : ∀ n, n ≤ m → ∀ p, p < 64 → bt (q_dps (q_trs R m RS m) s n) p = true → D p := by
  intro n
  induction n with
  | zero => intro _ p hp q; exact hs p hp q
  | succ n ih =>
    intro hn p hp q
    have ih := ih (by omega)
    have q : bt (if q_trs R m RS m n &&& q_dps (q_trs R m RS m) s n = 0 then q_dps (q_trs R m RS m) s n else q_dps (q_trs R m RS m) s n ||| bt1 n) p = true := q
    by_cases e : q_trs R m RS m n &&& q_dps (q_trs R m RS m) s n = 0
    · rw [if_pos e] at q; exact ih p hp q
    · rw [if_neg e, bt_ins (by omega) hp, Bool.or_eq_true, decide_eq_true_iff] at q
      rcases q with q | q
      · exact ih p hp q
      · subst q
        rw [bt_and0] at e
        have : ∃ i, i < 64 ∧ bt (q_trs R m RS m p) i = true ∧ bt (q_dps (q_trs R m RS m) s p) i = true := Classical.byContradiction fun hn => e fun i hi hb => by
          cases e2 : bt (q_dps (q_trs R m RS m) s p) i with
          | false => rfl
          | true => exact absurd ⟨i, hi, hb, e2⟩ hn
        obtain ⟨i, hi, a1, a2⟩ := this
        exact hD p i (by omega) hi ((trs_bt hm (by omega) hi).mp a1) (ih i hi a2)
theorem dps_cmp (hm : m ≤ 64) (s : Int64) : ∀ n, n ≤ m → ∀ p i, p < n → i < 64 → rdR R m p i → bt s i = true → bt (q_dps (q_trs R m RS m) s n) p = true := by
  intro n
  induction n with
  | zero => intro _ p i hp; omega
  | succ n ih =>
    intro hn p i hp hi hr hb
    show bt (if q_trs R m RS m n &&& q_dps (q_trs R m RS m) s n = 0 then q_dps (q_trs R m RS m) s n else q_dps (q_trs R m RS m) s n ||| bt1 n) p = true
    by_cases e2 : p = n
    · subst e2
      have hne : ¬ q_trs R m RS m p &&& q_dps (q_trs R m RS m) s p = 0 := fun q => by
        have := bt_and0.mp q i hi ((trs_bt hm (by omega) hi).mpr hr)
        rw [dps_sub hm s p (by omega) i hi hb] at this
        cases this
      rw [if_neg hne, bt_ins (by omega) (by omega)]
      simp
    · have := ih (by omega) p i (by omega) hi hr hb
      split
      · exact this
      · rw [bt_ins (by omega) (by omega), this]; rfl
theorem dps_fix (hm : m ≤ 64) (s : Int64) (hin : InM m s) : q_dps (q_trs R m RS m) s m = s ↔ UpC R m s := by
  constructor
  · intro e p i hp hi hr hb
    have := dps_cmp (RS := RS) hm s m (Nat.le_refl _) p i hp hi hr hb
    rw [e] at this
    exact this
  · intro h
    apply bt_ext
    intro p hp
    cases e : bt s p with
    | true => exact dps_sub hm s m (Nat.le_refl _) p hp e
    | false =>
      cases e2 : bt (q_dps (q_trs R m RS m) s m) p with
      | false => rfl
      | true =>
        have := dps_snd (RS := RS) hm (fun p => bt s p = true) (fun p i a1 a2 a3 a4 => h p i a1 a2 a3 a4) s (fun p _ q => q) m (Nat.le_refl _) p hp e2
        rw [e] at this
        cases this
/-- what depends on the name u -/
def DClC (R : Nat → CRec) (m : Nat) (u : Int64) (D : Nat → Prop) : Prop := (∀ p, p < m → ment R p u → D p) ∧ ∀ p i, p < m → i < 64 → rdR R m p i → D i → D p
def DepC (R : Nat → CRec) (m : Nat) (u : Int64) (p : Nat) : Prop := ∀ D, DClC R m u D → D p
theorem DepC.clo {u : Int64} : DClC R m u (DepC R m u) := ⟨fun p h1 h2 D hD => hD.1 p h1 h2, fun p i h1 h2 h3 h4 D hD => hD.2 p i h1 h2 h3 (h4 D hD)⟩
theorem drun_bt (hm : m ≤ 64) (u : Int64) {p : Nat} (hp : p < 64) : bt (q_drun (q_trs R m RS m) m m (q_dir R u m) 0) p = true ↔ p < m ∧ DepC R m u p := by
  have hdir := fun p hp => q_dir_bt (R := R) hm u m (Nat.le_refl _) p hp
  have dclo : DClC R m u (fun p => p < m ∧ DepC R m u p) := ⟨fun p h1 h2 => ⟨h1, DepC.clo.1 p h1 h2⟩, fun p i h1 h2 h3 h4 => ⟨h1, DepC.clo.2 p i h1 h2 h3 h4.2⟩⟩
  have key := run_cl (F := fun s => q_dps (q_trs R m RS m) s m) (run := q_drun (q_trs R m RS m) m) (Cl := UpC R m) (P := fun s => ∀ p, p < 64 → bt s p = true → p < m ∧ DepC R m u p) (m := m) (fun _ _ => rfl) (fun _ _ _ => rfl) hm (fun s _ => dps_sub hm s m (Nat.le_refl _)) (fun s hs => dps_snd hm _ dclo.2 s hs m (Nat.le_refl _)) (fun s hs p h1 h2 => (hs p h1 h2).1) (fun s hs => dps_fix hm s (fun p h1 h2 => (hs p h1 h2).1)) (fun s _ hf p i h1 _ _ _ => hf p h1) m (q_dir R u m) 0 (fun p h1 h2 => dclo.1 p ((hdir p h1).mp h2).1 ((hdir p h1).mp h2).2) (fun e p i _ _ _ hb => by rw [e, bt_zero] at hb; cases hb) (Or.inr (by omega))
  refine ⟨key.2.1 p hp, fun ⟨q1, q2⟩ => ?_⟩
  have h9 := q2 (fun p => p < 64 → bt (q_drun (q_trs R m RS m) m m (q_dir R u m) 0) p = true) ⟨fun p h1 h2 h3 => key.2.2 p h3 ((hdir p h3).mpr ⟨h1, h2⟩), fun p i h1 h2 h3 h4 h5 => key.1 p i h1 h2 h3 (h4 h2)⟩
  exact h9 hp
/-- what the cells of the set need is in it -/
def DnC (R : Nat → CRec) (m : Nat) (s : Int64) : Prop := ∀ p i, p < m → i < 64 → rdR R m p i → bt s p = true → bt s i = true
theorem gps_sub (hm : m ≤ 64) (s : Int64) : ∀ n, n ≤ m → Sub64 s (q_gps (q_trs R m RS m) s n) := by
  intro n
  induction n with
  | zero => intro _ _ _ q; exact q
  | succ n ih =>
    intro hn p hp q
    have := ih (by omega) p hp q
    show bt (if _ then _ else _) p = true
    split
    · exact this
    · rw [bt_or, this]; rfl
theorem gps_snd (hm : m ≤ 64) (D : Nat → Prop) (hD : ∀ p i, p < m → i < 64 → rdR R m p i → D p → D i) (s : Int64) (hs : ∀ p, p < 64 → bt s p = true → D p) : ∀ n, n ≤ m → ∀ p, p < 64 → bt (q_gps (q_trs R m RS m) s n) p = true → D p := by
  intro n
  induction n with
  | zero => intro _ p hp q; exact hs p hp q
  | succ n ih =>
    intro hn p hp q
    have ih := ih (by omega)
    have q : bt (if q_gps (q_trs R m RS m) s n &&& bt1 n = 0 then q_gps (q_trs R m RS m) s n else q_gps (q_trs R m RS m) s n ||| q_trs R m RS m n) p = true := q
    by_cases e : q_gps (q_trs R m RS m) s n &&& bt1 n = 0
    · rw [if_pos e] at q; exact ih p hp q
    · rw [if_neg e, bt_or, Bool.or_eq_true] at q
      rcases q with q | q
      · exact ih p hp q
      · exact hD n p (by omega) hp ((trs_bt hm (by omega) hp).mp q) (ih n (by omega) ((bt_has (by omega)).mp e))
theorem gps_cmp (hm : m ≤ 64) (s : Int64) : ∀ n, n ≤ m → ∀ p i, p < n → i < 64 → rdR R m p i → bt s p = true → bt (q_gps (q_trs R m RS m) s n) i = true := by
  intro n
  induction n with
  | zero => intro _ p i hp; omega
  | succ n ih =>
    intro hn p i hp hi hr hb
    show bt (if q_gps (q_trs R m RS m) s n &&& bt1 n = 0 then q_gps (q_trs R m RS m) s n else q_gps (q_trs R m RS m) s n ||| q_trs R m RS m n) i = true
    by_cases e2 : p = n
    · subst e2
      have hne : ¬ q_gps (q_trs R m RS m) s p &&& bt1 p = 0 := (bt_has (by omega)).mpr (gps_sub hm s p (by omega) p (by omega) hb)
      rw [if_neg hne, bt_or, (trs_bt hm (by omega) hi).mpr hr, Bool.or_true]
    · have := ih (by omega) p i (by omega) hi hr hb
      split
      · exact this
      · rw [bt_or, this]; rfl
theorem gps_fix (hm : m ≤ 64) (s : Int64) : q_gps (q_trs R m RS m) s m = s ↔ DnC R m s := by
  constructor
  · intro e p i hp hi hr hb
    have := gps_cmp (RS := RS) hm s m (Nat.le_refl _) p i hp hi hr hb
    rw [e] at this
    exact this
  · intro h
    apply bt_ext
    intro p hp
    cases e : bt s p with
    | true => exact gps_sub hm s m (Nat.le_refl _) p hp e
    | false =>
      cases e2 : bt (q_gps (q_trs R m RS m) s m) p with
      | false => rfl
      | true =>
        have := gps_snd (RS := RS) hm (fun p => bt s p = true) (fun p i a1 a2 a3 a4 => h p i a1 a2 a3 a4) s (fun p _ q => q) m (Nat.le_refl _) p hp e2
        rw [e] at this
        cases this
/-- the cells of W and what they need -/
def GClC (R : Nat → CRec) (m : Nat) (W D : Nat → Prop) : Prop := (∀ p, W p → D p) ∧ ∀ p i, p < m → i < 64 → rdR R m p i → D p → D i
def NeedC (R : Nat → CRec) (m : Nat) (W : Nat → Prop) (p : Nat) : Prop := ∀ D, GClC R m W D → D p
theorem NeedC.clo {W : Nat → Prop} : GClC R m W (NeedC R m W) := ⟨fun p h1 D hD => hD.1 p h1, fun p i h1 h2 h3 h4 D hD => hD.2 p i h1 h2 h3 (h4 D hD)⟩
theorem grun_bt (hm : m ≤ 64) {w : Int64} (hw : InM m w) {p : Nat} (hp : p < 64) : bt (q_grun (q_trs R m RS m) m m w 0) p = true ↔ p < m ∧ NeedC R m (fun p => p < 64 ∧ bt w p = true) p := by
  have gclo : GClC R m (fun p => p < 64 ∧ bt w p = true) (fun p => p < m ∧ NeedC R m (fun p => p < 64 ∧ bt w p = true) p) := ⟨fun p h1 => ⟨hw p h1.1 h1.2, NeedC.clo.1 p h1⟩, fun p i h1 h2 h3 h4 => ⟨h3.lt, NeedC.clo.2 p i h1 h2 h3 h4.2⟩⟩
  have key := run_cl (F := fun s => q_gps (q_trs R m RS m) s m) (run := q_grun (q_trs R m RS m) m) (Cl := DnC R m) (P := fun s => ∀ p, p < 64 → bt s p = true → p < m ∧ NeedC R m (fun p => p < 64 ∧ bt w p = true) p) (m := m) (fun _ _ => rfl) (fun _ _ _ => rfl) hm (fun s _ => gps_sub hm s m (Nat.le_refl _)) (fun s hs => gps_snd hm _ gclo.2 s hs m (Nat.le_refl _)) (fun s hs p h1 h2 => (hs p h1 h2).1) (fun s hs => gps_fix hm s) (fun s _ hf p i h1 h2 h3 _ => hf i h3.lt) m w 0 (fun p h1 h2 => gclo.1 p ⟨h1, h2⟩) (fun e p i _ _ _ hb => by rw [e, bt_zero] at hb; cases hb) (Or.inr (by omega))
  refine ⟨key.2.1 p hp, fun ⟨q1, q2⟩ => ?_⟩
  have h9 := q2 (fun p => p < 64 → bt (q_grun (q_trs R m RS m) m m w 0) p = true) ⟨fun p h1 h3 => key.2.2 p h3 h1.2, fun p i h1 h2 h3 h4 h5 => key.1 p i h1 h2 h3 (h4 (by omega))⟩
  exact h9 hp
theorem grun_ok (hm : m ≤ 64) {w : Int64} (hw : InM m w) : AllOK R m (q_grun (q_trs R m RS m) m m w 0) := by
  refine ⟨fun p hp hb => ((grun_bt hm hw hp).mp hb).1, fun p hp hb i hi => ?_⟩
  have hi64 : i < 64 := by have := hi.lt; omega
  exact (grun_bt hm hw hi64).mpr ⟨hi.lt, NeedC.clo.2 p i hp hi64 hi ((grun_bt hm hw (by omega)).mp hb).2⟩
theorem q_all_bt (hm : m ≤ 64) : ∀ n, n ≤ m → ∀ p, p < 64 → (bt (q_all n) p = true ↔ p < n) := by
  intro n
  induction n with
  | zero =>
    intro _ p hp
    unfold q_all
    rw [bt_zero]
    exact ⟨(fun h => by cases h), (fun h => by omega)⟩
  | succ n ih =>
    intro hn p hp
    unfold q_all
    rw [bt_ins (by omega) hp, Bool.or_eq_true, ih (by omega) p hp, decide_eq_true_iff]
    omega
end SETS
