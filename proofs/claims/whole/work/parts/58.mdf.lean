/-! the reference's parser does what the class's does: by induction over what the class's did -/
/-- the steps of the loop in formula(); XB: a PART is wanted, XA: one has been read, XE: the loop's end -/
def StpM (B : Nat → Int32) (n : Nat) (XB XA XE : MS → Prop) : Prop :=
  (∀ s c k C t, BSt s B n c k C → k < 40 → ((c.1 = 3 ∧ t = .long c.2.2.2.2.toInt64) ∨ (c.1 = 2 ∧ t = .elem (.long c.2.2.2.1) (.index c.2.1))) → ∃ s', ASt s' B n (cu_adv B n c) (k + 1) (stl 3 C t).1 (stl 3 C t).2 ∧ Fix s s' ∧ (XA s' → XB s)) ∧
  (∀ s c k C, BSt s B n c k C → k = 40 → (c.1 = 3 ∨ c.1 = 2 ∨ c.1 = 45 ∨ c.1 = 4 ∨ c.1 = 5 ∨ c.1 = 6) → ∃ s', Flo s s' 3 (nI c.2.1) ∧ (XE s' → XB s)) ∧
  (∀ s c k C, BSt s B n c k C → k < 40 → dpt C < 20 → c.1 = 45 → ∃ s', BSt s' B n (cu_adv B n c) (k + 1) ((6, k, k, []) :: C) ∧ Fix s s' ∧ (XB s' → XB s)) ∧
  (∀ s c k C, BSt s B n c k C → k < 40 → dpt C = 20 → c.1 = 45 → ∃ s', Flo s s' 3 (nI c.2.1) ∧ (XE s' → XB s)) ∧
  (∀ s c k C, BSt s B n c k C → dpt C < 20 → c.1 = 40 → ∃ s', BSt s' B n (cu_adv B n c) k ((100, 0, k, []) :: C) ∧ Fix s s' ∧ (XB s' → XB s)) ∧
  (∀ s c k C, BSt s B n c k C → dpt C = 20 → c.1 = 40 → ∃ s', Flo s s' 3 (nI c.2.1) ∧ (XE s' → XB s)) ∧
  (∀ s c k C, BSt s B n c k C → k < 40 → dpt C < 20 → (c.1 = 4 ∨ c.1 = 5 ∨ c.1 = 6) → (cu_adv B n c).1 = 40 → ∃ s', BSt s' B n (cu_adv B n (cu_adv B n c)) (k + 1) ((fkd c.1, k, k, []) :: C) ∧ Fix s s' ∧ (XB s' → XB s)) ∧
  (∀ s c k C, BSt s B n c k C → k < 40 → dpt C = 20 → (c.1 = 4 ∨ c.1 = 5 ∨ c.1 = 6) → (cu_adv B n c).1 = 40 → ∃ s', Flo s s' 3 (nI (cu_adv B n c).2.1) ∧ (XE s' → XB s)) ∧
  (∀ s c k C, BSt s B n c k C → k < 40 → (c.1 = 4 ∨ c.1 = 5 ∨ c.1 = 6) → (cu_adv B n c).1 ≠ 40 → ∃ s', Flo s s' (if (cu_adv B n c).1 = 1 then 1 else 2) (nI (cu_adv B n c).2.1) ∧ (XE s' → XB s)) ∧
  (∀ s c k C, BSt s B n c k C → c.1 ≠ 3 → c.1 ≠ 2 → c.1 ≠ 45 → c.1 ≠ 40 → c.1 ≠ 4 → c.1 ≠ 5 → c.1 ≠ 6 → ∃ s', Flo s s' (if c.1 = 1 then 1 else 2) (nI c.2.1) ∧ (XE s' → XB s)) ∧
  (∀ s c k C t kd q, ASt s B n c k C t → k < 40 → ((c.1 = 43 ∧ kd = 2 ∧ q = 1) ∨ (c.1 = 45 ∧ kd = 3 ∧ q = 1) ∨ (c.1 = 42 ∧ kd = 4 ∧ q = 2) ∨ (c.1 = 47 ∧ kd = 5 ∧ q = 2)) → ∃ s' lo, BSt s' B n (cu_adv B n c) (k + 1) ((kd, k, lo, [(stl q C t).2]) :: (stl q C t).1) ∧ Fix s s' ∧ (XB s' → XA s)) ∧
  (∀ s c k C t, ASt s B n c k C t → k = 40 → (c.1 = 43 ∨ c.1 = 45 ∨ c.1 = 42 ∨ c.1 = 47) → ∃ s', Flo s s' 3 (nI c.2.1) ∧ (XE s' → XA s)) ∧
  (∀ s c k C t, ASt s B n c k C t → c.1 = 0 → (stl 1 C t).1 = [] → ∃ s', ASt s' B n c k [] (stl 1 C t).2 ∧ Fix s s' ∧ (XE s' → XA s)) ∧
  (∀ s c k C t, ASt s B n c k C t → c.1 ≠ 43 → c.1 ≠ 45 → c.1 ≠ 42 → c.1 ≠ 47 → (c.1 = 0 → (stl 1 C t).1 ≠ []) → (c.1 = 41 → (stl 1 C t).1 = [] ∨ ∃ f C' t', stl 1 C t = (f :: C', t') ∧ 7 ≤ f.1 ∧ f.1 ≤ 9 ∧ f.2.2.2.length + 1 < f_want f) → (c.1 = 44 → (stl 1 C t).1 = [] ∨ ∃ f C' t', stl 1 C t = (f :: C', t') ∧ (f.1 = 100 ∨ (7 ≤ f.1 ∧ f.1 ≤ 9 ∧ f.2.2.2.length + 1 = f_want f))) → ∃ s', Flo s s' (if c.1 = 1 then 1 else 2) (nI c.2.1) ∧ (XE s' → XA s)) ∧
  (∀ s c k C t f C' t', ASt s B n c k C t → stl 1 C t = (f :: C', t') → 7 ≤ f.1 → f.1 ≤ 9 → f.2.2.2.length + 1 < f_want f → c.1 = 44 → ∃ s', BSt s' B n (cu_adv B n c) k ((f.1, f.2.1, f.2.2.1, t' :: f.2.2.2) :: C') ∧ Fix s s' ∧ (XB s' → XA s)) ∧
  (∀ s c k C t f C' t', ASt s B n c k C t → stl 1 C t = (f :: C', t') → 7 ≤ f.1 → f.1 ≤ 9 → f.2.2.2.length + 1 = f_want f → c.1 = 41 → ∃ s', ASt s' B n (cu_adv B n c) k (stl 3 C' (f_fn f t')).1 (stl 3 C' (f_fn f t')).2 ∧ Fix s s' ∧ (XA s' → XA s)) ∧
  (∀ s c k C t f C' t', ASt s B n c k C t → stl 1 C t = (f :: C', t') → f.1 = 100 → c.1 = 41 → ∃ s', ASt s' B n (cu_adv B n c) k (stl 3 C' t').1 (stl 3 C' t').2 ∧ Fix s s' ∧ (XA s' → XA s))
theorem stl_fix {q : Nat} {C0 C : List Fr} {t0 t : Term} (h : stl q C0 t0 = (C, t)) : ∀ t', stl q C t' = (C, t') := by
  induction C0 generalizing t0 with
  | nil => cases h; intro t'; rfl
  | cons f C0 ih =>
    have e : stl q (f :: C0) t0 = if q ≤ f_str f then stl q C0 (f_mk f t0) else (f :: C0, t0) := rfl
    rw [e] at h
    by_cases q1 : q ≤ f_str f
    · rw [if_pos q1] at h; exact ih h
    · rw [if_neg q1] at h
      cases h
      intro t'
      show (if q ≤ f_str f then stl q C0 (f_mk f t') else (f :: C0, t')) = _
      rw [if_neg q1]
theorem Flo.trans {z s s' : MS} {c p : Int32} (h : Fix z s) (q : Flo s s' c p) : Flo z s' c p := ⟨q.1, q.2.1, h.trans q.2.2⟩
theorem p_pass_l {B : Nat → Int32} {n : Nat} {c : Cur} {e : Flt} (h : p_pass B n c = .inl e) : (cu_adv B n c).1 = 1 ∧ e = (1, (cu_adv B n c).2.1) := by
  unfold p_pass at h
  split at h
  · cases h; exact ⟨by assumption, rfl⟩
  · cases h
theorem p_pass_r {B : Nat → Int32} {n : Nat} {c c1 : Cur} (h : p_pass B n c = .inr c1) : c1.1 ≠ 1 ∧ c1 = cu_adv B n c := by
  unfold p_pass at h
  split at h
  · cases h
  · cases h; exact ⟨by assumption, rfl⟩
section SIM
variable {B : Nat → Int32} {n : Nat} {XB XA XE : MS → Prop} {z : MS}
/-- what the ends of a mode must give -/
def EndF (XE : MS → Prop) (z : MS) (res : PR) : Prop := ∀ e s', res = .inl e → Flo z s' e.1 (nI e.2) → XE s'
def End4 (B : Nat → Int32) (n : Nat) (XA : MS → Prop) (z : MS) (C : List Fr) (res : PR) : Prop := ∀ t c' k' s', res = .inr (t, c', k') → ASt s' B n c' k' (stl 3 C t).1 (stl 3 C t).2 → c'.1 ≠ 1 → Fix z s' → XA s'
def End3 (B : Nat → Int32) (n : Nat) (XA : MS → Prop) (z : MS) (C : List Fr) (res : PR) : Prop := ∀ t c' k' s' C1 t1, res = .inr (t, c', k') → ASt s' B n c' k' C1 t1 → stl 2 C1 t1 = (C, t) → c'.1 ≠ 1 → c'.1 ≠ 42 → c'.1 ≠ 47 → Fix z s' → XA s'
def End2 (B : Nat → Int32) (n : Nat) (XA : MS → Prop) (z : MS) (C : List Fr) (res : PR) : Prop := ∀ t c' k' s' C1 t1, res = .inr (t, c', k') → ASt s' B n c' k' C1 t1 → stl 1 C1 t1 = (C, t) → c'.1 ≠ 1 → c'.1 ≠ 42 → c'.1 ≠ 47 → c'.1 ≠ 43 → c'.1 ≠ 45 → Fix z s' → XA s'
def PM (B : Nat → Int32) (n : Nat) (XB XA XE : MS → Prop) (z : MS) : RdP := fun m dp acc c k res => match m with
  | 0 => ∀ s C, BSt s B n c k C → (∀ t', stl 1 C t' = (C, t')) → dpt C = dp → c.1 ≠ 1 → Fix z s → End2 B n XA z C res → EndF XE z res → XB s
  | 1 => ∀ s C, BSt s B n c k C → (∀ t', stl 2 C t' = (C, t')) → dpt C = dp → c.1 ≠ 1 → Fix z s → End3 B n XA z C res → EndF XE z res → XB s
  | 2 => ∀ s C0 t0 C, ASt s B n c k C0 t0 → stl 1 C0 t0 = (C, acc) → dpt C = dp → c.1 ≠ 1 → c.1 ≠ 42 → c.1 ≠ 47 → Fix z s → End2 B n XA z C res → EndF XE z res → XA s
  | 3 => ∀ s C0 t0 C, ASt s B n c k C0 t0 → stl 2 C0 t0 = (C, acc) → dpt C = dp → c.1 ≠ 1 → Fix z s → End3 B n XA z C res → EndF XE z res → XA s
  | _ => ∀ s C, BSt s B n c k C → dpt C = dp → c.1 ≠ 1 → Fix z s → End4 B n XA z C res → EndF XE z res → XB s
theorem abad (hS : StpM B n XB XA XE) {s : MS} {c : Cur} {k : Nat} {C : List Fr} {t : Term} {res : PR} (hA : ASt s B n c k C t) (h1 : c.1 = 1) (hF : Fix z s) (hE : EndF XE z res) (hr : res = .inl (1, c.2.1)) : XA s := by
  obtain ⟨s', h2, h3⟩ := hS.2.2.2.2.2.2.2.2.2.2.2.2.2.1 s c k C t hA (by rw [h1]; decide) (by rw [h1]; decide) (by rw [h1]; decide) (by rw [h1]; decide) (fun e => absurd (h1.symm.trans e) (by decide)) (fun e => absurd (h1.symm.trans e) (by decide)) (fun e => absurd (h1.symm.trans e) (by decide))
  rw [if_pos h1] at h2
  exact h3 (hE _ _ hr (h2.trans hF))
theorem bbad (hS : StpM B n XB XA XE) {s : MS} {c : Cur} {k : Nat} {C : List Fr} {res : PR} (hB : BSt s B n c k C) (h1 : c.1 = 1) (hF : Fix z s) (hE : EndF XE z res) (hr : res = .inl (1, c.2.1)) : XB s := by
  obtain ⟨s', h2, h3⟩ := hS.2.2.2.2.2.2.2.2.2.1 s c k C hB (by rw [h1]; decide) (by rw [h1]; decide) (by rw [h1]; decide) (by rw [h1]; decide) (by rw [h1]; decide) (by rw [h1]; decide) (by rw [h1]; decide)
  rw [if_pos h1] at h2
  exact h3 (hE _ _ hr (h2.trans hF))
/-- on with a PART wanted, or the token is none -/
theorem b_pass (hS : StpM B n XB XA XE) {s : MS} {c : Cur} {k : Nat} {C : List Fr} {res : PR} {K : Cur → Prop} (hB : BSt s B n (cu_adv B n c) k C) (hF : Fix z s) (hE : EndF XE z res) (h : sb (p_pass B n c) res K) (g : ∀ c1, c1 = cu_adv B n c → c1.1 ≠ 1 → K c1 → XB s) : XB s := by
  cases e : p_pass B n c with
  | inl x =>
    rw [e] at h
    obtain ⟨h1, rfl⟩ := p_pass_l e
    exact bbad hS hB h1 hF hE h
  | inr c1 =>
    rw [e] at h
    obtain ⟨h1, h2⟩ := p_pass_r e
    exact g c1 h2 h1 h
theorem a_pass (hS : StpM B n XB XA XE) {s : MS} {c : Cur} {k : Nat} {C : List Fr} {t : Term} {res : PR} {K : Cur → Prop} (hA : ASt s B n (cu_adv B n c) k C t) (hF : Fix z s) (hE : EndF XE z res) (h : sb (p_pass B n c) res K) (g : ∀ c1, c1 = cu_adv B n c → c1.1 ≠ 1 → K c1 → XA s) : XA s := by
  cases e : p_pass B n c with
  | inl x =>
    rw [e] at h
    obtain ⟨h1, rfl⟩ := p_pass_l e
    exact abad hS hA h1 hF hE h
  | inr c1 =>
    rw [e] at h
    obtain ⟨h1, h2⟩ := p_pass_r e
    exact g c1 h2 h1 h
theorem pm4_leaf (hS : StpM B n XB XA XE) {t : Term} {c : Cur} {k : Nat} {res : PR} {s : MS} {C : List Fr} (hl : Rdl B n t c k res) (ht : (c.1 = 3 ∧ t = .long c.2.2.2.2.toInt64) ∨ (c.1 = 2 ∧ t = .elem (.long c.2.2.2.1) (.index c.2.1))) (hB : BSt s B n c k C) (hF : Fix z s) (h4 : End4 B n XA z C res) (hE : EndF XE z res) : XB s := by
  have hk40 : k ≤ 40 := hB.1.2.2.2.2.1
  unfold Rdl p_node at hl
  by_cases hk : k < 40
  · rw [if_pos hk] at hl
    obtain ⟨s', h1, h2, h3⟩ := hS.1 s c k C t hB hk ht
    refine h3 (a_pass hS h1 (hF.trans h2) hE hl fun c1 e1 e2 e3 => ?_)
    subst e1
    exact h4 _ _ _ _ e3 h1 e2 (hF.trans h2)
  · rw [if_neg hk] at hl
    obtain ⟨s', h1, h2⟩ := hS.2.1 s c k C hB (by omega) (by rcases ht with ⟨q, -⟩ | ⟨q, -⟩; exact Or.inl q; exact Or.inr (Or.inl q))
    exact h2 (hE _ _ hl (h1.trans hF))
/-- a token that is wanted, behind a part -/
theorem a_exp (hS : StpM B n XB XA XE) {s : MS} {c : Cur} {k : Nat} {C : List Fr} {t : Term} {res : PR} {K : Cur → Prop} {u : Int32} (hF : Fix z s) (hE : EndF XE z res) (h1 : c.1 ≠ 1) (h : sb (p_exp B n u c) res K)
    (hw : c.1 ≠ u → ∃ s', Flo s s' 2 (nI c.2.1) ∧ (XE s' → XA s)) (g : c.1 = u → sb (p_pass B n c) res K → XA s) : XA s := by
  unfold p_exp at h
  by_cases e : c.1 = u
  · rw [if_pos e] at h
    exact g e h
  · rw [if_neg e] at h
    obtain ⟨s', h2, h3⟩ := hw e
    exact h3 (hE _ _ h (h2.trans hF))
theorem wr (hS : StpM B n XB XA XE) {s : MS} {c : Cur} {k : Nat} {C : List Fr} {t : Term} (hA : ASt s B n c k C t) (h1 : c.1 ≠ 1) (h42 : c.1 ≠ 42) (h47 : c.1 ≠ 47) (h43 : c.1 ≠ 43) (h45 : c.1 ≠ 45) (q0 : c.1 = 0 → (stl 1 C t).1 ≠ []) (q41 : c.1 = 41 → (stl 1 C t).1 = [] ∨ ∃ f C' t', stl 1 C t = (f :: C', t') ∧ 7 ≤ f.1 ∧ f.1 ≤ 9 ∧ f.2.2.2.length + 1 < f_want f) (q44 : c.1 = 44 → (stl 1 C t).1 = [] ∨ ∃ f C' t', stl 1 C t = (f :: C', t') ∧ (f.1 = 100 ∨ (7 ≤ f.1 ∧ f.1 ≤ 9 ∧ f.2.2.2.length + 1 = f_want f))) : ∃ s', Flo s s' 2 (nI c.2.1) ∧ (XE s' → XA s) := by
  obtain ⟨s', h2, h3⟩ := hS.2.2.2.2.2.2.2.2.2.2.2.2.2.1 s c k C t hA h43 h45 h42 h47 q0 q41 q44
  rw [if_neg h1] at h2
  exact ⟨s', h2, h3⟩
theorem stl1_0 {f : Fr} {C : List Fr} (h : f_str f = 0) : ∀ t, stl 1 (f :: C) t = (f :: C, t) := fun t => by
  show (if 1 ≤ f_str f then _ else _) = _
  rw [if_neg (by omega)]
theorem f_str_fn {fk a b : Nat} {ts : List Term} (h : 7 ≤ fk) : f_str (fk, a, b, ts) = 0 := by
  unfold f_str
  rw [if_neg (show ¬ fk = 6 by omega), if_neg (show ¬ (fk = 4 ∨ fk = 5) by omega), if_neg (show ¬ (fk = 2 ∨ fk = 3) by omega)]
theorem dpt_fn {fk a b : Nat} {ts : List Term} {C : List Fr} (h : 6 ≤ fk) : dpt ((fk, a, b, ts) :: C) = dpt C + 1 := dpt_no (by rw [fop_iff]; show ¬ (2 ≤ fk ∧ fk ≤ 5); omega)
/-- an operand of a function that a ',' follows -/
theorem pm_comma (hS : StpM B n XB XA XE) {fk k0 : Nat} {ts : List Term} {C : List Fr} {res : PR} {s : MS} {dp : Nat} {c : Cur} {k : Nat} {K : Term → Cur → Nat → Prop} (hpb : pb (PM B n XB XA XE z 0 dp .null c k) res K) (hB : BSt s B n c k ((fk, k0, k0, ts) :: C)) (h7 : 7 ≤ fk) (h9 : fk ≤ 9) (hw : ts.length + 1 < f_want (fk, k0, k0, ts)) (hdp : dpt C + 1 = dp) (h1 : c.1 ≠ 1) (hF : Fix z s) (hE : EndF XE z res)
    (gg : ∀ t c' k', K t c' k' → ∃ K2 : Cur → Prop, sb (p_exp B n 44 c') res K2 ∧ ∀ c1 s', K2 c1 → c1.1 ≠ 1 → BSt s' B n c1 k' ((fk, k0, k0, t :: ts) :: C) → Fix z s' → XB s') : XB s := by
  obtain ⟨x, hP, hm⟩ := hpb
  refine hP s _ hB (stl1_0 (f_str_fn h7)) (by rw [dpt_fn (by omega)]; exact hdp) h1 hF ?_ ?_
  · intro t c' k' s' C1 t1 e hA hst q1 q42 q47 q43 q45 hF'
    subst e
    obtain ⟨K2, hs, hk⟩ := gg t c' k' hm
    refine a_exp hS (k := k') (C := C1) (t := t1) hF' hE q1 hs (fun ne => wr hS hA q1 q42 q47 q43 q45 (fun _ => by rw [hst]; simp) (fun _ => Or.inr ⟨_, _, _, hst, h7, h9, hw⟩) (fun e44 => absurd e44 ne)) (fun e44 hp => ?_)
    obtain ⟨s2, b1, b2, b3⟩ := hS.2.2.2.2.2.2.2.2.2.2.2.2.2.2.1 s' c' k' C1 t1 _ _ _ hA hst h7 h9 hw e44
    refine b3 (b_pass hS b1 (hF'.trans b2) hE hp fun c1 e1 e2 e3 => ?_)
    subst e1
    exact hk _ _ e3 e2 b1 (hF'.trans b2)
  · intro e s' he hf
    subst he
    exact hE _ _ hm hf
/-- the last operand -/
theorem pm_close (hS : StpM B n XB XA XE) {fk k0 : Nat} {ts : List Term} {C : List Fr} {res : PR} {s : MS} {dp : Nat} {c : Cur} {k : Nat} {K : Term → Cur → Nat → Prop} (hpb : pb (PM B n XB XA XE z 0 dp .null c k) res K) (hB : BSt s B n c k ((fk, k0, k0, ts) :: C)) (h7 : 7 ≤ fk) (h9 : fk ≤ 9) (hw : ts.length + 1 = f_want (fk, k0, k0, ts)) (hdp : dpt C + 1 = dp) (h1 : c.1 ≠ 1) (hF : Fix z s) (h4 : End4 B n XA z C res) (hE : EndF XE z res)
    (gg : ∀ t c' k', K t c' k' → sb (p_exp B n 41 c') res fun c6 => res = .inr (f_fn (fk, k0, k0, ts) t, c6, k')) : XB s := by
  obtain ⟨x, hP, hm⟩ := hpb
  refine hP s _ hB (stl1_0 (f_str_fn h7)) (by rw [dpt_fn (by omega)]; exact hdp) h1 hF ?_ ?_
  · intro t c' k' s' C1 t1 e hA hst q1 q42 q47 q43 q45 hF'
    subst e
    refine a_exp hS (k := k') (C := C1) (t := t1) hF' hE q1 (gg t c' k' hm) (fun ne => wr hS hA q1 q42 q47 q43 q45 (fun _ => by rw [hst]; simp) (fun e41 => absurd e41 ne) (fun _ => Or.inr ⟨_, _, _, hst, Or.inr ⟨h7, h9, hw⟩⟩)) (fun e41 hp => ?_)
    obtain ⟨s2, b1, b2, b3⟩ := hS.2.2.2.2.2.2.2.2.2.2.2.2.2.2.2.1 s' c' k' C1 t1 _ _ _ hA hst h7 h9 hw e41
    refine b3 (a_pass hS b1 (hF'.trans b2) hE hp fun c1 e1 e2 e3 => ?_)
    subst e1
    exact h4 _ _ _ _ e3 b1 e2 (hF'.trans b2)
  · intro e s' he hf
    subst he
    exact hE _ _ hm hf
/-- a function and its bracket -/
theorem pm_fun (hS : StpM B n XB XA XE) {c : Cur} {k dp : Nat} {res : PR} {s : MS} {C : List Fr} {K : Cur → Prop} (hl : sb (p_node B n c k) res fun c1 => sb (p_open B n dp c1) res K) (he : c.1 = 4 ∨ c.1 = 5 ∨ c.1 = 6) (hB : BSt s B n c k C) (hdp : dpt C = dp) (hF : Fix z s) (hE : EndF XE z res)
    (g : ∀ c2 s', K c2 → c2.1 ≠ 1 → BSt s' B n c2 (k + 1) ((fkd c.1, k, k, []) :: C) → Fix z s' → XB s') : XB s := by
  have hk40 : k ≤ 40 := hB.1.2.2.2.2.1
  have hd20 : dpt C ≤ 20 := hB.1.2.2.2.2.2.2.1
  unfold p_node at hl
  by_cases hk : k < 40
  · rw [if_pos hk] at hl
    cases e : p_pass B n c with
    | inl x =>
      rw [e] at hl
      obtain ⟨q1, rfl⟩ := p_pass_l e
      obtain ⟨s', h2, h3⟩ := hS.2.2.2.2.2.2.2.2.1 s c k C hB hk he (by rw [q1]; decide)
      rw [if_pos q1] at h2
      exact h3 (hE _ _ hl (h2.trans hF))
    | inr c1 =>
      rw [e] at hl
      obtain ⟨q1, rfl⟩ := p_pass_r e
      have hl : sb (p_open B n dp (cu_adv B n c)) res K := hl
      unfold p_open at hl
      by_cases e40 : (cu_adv B n c).1 = 40
      · rw [if_pos e40] at hl
        by_cases ed : dp < 20
        · rw [if_pos ed] at hl
          obtain ⟨s', b1, b2, b3⟩ := hS.2.2.2.2.2.2.1 s c k C hB hk (by omega) he e40
          refine b3 (b_pass hS b1 (hF.trans b2) hE hl fun c1 e1 e2 e3 => ?_)
          subst e1
          exact g _ _ e3 e2 b1 (hF.trans b2)
        · rw [if_neg ed] at hl
          obtain ⟨s', h2, h3⟩ := hS.2.2.2.2.2.2.2.1 s c k C hB hk (by omega) he e40
          exact h3 (hE _ _ hl (h2.trans hF))
      · rw [if_neg e40] at hl
        obtain ⟨s', h2, h3⟩ := hS.2.2.2.2.2.2.2.2.1 s c k C hB hk he e40
        rw [if_neg q1] at h2
        exact h3 (hE _ _ hl (h2.trans hF))
  · rw [if_neg hk] at hl
    obtain ⟨s', h2, h3⟩ := hS.2.1 s c k C hB (by omega) (by rcases he with q | q | q <;> simp [q])
    exact h3 (hE _ _ hl (h2.trans hF))
theorem fkd_r (u : Int32) : 7 ≤ fkd u ∧ fkd u ≤ 9 := by
  unfold fkd
  repeat' split
  all_goals omega
theorem pm4 (hS : StpM B n XB XA XE) (dp : Nat) (c : Cur) (k : Nat) (res : PR) (h : Rd4 B n (PM B n XB XA XE z) dp c k res) {s : MS} {C : List Fr} (hB : BSt s B n c k C) (hdp : dpt C = dp) (h1 : c.1 ≠ 1) (hF : Fix z s) (h4 : End4 B n XA z C res) (hE : EndF XE z res) : XB s := by
  have hk40 : k ≤ 40 := hB.1.2.2.2.2.1
  have hd20 : dpt C ≤ 20 := hB.1.2.2.2.2.2.2.1
  unfold Rd4 at h
  by_cases q3 : c.1 = 3
  · rw [if_pos q3] at h
    exact pm4_leaf hS h (Or.inl ⟨q3, rfl⟩) hB hF h4 hE
  rw [if_neg q3] at h
  by_cases q2 : c.1 = 2
  · rw [if_pos q2] at h
    exact pm4_leaf hS h (Or.inr ⟨q2, rfl⟩) hB hF h4 hE
  rw [if_neg q2] at h
  by_cases q45 : c.1 = 45
  · rw [if_pos q45] at h
    by_cases hk : k < 40
    · by_cases ed : dp < 20
      · rw [if_pos ed] at h
        unfold Rdn p_node at h
        rw [if_pos hk] at h
        obtain ⟨s', b1, b2, b3⟩ := hS.2.2.1 s c k C hB hk (by omega) q45
        refine b3 (b_pass hS b1 (hF.trans b2) hE h fun c1 e1 e2 e3 => ?_)
        subst e1
        obtain ⟨x, hx, hm⟩ := e3
        refine hx s' _ b1 (by rw [dpt_fn (by omega), hdp]) e2 (hF.trans b2) ?_ ?_
        · intro t c' k' s2 e hA q1 hF2
          subst e
          have es : stl 3 ((6, k, k, []) :: C) t = stl 3 C (.length t) := rfl
          rw [es] at hA
          exact h4 _ _ _ _ hm hA q1 hF2
        · intro e s2 he hf
          subst he
          exact hE _ _ hm hf
      · rw [if_neg ed] at h
        obtain ⟨s', h2, h3⟩ := hS.2.2.2.1 s c k C hB hk (by omega) q45
        exact h3 (hE _ _ h (h2.trans hF))
    · have hr : res = .inl (3, c.2.1) := by
        by_cases ed : dp < 20
        · rw [if_pos ed] at h
          unfold Rdn p_node at h
          rw [if_neg hk] at h
          exact h
        · rw [if_neg ed] at h
          exact h
      obtain ⟨s', h2, h3⟩ := hS.2.1 s c k C hB (by omega) (Or.inr (Or.inr (Or.inl q45)))
      exact h3 (hE _ _ hr (h2.trans hF))
  rw [if_neg q45] at h
  by_cases q40 : c.1 = 40
  · rw [if_pos q40] at h
    unfold Rdp p_open at h
    rw [if_pos q40] at h
    by_cases ed : dp < 20
    · rw [if_pos ed] at h
      obtain ⟨s', b1, b2, b3⟩ := hS.2.2.2.2.1 s c k C hB (by omega) q40
      refine b3 (b_pass hS b1 (hF.trans b2) hE h fun c1 e1 e2 e3 => ?_)
      subst e1
      obtain ⟨x, hx, hm⟩ := e3
      refine hx s' _ b1 (stl1_0 (f_str_fn (by omega))) (by rw [dpt_fn (by omega), hdp]) e2 (hF.trans b2) ?_ ?_
      · intro t c' k' s2 C1 t1 e hA hst p1 p42 p47 p43 p45 hF2
        subst e
        have hm : sb (p_exp B n 41 c') res fun c3 => res = .inr (t, c3, k') := hm
        refine a_exp hS (k := k') (C := C1) (t := t1) hF2 hE p1 hm (fun ne => wr hS hA p1 p42 p47 p43 p45 (fun _ => by rw [hst]; simp) (fun e41 => absurd e41 ne) (fun _ => Or.inr ⟨_, _, _, hst, Or.inl rfl⟩)) (fun e41 hp => ?_)
        obtain ⟨s3, d1, d2, d3⟩ := hS.2.2.2.2.2.2.2.2.2.2.2.2.2.2.2.2 s2 c' k' C1 t1 _ _ _ hA hst rfl e41
        refine d3 (a_pass hS d1 (hF2.trans d2) hE hp fun c1 f1 f2 f3 => ?_)
        subst f1
        exact h4 _ _ _ _ f3 d1 f2 (hF2.trans d2)
      · intro e s2 he hf
        subst he
        exact hE _ _ hm hf
    · rw [if_neg ed] at h
      obtain ⟨s', h2, h3⟩ := hS.2.2.2.2.2.1 s c k C hB (by omega) q40
      exact h3 (hE _ _ h (h2.trans hF))
  rw [if_neg q40] at h
  by_cases q45' : c.1 = 4 ∨ c.1 = 5
  · rw [if_pos q45'] at h
    have hfk : fkd c.1 = if c.1 = 4 then 7 else 8 := by
      unfold fkd
      rcases q45' with e | e
      · rw [if_pos e, if_pos e]
      · rw [if_neg (by rw [e]; decide), if_pos e, if_neg (by rw [e]; decide)]
    have f79 := fkd_r c.1
    have hne9 : fkd c.1 ≠ 9 := by rw [hfk]; split <;> decide
    unfold Rdm at h
    refine pm_fun hS h (by rcases q45' with e | e; exact Or.inl e; exact Or.inr (Or.inl e)) hB hdp hF hE fun c2 s2 hk2 g1 g2 g3 => ?_
    refine pm_comma hS hk2 g2 f79.1 f79.2 (by unfold f_want; rw [if_neg hne9]; decide) (by rw [hdp]) g1 g3 hE fun t c' k' hK => ⟨_, hK, fun c1 s3 hK2 i1 i2 i3 => ?_⟩
    refine pm_close hS hK2 i2 f79.1 f79.2 (by unfold f_want; rw [if_neg hne9]; rfl) (by rw [hdp]) i1 i3 h4 hE fun t2 c5 k5 hK5 => ?_
    have ef : f_fn (fkd c.1, k, k, [t]) t2 = if c.1 = 4 then .rem t t2 else .op2 .iand t t2 := by
      show (if fkd c.1 = 7 then _ else _) = _
      rw [hfk]
      rcases q45' with e | e
      · rw [if_pos e, if_pos rfl, if_pos e]
      · have n4 : ¬ c.1 = 4 := by rw [e]; decide
        rw [if_neg n4, if_neg n4, if_neg (show ¬ 8 = 7 by decide)]
    rw [ef]
    exact hK5
  rw [if_neg q45'] at h
  by_cases q6 : c.1 = 6
  · rw [if_pos q6] at h
    have hfk : fkd c.1 = 9 := by
      unfold fkd
      rw [if_neg (by rw [q6]; decide), if_neg (by rw [q6]; decide)]
    unfold Rdi at h
    refine pm_fun hS h (Or.inr (Or.inr q6)) hB hdp hF hE fun c2 s2 hk2 g1 g2 g3 => ?_
    rw [hfk] at g2
    refine pm_comma hS hk2 g2 (by decide) (by decide) (show 0 + 1 < 3 by decide) (by rw [hdp]) g1 g3 hE fun t c' k' hK => ⟨_, hK, fun c1 s3 hK2 i1 i2 i3 => ?_⟩
    refine pm_comma hS hK2 i2 (by decide) (by decide) (show 1 + 1 < 3 by decide) (by rw [hdp]) i1 i3 hE fun t2 c5 k5 hK5 => ⟨_, hK5, fun c6 s4 hK6 j1 j2 j3 => ?_⟩
    exact pm_close hS hK6 j2 (by decide) (by decide) (show 2 + 1 = 3 by decide) (by rw [hdp]) j1 j3 h4 hE fun t3 c7 k7 hK7 => hK7
  rw [if_neg q6] at h
  obtain ⟨s', h2, h3⟩ := hS.2.2.2.2.2.2.2.2.2.1 s c k C hB q3 q2 q45 q40 (fun e => q45' (Or.inl e)) (fun e => q45' (Or.inr e)) q6
  rw [if_neg h1] at h2
  exact h3 (hE _ _ h (h2.trans hF))
theorem stl_top2 {kd a b : Nat} {ts : List Term} {C : List Fr} (h : kd = 2 ∨ kd = 3) : ∀ t', stl 2 ((kd, a, b, ts) :: C) t' = ((kd, a, b, ts) :: C, t') := fun t' => by
  show (if 2 ≤ f_str (kd, a, b, ts) then _ else _) = _
  rw [if_neg]
  rcases h with rfl | rfl
  · show ¬ 2 ≤ 1; decide
  · show ¬ 2 ≤ 1; decide
theorem pm_all (hS : StpM B n XB XA XE) : ∀ m dp acc c k res, RdF B n (PM B n XB XA XE z) m dp acc c k res → PM B n XB XA XE z m dp acc c k res := by
  intro m dp acc c k res h
  match m, h with
  | 0, h =>
    obtain ⟨x, hx, hm⟩ := h
    intro s C hB hst hdp h1 hF h2 hE
    refine hx s C hB (fun t' => ?_) hdp h1 hF ?_ ?_
    · have e := stl_stl (q := 2) (q' := 1) (by decide) C t'
      rw [hst t'] at e
      cases C with
      | nil => rfl
      | cons f C =>
        have hf : f_str f = 0 := stl_top (hst t')
        show (if 2 ≤ f_str f then _ else _) = _
        rw [if_neg (by omega)]
    · intro t c' k' s' C1 t1 e hA he q1 q42 q47 hF'
      subst e
      refine hm s' C1 t1 C hA ?_ hdp q1 q42 q47 hF' h2 hE
      have e := stl_stl (q := 2) (q' := 1) (by decide) C1 t1
      rw [he] at e
      rw [← e]
      exact hst t
    · intro e s' he hf
      subst he
      exact hE _ _ hm hf
  | 1, h =>
    obtain ⟨x, hx, hm⟩ := h
    intro s C hB hst hdp h1 hF h3 hE
    refine hx s C hB hdp h1 hF ?_ ?_
    · intro t c' k' s' e hA q1 hF'
      subst e
      refine hm s' _ _ C hA ?_ hdp q1 hF' h3 hE
      rw [stl_stl (by decide)]
      exact hst t
    · intro e s' he hf
      subst he
      exact hE _ _ hm hf
  | 2, h =>
    intro s C0 t0 C hA hst hdp h1 h42 h47 hF h2 hE
    have hk40 : k ≤ 40 := hA.1.2.2.2.2.1
    have h : if c.1 = 43 ∨ c.1 = 45 then Rd2 B n (PM B n XB XA XE z) dp acc c k res else res = .inr (acc, c, k) := h
    by_cases e : c.1 = 43 ∨ c.1 = 45
    · rw [if_pos e] at h
      unfold Rd2 p_node at h
      by_cases hk : k < 40
      · rw [if_pos hk] at h
        obtain ⟨s', lo, b1, b2, b3⟩ := hS.2.2.2.2.2.2.2.2.2.2.1 s c k C0 t0 (if c.1 = 43 then 2 else 3) 1 hA hk (by rcases e with e | e; exact Or.inl ⟨e, by rw [if_pos e], rfl⟩; exact Or.inr (Or.inl ⟨e, by rw [if_neg (by rw [e]; decide)], rfl⟩))
        rw [hst] at b1
        refine b3 (b_pass hS b1 (hF.trans b2) hE h fun c1 e1 e2 e3 => ?_)
        subst e1
        obtain ⟨x, hx, hm⟩ := e3
        have h23 : (if c.1 = 43 then 2 else 3) = 2 ∨ (if c.1 = 43 then 2 else 3) = 3 := by split; exact Or.inl rfl; exact Or.inr rfl
        have hop : f_op ((if c.1 = 43 then 2 else 3), k, lo, [acc]) = true := fop_iff.mpr (by show 2 ≤ (if c.1 = 43 then 2 else 3) ∧ (if c.1 = 43 then 2 else 3) ≤ 5; omega)
        refine hx s' _ b1 (stl_top2 h23) (by rw [dpt_op hop]; exact hdp) e2 (hF.trans b2) ?_ ?_
        · intro t c' k' s2 C1 t1 e9 hA2 he q1 q42 q47 hF2
          subst e9
          refine hm s2 C1 t1 C hA2 ?_ hdp q1 q42 q47 hF2 h2 hE
          have e8 := stl_stl (q := 2) (q' := 1) (by decide) C1 t1
          rw [he] at e8
          rw [← e8]
          have em : f_mk ((if c.1 = 43 then 2 else 3), k, lo, [acc]) t = if c.1 = 43 then .add acc t else .sub acc t := by
            unfold f_mk
            rw [if_neg (show ¬ (if c.1 = 43 then 2 else 3) = 6 by omega)]
            show (if (if c.1 = 43 then 2 else 3) = 2 then Term.add acc t else if (if c.1 = 43 then 2 else 3) = 3 then .sub acc t else _) = _
            by_cases e43 : c.1 = 43
            · rw [if_pos e43, if_pos rfl, if_pos e43]
            · rw [if_neg e43, if_neg (by decide), if_pos rfl, if_neg e43]
          show (if 1 ≤ f_str ((if c.1 = 43 then 2 else 3), k, lo, [acc]) then stl 1 C (f_mk ((if c.1 = 43 then 2 else 3), k, lo, [acc]) t) else _) = _
          rw [if_pos (by unfold f_str; rw [if_neg (show ¬ (if c.1 = 43 then 2 else 3) = 6 by omega), if_neg (show ¬ ((if c.1 = 43 then 2 else 3) = 4 ∨ (if c.1 = 43 then 2 else 3) = 5) by omega), if_pos h23]; exact Nat.le_refl 1), em]
          exact stl_fix hst _
        · intro e9 s2 he hf
          subst he
          exact hE _ _ hm hf
      · rw [if_neg hk] at h
        obtain ⟨s', b1, b2⟩ := hS.2.2.2.2.2.2.2.2.2.2.2.1 s c k C0 t0 hA (by omega) (by rcases e with e | e; exact Or.inl e; exact Or.inr (Or.inl e))
        exact b2 (hE _ _ h (b1.trans hF))
    · rw [if_neg e] at h
      exact h2 _ _ _ _ _ _ h hA hst h1 h42 h47 (fun q => e (Or.inl q)) (fun q => e (Or.inr q)) hF
  | 3, h =>
    intro s C0 t0 C hA hst hdp h1 hF h3 hE
    have hk40 : k ≤ 40 := hA.1.2.2.2.2.1
    have h : if c.1 = 42 ∨ c.1 = 47 then Rd3 B n (PM B n XB XA XE z) dp acc c k res else res = .inr (acc, c, k) := h
    by_cases e : c.1 = 42 ∨ c.1 = 47
    · rw [if_pos e] at h
      unfold Rd3 p_node at h
      by_cases hk : k < 40
      · rw [if_pos hk] at h
        obtain ⟨s', lo, b1, b2, b3⟩ := hS.2.2.2.2.2.2.2.2.2.2.1 s c k C0 t0 (if c.1 = 42 then 4 else 5) 2 hA hk (by rcases e with e | e; exact Or.inr (Or.inr (Or.inl ⟨e, by rw [if_pos e], rfl⟩)); exact Or.inr (Or.inr (Or.inr ⟨e, by rw [if_neg (by rw [e]; decide)], rfl⟩)))
        rw [hst] at b1
        refine b3 (b_pass hS b1 (hF.trans b2) hE h fun c1 e1 e2 e3 => ?_)
        subst e1
        obtain ⟨x, hx, hm⟩ := e3
        have h45 : (if c.1 = 42 then 4 else 5) = 4 ∨ (if c.1 = 42 then 4 else 5) = 5 := by split; exact Or.inl rfl; exact Or.inr rfl
        have hop : f_op ((if c.1 = 42 then 4 else 5), k, lo, [acc]) = true := fop_iff.mpr (by show 2 ≤ (if c.1 = 42 then 4 else 5) ∧ (if c.1 = 42 then 4 else 5) ≤ 5; omega)
        have hfs : f_str ((if c.1 = 42 then 4 else 5), k, lo, [acc]) = 2 := by unfold f_str; rw [if_neg (show ¬ (if c.1 = 42 then 4 else 5) = 6 by omega), if_pos h45]
        refine hx s' _ b1 (by rw [dpt_op hop]; exact hdp) e2 (hF.trans b2) ?_ ?_
        · intro t c' k' s2 e9 hA2 q1 hF2
          subst e9
          refine hm s2 _ _ C hA2 ?_ hdp q1 hF2 h3 hE
          rw [stl_stl (by decide)]
          have em : f_mk ((if c.1 = 42 then 4 else 5), k, lo, [acc]) t = if c.1 = 42 then .mul acc t else .div acc t := by
            unfold f_mk
            rw [if_neg (show ¬ (if c.1 = 42 then 4 else 5) = 6 by omega)]
            show (if (if c.1 = 42 then 4 else 5) = 2 then Term.add acc t else if (if c.1 = 42 then 4 else 5) = 3 then .sub acc t else if (if c.1 = 42 then 4 else 5) = 4 then .mul acc t else .div acc t) = _
            by_cases e42 : c.1 = 42
            · rw [if_pos e42, if_neg (by decide), if_neg (by decide), if_pos rfl, if_pos e42]
            · rw [if_neg e42, if_neg (by decide), if_neg (by decide), if_neg (by decide), if_neg e42]
          show (if 2 ≤ f_str ((if c.1 = 42 then 4 else 5), k, lo, [acc]) then stl 2 C (f_mk ((if c.1 = 42 then 4 else 5), k, lo, [acc]) t) else _) = _
          rw [hfs, if_pos (Nat.le_refl 2), em]
          exact stl_fix hst _
        · intro e9 s2 he hf
          subst he
          exact hE _ _ hm hf
      · rw [if_neg hk] at h
        obtain ⟨s', b1, b2⟩ := hS.2.2.2.2.2.2.2.2.2.2.2.1 s c k C0 t0 hA (by omega) (by rcases e with e | e; exact Or.inr (Or.inr (Or.inl e)); exact Or.inr (Or.inr (Or.inr e)))
        exact b2 (hE _ _ h (b1.trans hF))
    · rw [if_neg e] at h
      exact h3 _ _ _ _ _ _ h hA hst h1 (fun q => e (Or.inl q)) (fun q => e (Or.inr q)) hF
  | m + 4, h =>
    intro s C hB hdp h1 hF h4 hE
    exact pm4 hS dp c k res h hB hdp h1 hF h4 hE
/-- a whole formula, from its first token on -/
theorem sim_formula (hS : StpM B n XB XA XE) {c : Cur} {res : PR} {s : MS} (h : Rd B n 0 0 .null c 0 res) (hB : BSt s B n c 0 []) (h1 : c.1 ≠ 1) (hF : Fix z s)
    (hok : ∀ t c' k' s', res = .inr (t, c', k') → c'.1 = 0 → ASt s' B n c' k' [] t → Fix z s' → XE s') (hno : ∀ t c' k' s', res = .inr (t, c', k') → c'.1 ≠ 0 → Flo z s' 2 (nI c'.2.1) → XE s') (hE : EndF XE z res) : XB s := by
  refine h (PM B n XB XA XE z) (pm_all hS) s [] hB (fun _ => rfl) rfl h1 hF ?_ hE
  intro t c' k' s' C1 t1 e hA hst q1 q42 q47 q43 q45 hF'
  by_cases e0 : c'.1 = 0
  · obtain ⟨s2, b1, b2, b3⟩ := hS.2.2.2.2.2.2.2.2.2.2.2.2.1 s' c' k' C1 t1 hA e0 (by rw [hst])
    rw [hst] at b1
    exact b3 (hok _ _ _ _ e e0 b1 (hF'.trans b2))
  · obtain ⟨s2, b1, b2⟩ := wr hS hA q1 q42 q47 q43 q45 (fun q => absurd q e0) (fun _ => Or.inl (by rw [hst])) (fun _ => Or.inl (by rw [hst]))
    exact b2 (hno _ _ _ _ e e0 (b1.trans hF'))
end SIM
