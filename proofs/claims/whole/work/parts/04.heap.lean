
section JH
variable {l : Launch} {G : jm_G} {M : jm_M} {n0 s0 : Nat} {Z : jm_Z} {Post : jm_r → jm_H → Prop} {pc : Nat} {lv : List (Nat × Value)} {st : List Value} {h : jm_H}
/-- the pool's entry idx of class own is field k of class c -/
def jm_F (own : String) (idx c k : Nat) : Prop := ∃ (C : String) (T : u_T) (N : Nat), jm_cl[c]? = some (C, T, N) ∧ (∀ w ∈ u_ws C T N, w ∈ jm_W) ∧ k < N ∧ Cond.fieldLink own idx (T k).1 (T k).2.1 (T k).2.2.1 ∈ jm_W
/-- what a write to field k of class c needs of the class -/
def jm_Fl (c : Nat) : Prop := ∀ r : vw_C, jm_cl[c]? = some r → ∃ ty0 : Nat → FieldType, (∀ k, k < r.2.2 → parseFieldDescriptor (r.2.1 k).2.2.1 = some (ty0 k)) ∧ ∀ a, a < r.2.2 → ∀ b, b < r.2.2 → a ≠ b → (r.2.1 a).2.1 ≠ (r.2.1 b).2.1
def jm_Ft (c k : Nat) (ty : FieldType) (fin : Bool) (own : String) : Prop := ∀ r : vw_C, jm_cl[c]? = some r → parseFieldDescriptor (r.2.1 k).2.2.1 = some ty ∧ (r.2.1 k).2.2.2 = fin ∧ (fin = true → (r.2.1 k).1 = own)
theorem jm_K.va {U : State} (h : jm_K G U) : va_K G.1 jm_cl [] U := ⟨h.1, fun k q hk => by simp at hk⟩
theorem jx_get {a c n idx k : Nat} {v0 : Value} (hd : decode M.2.1 pc = .ok (.getfield idx, 3)) (hF : jm_F M.1.cls idx c k) (hk : h.2.2.1 a = (jm_o c, n)) (hv0 : h.2.2.2 a k = v0)
    (kk : jm_X l G M n0 s0 Z Post (pc + 3) lv (v0 :: st) h) : jm_X l G M n0 s0 Z Post pc lv (.ref a :: st) h := by
  obtain ⟨r, h', a1, a2, a3, a4, a5, v⟩ := kk
  refine ⟨r, h', a1, a2, a3, a4, a5, fun p e s m args below meth c1 H locs ls C n1 n2 n3 hR hS hv => ?_⟩
  have W9 := v p e s m args below meth c1 H locs ls C n1 n2 n3 hR hS hv
  obtain ⟨hx, hb, hml, hr, hlk, hnm, hown, htb, hts, hK, hN⟩ := C
  obtain ⟨C0, T, N, hc, hin, hkN, hw⟩ := hF
  obtain ⟨g1, r0, g2, cell, q1, q2, q3, q4⟩ := hR.2.2.1 a c n hk
  have hr0 : r0 = (C0, T, N) := Option.some.inj (g2.symm.trans hc)
  subst hr0
  obtain ⟨hSl, hfc, kC, hkC, hkind⟩ := hK.1 c _ hc
  obtain ⟨cf, kf, fi, f, hi, hsl⟩ := hSl k hkN
  refine W.getf hx hb hown (hts _ hw) hi (u_facts hfc hkC (u_lays hts hin hkN) hi).1 q1 (by rw [q3]; exact fun h => by cases h) (v := v0) ?_ rfl rfl hd W9
  rw [hsl, q4 k hkN, hv0]
theorem jx_put {a c n idx k : Nat} {v0 : Value} {ty : FieldType} (hd : decode M.2.1 pc = .ok (.putfield idx, 3)) (hF : jm_F M.1.cls idx c k) (hl : jm_Fl c) (ht : jm_Ft c k ty false "") (hk : h.2.2.1 a = (jm_o c, n)) (hn : narrow ty v0 = v0) (hfit : fits ty v0 = true)
    (kk : jm_X l G M n0 s0 Z Post (pc + 3) lv st (jm_put h a k v0)) : jm_X l G M n0 s0 Z Post pc lv (v0 :: .ref a :: st) h := by
  obtain ⟨r, h', a1, a2, a3, a4, a5, v⟩ := kk
  refine ⟨r, h', a1, a2, a3, a4, a5, fun p e s m args below meth c1 H locs ls C n1 n2 n3 hR hS hv => ?_⟩
  have W9 := fun H1 locs1 => v p e s m args below meth c1 H1 locs1 ls C n1 n2 n3
  obtain ⟨hx, hb, hml, hr, hlk, hnm, hown, htb, hts, hK, hN⟩ := C
  obtain ⟨C0, T, N, hc, hin, hkN, hw⟩ := hF
  obtain ⟨ty0, hty, hne⟩ := hl _ hc
  obtain ⟨hd1, hd2, -⟩ := ht _ hc
  obtain ⟨g1, r0, g2, cell, q1, q2, q3, q4⟩ := hR.2.2.1 a c n hk
  have hr0 : r0 = (C0, T, N) := Option.some.inj (g2.symm.trans hc)
  subst hr0
  have hap := va_apart (own := M.1.cls) hts hin ty0 hty hne hK.va hc
  obtain ⟨hSl, hfc, kC, hkC, hkind⟩ := hK.1 c _ hc
  obtain ⟨cf, kf, fi, f, hi, hsl⟩ := hSl k hkN
  have hlay := hts _ (hin _ (u_in_lay hkN))
  unfold u_lay at hlay
  rw [if_neg (by rw [hd2]; decide)] at hlay
  have hst := (u_facts hfc hkC (u_lays hts hin hkN) hi).1
  have h6 := u_store hfc hkC hkind hlay hi hd1 hn hfit
  refine W.putK hx hb (f := f) ⟨hown, hts _ hw, ⟨_, _, _, hi⟩, hst⟩ (by rw [q2]; exact h6) q1 q3 (by rw [hsl]; exact k2_hasslot (q4 k hkN)) rfl rfl hd fun H' e1 e2 e3 => ?_
  rw [hsl] at e1 ⊢
  refine W9 H' _ (hR.putO hk e2 e3 fun r1 hr1 => ?_) (hS.put e2 e3 g1) hv
  have hr2 : r1 = (C0, T, N) := Option.some.inj (hr1.symm.trans hc)
  subst hr2
  exact ⟨_, e1, q2, q3, t_set q4 hap hkN v0⟩
theorem jx_putF {a c n idx k : Nat} {v0 : Value} {ty : FieldType} (hd : decode M.2.1 pc = .ok (.putfield idx, 3)) (hF : jm_F M.1.cls idx c k) (hl : jm_Fl c) (ht : jm_Ft c k ty true M.1.cls) (hi0 : M.1.name = "<init>") (hk : h.2.2.1 a = (jm_o c, n)) (hn : narrow ty v0 = v0) (hfit : fits ty v0 = true)
    (kk : jm_X l G M n0 s0 Z Post (pc + 3) lv st (jm_put h a k v0)) : jm_X l G M n0 s0 Z Post pc lv (v0 :: .ref a :: st) h := by
  obtain ⟨r, h', a1, a2, a3, a4, a5, v⟩ := kk
  refine ⟨r, h', a1, a2, a3, a4, a5, fun p e s m args below meth c1 H locs ls C n1 n2 n3 hR hS hv => ?_⟩
  have W9 := fun H1 locs1 => v p e s m args below meth c1 H1 locs1 ls C n1 n2 n3
  obtain ⟨hx, hb, hml, hr, hlk, hnm, hown, htb, hts, hK, hN⟩ := C
  obtain ⟨C0, T, N, hc, hin, hkN, hw⟩ := hF
  obtain ⟨ty0, hty, hne⟩ := hl _ hc
  obtain ⟨hd1, hd2, hd3⟩ := ht _ hc
  have hdecl := hd3 rfl
  obtain ⟨g1, r0, g2, cell, q1, q2, q3, q4⟩ := hR.2.2.1 a c n hk
  have hr0 : r0 = (C0, T, N) := Option.some.inj (g2.symm.trans hc)
  subst hr0
  have hap := va_apart (own := M.1.cls) hts hin ty0 hty hne hK.va hc
  obtain ⟨hSl, hfc, kC, hkC, hkind⟩ := hK.1 c _ hc
  obtain ⟨cf, kf, fi, f, hi, hsl⟩ := hSl k hkN
  have hlay := hts _ (hin _ (u_in_lay hkN))
  unfold u_lay at hlay
  rw [if_pos hd2] at hlay
  have hst := (u_facts hfc hkC (u_lays hts hin hkN) hi).1
  have hcf : m.cls = cf := by
    obtain ⟨_, _, c', _, _, _, -, -, hf', -, -, -, hown2, -⟩ := Cond.laysFinal_spec hlay
    have e1 : c' = cf := by have := hi.symm.trans hf'; simp at this; exact this.1.symm
    rw [hdecl] at hown2
    rw [← e1]; exact Option.some.inj (hown.symm.trans hown2)
  have h6 := u_fits hfc hkC hkind (Or.inr hlay) hi hd1 hn hfit
  refine W.putFinK hx hb hown (hts _ hw) hi hst hcf (hnm.trans hi0) (by rw [q2]; exact h6) q1 q3 (by rw [hsl]; exact k2_hasslot (q4 k hkN)) rfl rfl hd fun H' e1 e2 e3 => ?_
  rw [hsl] at e1 ⊢
  refine W9 H' _ (hR.putO hk e2 e3 fun r1 hr1 => ?_) (hS.put e2 e3 g1) hv
  have hr2 : r1 = (C0, T, N) := Option.some.inj (hr1.symm.trans hc)
  subst hr2
  exact ⟨_, e1, q2, q3, t_set q4 hap hkN v0⟩
theorem jm_vlt {i : Int32} {n : Nat} (hin : vp_in i n) : i.toNatClampNeg < n := Nat.not_le.mp fun q => hin (Or.inr q)

theorem jx_iald {a t n : Nat} {i : Int32} {v0 : Value} (hd : decode M.2.1 pc = .ok (.iaload, 1)) (hk : h.2.2.1 a = (jm_a t, n)) (ht : jm_ty t = .int) (hin : vp_in i n) (hv0 : h.2.2.2 a i.toNatClampNeg = v0)
    (kk : jm_X l G M n0 s0 Z Post (pc + 1) lv (v0 :: st) h) : jm_X l G M n0 s0 Z Post pc lv (.int i :: .ref a :: st) h := by
  obtain ⟨r, h', a1, a2, a3, a4, a5, v⟩ := kk
  refine ⟨r, h', a1, a2, a3, a4, a5, fun p e s m args below meth c1 H locs ls C n1 n2 n3 hR hS hv => ?_⟩
  have W9 := v p e s m args below meth c1 H locs ls C n1 n2 n3 hR hS hv
  obtain ⟨hx, hb, hml, hr, hlk, hnm, hown, htb, hts, hK, hN⟩ := C
  obtain ⟨g1, g2, g3⟩ := hR.2.2.2 a t n hk
  have hA := (hK.2 t g2).1 n (h.2.2.2 a)
  rw [ht] at hA
  exact W.iald (v := v0) hx hb g3 hA (fun q => by cases q) (by show ¬ (i < 0 ∨ (arrV _ _ _).slots.size ≤ _); rw [arrV_size]; exact hin) (by show (arrV _ _ _).slots[_]? = _; rw [arrV_read _ _ (jm_vlt hin), hv0]) rfl rfl hd W9
theorem jx_lald {a t n : Nat} {i : Int32} {v0 : Value} (hd : decode M.2.1 pc = .ok (.laload, 1)) (hk : h.2.2.1 a = (jm_a t, n)) (ht : jm_ty t = .long) (hin : vp_in i n) (hv0 : h.2.2.2 a i.toNatClampNeg = v0)
    (kk : jm_X l G M n0 s0 Z Post (pc + 1) lv (v0 :: st) h) : jm_X l G M n0 s0 Z Post pc lv (.int i :: .ref a :: st) h := by
  obtain ⟨r, h', a1, a2, a3, a4, a5, v⟩ := kk
  refine ⟨r, h', a1, a2, a3, a4, a5, fun p e s m args below meth c1 H locs ls C n1 n2 n3 hR hS hv => ?_⟩
  have W9 := v p e s m args below meth c1 H locs ls C n1 n2 n3 hR hS hv
  obtain ⟨hx, hb, hml, hr, hlk, hnm, hown, htb, hts, hK, hN⟩ := C
  obtain ⟨g1, g2, g3⟩ := hR.2.2.2 a t n hk
  have hA := (hK.2 t g2).1 n (h.2.2.2 a)
  rw [ht] at hA
  exact W.lald (v := v0) hx hb g3 hA (fun q => by cases q) (by show ¬ (i < 0 ∨ (arrV _ _ _).slots.size ≤ _); rw [arrV_size]; exact hin) (by show (arrV _ _ _).slots[_]? = _; rw [arrV_read _ _ (jm_vlt hin), hv0]) rfl rfl hd W9
theorem jx_bald {a t n : Nat} {i : Int32} {v0 : Value} (hd : decode M.2.1 pc = .ok (.baload, 1)) (hk : h.2.2.1 a = (jm_a t, n)) (ht : jm_ty t = .byte) (hin : vp_in i n) (hv0 : h.2.2.2 a i.toNatClampNeg = v0)
    (kk : jm_X l G M n0 s0 Z Post (pc + 1) lv (v0 :: st) h) : jm_X l G M n0 s0 Z Post pc lv (.int i :: .ref a :: st) h := by
  obtain ⟨r, h', a1, a2, a3, a4, a5, v⟩ := kk
  refine ⟨r, h', a1, a2, a3, a4, a5, fun p e s m args below meth c1 H locs ls C n1 n2 n3 hR hS hv => ?_⟩
  have W9 := v p e s m args below meth c1 H locs ls C n1 n2 n3 hR hS hv
  obtain ⟨hx, hb, hml, hr, hlk, hnm, hown, htb, hts, hK, hN⟩ := C
  obtain ⟨g1, g2, g3⟩ := hR.2.2.2 a t n hk
  have hA := (hK.2 t g2).1 n (h.2.2.2 a)
  rw [ht] at hA
  exact W.bald (v := v0) hx hb g3 hA (fun q => by cases q) (by show ¬ (i < 0 ∨ (arrV _ _ _).slots.size ≤ _); rw [arrV_size]; exact hin) (by show (arrV _ _ _).slots[_]? = _; rw [arrV_read _ _ (jm_vlt hin), hv0]) rfl rfl hd W9
theorem jx_zald {a t n : Nat} {i : Int32} {v0 : Value} (hd : decode M.2.1 pc = .ok (.baload, 1)) (hk : h.2.2.1 a = (jm_a t, n)) (ht : jm_ty t = .boolean) (hin : vp_in i n) (hv0 : h.2.2.2 a i.toNatClampNeg = v0)
    (kk : jm_X l G M n0 s0 Z Post (pc + 1) lv (v0 :: st) h) : jm_X l G M n0 s0 Z Post pc lv (.int i :: .ref a :: st) h := by
  obtain ⟨r, h', a1, a2, a3, a4, a5, v⟩ := kk
  refine ⟨r, h', a1, a2, a3, a4, a5, fun p e s m args below meth c1 H locs ls C n1 n2 n3 hR hS hv => ?_⟩
  have W9 := v p e s m args below meth c1 H locs ls C n1 n2 n3 hR hS hv
  obtain ⟨hx, hb, hml, hr, hlk, hnm, hown, htb, hts, hK, hN⟩ := C
  obtain ⟨g1, g2, g3⟩ := hR.2.2.2 a t n hk
  have hA := (hK.2 t g2).1 n (h.2.2.2 a)
  rw [ht] at hA
  exact W.zald (v := v0) hx hb g3 hA (fun q => by cases q) (by show ¬ (i < 0 ∨ (arrV _ _ _).slots.size ≤ _); rw [arrV_size]; exact hin) (by show (arrV _ _ _).slots[_]? = _; rw [arrV_read _ _ (jm_vlt hin), hv0]) rfl rfl hd W9
theorem jx_aald {C0 : String} {a t n : Nat} {i : Int32} {v0 : Value} (hd : decode M.2.1 pc = .ok (.aaload, 1)) (hk : h.2.2.1 a = (jm_a t, n)) (ht : jm_ty t = .object C0) (hin : vp_in i n) (hv0 : h.2.2.2 a i.toNatClampNeg = v0)
    (kk : jm_X l G M n0 s0 Z Post (pc + 1) lv (v0 :: st) h) : jm_X l G M n0 s0 Z Post pc lv (.int i :: .ref a :: st) h := by
  obtain ⟨r, h', a1, a2, a3, a4, a5, v⟩ := kk
  refine ⟨r, h', a1, a2, a3, a4, a5, fun p e s m args below meth c1 H locs ls C n1 n2 n3 hR hS hv => ?_⟩
  have W9 := v p e s m args below meth c1 H locs ls C n1 n2 n3 hR hS hv
  obtain ⟨hx, hb, hml, hr, hlk, hnm, hown, htb, hts, hK, hN⟩ := C
  obtain ⟨g1, g2, g3⟩ := hR.2.2.2 a t n hk
  have hA := (hK.2 t g2).1 n (h.2.2.2 a)
  rw [ht] at hA
  exact W.aald (ty := .object C0) (v := v0) hx hb g3 hA rfl (fun q => by cases q) (by show ¬ (i < 0 ∨ (arrV _ _ _).slots.size ≤ _); rw [arrV_size]; exact hin) (by show (arrV _ _ _).slots[_]? = _; rw [arrV_read _ _ (jm_vlt hin), hv0]) rfl rfl hd W9
theorem jx_iast {a t n : Nat} {i : Int32} {x : Int32} (hd : decode M.2.1 pc = .ok (.iastore, 1)) (hk : h.2.2.1 a = (jm_a t, n)) (ht : jm_ty t = .int) (hin : vp_in i n)
    (kk : jm_X l G M n0 s0 Z Post (pc + 1) lv st (jm_put h a i.toNatClampNeg (.int x))) : jm_X l G M n0 s0 Z Post pc lv (.int x :: .int i :: .ref a :: st) h := by
  obtain ⟨r, h', a1, a2, a3, a4, a5, v⟩ := kk
  refine ⟨r, h', a1, a2, a3, a4, a5, fun p e s m args below meth c1 H locs ls C n1 n2 n3 hR hS hv => ?_⟩
  have W9 := fun H1 locs1 => v p e s m args below meth c1 H1 locs1 ls C n1 n2 n3
  obtain ⟨hx, hb, hml, hr, hlk, hnm, hown, htb, hts, hK, hN⟩ := C
  obtain ⟨g1, g2, g3⟩ := hR.2.2.2 a t n hk
  have hA := (hK.2 t g2).1 n (h.2.2.2 a)
  rw [ht] at hA
  refine W.iast hx hb g3 hA (fun q => by cases q) (by show ¬ (i < 0 ∨ (arrV _ _ _).slots.size ≤ _); rw [arrV_size]; exact hin) rfl rfl hd fun H1 e z oq => ?_
  refine W9 H1 _ (hR.putA hk z oq ?_) (hS.put z oq g1) hv
  rw [e, arrV_store]
  try rfl
theorem jx_last {a t n : Nat} {i : Int32} {x : Int64} (hd : decode M.2.1 pc = .ok (.lastore, 1)) (hk : h.2.2.1 a = (jm_a t, n)) (ht : jm_ty t = .long) (hin : vp_in i n)
    (kk : jm_X l G M n0 s0 Z Post (pc + 1) lv st (jm_put h a i.toNatClampNeg (.long x))) : jm_X l G M n0 s0 Z Post pc lv (.long x :: .int i :: .ref a :: st) h := by
  obtain ⟨r, h', a1, a2, a3, a4, a5, v⟩ := kk
  refine ⟨r, h', a1, a2, a3, a4, a5, fun p e s m args below meth c1 H locs ls C n1 n2 n3 hR hS hv => ?_⟩
  have W9 := fun H1 locs1 => v p e s m args below meth c1 H1 locs1 ls C n1 n2 n3
  obtain ⟨hx, hb, hml, hr, hlk, hnm, hown, htb, hts, hK, hN⟩ := C
  obtain ⟨g1, g2, g3⟩ := hR.2.2.2 a t n hk
  have hA := (hK.2 t g2).1 n (h.2.2.2 a)
  rw [ht] at hA
  refine W.last hx hb g3 hA (fun q => by cases q) (by show ¬ (i < 0 ∨ (arrV _ _ _).slots.size ≤ _); rw [arrV_size]; exact hin) rfl rfl hd fun H1 e z oq => ?_
  refine W9 H1 _ (hR.putA hk z oq ?_) (hS.put z oq g1) hv
  rw [e, arrV_store]
  try rfl
theorem jx_bast {a t n : Nat} {i : Int32} {x : Int32} (hd : decode M.2.1 pc = .ok (.bastore, 1)) (hk : h.2.2.1 a = (jm_a t, n)) (ht : jm_ty t = .byte) (hin : vp_in i n)
    (kk : jm_X l G M n0 s0 Z Post (pc + 1) lv st (jm_put h a i.toNatClampNeg (.int x.toInt8.toInt32))) : jm_X l G M n0 s0 Z Post pc lv (.int x :: .int i :: .ref a :: st) h := by
  obtain ⟨r, h', a1, a2, a3, a4, a5, v⟩ := kk
  refine ⟨r, h', a1, a2, a3, a4, a5, fun p e s m args below meth c1 H locs ls C n1 n2 n3 hR hS hv => ?_⟩
  have W9 := fun H1 locs1 => v p e s m args below meth c1 H1 locs1 ls C n1 n2 n3
  obtain ⟨hx, hb, hml, hr, hlk, hnm, hown, htb, hts, hK, hN⟩ := C
  obtain ⟨g1, g2, g3⟩ := hR.2.2.2 a t n hk
  have hA := (hK.2 t g2).1 n (h.2.2.2 a)
  rw [ht] at hA
  refine W.bast hx hb g3 hA (fun q => by cases q) (by show ¬ (i < 0 ∨ (arrV _ _ _).slots.size ≤ _); rw [arrV_size]; exact hin) rfl rfl hd fun H1 e z oq => ?_
  refine W9 H1 _ (hR.putA hk z oq ?_) (hS.put z oq g1) hv
  rw [e, arrV_store]
  try rfl
theorem jx_zast {a t n : Nat} {i : Int32} {x : Int32} (hd : decode M.2.1 pc = .ok (.bastore, 1)) (hk : h.2.2.1 a = (jm_a t, n)) (ht : jm_ty t = .boolean) (hin : vp_in i n)
    (kk : jm_X l G M n0 s0 Z Post (pc + 1) lv st (jm_put h a i.toNatClampNeg (narrow .boolean (.int x)))) : jm_X l G M n0 s0 Z Post pc lv (.int x :: .int i :: .ref a :: st) h := by
  obtain ⟨r, h', a1, a2, a3, a4, a5, v⟩ := kk
  refine ⟨r, h', a1, a2, a3, a4, a5, fun p e s m args below meth c1 H locs ls C n1 n2 n3 hR hS hv => ?_⟩
  have W9 := fun H1 locs1 => v p e s m args below meth c1 H1 locs1 ls C n1 n2 n3
  obtain ⟨hx, hb, hml, hr, hlk, hnm, hown, htb, hts, hK, hN⟩ := C
  obtain ⟨g1, g2, g3⟩ := hR.2.2.2 a t n hk
  have hA := (hK.2 t g2).1 n (h.2.2.2 a)
  rw [ht] at hA
  refine W.zast hx hb g3 hA (fun q => by cases q) (by show ¬ (i < 0 ∨ (arrV _ _ _).slots.size ≤ _); rw [arrV_size]; exact hin) rfl rfl hd fun H1 e z oq => ?_
  refine W9 H1 _ (hR.putA hk z oq ?_) (hS.put z oq g1) hv
  rw [e, arrV_store]
  try rfl
theorem jx_aast {C0 : String} {T0 : u_T} {N0 : Nat} {a t n x c n' : Nat} {i : Int32} (hd : decode M.2.1 pc = .ok (.aastore, 1)) (hk : h.2.2.1 a = (jm_a t, n)) (ht : jm_ty t = .object C0) (hin : vp_in i n) (hx0 : h.2.2.1 x = (jm_o c, n')) (hc : jm_cl[c]? = some (C0, T0, N0))
    (kk : jm_X l G M n0 s0 Z Post (pc + 1) lv st (jm_put h a i.toNatClampNeg (.ref x))) : jm_X l G M n0 s0 Z Post pc lv (.ref x :: .int i :: .ref a :: st) h := by
  obtain ⟨r, h', a1, a2, a3, a4, a5, v⟩ := kk
  refine ⟨r, h', a1, a2, a3, a4, a5, fun p e s m args below meth c1 H locs ls C n1 n2 n3 hR hS hv => ?_⟩
  have W9 := fun H1 locs1 => v p e s m args below meth c1 H1 locs1 ls C n1 n2 n3
  obtain ⟨hx, hb, hml, hr, hlk, hnm, hown, htb, hts, hK, hN⟩ := C
  obtain ⟨g1, g2, g3⟩ := hR.2.2.2 a t n hk
  obtain ⟨f1, r0, f2, cellV, q1, q2, q3, -⟩ := hR.2.2.1 x c n' hx0
  have hcls := (hK.1 c _ hc).2
  have hRA := (hK.2 t g2).2
  rw [ht] at hRA
  obtain ⟨kA, comp, k1, k2, k3, -⟩ := hRA
  have hcomp : comp = G.1.1 c := Option.some.inj (k3.symm.trans hcls.1)
  subst hcomp
  obtain ⟨kC, hkC, -⟩ := hcls.2
  refine W.aast hx hb g3 (fun q h => by cases h) (fun h => by cases h) k1 k2 rfl hkC ⟨fun q => hin (Or.inl q), by show _ < (arrV _ _ _).slots.size; rw [arrV_size]; exact jm_vlt hin⟩ q1 (fun q h => by rw [q3] at h; cases h) (by rw [q2]; exact hkC) (by rw [q2]; exact va_assign hcls) rfl rfl hd fun H1 e z oq => ?_
  refine W9 H1 _ (hR.putA hk z oq ?_) (hS.put z oq g1) hv
  rw [e, arrV_store]
theorem jx_aastN {C0 : String} {a t n : Nat} {i : Int32} (hd : decode M.2.1 pc = .ok (.aastore, 1)) (hk : h.2.2.1 a = (jm_a t, n)) (ht : jm_ty t = .object C0) (hin : vp_in i n)
    (kk : jm_X l G M n0 s0 Z Post (pc + 1) lv st (jm_put h a i.toNatClampNeg .null)) : jm_X l G M n0 s0 Z Post pc lv (.null :: .int i :: .ref a :: st) h := by
  obtain ⟨r, h', a1, a2, a3, a4, a5, v⟩ := kk
  refine ⟨r, h', a1, a2, a3, a4, a5, fun p e s m args below meth c1 H locs ls C n1 n2 n3 hR hS hv => ?_⟩
  have W9 := fun H1 locs1 => v p e s m args below meth c1 H1 locs1 ls C n1 n2 n3
  obtain ⟨hx, hb, hml, hr, hlk, hnm, hown, htb, hts, hK, hN⟩ := C
  obtain ⟨g1, g2, g3⟩ := hR.2.2.2 a t n hk
  have hA := (hK.2 t g2).1 n (h.2.2.2 a)
  rw [ht] at hA
  refine va_WaastN (C := C0) hx hb g3 hA (fun h => by cases h) (by show ¬ (i < 0 ∨ (arrV _ _ _).slots.size ≤ _); rw [arrV_size]; exact hin) rfl rfl hd fun H1 e z oq => ?_
  refine W9 H1 _ (hR.putA hk z oq ?_) (hS.put z oq g1) hv
  rw [e, arrV_store]
theorem jx_alen {a t n : Nat} {v0 : Int32} (hd : decode M.2.1 pc = .ok (.arraylength, 1)) (hk : h.2.2.1 a = (jm_a t, n)) (hv0 : Int32.ofNat n = v0)
    (kk : jm_X l G M n0 s0 Z Post (pc + 1) lv (.int v0 :: st) h) : jm_X l G M n0 s0 Z Post pc lv (.ref a :: st) h := by
  obtain ⟨r, h', a1, a2, a3, a4, a5, v⟩ := kk
  refine ⟨r, h', a1, a2, a3, a4, a5, fun p e s m args below meth c1 H locs ls C n1 n2 n3 hR hS hv => ?_⟩
  have W9 := v p e s m args below meth c1 H locs ls C n1 n2 n3 hR hS hv
  obtain ⟨hx, hb, hml, hr, hlk, hnm, hown, htb, hts, hK, hN⟩ := C
  obtain ⟨g1, g2, g3⟩ := hR.2.2.2 a t n hk
  exact W.alen (n := v0) hx hb g3 ((hK.2 t g2).1 n (h.2.2.2 a)) (by rw [arrV_size]; exact hv0) rfl rfl hd W9
/-- an array of int below ours: an element, the length -/
theorem jm_ro {G : jm_G} {h : jm_H} {H : Heap} {s : State} {a n : Nat} (hR : jm_R G h H) (hN : jm_N G s s.heap) (hb : a < G.2.2) (hk : h.2.2.1 a = (0, n + 1)) : ∃ cell : Cell, H[a]? = some cell ∧ s.isArrayOf cell .int ∧ cell.vm ≠ .unknown ∧ cell.slots.size = n ∧ ∀ j : Nat, j < n → cell.slots[j]? = some (h.2.2.2 a j) := by
  obtain ⟨cell, h1, h2, h3, h4, h5, h6⟩ := hR.2.1.2 a n hb hk
  obtain ⟨-, k, hk1, comp, hk2⟩ := hN.2.1.2 0 (fun _ => .null)
  exact ⟨cell, h1, ⟨h3, k, by rw [h2]; exact hk1, comp, hk2⟩, h4, h5, h6⟩
theorem jx_sald {a n : Nat} {i : Int32} {v0 : Value} (hd : decode M.2.1 pc = .ok (.iaload, 1)) (hb : a < G.2.2) (hk : h.2.2.1 a = (0, n + 1)) (hin : vp_in i n) (hv0 : h.2.2.2 a i.toNatClampNeg = v0)
    (kk : jm_X l G M n0 s0 Z Post (pc + 1) lv (v0 :: st) h) : jm_X l G M n0 s0 Z Post pc lv (.int i :: .ref a :: st) h := by
  obtain ⟨r, h', a1, a2, a3, a4, a5, v⟩ := kk
  refine ⟨r, h', a1, a2, a3, a4, a5, fun p e s m args below meth c1 H locs ls C n1 n2 n3 hR hS hv => ?_⟩
  have W9 := v p e s m args below meth c1 H locs ls C n1 n2 n3 hR hS hv
  obtain ⟨hx, hbc, hml, hr, hlk, hnm, hown, htb, hts, hK, hN⟩ := C
  obtain ⟨cell, g1, g2, g3, g4, g5⟩ := jm_ro hR hN hb hk
  exact W.iald (v := v0) hx hbc g1 g2 g3 (by rw [g4]; exact hin) (by rw [g5 _ (jm_vlt hin), hv0]) rfl rfl hd W9
theorem jx_slen {a n : Nat} {v0 : Int32} (hd : decode M.2.1 pc = .ok (.arraylength, 1)) (hb : a < G.2.2) (hk : h.2.2.1 a = (0, n + 1)) (hv0 : Int32.ofNat n = v0)
    (kk : jm_X l G M n0 s0 Z Post (pc + 1) lv (.int v0 :: st) h) : jm_X l G M n0 s0 Z Post pc lv (.ref a :: st) h := by
  obtain ⟨r, h', a1, a2, a3, a4, a5, v⟩ := kk
  refine ⟨r, h', a1, a2, a3, a4, a5, fun p e s m args below meth c1 H locs ls C n1 n2 n3 hR hS hv => ?_⟩
  have W9 := v p e s m args below meth c1 H locs ls C n1 n2 n3 hR hS hv
  obtain ⟨hx, hbc, hml, hr, hlk, hnm, hown, htb, hts, hK, hN⟩ := C
  obtain ⟨cell, g1, g2, g3, g4, g5⟩ := jm_ro hR hN hb hk
  exact W.alen (n := v0) hx hbc g1 g2 (by rw [g4]; exact hv0) rfl rfl hd W9
theorem jm_S.new {H0 H H1 : Heap} {locs : List Loc} {A : Nat → Prop} (hS : va_S A H0 H locs) (hz : H1.size = H.size + 1) (hq : ∀ q : Nat, q < H.size → H1[q]? = H[q]?) : va_S A H0 H1 locs :=
  ⟨Nat.le_trans hS.1 (by omega), fun x h1 h2 => (hq x (Nat.lt_of_lt_of_le h1 hS.1)).trans (hS.2.1 x h1 h2), hS.2.2⟩
theorem jx_new {c idx n : Nat} {C0 : String} {T : u_T} {N : Nat} {ty : Nat → FieldType} (hd : decode M.2.1 pc = .ok (.new idx, 3)) (hc : jm_cl[c]? = some (C0, T, N)) (hin : ∀ w ∈ u_ws C0 T N, w ∈ jm_W) (hty : ∀ k, k < N → parseFieldDescriptor (T k).2.2.1 = some (ty k))
    (hw1 : Cond.classLink M.1.cls idx C0 ∈ jm_W) (hw2 : Cond.instantiable C0 n ∈ jm_W) (hw3 : Cond.initialized C0 ∈ jm_W)
    (kk : jm_X l G M n0 s0 Z Post (pc + 3) lv (.ref h.1 :: st) (jm_new h (jm_o c) n (fun k => defaultValue (ty k)))) : jm_X l G M n0 s0 Z Post pc lv st h := by
  obtain ⟨r, h', a1, a2, a3, a4, a5, v⟩ := kk
  have b1 : h.1 + 1 ≤ h'.1 := a1
  have b2 : h.2.1 + n ≤ h'.2.1 := a2
  refine ⟨r, h', by omega, by omega, a3, a4, a5, fun p e s m args below meth c1 H locs ls C n1 n2 n3 hR hS hv => ?_⟩
  have W9 := fun H1 => v p e s m args below meth c1 H1 locs ls C n1 (Nat.le_succ_of_le n2) (Nat.le_trans n3 (Nat.le_add_right _ _))
  obtain ⟨hx, hb, hml, hr, hlk, hnm, hown, htb, hts, hK, hN⟩ := C
  have hKn := hK.1 c _ hc
  have e0 : h.1 = H.size := hR.1
  have c1' : h.1 - n0 + 1 ≤ (jm_rm Z r h').cells := by show _ ≤ (Z.2.2 r h').1; omega
  have c2' : h.2.1 - s0 + n ≤ (jm_rm Z r h').slots := by show _ ≤ (Z.2.2 r h').2.1; omega
  refine W.newcK (g := F0 m pc ls st) hx hb hown (hts _ hw1) (hts _ hw2) (hts _ hw3) rfl hd c1' c2' hKn.2.1 e0.symm fun H1 kC hkC e1 z1 o1 => ?_
  refine W.cs (cells' := h.1 + 1 - n0) (slots' := h.2.1 + n - s0) (by omega) (by omega) ?_
  exact W9 H1 (hR.newO hc z1 (fun q hq => o1 q hq) (u_born ty hts hin hKn hkC e1 hty)) (jm_S.new hS (by rw [z1, e0]) (fun q hq => o1 q (by rw [e0]; exact hq))) hv
theorem jx_newa {atype : ArrayType} {t N : Nat} {n : Int32} (hd : decode M.2.1 pc = .ok (.newarray atype, 2)) (ht0 : t < jm_nt) (ht : jm_ty t = newarray.typeOf atype) (hp : ∀ C0, newarray.typeOf atype ≠ .object C0) (hw : Cond.arrayClass (newarray.typeOf atype) ∈ jm_W)
    (hn : ¬ n < 0) (hN : n.toNatClampNeg = N) (hbytes : N * componentBytes (newarray.typeOf atype) ≤ 536870912)
    (kk : jm_X l G M n0 s0 Z Post (pc + 2) lv (.ref h.1 :: st) (jm_new h (jm_a t) N (fun _ => defaultValue (newarray.typeOf atype)))) : jm_X l G M n0 s0 Z Post pc lv (.int n :: st) h := by
  obtain ⟨r, h', a1, a2, a3, a4, a5, v⟩ := kk
  have b1 : h.1 + 1 ≤ h'.1 := a1
  have b2 : h.2.1 + N ≤ h'.2.1 := a2
  refine ⟨r, h', by omega, by omega, a3, a4, a5, fun p e s m args below meth c1 H locs ls C n1 n2 n3 hR hS hv => ?_⟩
  have W9 := fun H1 => v p e s m args below meth c1 H1 locs ls C n1 (Nat.le_succ_of_le n2) (Nat.le_trans n3 (Nat.le_add_right _ _))
  obtain ⟨hx, hb, hml, hr, hlk, hnm, hown, htb, hts, hK, hN9⟩ := C
  have e0 : h.1 = H.size := hR.1
  have c1' : h.1 - n0 + 1 ≤ (jm_rm Z r h').cells := by show _ ≤ (Z.2.2 r h').1; omega
  have c2' : h.2.1 - s0 + N ≤ (jm_rm Z r h').slots := by show _ ≤ (Z.2.2 r h').2.1; omega
  refine va_newaK (g := F0 m pc ls (.int n :: st)) hx hb (hts _ hw) rfl hd rfl hn hN hbytes c1' c2' e0.symm fun H1 cA e1 z1 o1 hAr hNm => ?_
  refine W.cs (cells' := h.1 + 1 - n0) (slots' := h.2.1 + N - s0) (by omega) (by omega) ?_
  have hRA := (hK.2 t ht0).2
  rw [ht] at hRA
  have hcA : cA = G.2.1 t := by
    have h5 : s.vm.findClass ("[" ++ (newarray.typeOf atype).toString) = some (G.2.1 t) := by
      revert hRA hp
      cases newarray.typeOf atype <;> intro hp hRA <;> first | exact hRA | exact absurd rfl (hp _)
    exact Option.some.inj (hNm.symm.trans h5)
  subst hcA
  exact W9 H1 (hR.newA ht0 z1 (fun q hq => o1 q hq) e1) (jm_S.new hS (by rw [z1, e0]) (fun q hq => o1 q (by rw [e0]; exact hq))) hv
theorem jx_newq {C0 : String} {t N idx : Nat} {n : Int32} (hd : decode M.2.1 pc = .ok (.anewarray idx, 3)) (ht0 : t < jm_nt) (ht : jm_ty t = .object C0) (hw1 : Cond.classLink M.1.cls idx C0 ∈ jm_W) (hw : C0 = "CellWorks$Cell")
    (hn : ¬ n < 0) (hN : n.toNatClampNeg = N) (hbytes : N * 4 ≤ 536870912)
    (kk : jm_X l G M n0 s0 Z Post (pc + 3) lv (.ref h.1 :: st) (jm_new h (jm_a t) N (fun _ => .null))) : jm_X l G M n0 s0 Z Post pc lv (.int n :: st) h := by
  obtain ⟨r, h', a1, a2, a3, a4, a5, v⟩ := kk
  have b1 : h.1 + 1 ≤ h'.1 := a1
  have b2 : h.2.1 + N ≤ h'.2.1 := a2
  refine ⟨r, h', by omega, by omega, a3, a4, a5, fun p e s m args below meth c1 H locs ls C n1 n2 n3 hR hS hv => ?_⟩
  have W9 := fun H1 => v p e s m args below meth c1 H1 locs ls C n1 (Nat.le_succ_of_le n2) (Nat.le_trans n3 (Nat.le_add_right _ _))
  obtain ⟨hx, hb, hml, hr, hlk, hnm, hown, htb, hts, hK, hN9⟩ := C
  have e0 : h.1 = H.size := hR.1
  have c1' : h.1 - n0 + 1 ≤ (jm_rm Z r h').cells := by show _ ≤ (Z.2.2 r h').1; omega
  have c2' : h.2.1 - s0 + N ≤ (jm_rm Z r h').slots := by show _ ≤ (Z.2.2 r h').2.1; omega
  subst hN
  refine W.anew (g := F0 m pc ls (.int n :: st)) hx hb hown (hts _ hw1) (va_AO.use (by rw [hw]; exact hN9.2.1.1)) rfl hd rfl hn hbytes c1' c2' fun cA kA comp f1 f2 f3 f4 => ?_
  refine W.cs (cells' := h.1 + 1 - n0) (slots' := h.2.1 + n.toNatClampNeg - s0) (by omega) (by omega) ?_
  have hRA := (hK.2 t ht0).2
  rw [ht] at hRA
  obtain ⟨kA2, comp2, k1, k2, k3, k4⟩ := hRA
  have hcA : cA = G.2.1 t := Option.some.inj (f1.symm.trans k4)
  subst hcA
  generalize hH1 : H.push ({ cls := G.2.1 t, slots := Array.replicate n.toNatClampNeg .null, vm := .none } : Cell) = H1
  have z1 : H1.size = H.size + 1 := by rw [← hH1, Array.size_push]
  have e1 : H1[H.size]? = some (arrV (G.2.1 t) n.toNatClampNeg (fun _ => .null)) := by rw [← hH1, Array.getElem?_push_size, ← arrV_new]
  have o1 : ∀ q : Nat, q < H.size → H1[q]? = H[q]? := fun q hq => by rw [← hH1, Array.getElem?_push, if_neg (Nat.ne_of_lt hq)]
  have e2 : ({ F0 m pc ls (.int n :: st) with pc := (F0 m pc ls (.int n :: st)).pc + 3, stack := .ref H.size :: st } : JFrame) = F0 m (pc + 3) ls (.ref h.1 :: st) := by rw [e0]
  rw [e2]
  exact W9 H1 (hR.newA ht0 (by rw [z1, e0]) (fun q hq => o1 q (by rw [← e0]; exact hq)) (by rw [e0]; exact e1)) (jm_S.new hS z1 o1) hv
theorem jx_objInit {a idx : Nat} (hd : decode M.2.1 pc = .ok (.invokespecial idx, 3)) (hw1 : Cond.methodLink M.1.cls idx Lib.objectInit ∈ jm_W) (hw2 : Cond.instanceMethod Lib.objectInit ∈ jm_W) (hw3 : Cond.code Lib.objectInit ⟨#[0xb1]⟩ 1 none ∈ jm_W)
    (hf : 1 ≤ Z.1) (hlo : (st.map fun v => v.category).sum + 12 ≤ Z.2.1) (kk : jm_X l G M n0 s0 Z Post (pc + 3) lv st h) : jm_X l G M n0 s0 Z Post pc lv (.ref a :: st) h := by
  obtain ⟨r, h', a1, a2, a3, a4, a5, v⟩ := kk
  refine ⟨r, h', a1, a2, a3, a4, a5, fun p e s m args below meth c1 H locs ls C n1 n2 n3 hR hS hv => ?_⟩
  have W9 := v p e s m args below meth c1 H locs ls C n1 n2 n3 hR hS hv
  obtain ⟨hx, hb, hml, hr, hlk, hnm, hown, htb, hts, hK, hN⟩ := C
  exact W.objInit hx hb hown (hts _ hw1) (hts _ hw2) (hts _ hw3) (g := F0 m pc ls (.ref a :: st)) rfl (by rw [hml]; exact hv.1) rfl hd hf (by show 2 * 0 + _ + 12 ≤ Z.2.1; omega) W9
end JH
