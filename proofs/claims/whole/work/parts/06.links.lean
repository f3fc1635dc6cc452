theorem jm_rd_s (h : jm_H) (a k : Nat) (v : Value) : (jm_put h a k v).2.2.2 a k = v := by simp [jm_put]
theorem jm_rd_k {h : jm_H} {a b k k' : Nat} {v w : Value} (hk : k' ≠ k) (p : h.2.2.2 b k' = w) : (jm_put h a k v).2.2.2 b k' = w := by simp [jm_put, hk, p]
theorem jm_rd_a {h : jm_H} {a b k k' : Nat} {v w : Value} (hb : b ≠ a) (p : h.2.2.2 b k' = w) : (jm_put h a k v).2.2.2 b k' = w := by simp [jm_put, hb, p]
theorem jm_ne_oa {h : jm_H} {a b c n t m : Nat} (ha : h.2.2.1 a = (jm_o c, n)) (hb : h.2.2.1 b = (jm_a t, m)) : a ≠ b := fun e => by
  subst e
  exact jm_oa (Prod.mk.inj (ha.symm.trans hb)).1
theorem jm_ne_oo {h : jm_H} {a b c n c' n' : Nat} (ha : h.2.2.1 a = (jm_o c, n)) (hb : h.2.2.1 b = (jm_o c', n')) (hc : c ≠ c') : a ≠ b := fun e => by
  subst e
  exact hc (jm_o_inj (Prod.mk.inj (ha.symm.trans hb)).1)
theorem jm_ne_aa {h : jm_H} {a b c n c' n' : Nat} (ha : h.2.2.1 a = (jm_a c, n)) (hb : h.2.2.1 b = (jm_a c', n')) (hc : c ≠ c') : a ≠ b := fun e => by
  subst e
  exact hc (jm_a_inj (Prod.mk.inj (ha.symm.trans hb)).1)
theorem jm_heq {h h' : jm_H} (h1 : h.1 = h'.1) (h2 : h.2.1 = h'.2.1) (h3 : h.2.2.1 = h'.2.2.1) (h4 : ∀ b j, h.2.2.2 b j = h'.2.2.2 b j) : h = h' := by
  obtain ⟨a, b, c, d⟩ := h
  obtain ⟨a', b', c', d'⟩ := h'
  simp only at h1 h2 h3 h4
  subst h1; subst h2; subst h3
  have : d = d' := funext fun x => funext fun y => h4 x y
  subst this
  rfl
section JT
variable {l : Launch} {G : jm_G} {M : jm_M} {n0 s0 : Nat} {Z : jm_Z} {Post : jm_r → jm_H → Prop} {pc : Nat} {lv : List (Nat × Value)} {st : List Value} {h : jm_H}
theorem jx_topi {x : Int32} (k : ∀ y, y = x → jm_X l G M n0 s0 Z Post pc lv (.int y :: st) h) : jm_X l G M n0 s0 Z Post pc lv (.int x :: st) h := k x rfl
theorem jx_topl {x : Int64} (k : ∀ y, y = x → jm_X l G M n0 s0 Z Post pc lv (.long y :: st) h) : jm_X l G M n0 s0 Z Post pc lv (.long x :: st) h := k x rfl
theorem jx_ati {x x' : Int32} (e : x = x') (k : jm_X l G M n0 s0 Z Post pc lv (.int x' :: st) h) : jm_X l G M n0 s0 Z Post pc lv (.int x :: st) h := e ▸ k
theorem jx_atl {x x' : Int64} (e : x = x') (k : jm_X l G M n0 s0 Z Post pc lv (.long x' :: st) h) : jm_X l G M n0 s0 Z Post pc lv (.long x :: st) h := e ▸ k
theorem jx_ath {h' : jm_H} (e : h = h') (k : jm_X l G M n0 s0 Z Post pc lv st h') : jm_X l G M n0 s0 Z Post pc lv st h := e ▸ k
theorem jx_icmp_eqN {x y : Int32} {off : Int} {tgt : Nat} (a b : Nat) (hd : decode M.2.1 pc = .ok (.if_icmp .eq off, 3)) (hx : x = nI a) (hy : y = nI b) (ha : a < 2 ^ 31) (hb : b < 2 ^ 31) (ht : (pc : Int) + off = (tgt : Int)) (kt : a = b → jm_X l G M n0 s0 Z Post tgt lv st h) (kf : ¬ a = b → jm_X l G M n0 s0 Z Post (pc + 3) lv st h) : jm_X l G M n0 s0 Z Post pc lv (.int y :: .int x :: st) h := by
  subst hx; subst hy
  exact jx_icmp_eq hd ht (fun c => kt ((nI_eq ha hb).mp c)) (fun c => kf (fun e => c ((nI_eq ha hb).mpr e)))
theorem jx_if_eqN {x : Int32} {off : Int} {tgt : Nat} (a : Nat) (hd : decode M.2.1 pc = .ok (.ifCond .eq off, 3)) (hx : x = nI a) (ha : a < 2 ^ 31) (ht : (pc : Int) + off = (tgt : Int)) (kt : a = 0 → jm_X l G M n0 s0 Z Post tgt lv st h) (kf : ¬ a = 0 → jm_X l G M n0 s0 Z Post (pc + 3) lv st h) : jm_X l G M n0 s0 Z Post pc lv (.int x :: st) h := by
  subst hx
  have hb : 0 < 2 ^ 31 := by decide
  have z0 : (0 : Int32) = nI 0 := nI_0.symm
  exact jx_if_eq hd ht (fun c => kt (by rw [z0] at c; exact (nI_eq ha hb).mp c)) (fun c => kf (by rw [z0] at c; exact fun e => c ((nI_eq ha hb).mpr e)))
theorem jx_icmp_neN {x y : Int32} {off : Int} {tgt : Nat} (a b : Nat) (hd : decode M.2.1 pc = .ok (.if_icmp .ne off, 3)) (hx : x = nI a) (hy : y = nI b) (ha : a < 2 ^ 31) (hb : b < 2 ^ 31) (ht : (pc : Int) + off = (tgt : Int)) (kt : ¬ a = b → jm_X l G M n0 s0 Z Post tgt lv st h) (kf : a = b → jm_X l G M n0 s0 Z Post (pc + 3) lv st h) : jm_X l G M n0 s0 Z Post pc lv (.int y :: .int x :: st) h := by
  subst hx; subst hy
  exact jx_icmp_ne hd ht (fun c => kt (fun e => c ((nI_eq ha hb).mpr e))) (fun c => kf ((nI_eq ha hb).mp c))
theorem jx_if_neN {x : Int32} {off : Int} {tgt : Nat} (a : Nat) (hd : decode M.2.1 pc = .ok (.ifCond .ne off, 3)) (hx : x = nI a) (ha : a < 2 ^ 31) (ht : (pc : Int) + off = (tgt : Int)) (kt : ¬ a = 0 → jm_X l G M n0 s0 Z Post tgt lv st h) (kf : a = 0 → jm_X l G M n0 s0 Z Post (pc + 3) lv st h) : jm_X l G M n0 s0 Z Post pc lv (.int x :: st) h := by
  subst hx
  have hb : 0 < 2 ^ 31 := by decide
  have z0 : (0 : Int32) = nI 0 := nI_0.symm
  exact jx_if_ne hd ht (fun c => kt (by rw [z0] at c; exact fun e => c ((nI_eq ha hb).mpr e))) (fun c => kf (by rw [z0] at c; exact (nI_eq ha hb).mp c))
theorem jx_icmp_ltN {x y : Int32} {off : Int} {tgt : Nat} (a b : Nat) (hd : decode M.2.1 pc = .ok (.if_icmp .lt off, 3)) (hx : x = nI a) (hy : y = nI b) (ha : a < 2 ^ 31) (hb : b < 2 ^ 31) (ht : (pc : Int) + off = (tgt : Int)) (kt : a < b → jm_X l G M n0 s0 Z Post tgt lv st h) (kf : b ≤ a → jm_X l G M n0 s0 Z Post (pc + 3) lv st h) : jm_X l G M n0 s0 Z Post pc lv (.int y :: .int x :: st) h := by
  subst hx; subst hy
  exact jx_icmp_lt hd ht (fun c => kt ((nI_ltI ha hb).mp c)) (fun c => kf (Nat.le_of_not_lt fun e => c ((nI_ltI ha hb).mpr e)))
theorem jx_if_ltN {x : Int32} {off : Int} {tgt : Nat} (a : Nat) (hd : decode M.2.1 pc = .ok (.ifCond .lt off, 3)) (hx : x = nI a) (ha : a < 2 ^ 31) (ht : (pc : Int) + off = (tgt : Int)) (kt : a < 0 → jm_X l G M n0 s0 Z Post tgt lv st h) (kf : 0 ≤ a → jm_X l G M n0 s0 Z Post (pc + 3) lv st h) : jm_X l G M n0 s0 Z Post pc lv (.int x :: st) h := by
  subst hx
  have hb : 0 < 2 ^ 31 := by decide
  have z0 : (0 : Int32) = nI 0 := nI_0.symm
  exact jx_if_lt hd ht (fun c => kt (by rw [z0] at c; exact (nI_ltI ha hb).mp c)) (fun c => kf (by rw [z0] at c; exact Nat.le_of_not_lt fun e => c ((nI_ltI ha hb).mpr e)))
theorem jx_icmp_geN {x y : Int32} {off : Int} {tgt : Nat} (a b : Nat) (hd : decode M.2.1 pc = .ok (.if_icmp .ge off, 3)) (hx : x = nI a) (hy : y = nI b) (ha : a < 2 ^ 31) (hb : b < 2 ^ 31) (ht : (pc : Int) + off = (tgt : Int)) (kt : b ≤ a → jm_X l G M n0 s0 Z Post tgt lv st h) (kf : a < b → jm_X l G M n0 s0 Z Post (pc + 3) lv st h) : jm_X l G M n0 s0 Z Post pc lv (.int y :: .int x :: st) h := by
  subst hx; subst hy
  exact jx_icmp_ge hd ht (fun c => kt ((nI_leI hb ha).mp c)) (fun c => kf (Nat.lt_of_not_le fun e => c ((nI_leI hb ha).mpr e)))
theorem jx_if_geN {x : Int32} {off : Int} {tgt : Nat} (a : Nat) (hd : decode M.2.1 pc = .ok (.ifCond .ge off, 3)) (hx : x = nI a) (ha : a < 2 ^ 31) (ht : (pc : Int) + off = (tgt : Int)) (kt : 0 ≤ a → jm_X l G M n0 s0 Z Post tgt lv st h) (kf : a < 0 → jm_X l G M n0 s0 Z Post (pc + 3) lv st h) : jm_X l G M n0 s0 Z Post pc lv (.int x :: st) h := by
  subst hx
  have hb : 0 < 2 ^ 31 := by decide
  have z0 : (0 : Int32) = nI 0 := nI_0.symm
  exact jx_if_ge hd ht (fun c => kt (by rw [z0] at c; exact (nI_leI hb ha).mp c)) (fun c => kf (by rw [z0] at c; exact Nat.lt_of_not_le fun e => c ((nI_leI hb ha).mpr e)))
theorem jx_icmp_gtN {x y : Int32} {off : Int} {tgt : Nat} (a b : Nat) (hd : decode M.2.1 pc = .ok (.if_icmp .gt off, 3)) (hx : x = nI a) (hy : y = nI b) (ha : a < 2 ^ 31) (hb : b < 2 ^ 31) (ht : (pc : Int) + off = (tgt : Int)) (kt : b < a → jm_X l G M n0 s0 Z Post tgt lv st h) (kf : a ≤ b → jm_X l G M n0 s0 Z Post (pc + 3) lv st h) : jm_X l G M n0 s0 Z Post pc lv (.int y :: .int x :: st) h := by
  subst hx; subst hy
  exact jx_icmp_gt hd ht (fun c => kt ((nI_ltI hb ha).mp c)) (fun c => kf (Nat.le_of_not_lt fun e => c ((nI_ltI hb ha).mpr e)))
theorem jx_if_gtN {x : Int32} {off : Int} {tgt : Nat} (a : Nat) (hd : decode M.2.1 pc = .ok (.ifCond .gt off, 3)) (hx : x = nI a) (ha : a < 2 ^ 31) (ht : (pc : Int) + off = (tgt : Int)) (kt : 0 < a → jm_X l G M n0 s0 Z Post tgt lv st h) (kf : a ≤ 0 → jm_X l G M n0 s0 Z Post (pc + 3) lv st h) : jm_X l G M n0 s0 Z Post pc lv (.int x :: st) h := by
  subst hx
  have hb : 0 < 2 ^ 31 := by decide
  have z0 : (0 : Int32) = nI 0 := nI_0.symm
  exact jx_if_gt hd ht (fun c => kt (by rw [z0] at c; exact (nI_ltI hb ha).mp c)) (fun c => kf (by rw [z0] at c; exact Nat.le_of_not_lt fun e => c ((nI_ltI hb ha).mpr e)))
theorem jx_icmp_leN {x y : Int32} {off : Int} {tgt : Nat} (a b : Nat) (hd : decode M.2.1 pc = .ok (.if_icmp .le off, 3)) (hx : x = nI a) (hy : y = nI b) (ha : a < 2 ^ 31) (hb : b < 2 ^ 31) (ht : (pc : Int) + off = (tgt : Int)) (kt : a ≤ b → jm_X l G M n0 s0 Z Post tgt lv st h) (kf : b < a → jm_X l G M n0 s0 Z Post (pc + 3) lv st h) : jm_X l G M n0 s0 Z Post pc lv (.int y :: .int x :: st) h := by
  subst hx; subst hy
  exact jx_icmp_le hd ht (fun c => kt ((nI_leI ha hb).mp c)) (fun c => kf (Nat.lt_of_not_le fun e => c ((nI_leI ha hb).mpr e)))
theorem jx_if_leN {x : Int32} {off : Int} {tgt : Nat} (a : Nat) (hd : decode M.2.1 pc = .ok (.ifCond .le off, 3)) (hx : x = nI a) (ha : a < 2 ^ 31) (ht : (pc : Int) + off = (tgt : Int)) (kt : a ≤ 0 → jm_X l G M n0 s0 Z Post tgt lv st h) (kf : 0 < a → jm_X l G M n0 s0 Z Post (pc + 3) lv st h) : jm_X l G M n0 s0 Z Post pc lv (.int x :: st) h := by
  subst hx
  have hb : 0 < 2 ^ 31 := by decide
  have z0 : (0 : Int32) = nI 0 := nI_0.symm
  exact jx_if_le hd ht (fun c => kt (by rw [z0] at c; exact (nI_leI ha hb).mp c)) (fun c => kf (by rw [z0] at c; exact Nat.lt_of_not_le fun e => c ((nI_leI ha hb).mpr e)))
/-- the method's contract, its end told in full -/
theorem jm_ofE {d : Nat} {args : List Value} {v : Option Value} {h' : jm_H} (hy : plainName M.1.cls = true) (htb0 : M.2.2.2.2 = []) (hlen : (lg_sl args).length ≤ M.2.2.1)
    (k : jm_X l G M h.1 h.2.1 (jm_zn G d h.1 h.2.1) (fun r h9 => r = .inl v ∧ h9 = h') 0 (lv_args 0 args) [] h) : jm_C l G M d args h v h' := by
  obtain ⟨v9, h9, hC, e1, e2⟩ := jm_of (Q := fun v9 h9 => v9 = v ∧ h9 = h') hy htb0 hlen (jx_imp k (fun r h9 q => ⟨v, q.1, rfl, q.2⟩))
  subst e1; subst e2
  exact hC
end JT
/-- a truth as an int -/
def jb (b : Bool) : Int32 := if b then 1 else 0
theorem jm_vinN {n N : Nat} (h : n < N) (hN : N < 2 ^ 31) : vp_in (nI n) N := nI_in h hN
theorem jm_cl0 {n : Nat} (h : n < 2 ^ 31) : (nI n).toNatClampNeg = n := nI_clamp h
theorem jm_atN {h : jm_H} {a n : Nat} {v : Value} (hn : n < 2 ^ 31) (p : h.2.2.2 a n = v) : h.2.2.2 a (nI n).toNatClampNeg = v := by rw [nI_clamp hn]; exact p
theorem jm_putN {h : jm_H} {a n : Nat} {v : Value} (hn : n < 2 ^ 31) : jm_put h a (nI n).toNatClampNeg v = jm_put h a n v := by rw [nI_clamp hn]
theorem jv_CW : jm_Fl 0 := fun r hr => by
  cases hr
  exact ⟨jt_CW, jt_CW_ok, jn_CW⟩
theorem ft_CW_reader : jm_Ft 0 0 (.object "CellWorks$Reader") true "CellWorks" := fun r hr => by
  cases hr
  exact ⟨by decide +kernel, rfl, fun _ => rfl⟩
theorem ft_CW_cells : jm_Ft 0 1 (.object "CellWorks$Cells") true "CellWorks" := fun r hr => by
  cases hr
  exact ⟨by decide +kernel, rfl, fun _ => rfl⟩
theorem ft_CW_builder : jm_Ft 0 2 (.object "CellWorks$Builder") true "CellWorks" := fun r hr => by
  cases hr
  exact ⟨by decide +kernel, rfl, fun _ => rfl⟩
theorem jv_Rd : jm_Fl 1 := fun r hr => by
  cases hr
  exact ⟨jt_Rd, jt_Rd_ok, jn_Rd⟩
theorem ft_Rd_tape : jm_Ft 1 0 (.object "CellWorks$Tape") true "CellWorks$Reader" := fun r hr => by
  cases hr
  exact ⟨by decide +kernel, rfl, fun _ => rfl⟩
theorem ft_Rd_formula : jm_Ft 1 1 (.object "CellWorks$Formula") false "" := fun r hr => by
  cases hr
  exact ⟨by decide +kernel, rfl, fun h => by cases h⟩
theorem ft_Rd_name : jm_Ft 1 2 (.long) false "" := fun r hr => by
  cases hr
  exact ⟨by decide +kernel, rfl, fun h => by cases h⟩
theorem ft_Rd_faultCode : jm_Ft 1 3 (.int) false "" := fun r hr => by
  cases hr
  exact ⟨by decide +kernel, rfl, fun h => by cases h⟩
theorem ft_Rd_faultPlace : jm_Ft 1 4 (.int) false "" := fun r hr => by
  cases hr
  exact ⟨by decide +kernel, rfl, fun h => by cases h⟩
theorem ft_Rd_nodes : jm_Ft 1 5 (.int) false "" := fun r hr => by
  cases hr
  exact ⟨by decide +kernel, rfl, fun h => by cases h⟩
theorem ft_Rd_places : jm_Ft 1 6 (.array (.int)) true "CellWorks$Reader" := fun r hr => by
  cases hr
  exact ⟨by decide +kernel, rfl, fun _ => rfl⟩
theorem jv_Tp : jm_Fl 2 := fun r hr => by
  cases hr
  exact ⟨jt_Tp, jt_Tp_ok, jn_Tp⟩
theorem ft_Tp_bytes : jm_Ft 2 0 (.array (.byte)) true "CellWorks$Tape" := fun r hr => by
  cases hr
  exact ⟨by decide +kernel, rfl, fun _ => rfl⟩
theorem ft_Tp_length : jm_Ft 2 1 (.int) false "" := fun r hr => by
  cases hr
  exact ⟨by decide +kernel, rfl, fun h => by cases h⟩
theorem ft_Tp_next : jm_Ft 2 2 (.int) false "" := fun r hr => by
  cases hr
  exact ⟨by decide +kernel, rfl, fun h => by cases h⟩
theorem ft_Tp_kind : jm_Ft 2 3 (.int) false "" := fun r hr => by
  cases hr
  exact ⟨by decide +kernel, rfl, fun h => by cases h⟩
theorem ft_Tp_start : jm_Ft 2 4 (.int) false "" := fun r hr => by
  cases hr
  exact ⟨by decide +kernel, rfl, fun h => by cases h⟩
theorem ft_Tp_name : jm_Ft 2 5 (.long) false "" := fun r hr => by
  cases hr
  exact ⟨by decide +kernel, rfl, fun h => by cases h⟩
theorem ft_Tp_number : jm_Ft 2 6 (.int) false "" := fun r hr => by
  cases hr
  exact ⟨by decide +kernel, rfl, fun h => by cases h⟩
theorem jv_Fm : jm_Fl 3 := fun r hr => by
  cases hr
  exact ⟨jt_Fm, jt_Fm_ok, jn_Fm⟩
theorem ft_Fm_steps : jm_Ft 3 0 (.array (.int)) true "CellWorks$Formula" := fun r hr => by
  cases hr
  exact ⟨by decide +kernel, rfl, fun _ => rfl⟩
theorem ft_Fm_details : jm_Ft 3 1 (.array (.int)) true "CellWorks$Formula" := fun r hr => by
  cases hr
  exact ⟨by decide +kernel, rfl, fun _ => rfl⟩
theorem ft_Fm_length : jm_Ft 3 2 (.int) false "" := fun r hr => by
  cases hr
  exact ⟨by decide +kernel, rfl, fun h => by cases h⟩
theorem ft_Fm_names : jm_Ft 3 3 (.array (.long)) true "CellWorks$Formula" := fun r hr => by
  cases hr
  exact ⟨by decide +kernel, rfl, fun _ => rfl⟩
theorem ft_Fm_seenKinds : jm_Ft 3 4 (.array (.int)) true "CellWorks$Formula" := fun r hr => by
  cases hr
  exact ⟨by decide +kernel, rfl, fun _ => rfl⟩
theorem ft_Fm_seenValues : jm_Ft 3 5 (.array (.long)) true "CellWorks$Formula" := fun r hr => by
  cases hr
  exact ⟨by decide +kernel, rfl, fun _ => rfl⟩
theorem ft_Fm_nameCount : jm_Ft 3 6 (.int) false "" := fun r hr => by
  cases hr
  exact ⟨by decide +kernel, rfl, fun h => by cases h⟩
theorem jv_Cs : jm_Fl 4 := fun r hr => by
  cases hr
  exact ⟨jt_Cs, jt_Cs_ok, jn_Cs⟩
theorem ft_Cs_rows : jm_Ft 4 0 (.array (.object "CellWorks$Cell")) true "CellWorks$Cells" := fun r hr => by
  cases hr
  exact ⟨by decide +kernel, rfl, fun _ => rfl⟩
theorem ft_Cs_size : jm_Ft 4 1 (.int) false "" := fun r hr => by
  cases hr
  exact ⟨by decide +kernel, rfl, fun h => by cases h⟩
theorem ft_Cs_reads : jm_Ft 4 2 (.array (.long)) true "CellWorks$Cells" := fun r hr => by
  cases hr
  exact ⟨by decide +kernel, rfl, fun _ => rfl⟩
theorem jv_Cl : jm_Fl 5 := fun r hr => by
  cases hr
  exact ⟨jt_Cl, jt_Cl_ok, jn_Cl⟩
theorem ft_Cl_name : jm_Ft 5 0 (.long) true "CellWorks$Cell" := fun r hr => by
  cases hr
  exact ⟨by decide +kernel, rfl, fun _ => rfl⟩
theorem ft_Cl_formula : jm_Ft 5 1 (.object "CellWorks$Formula") false "" := fun r hr => by
  cases hr
  exact ⟨by decide +kernel, rfl, fun h => by cases h⟩
theorem ft_Cl_workedOut : jm_Ft 5 2 (.boolean) false "" := fun r hr => by
  cases hr
  exact ⟨by decide +kernel, rfl, fun h => by cases h⟩
theorem ft_Cl_kind : jm_Ft 5 3 (.int) false "" := fun r hr => by
  cases hr
  exact ⟨by decide +kernel, rfl, fun h => by cases h⟩
theorem ft_Cl_value : jm_Ft 5 4 (.long) false "" := fun r hr => by
  cases hr
  exact ⟨by decide +kernel, rfl, fun h => by cases h⟩
theorem jv_Bd : jm_Fl 6 := fun r hr => by
  cases hr
  exact ⟨jt_Bd, jt_Bd_ok, jn_Bd⟩
theorem ft_Bd_work : jm_Ft 6 0 (.object "CellWorks$Work") true "CellWorks$Builder" := fun r hr => by
  cases hr
  exact ⟨by decide +kernel, rfl, fun _ => rfl⟩
theorem ft_Bd_latest : jm_Ft 6 1 (.array (.long)) true "CellWorks$Builder" := fun r hr => by
  cases hr
  exact ⟨by decide +kernel, rfl, fun _ => rfl⟩
theorem ft_Bd_latestSize : jm_Ft 6 2 (.int) false "" := fun r hr => by
  cases hr
  exact ⟨by decide +kernel, rfl, fun h => by cases h⟩
theorem ft_Bd_total : jm_Ft 6 3 (.int) false "" := fun r hr => by
  cases hr
  exact ⟨by decide +kernel, rfl, fun h => by cases h⟩
theorem jv_Wk : jm_Fl 7 := fun r hr => by
  cases hr
  exact ⟨jt_Wk, jt_Wk_ok, jn_Wk⟩
theorem ft_Wk_stack : jm_Ft 7 0 (.array (.long)) true "CellWorks$Work" := fun r hr => by
  cases hr
  exact ⟨by decide +kernel, rfl, fun _ => rfl⟩
theorem ft_Wk_height : jm_Ft 7 1 (.int) false "" := fun r hr => by
  cases hr
  exact ⟨by decide +kernel, rfl, fun h => by cases h⟩
theorem ft_Wk_kind : jm_Ft 7 2 (.int) false "" := fun r hr => by
  cases hr
  exact ⟨by decide +kernel, rfl, fun h => by cases h⟩
theorem ft_Wk_value : jm_Ft 7 3 (.long) false "" := fun r hr => by
  cases hr
  exact ⟨by decide +kernel, rfl, fun h => by cases h⟩
theorem jv_Md : jm_Fl 8 := fun r hr => by
  cases hr
  exact ⟨jt_Md, jt_Md_ok, jn_Md⟩
theorem ft_Md_thrown : jm_Ft 8 0 (.int) false "" := fun r hr => by
  cases hr
  exact ⟨by decide +kernel, rfl, fun h => by cases h⟩
theorem ft_Md_tape : jm_Ft 8 1 (.array (.int)) true "CellWorksModel" := fun r hr => by
  cases hr
  exact ⟨by decide +kernel, rfl, fun _ => rfl⟩
theorem ft_Md_tapeSize : jm_Ft 8 2 (.int) false "" := fun r hr => by
  cases hr
  exact ⟨by decide +kernel, rfl, fun h => by cases h⟩
theorem ft_Md_faultCode : jm_Ft 8 3 (.int) false "" := fun r hr => by
  cases hr
  exact ⟨by decide +kernel, rfl, fun h => by cases h⟩
theorem ft_Md_faultPlace : jm_Ft 8 4 (.int) false "" := fun r hr => by
  cases hr
  exact ⟨by decide +kernel, rfl, fun h => by cases h⟩
theorem ft_Md_there : jm_Ft 8 5 (.array (.boolean)) true "CellWorksModel" := fun r hr => by
  cases hr
  exact ⟨by decide +kernel, rfl, fun _ => rfl⟩
theorem ft_Md_names : jm_Ft 8 6 (.array (.long)) true "CellWorksModel" := fun r hr => by
  cases hr
  exact ⟨by decide +kernel, rfl, fun _ => rfl⟩
theorem ft_Md_results : jm_Ft 8 7 (.array (.int)) true "CellWorksModel" := fun r hr => by
  cases hr
  exact ⟨by decide +kernel, rfl, fun _ => rfl⟩
theorem ft_Md_values : jm_Ft 8 8 (.array (.long)) true "CellWorksModel" := fun r hr => by
  cases hr
  exact ⟨by decide +kernel, rfl, fun _ => rfl⟩
theorem ft_Md_worked : jm_Ft 8 9 (.array (.boolean)) true "CellWorksModel" := fun r hr => by
  cases hr
  exact ⟨by decide +kernel, rfl, fun _ => rfl⟩
theorem ft_Md_roots : jm_Ft 8 10 (.array (.int)) true "CellWorksModel" := fun r hr => by
  cases hr
  exact ⟨by decide +kernel, rfl, fun _ => rfl⟩
theorem ft_Md_nodeCounts : jm_Ft 8 11 (.array (.int)) true "CellWorksModel" := fun r hr => by
  cases hr
  exact ⟨by decide +kernel, rfl, fun _ => rfl⟩
theorem ft_Md_kinds : jm_Ft 8 12 (.array (.int)) true "CellWorksModel" := fun r hr => by
  cases hr
  exact ⟨by decide +kernel, rfl, fun _ => rfl⟩
theorem ft_Md_ones : jm_Ft 8 13 (.array (.int)) true "CellWorksModel" := fun r hr => by
  cases hr
  exact ⟨by decide +kernel, rfl, fun _ => rfl⟩
theorem ft_Md_twos : jm_Ft 8 14 (.array (.int)) true "CellWorksModel" := fun r hr => by
  cases hr
  exact ⟨by decide +kernel, rfl, fun _ => rfl⟩
theorem ft_Md_threes : jm_Ft 8 15 (.array (.int)) true "CellWorksModel" := fun r hr => by
  cases hr
  exact ⟨by decide +kernel, rfl, fun _ => rfl⟩
theorem ft_Md_amounts : jm_Ft 8 16 (.array (.long)) true "CellWorksModel" := fun r hr => by
  cases hr
  exact ⟨by decide +kernel, rfl, fun _ => rfl⟩
theorem ft_Md_seenResults : jm_Ft 8 17 (.array (.int)) true "CellWorksModel" := fun r hr => by
  cases hr
  exact ⟨by decide +kernel, rfl, fun _ => rfl⟩
theorem ft_Md_seenValues : jm_Ft 8 18 (.array (.long)) true "CellWorksModel" := fun r hr => by
  cases hr
  exact ⟨by decide +kernel, rfl, fun _ => rfl⟩
theorem ft_Md_workedInAll : jm_Ft 8 19 (.int) false "" := fun r hr => by
  cases hr
  exact ⟨by decide +kernel, rfl, fun h => by cases h⟩
theorem ft_Md_built : jm_Ft 8 20 (.array (.long)) true "CellWorksModel" := fun r hr => by
  cases hr
  exact ⟨by decide +kernel, rfl, fun _ => rfl⟩
theorem ft_Md_builtCount : jm_Ft 8 21 (.int) false "" := fun r hr => by
  cases hr
  exact ⟨by decide +kernel, rfl, fun h => by cases h⟩
theorem ft_Md_place : jm_Ft 8 22 (.int) false "" := fun r hr => by
  cases hr
  exact ⟨by decide +kernel, rfl, fun h => by cases h⟩
theorem ft_Md_tokenFrom : jm_Ft 8 23 (.int) false "" := fun r hr => by
  cases hr
  exact ⟨by decide +kernel, rfl, fun h => by cases h⟩
theorem ft_Md_token : jm_Ft 8 24 (.int) false "" := fun r hr => by
  cases hr
  exact ⟨by decide +kernel, rfl, fun h => by cases h⟩
theorem ft_Md_tokenAmount : jm_Ft 8 25 (.long) false "" := fun r hr => by
  cases hr
  exact ⟨by decide +kernel, rfl, fun h => by cases h⟩
theorem ft_Md_newKinds : jm_Ft 8 26 (.array (.int)) true "CellWorksModel" := fun r hr => by
  cases hr
  exact ⟨by decide +kernel, rfl, fun _ => rfl⟩
theorem ft_Md_newOnes : jm_Ft 8 27 (.array (.int)) true "CellWorksModel" := fun r hr => by
  cases hr
  exact ⟨by decide +kernel, rfl, fun _ => rfl⟩
theorem ft_Md_newTwos : jm_Ft 8 28 (.array (.int)) true "CellWorksModel" := fun r hr => by
  cases hr
  exact ⟨by decide +kernel, rfl, fun _ => rfl⟩
theorem ft_Md_newThrees : jm_Ft 8 29 (.array (.int)) true "CellWorksModel" := fun r hr => by
  cases hr
  exact ⟨by decide +kernel, rfl, fun _ => rfl⟩
theorem ft_Md_newAmounts : jm_Ft 8 30 (.array (.long)) true "CellWorksModel" := fun r hr => by
  cases hr
  exact ⟨by decide +kernel, rfl, fun _ => rfl⟩
theorem ft_Md_newPlaces : jm_Ft 8 31 (.array (.int)) true "CellWorksModel" := fun r hr => by
  cases hr
  exact ⟨by decide +kernel, rfl, fun _ => rfl⟩
theorem ft_Md_newCount : jm_Ft 8 32 (.int) false "" := fun r hr => by
  cases hr
  exact ⟨by decide +kernel, rfl, fun h => by cases h⟩
theorem ft_Md_waiting : jm_Ft 8 33 (.array (.int)) true "CellWorksModel" := fun r hr => by
  cases hr
  exact ⟨by decide +kernel, rfl, fun _ => rfl⟩
theorem ft_Md_given : jm_Ft 8 34 (.array (.int)) true "CellWorksModel" := fun r hr => by
  cases hr
  exact ⟨by decide +kernel, rfl, fun _ => rfl⟩
theorem ft_Md_waitingCount : jm_Ft 8 35 (.int) false "" := fun r hr => by
  cases hr
  exact ⟨by decide +kernel, rfl, fun h => by cases h⟩
theorem ft_Md_parts : jm_Ft 8 36 (.array (.int)) true "CellWorksModel" := fun r hr => by
  cases hr
  exact ⟨by decide +kernel, rfl, fun _ => rfl⟩
theorem ft_Md_partCount : jm_Ft 8 37 (.int) false "" := fun r hr => by
  cases hr
  exact ⟨by decide +kernel, rfl, fun h => by cases h⟩
theorem ft_Md_depth : jm_Ft 8 38 (.int) false "" := fun r hr => by
  cases hr
  exact ⟨by decide +kernel, rfl, fun h => by cases h⟩
theorem ft_Md_error : jm_Ft 8 39 (.int) false "" := fun r hr => by
  cases hr
  exact ⟨by decide +kernel, rfl, fun h => by cases h⟩
theorem ft_Md_pile : jm_Ft 8 40 (.array (.int)) true "CellWorksModel" := fun r hr => by
  cases hr
  exact ⟨by decide +kernel, rfl, fun _ => rfl⟩
theorem ft_Md_phases : jm_Ft 8 41 (.array (.int)) true "CellWorksModel" := fun r hr => by
  cases hr
  exact ⟨by decide +kernel, rfl, fun _ => rfl⟩
theorem ft_Md_kept : jm_Ft 8 42 (.array (.long)) true "CellWorksModel" := fun r hr => by
  cases hr
  exact ⟨by decide +kernel, rfl, fun _ => rfl⟩
theorem ft_Md_high : jm_Ft 8 43 (.int) false "" := fun r hr => by
  cases hr
  exact ⟨by decide +kernel, rfl, fun h => by cases h⟩
theorem ft_Md_answer : jm_Ft 8 44 (.long) false "" := fun r hr => by
  cases hr
  exact ⟨by decide +kernel, rfl, fun h => by cases h⟩
theorem fF_Tp_9 : jm_F "CellWorks$Tape" 9 2 0 := ⟨_, _, _, rfl, jl_Tp, by decide, lk_Tp_9⟩
theorem fF_Tp_15 : jm_F "CellWorks$Tape" 15 2 1 := ⟨_, _, _, rfl, jl_Tp, by decide, lk_Tp_15⟩
theorem fF_CW_34 : jm_F "CellWorks" 34 2 1 := ⟨_, _, _, rfl, jl_Tp, by decide, lk_CW_34⟩
theorem fF_Tp_19 : jm_F "CellWorks$Tape" 19 2 2 := ⟨_, _, _, rfl, jl_Tp, by decide, lk_Tp_19⟩
theorem fF_Tp_22 : jm_F "CellWorks$Tape" 22 2 3 := ⟨_, _, _, rfl, jl_Tp, by decide, lk_Tp_22⟩
theorem fF_Rd_61 : jm_F "CellWorks$Reader" 61 2 3 := ⟨_, _, _, rfl, jl_Tp, by decide, lk_Rd_61⟩
theorem fF_Tp_25 : jm_F "CellWorks$Tape" 25 2 4 := ⟨_, _, _, rfl, jl_Tp, by decide, lk_Tp_25⟩
theorem fF_Rd_67 : jm_F "CellWorks$Reader" 67 2 4 := ⟨_, _, _, rfl, jl_Tp, by decide, lk_Rd_67⟩
theorem fF_Tp_28 : jm_F "CellWorks$Tape" 28 2 5 := ⟨_, _, _, rfl, jl_Tp, by decide, lk_Tp_28⟩
theorem fF_Rd_53 : jm_F "CellWorks$Reader" 53 2 5 := ⟨_, _, _, rfl, jl_Tp, by decide, lk_Rd_53⟩
theorem fF_Tp_32 : jm_F "CellWorks$Tape" 32 2 6 := ⟨_, _, _, rfl, jl_Tp, by decide, lk_Tp_32⟩
theorem fF_Rd_89 : jm_F "CellWorks$Reader" 89 2 6 := ⟨_, _, _, rfl, jl_Tp, by decide, lk_Rd_89⟩
theorem fF_Fm_9 : jm_F "CellWorks$Formula" 9 3 0 := ⟨_, _, _, rfl, jl_Fm, by decide, lk_Fm_9⟩
theorem fF_Wk_31 : jm_F "CellWorks$Work" 31 3 0 := ⟨_, _, _, rfl, jl_Fm, by decide, lk_Wk_31⟩
theorem fF_Fm_15 : jm_F "CellWorks$Formula" 15 3 1 := ⟨_, _, _, rfl, jl_Fm, by decide, lk_Fm_15⟩
theorem fF_Wk_35 : jm_F "CellWorks$Work" 35 3 1 := ⟨_, _, _, rfl, jl_Fm, by decide, lk_Wk_35⟩
theorem fF_Fm_18 : jm_F "CellWorks$Formula" 18 3 2 := ⟨_, _, _, rfl, jl_Fm, by decide, lk_Fm_18⟩
theorem fF_Wk_26 : jm_F "CellWorks$Work" 26 3 2 := ⟨_, _, _, rfl, jl_Fm, by decide, lk_Wk_26⟩
theorem fF_Rd_114 : jm_F "CellWorks$Reader" 114 3 2 := ⟨_, _, _, rfl, jl_Fm, by decide, lk_Rd_114⟩
theorem fF_Fm_22 : jm_F "CellWorks$Formula" 22 3 3 := ⟨_, _, _, rfl, jl_Fm, by decide, lk_Fm_22⟩
theorem fF_Cs_55 : jm_F "CellWorks$Cells" 55 3 3 := ⟨_, _, _, rfl, jl_Fm, by decide, lk_Cs_55⟩
theorem fF_Fm_26 : jm_F "CellWorks$Formula" 26 3 4 := ⟨_, _, _, rfl, jl_Fm, by decide, lk_Fm_26⟩
theorem fF_Wk_61 : jm_F "CellWorks$Work" 61 3 4 := ⟨_, _, _, rfl, jl_Fm, by decide, lk_Wk_61⟩
theorem fF_Cs_62 : jm_F "CellWorks$Cells" 62 3 4 := ⟨_, _, _, rfl, jl_Fm, by decide, lk_Cs_62⟩
theorem fF_Fm_29 : jm_F "CellWorks$Formula" 29 3 5 := ⟨_, _, _, rfl, jl_Fm, by decide, lk_Fm_29⟩
theorem fF_Wk_64 : jm_F "CellWorks$Work" 64 3 5 := ⟨_, _, _, rfl, jl_Fm, by decide, lk_Wk_64⟩
theorem fF_Cs_70 : jm_F "CellWorks$Cells" 70 3 5 := ⟨_, _, _, rfl, jl_Fm, by decide, lk_Cs_70⟩
theorem fF_Fm_32 : jm_F "CellWorks$Formula" 32 3 6 := ⟨_, _, _, rfl, jl_Fm, by decide, lk_Fm_32⟩
theorem fF_Wk_58 : jm_F "CellWorks$Work" 58 3 6 := ⟨_, _, _, rfl, jl_Fm, by decide, lk_Wk_58⟩
theorem fF_Cs_50 : jm_F "CellWorks$Cells" 50 3 6 := ⟨_, _, _, rfl, jl_Fm, by decide, lk_Cs_50⟩
theorem fF_Rd_107 : jm_F "CellWorks$Reader" 107 3 6 := ⟨_, _, _, rfl, jl_Fm, by decide, lk_Rd_107⟩
theorem fF_Rd_12 : jm_F "CellWorks$Reader" 12 1 0 := ⟨_, _, _, rfl, jl_Rd, by decide, lk_Rd_12⟩
theorem fF_CW_30 : jm_F "CellWorks" 30 1 0 := ⟨_, _, _, rfl, jl_Rd, by decide, lk_CW_30⟩
theorem fF_Rd_21 : jm_F "CellWorks$Reader" 21 1 1 := ⟨_, _, _, rfl, jl_Rd, by decide, lk_Rd_21⟩
theorem fF_CW_157 : jm_F "CellWorks" 157 1 1 := ⟨_, _, _, rfl, jl_Rd, by decide, lk_CW_157⟩
theorem fF_Rd_25 : jm_F "CellWorks$Reader" 25 1 2 := ⟨_, _, _, rfl, jl_Rd, by decide, lk_Rd_25⟩
theorem fF_CW_149 : jm_F "CellWorks" 149 1 2 := ⟨_, _, _, rfl, jl_Rd, by decide, lk_CW_149⟩
theorem fF_Rd_29 : jm_F "CellWorks$Reader" 29 1 3 := ⟨_, _, _, rfl, jl_Rd, by decide, lk_Rd_29⟩
theorem fF_CW_63 : jm_F "CellWorks" 63 1 3 := ⟨_, _, _, rfl, jl_Rd, by decide, lk_CW_63⟩
theorem fF_Rd_33 : jm_F "CellWorks$Reader" 33 1 4 := ⟨_, _, _, rfl, jl_Rd, by decide, lk_Rd_33⟩
theorem fF_CW_66 : jm_F "CellWorks" 66 1 4 := ⟨_, _, _, rfl, jl_Rd, by decide, lk_CW_66⟩
theorem fF_Rd_36 : jm_F "CellWorks$Reader" 36 1 5 := ⟨_, _, _, rfl, jl_Rd, by decide, lk_Rd_36⟩
theorem fF_Rd_39 : jm_F "CellWorks$Reader" 39 1 6 := ⟨_, _, _, rfl, jl_Rd, by decide, lk_Rd_39⟩
theorem fF_Cs_11 : jm_F "CellWorks$Cells" 11 4 0 := ⟨_, _, _, rfl, jl_Cs, by decide, lk_Cs_11⟩
theorem fF_Bd_43 : jm_F "CellWorks$Builder" 43 4 0 := ⟨_, _, _, rfl, jl_Cs, by decide, lk_Bd_43⟩
theorem fF_Cs_17 : jm_F "CellWorks$Cells" 17 4 1 := ⟨_, _, _, rfl, jl_Cs, by decide, lk_Cs_17⟩
theorem fF_Bd_35 : jm_F "CellWorks$Builder" 35 4 1 := ⟨_, _, _, rfl, jl_Cs, by decide, lk_Bd_35⟩
theorem fF_CW_126 : jm_F "CellWorks" 126 4 1 := ⟨_, _, _, rfl, jl_Cs, by decide, lk_CW_126⟩
theorem fF_Cs_21 : jm_F "CellWorks$Cells" 21 4 2 := ⟨_, _, _, rfl, jl_Cs, by decide, lk_Cs_21⟩
theorem fF_Bd_40 : jm_F "CellWorks$Builder" 40 4 2 := ⟨_, _, _, rfl, jl_Cs, by decide, lk_Bd_40⟩
theorem fF_Wk_9 : jm_F "CellWorks$Work" 9 7 0 := ⟨_, _, _, rfl, jl_Wk, by decide, lk_Wk_9⟩
theorem fF_Wk_15 : jm_F "CellWorks$Work" 15 7 1 := ⟨_, _, _, rfl, jl_Wk, by decide, lk_Wk_15⟩
theorem fF_Wk_19 : jm_F "CellWorks$Work" 19 7 2 := ⟨_, _, _, rfl, jl_Wk, by decide, lk_Wk_19⟩
theorem fF_Bd_72 : jm_F "CellWorks$Builder" 72 7 2 := ⟨_, _, _, rfl, jl_Wk, by decide, lk_Bd_72⟩
theorem fF_Wk_22 : jm_F "CellWorks$Work" 22 7 3 := ⟨_, _, _, rfl, jl_Wk, by decide, lk_Wk_22⟩
theorem fF_Bd_76 : jm_F "CellWorks$Builder" 76 7 3 := ⟨_, _, _, rfl, jl_Wk, by decide, lk_Bd_76⟩
theorem fF_Bd_12 : jm_F "CellWorks$Builder" 12 6 0 := ⟨_, _, _, rfl, jl_Bd, by decide, lk_Bd_12⟩
theorem fF_Bd_18 : jm_F "CellWorks$Builder" 18 6 1 := ⟨_, _, _, rfl, jl_Bd, by decide, lk_Bd_18⟩
theorem fF_Bd_22 : jm_F "CellWorks$Builder" 22 6 2 := ⟨_, _, _, rfl, jl_Bd, by decide, lk_Bd_22⟩
theorem fF_CW_136 : jm_F "CellWorks" 136 6 2 := ⟨_, _, _, rfl, jl_Bd, by decide, lk_CW_136⟩
theorem fF_Bd_26 : jm_F "CellWorks$Builder" 26 6 3 := ⟨_, _, _, rfl, jl_Bd, by decide, lk_Bd_26⟩
theorem fF_CW_133 : jm_F "CellWorks" 133 6 3 := ⟨_, _, _, rfl, jl_Bd, by decide, lk_CW_133⟩
theorem fF_CW_12 : jm_F "CellWorks" 12 0 0 := ⟨_, _, _, rfl, jl_CW, by decide, lk_CW_12⟩
theorem fF_CW_19 : jm_F "CellWorks" 19 0 1 := ⟨_, _, _, rfl, jl_CW, by decide, lk_CW_19⟩
theorem fF_CW_26 : jm_F "CellWorks" 26 0 2 := ⟨_, _, _, rfl, jl_CW, by decide, lk_CW_26⟩
theorem fF_Cl_23 : jm_F "CellWorks$Cell" 23 5 0 := ⟨_, _, _, rfl, jl_Cl, by decide, lk_Cl_23⟩
theorem fF_Cs_25 : jm_F "CellWorks$Cells" 25 5 0 := ⟨_, _, _, rfl, jl_Cl, by decide, lk_Cs_25⟩
theorem fF_Bd_85 : jm_F "CellWorks$Builder" 85 5 0 := ⟨_, _, _, rfl, jl_Cl, by decide, lk_Bd_85⟩
theorem fF_Cl_26 : jm_F "CellWorks$Cell" 26 5 1 := ⟨_, _, _, rfl, jl_Cl, by decide, lk_Cl_26⟩
theorem fF_Bd_59 : jm_F "CellWorks$Builder" 59 5 1 := ⟨_, _, _, rfl, jl_Cl, by decide, lk_Bd_59⟩
theorem fF_Cs_46 : jm_F "CellWorks$Cells" 46 5 1 := ⟨_, _, _, rfl, jl_Cl, by decide, lk_Cs_46⟩
theorem fF_CW_183 : jm_F "CellWorks" 183 5 1 := ⟨_, _, _, rfl, jl_Cl, by decide, lk_CW_183⟩
theorem fF_Cl_9 : jm_F "CellWorks$Cell" 9 5 2 := ⟨_, _, _, rfl, jl_Cl, by decide, lk_Cl_9⟩
theorem fF_Bd_81 : jm_F "CellWorks$Builder" 81 5 2 := ⟨_, _, _, rfl, jl_Cl, by decide, lk_Bd_81⟩
theorem fF_Cs_42 : jm_F "CellWorks$Cells" 42 5 2 := ⟨_, _, _, rfl, jl_Cl, by decide, lk_Cs_42⟩
theorem fF_CW_184 : jm_F "CellWorks" 184 5 2 := ⟨_, _, _, rfl, jl_Cl, by decide, lk_CW_184⟩
theorem fF_Cl_15 : jm_F "CellWorks$Cell" 15 5 3 := ⟨_, _, _, rfl, jl_Cl, by decide, lk_Cl_15⟩
theorem fF_Bd_75 : jm_F "CellWorks$Builder" 75 5 3 := ⟨_, _, _, rfl, jl_Cl, by decide, lk_Bd_75⟩
theorem fF_Cs_36 : jm_F "CellWorks$Cells" 36 5 3 := ⟨_, _, _, rfl, jl_Cl, by decide, lk_Cs_36⟩
theorem fF_CW_96 : jm_F "CellWorks" 96 5 3 := ⟨_, _, _, rfl, jl_Cl, by decide, lk_CW_96⟩
theorem fF_Cl_19 : jm_F "CellWorks$Cell" 19 5 4 := ⟨_, _, _, rfl, jl_Cl, by decide, lk_Cl_19⟩
theorem fF_Bd_80 : jm_F "CellWorks$Builder" 80 5 4 := ⟨_, _, _, rfl, jl_Cl, by decide, lk_Bd_80⟩
theorem fF_Cs_39 : jm_F "CellWorks$Cells" 39 5 4 := ⟨_, _, _, rfl, jl_Cl, by decide, lk_Cs_39⟩
theorem fF_Md_96 : jm_F "CellWorksModel" 96 8 0 := ⟨_, _, _, rfl, jl_Md, by decide, lk_Md_96⟩
theorem fF_Md_7 : jm_F "CellWorksModel" 7 8 1 := ⟨_, _, _, rfl, jl_Md, by decide, lk_Md_7⟩
theorem fF_Md_100 : jm_F "CellWorksModel" 100 8 2 := ⟨_, _, _, rfl, jl_Md, by decide, lk_Md_100⟩
theorem fF_Md_144 : jm_F "CellWorksModel" 144 8 3 := ⟨_, _, _, rfl, jl_Md, by decide, lk_Md_144⟩
theorem fF_Md_147 : jm_F "CellWorksModel" 147 8 4 := ⟨_, _, _, rfl, jl_Md, by decide, lk_Md_147⟩
theorem fF_Md_13 : jm_F "CellWorksModel" 13 8 5 := ⟨_, _, _, rfl, jl_Md, by decide, lk_Md_13⟩
theorem fF_Md_17 : jm_F "CellWorksModel" 17 8 6 := ⟨_, _, _, rfl, jl_Md, by decide, lk_Md_17⟩
theorem fF_Md_21 : jm_F "CellWorksModel" 21 8 7 := ⟨_, _, _, rfl, jl_Md, by decide, lk_Md_21⟩
theorem fF_Md_24 : jm_F "CellWorksModel" 24 8 8 := ⟨_, _, _, rfl, jl_Md, by decide, lk_Md_24⟩
theorem fF_Md_27 : jm_F "CellWorksModel" 27 8 9 := ⟨_, _, _, rfl, jl_Md, by decide, lk_Md_27⟩
theorem fF_Md_30 : jm_F "CellWorksModel" 30 8 10 := ⟨_, _, _, rfl, jl_Md, by decide, lk_Md_30⟩
theorem fF_Md_33 : jm_F "CellWorksModel" 33 8 11 := ⟨_, _, _, rfl, jl_Md, by decide, lk_Md_33⟩
theorem fF_Md_36 : jm_F "CellWorksModel" 36 8 12 := ⟨_, _, _, rfl, jl_Md, by decide, lk_Md_36⟩
theorem fF_Md_39 : jm_F "CellWorksModel" 39 8 13 := ⟨_, _, _, rfl, jl_Md, by decide, lk_Md_39⟩
theorem fF_Md_42 : jm_F "CellWorksModel" 42 8 14 := ⟨_, _, _, rfl, jl_Md, by decide, lk_Md_42⟩
theorem fF_Md_45 : jm_F "CellWorksModel" 45 8 15 := ⟨_, _, _, rfl, jl_Md, by decide, lk_Md_45⟩
theorem fF_Md_48 : jm_F "CellWorksModel" 48 8 16 := ⟨_, _, _, rfl, jl_Md, by decide, lk_Md_48⟩
theorem fF_Md_51 : jm_F "CellWorksModel" 51 8 17 := ⟨_, _, _, rfl, jl_Md, by decide, lk_Md_51⟩
theorem fF_Md_54 : jm_F "CellWorksModel" 54 8 18 := ⟨_, _, _, rfl, jl_Md, by decide, lk_Md_54⟩
theorem fF_Md_254 : jm_F "CellWorksModel" 254 8 19 := ⟨_, _, _, rfl, jl_Md, by decide, lk_Md_254⟩
theorem fF_Md_57 : jm_F "CellWorksModel" 57 8 20 := ⟨_, _, _, rfl, jl_Md, by decide, lk_Md_57⟩
theorem fF_Md_257 : jm_F "CellWorksModel" 257 8 21 := ⟨_, _, _, rfl, jl_Md, by decide, lk_Md_257⟩
theorem fF_Md_103 : jm_F "CellWorksModel" 103 8 22 := ⟨_, _, _, rfl, jl_Md, by decide, lk_Md_103⟩
theorem fF_Md_114 : jm_F "CellWorksModel" 114 8 23 := ⟨_, _, _, rfl, jl_Md, by decide, lk_Md_114⟩
theorem fF_Md_117 : jm_F "CellWorksModel" 117 8 24 := ⟨_, _, _, rfl, jl_Md, by decide, lk_Md_117⟩
theorem fF_Md_123 : jm_F "CellWorksModel" 123 8 25 := ⟨_, _, _, rfl, jl_Md, by decide, lk_Md_123⟩
theorem fF_Md_60 : jm_F "CellWorksModel" 60 8 26 := ⟨_, _, _, rfl, jl_Md, by decide, lk_Md_60⟩
theorem fF_Md_63 : jm_F "CellWorksModel" 63 8 27 := ⟨_, _, _, rfl, jl_Md, by decide, lk_Md_63⟩
theorem fF_Md_66 : jm_F "CellWorksModel" 66 8 28 := ⟨_, _, _, rfl, jl_Md, by decide, lk_Md_66⟩
theorem fF_Md_69 : jm_F "CellWorksModel" 69 8 29 := ⟨_, _, _, rfl, jl_Md, by decide, lk_Md_69⟩
theorem fF_Md_72 : jm_F "CellWorksModel" 72 8 30 := ⟨_, _, _, rfl, jl_Md, by decide, lk_Md_72⟩
theorem fF_Md_75 : jm_F "CellWorksModel" 75 8 31 := ⟨_, _, _, rfl, jl_Md, by decide, lk_Md_75⟩
theorem fF_Md_154 : jm_F "CellWorksModel" 154 8 32 := ⟨_, _, _, rfl, jl_Md, by decide, lk_Md_154⟩
theorem fF_Md_78 : jm_F "CellWorksModel" 78 8 33 := ⟨_, _, _, rfl, jl_Md, by decide, lk_Md_78⟩
theorem fF_Md_81 : jm_F "CellWorksModel" 81 8 34 := ⟨_, _, _, rfl, jl_Md, by decide, lk_Md_81⟩
theorem fF_Md_157 : jm_F "CellWorksModel" 157 8 35 := ⟨_, _, _, rfl, jl_Md, by decide, lk_Md_157⟩
theorem fF_Md_84 : jm_F "CellWorksModel" 84 8 36 := ⟨_, _, _, rfl, jl_Md, by decide, lk_Md_84⟩
theorem fF_Md_166 : jm_F "CellWorksModel" 166 8 37 := ⟨_, _, _, rfl, jl_Md, by decide, lk_Md_166⟩
theorem fF_Md_169 : jm_F "CellWorksModel" 169 8 38 := ⟨_, _, _, rfl, jl_Md, by decide, lk_Md_169⟩
theorem fF_Md_231 : jm_F "CellWorksModel" 231 8 39 := ⟨_, _, _, rfl, jl_Md, by decide, lk_Md_231⟩
theorem fF_Md_87 : jm_F "CellWorksModel" 87 8 40 := ⟨_, _, _, rfl, jl_Md, by decide, lk_Md_87⟩
theorem fF_Md_90 : jm_F "CellWorksModel" 90 8 41 := ⟨_, _, _, rfl, jl_Md, by decide, lk_Md_90⟩
theorem fF_Md_93 : jm_F "CellWorksModel" 93 8 42 := ⟨_, _, _, rfl, jl_Md, by decide, lk_Md_93⟩
theorem fF_Md_225 : jm_F "CellWorksModel" 225 8 43 := ⟨_, _, _, rfl, jl_Md, by decide, lk_Md_225⟩
theorem fF_Md_237 : jm_F "CellWorksModel" 237 8 44 := ⟨_, _, _, rfl, jl_Md, by decide, lk_Md_237⟩
theorem cd_CW_init : jm_cd mm_CW_init 0 := ⟨wc_CW_init, wn_CW, by decide, by decide, by decide +kernel⟩
theorem cd_Rd_init : jm_cd mm_Rd_init 0 := ⟨wc_Rd_init, wn_Rd, by decide, by decide, by decide +kernel⟩
theorem cd_Tp_init : jm_cd mm_Tp_init 0 := ⟨wc_Tp_init, wn_Tp, by decide, by decide, by decide +kernel⟩
theorem cd_Fm_init : jm_cd mm_Fm_init 0 := ⟨wc_Fm_init, wn_Fm, by decide, by decide, by decide +kernel⟩
theorem cd_Cs_init : jm_cd mm_Cs_init 0 := ⟨wc_Cs_init, wn_Cs, by decide, by decide, by decide +kernel⟩
theorem cd_Bd_init : jm_cd mm_Bd_init 0 := ⟨wc_Bd_init, wn_Bd, by decide, by decide, by decide +kernel⟩
theorem cd_Wk_init : jm_cd mm_Wk_init 0 := ⟨wc_Wk_init, wn_Wk, by decide, by decide, by decide +kernel⟩
theorem cd_CW_define : jm_cd mm_CW_define 0 := ⟨wc_CW_define, wn_CW, by decide, by decide, by decide +kernel⟩
theorem cd_Rd_readDefinition : jm_cd mm_Rd_readDefinition 0 := ⟨wc_Rd_readDefinition, wn_Rd, by decide, by decide, by decide +kernel⟩
theorem cd_Fm_clear : jm_cd mm_Fm_clear 0 := ⟨wc_Fm_clear, wn_Fm, by decide, by decide, by decide +kernel⟩
theorem cd_Tp_rewind : jm_cd mm_Tp_rewind 0 := ⟨wc_Tp_rewind, wn_Tp, by decide, by decide, by decide +kernel⟩
theorem cd_Rd_pass : jm_cd mm_Rd_pass 0 := ⟨wc_Rd_pass, wn_Rd, by decide, by decide, by decide +kernel⟩
theorem cd_Tp_readToken : jm_cd mm_Tp_readToken 0 := ⟨wc_Tp_readToken, wn_Tp, by decide, by decide, by decide +kernel⟩
theorem cd_Tp_byteAt : jm_cd mm_Tp_byteAt 1 := ⟨wc_Tp_byteAt, wn_Tp, by decide, by decide, by decide +kernel⟩
theorem cd_Tp_isBlank : jm_cd mm_Tp_isBlank 1 := ⟨wc_Tp_isBlank, wn_Tp, by decide, by decide, by decide +kernel⟩
theorem cd_Tp_isLetter : jm_cd mm_Tp_isLetter 1 := ⟨wc_Tp_isLetter, wn_Tp, by decide, by decide, by decide +kernel⟩
theorem cd_Tp_readWord : jm_cd mm_Tp_readWord 0 := ⟨wc_Tp_readWord, wn_Tp, by decide, by decide, by decide +kernel⟩
theorem cd_Tp_isDigit : jm_cd mm_Tp_isDigit 1 := ⟨wc_Tp_isDigit, wn_Tp, by decide, by decide, by decide +kernel⟩
theorem cd_Tp_kindOfWord : jm_cd mm_Tp_kindOfWord 1 := ⟨wc_Tp_kindOfWord, wn_Tp, by decide, by decide, by decide +kernel⟩
theorem cd_Tp_readNumber : jm_cd mm_Tp_readNumber 0 := ⟨wc_Tp_readNumber, wn_Tp, by decide, by decide, by decide +kernel⟩
theorem cd_Tp_isMark : jm_cd mm_Tp_isMark 1 := ⟨wc_Tp_isMark, wn_Tp, by decide, by decide, by decide +kernel⟩
theorem cd_Rd_refuse : jm_cd mm_Rd_refuse 1 := ⟨wc_Rd_refuse, wn_Rd, by decide, by decide, by decide +kernel⟩
theorem cd_Rd_refuseAt : jm_cd mm_Rd_refuseAt 2 := ⟨wc_Rd_refuseAt, wn_Rd, by decide, by decide, by decide +kernel⟩
theorem cd_Rd_expect : jm_cd mm_Rd_expect 1 := ⟨wc_Rd_expect, wn_Rd, by decide, by decide, by decide +kernel⟩
theorem cd_Rd_sum : jm_cd mm_Rd_sum 1 := ⟨wc_Rd_sum, wn_Rd, by decide, by decide, by decide +kernel⟩
theorem cd_Rd_product : jm_cd mm_Rd_product 1 := ⟨wc_Rd_product, wn_Rd, by decide, by decide, by decide +kernel⟩
theorem cd_Rd_part : jm_cd mm_Rd_part 1 := ⟨wc_Rd_part, wn_Rd, by decide, by decide, by decide +kernel⟩
theorem cd_Fm_addStep : jm_cd mm_Fm_addStep 2 := ⟨wc_Fm_addStep, wn_Fm, by decide, by decide, by decide +kernel⟩
theorem cd_Rd_passNode : jm_cd mm_Rd_passNode 0 := ⟨wc_Rd_passNode, wn_Rd, by decide, by decide, by decide +kernel⟩
theorem cd_Rd_noteName : jm_cd mm_Rd_noteName 0 := ⟨wc_Rd_noteName, wn_Rd, by decide, by decide, by decide +kernel⟩
theorem cd_Fm_addName : jm_cd mm_Fm_addName 1 := ⟨wc_Fm_addName, wn_Fm, by decide, by decide, by decide +kernel⟩
theorem cd_Rd_negated : jm_cd mm_Rd_negated 1 := ⟨wc_Rd_negated, wn_Rd, by decide, by decide, by decide +kernel⟩
theorem cd_Rd_passOpening : jm_cd mm_Rd_passOpening 1 := ⟨wc_Rd_passOpening, wn_Rd, by decide, by decide, by decide +kernel⟩
theorem cd_Rd_lesserOrGreater : jm_cd mm_Rd_lesserOrGreater 1 := ⟨wc_Rd_lesserOrGreater, wn_Rd, by decide, by decide, by decide +kernel⟩
theorem cd_Rd_choice : jm_cd mm_Rd_choice 1 := ⟨wc_Rd_choice, wn_Rd, by decide, by decide, by decide +kernel⟩
theorem cd_Fm_aimHere : jm_cd mm_Fm_aimHere 1 := ⟨wc_Fm_aimHere, wn_Fm, by decide, by decide, by decide +kernel⟩
theorem cd_CW_settle : jm_cd mm_CW_settle 0 := ⟨wc_CW_settle, wn_CW, by decide, by decide, by decide +kernel⟩
theorem cd_Cs_find : jm_cd mm_Cs_find 1 := ⟨wc_Cs_find, wn_Cs, by decide, by decide, by decide +kernel⟩
theorem cd_Cs_indexOf : jm_cd mm_Cs_indexOf 1 := ⟨wc_Cs_indexOf, wn_Cs, by decide, by decide, by decide +kernel⟩
theorem cd_Cs_placeFor : jm_cd mm_Cs_placeFor 1 := ⟨wc_Cs_placeFor, wn_Cs, by decide, by decide, by decide +kernel⟩
theorem cd_Cs_firstInCircle : jm_cd mm_Cs_firstInCircle 2 := ⟨wc_Cs_firstInCircle, wn_Cs, by decide, by decide, by decide +kernel⟩
theorem cd_Cs_dependents : jm_cd mm_Cs_dependents 1 := ⟨wc_Cs_dependents, wn_Cs, by decide, by decide, by decide +kernel⟩
theorem cd_Cs_directReaders : jm_cd mm_Cs_directReaders 1 := ⟨wc_Cs_directReaders, wn_Cs, by decide, by decide, by decide +kernel⟩
theorem cd_Fm_mentions : jm_cd mm_Fm_mentions 1 := ⟨wc_Fm_mentions, wn_Fm, by decide, by decide, by decide +kernel⟩
theorem cd_Cs_trace : jm_cd mm_Cs_trace 0 := ⟨wc_Cs_trace, wn_Cs, by decide, by decide, by decide +kernel⟩
theorem cd_Rd_placeOfName : jm_cd mm_Rd_placeOfName 1 := ⟨wc_Rd_placeOfName, wn_Rd, by decide, by decide, by decide +kernel⟩
theorem cd_Rd_exchangeFormula : jm_cd mm_Rd_exchangeFormula 1 := ⟨wc_Rd_exchangeFormula, wn_Rd, by decide, by decide, by decide +kernel⟩
theorem cd_Cl_init : jm_cd mm_Cl_init 2 := ⟨wc_Cl_init, wn_Cl, by decide, by decide, by decide +kernel⟩
theorem cd_Cs_insert : jm_cd mm_Cs_insert 1 := ⟨wc_Cs_insert, wn_Cs, by decide, by decide, by decide +kernel⟩
theorem cd_CW_fault : jm_cd mm_CW_fault 0 := ⟨wc_CW_fault, wn_CW, by decide, by decide, by decide +kernel⟩
theorem cd_CW_buildAll : jm_cd mm_CW_buildAll 0 := ⟨wc_CW_buildAll, wn_CW, by decide, by decide, by decide +kernel⟩
theorem cd_Cs_all : jm_cd mm_Cs_all 0 := ⟨wc_Cs_all, wn_Cs, by decide, by decide, by decide +kernel⟩
theorem cd_Bd_run : jm_cd mm_Bd_run 2 := ⟨wc_Bd_run, wn_Bd, by decide, by decide, by decide +kernel⟩
theorem cd_Cs_withGround : jm_cd mm_Cs_withGround 1 := ⟨wc_Cs_withGround, wn_Cs, by decide, by decide, by decide +kernel⟩
theorem cd_Cs_isStale : jm_cd mm_Cs_isStale 1 := ⟨wc_Cs_isStale, wn_Cs, by decide, by decide, by decide +kernel⟩
theorem cd_Cs_kindOf : jm_cd mm_Cs_kindOf 1 := ⟨wc_Cs_kindOf, wn_Cs, by decide, by decide, by decide +kernel⟩
theorem cd_Cs_valueOf : jm_cd mm_Cs_valueOf 1 := ⟨wc_Cs_valueOf, wn_Cs, by decide, by decide, by decide +kernel⟩
theorem cd_Bd_workOut : jm_cd mm_Bd_workOut 2 := ⟨wc_Bd_workOut, wn_Bd, by decide, by decide, by decide +kernel⟩
theorem cd_Cs_look : jm_cd mm_Cs_look 1 := ⟨wc_Cs_look, wn_Cs, by decide, by decide, by decide +kernel⟩
theorem cd_Wk_run : jm_cd mm_Wk_run 1 := ⟨wc_Wk_run, wn_Wk, by decide, by decide, by decide +kernel⟩
theorem cd_Wk_take : jm_cd mm_Wk_take 4 := ⟨wc_Wk_take, wn_Wk, by decide, by decide, by decide +kernel⟩
theorem cd_Wk_push : jm_cd mm_Wk_push 1 := ⟨wc_Wk_push, wn_Wk, by decide, by decide, by decide +kernel⟩
theorem cd_Wk_pushResult : jm_cd mm_Wk_pushResult 2 := ⟨wc_Wk_pushResult, wn_Wk, by decide, by decide, by decide +kernel⟩
theorem cd_Wk_pop : jm_cd mm_Wk_pop 0 := ⟨wc_Wk_pop, wn_Wk, by decide, by decide, by decide +kernel⟩
theorem cd_Wk_join : jm_cd mm_Wk_join 3 := ⟨wc_Wk_join, wn_Wk, by decide, by decide, by decide +kernel⟩
theorem cd_Wk_divide : jm_cd mm_Wk_divide 2 := ⟨wc_Wk_divide, wn_Wk, by decide, by decide, by decide +kernel⟩
theorem cd_Ma_min : jm_cd mm_Ma_min 2 := ⟨wc_Ma_min, wn_Ma, by decide, by decide, by decide +kernel⟩
theorem cd_Ma_max : jm_cd mm_Ma_max 2 := ⟨wc_Ma_max, wn_Ma, by decide, by decide, by decide +kernel⟩
theorem cd_Bd_keepNames : jm_cd mm_Bd_keepNames 2 := ⟨wc_Bd_keepNames, wn_Bd, by decide, by decide, by decide +kernel⟩
theorem cd_CW_feed : jm_cd mm_CW_feed 5 := ⟨wc_CW_feed, wn_CW, by decide, by decide, by decide +kernel⟩
theorem cd_Tp_add : jm_cd mm_Tp_add 1 := ⟨wc_Tp_add, wn_Tp, by decide, by decide, by decide +kernel⟩
theorem cd_CW_end : jm_cd mm_CW_end 1 := ⟨wc_CW_end, wn_CW, by decide, by decide, by decide +kernel⟩
theorem cd_CW_remove : jm_cd mm_CW_remove 0 := ⟨wc_CW_remove, wn_CW, by decide, by decide, by decide +kernel⟩
theorem cd_CW_nameOnTape : jm_cd mm_CW_nameOnTape 0 := ⟨wc_CW_nameOnTape, wn_CW, by decide, by decide, by decide +kernel⟩
theorem cd_Tp_onlyName : jm_cd mm_Tp_onlyName 0 := ⟨wc_Tp_onlyName, wn_Tp, by decide, by decide, by decide +kernel⟩
theorem cd_Cs_drop : jm_cd mm_Cs_drop 1 := ⟨wc_Cs_drop, wn_Cs, by decide, by decide, by decide +kernel⟩
theorem cd_CW_build : jm_cd mm_CW_build 0 := ⟨wc_CW_build, wn_CW, by decide, by decide, by decide +kernel⟩
theorem cd_CW_value : jm_cd mm_CW_value 0 := ⟨wc_CW_value, wn_CW, by decide, by decide, by decide +kernel⟩
theorem cd_CW_state : jm_cd mm_CW_state 0 := ⟨wc_CW_state, wn_CW, by decide, by decide, by decide +kernel⟩
theorem cd_CW_readers : jm_cd mm_CW_readers 1 := ⟨wc_CW_readers, wn_CW, by decide, by decide, by decide +kernel⟩
theorem cd_Lo_bitCount : jm_cd mm_Lo_bitCount 1 := ⟨wc_Lo_bitCount, wn_Lo, by decide, by decide, by decide +kernel⟩
theorem cd_CW_built : jm_cd mm_CW_built 2 := ⟨wc_CW_built, wn_CW, by decide, by decide, by decide +kernel⟩
theorem cd_Bd_byteOfLatest : jm_cd mm_Bd_byteOfLatest 2 := ⟨wc_Bd_byteOfLatest, wn_Bd, by decide, by decide, by decide +kernel⟩
theorem cd_CW_count : jm_cd mm_CW_count 1 := ⟨wc_CW_count, wn_CW, by decide, by decide, by decide +kernel⟩
theorem cd_Cs_staleOnes : jm_cd mm_Cs_staleOnes 0 := ⟨wc_Cs_staleOnes, wn_Cs, by decide, by decide, by decide +kernel⟩
theorem cd_Md_init : jm_cd mm_Md_init 0 := ⟨wc_Md_init, wn_Md, by decide, by decide, by decide +kernel⟩
theorem cd_Md_thrown : jm_cd mm_Md_thrown 0 := ⟨wc_Md_thrown, wn_Md, by decide, by decide, by decide +kernel⟩
theorem cd_Md_define : jm_cd mm_Md_define 0 := ⟨wc_Md_define, wn_Md, by decide, by decide, by decide +kernel⟩
theorem cd_Md_next : jm_cd mm_Md_next 0 := ⟨wc_Md_next, wn_Md, by decide, by decide, by decide +kernel⟩
theorem cd_Md_at : jm_cd mm_Md_at 1 := ⟨wc_Md_at, wn_Md, by decide, by decide, by decide +kernel⟩
theorem cd_Md_isBlank : jm_cd mm_Md_isBlank 1 := ⟨wc_Md_isBlank, wn_Md, by decide, by decide, by decide +kernel⟩
theorem cd_Md_isDigit : jm_cd mm_Md_isDigit 1 := ⟨wc_Md_isDigit, wn_Md, by decide, by decide, by decide +kernel⟩
theorem cd_Md_isLetter : jm_cd mm_Md_isLetter 1 := ⟨wc_Md_isLetter, wn_Md, by decide, by decide, by decide +kernel⟩
theorem cd_Md_function : jm_cd mm_Md_function 0 := ⟨wc_Md_function, wn_Md, by decide, by decide, by decide +kernel⟩
theorem cd_Md_wrong : jm_cd mm_Md_wrong 0 := ⟨wc_Md_wrong, wn_Md, by decide, by decide, by decide +kernel⟩
theorem cd_Md_fail : jm_cd mm_Md_fail 2 := ⟨wc_Md_fail, wn_Md, by decide, by decide, by decide +kernel⟩
theorem cd_Md_formula : jm_cd mm_Md_formula 0 := ⟨wc_Md_formula, wn_Md, by decide, by decide, by decide +kernel⟩
theorem cd_Md_part : jm_cd mm_Md_part 0 := ⟨wc_Md_part, wn_Md, by decide, by decide, by decide +kernel⟩
theorem cd_Md_newNode : jm_cd mm_Md_newNode 2 := ⟨wc_Md_newNode, wn_Md, by decide, by decide, by decide +kernel⟩
theorem cd_Md_settle : jm_cd mm_Md_settle 1 := ⟨wc_Md_settle, wn_Md, by decide, by decide, by decide +kernel⟩
theorem cd_Md_isOperator : jm_cd mm_Md_isOperator 1 := ⟨wc_Md_isOperator, wn_Md, by decide, by decide, by decide +kernel⟩
theorem cd_Md_strength : jm_cd mm_Md_strength 1 := ⟨wc_Md_strength, wn_Md, by decide, by decide, by decide +kernel⟩
theorem cd_Md_deeper : jm_cd mm_Md_deeper 0 := ⟨wc_Md_deeper, wn_Md, by decide, by decide, by decide +kernel⟩
theorem cd_Md_await : jm_cd mm_Md_await 1 := ⟨wc_Md_await, wn_Md, by decide, by decide, by decide +kernel⟩
theorem cd_Md_behind : jm_cd mm_Md_behind 0 := ⟨wc_Md_behind, wn_Md, by decide, by decide, by decide +kernel⟩
theorem cd_Md_wants : jm_cd mm_Md_wants 1 := ⟨wc_Md_wants, wn_Md, by decide, by decide, by decide +kernel⟩
theorem cd_Md_give : jm_cd mm_Md_give 1 := ⟨wc_Md_give, wn_Md, by decide, by decide, by decide +kernel⟩
theorem cd_Md_cellOf : jm_cd mm_Md_cellOf 1 := ⟨wc_Md_cellOf, wn_Md, by decide, by decide, by decide +kernel⟩
theorem cd_Md_cellCount : jm_cd mm_Md_cellCount 0 := ⟨wc_Md_cellCount, wn_Md, by decide, by decide, by decide +kernel⟩
theorem cd_Md_readersOf : jm_cd mm_Md_readersOf 1 := ⟨wc_Md_readersOf, wn_Md, by decide, by decide, by decide +kernel⟩
theorem cd_Md_reads : jm_cd mm_Md_reads 2 := ⟨wc_Md_reads, wn_Md, by decide, by decide, by decide +kernel⟩
theorem cd_Md_remove : jm_cd mm_Md_remove 0 := ⟨wc_Md_remove, wn_Md, by decide, by decide, by decide +kernel⟩
theorem cd_Md_isName : jm_cd mm_Md_isName 0 := ⟨wc_Md_isName, wn_Md, by decide, by decide, by decide +kernel⟩
theorem cd_Md_build : jm_cd mm_Md_build 0 := ⟨wc_Md_build, wn_Md, by decide, by decide, by decide +kernel⟩
theorem cd_Md_below : jm_cd mm_Md_below 1 := ⟨wc_Md_below, wn_Md, by decide, by decide, by decide +kernel⟩
theorem cd_Md_buildSet : jm_cd mm_Md_buildSet 1 := ⟨wc_Md_buildSet, wn_Md, by decide, by decide, by decide +kernel⟩
theorem cd_Md_isReady : jm_cd mm_Md_isReady 2 := ⟨wc_Md_isReady, wn_Md, by decide, by decide, by decide +kernel⟩
theorem cd_Md_isStale : jm_cd mm_Md_isStale 1 := ⟨wc_Md_isStale, wn_Md, by decide, by decide, by decide +kernel⟩
theorem cd_Md_resultOf : jm_cd mm_Md_resultOf 1 := ⟨wc_Md_resultOf, wn_Md, by decide, by decide, by decide +kernel⟩
theorem cd_Md_valueOf : jm_cd mm_Md_valueOf 1 := ⟨wc_Md_valueOf, wn_Md, by decide, by decide, by decide +kernel⟩
theorem cd_Md_workOut : jm_cd mm_Md_workOut 1 := ⟨wc_Md_workOut, wn_Md, by decide, by decide, by decide +kernel⟩
theorem cd_Md_work : jm_cd mm_Md_work 1 := ⟨wc_Md_work, wn_Md, by decide, by decide, by decide +kernel⟩
theorem cd_Md_push : jm_cd mm_Md_push 1 := ⟨wc_Md_push, wn_Md, by decide, by decide, by decide +kernel⟩
theorem cd_Md_leaf : jm_cd mm_Md_leaf 1 := ⟨wc_Md_leaf, wn_Md, by decide, by decide, by decide +kernel⟩
theorem cd_Md_both : jm_cd mm_Md_both 3 := ⟨wc_Md_both, wn_Md, by decide, by decide, by decide +kernel⟩
theorem cd_Md_buildAll : jm_cd mm_Md_buildAll 0 := ⟨wc_Md_buildAll, wn_Md, by decide, by decide, by decide +kernel⟩
theorem cd_Md_fault : jm_cd mm_Md_fault 0 := ⟨wc_Md_fault, wn_Md, by decide, by decide, by decide +kernel⟩
theorem cd_Md_value : jm_cd mm_Md_value 0 := ⟨wc_Md_value, wn_Md, by decide, by decide, by decide +kernel⟩
theorem cd_Md_state : jm_cd mm_Md_state 0 := ⟨wc_Md_state, wn_Md, by decide, by decide, by decide +kernel⟩
theorem cd_Md_readers : jm_cd mm_Md_readers 1 := ⟨wc_Md_readers, wn_Md, by decide, by decide, by decide +kernel⟩
theorem cd_Md_howMany : jm_cd mm_Md_howMany 1 := ⟨wc_Md_howMany, wn_Md, by decide, by decide, by decide +kernel⟩
theorem cd_Md_built : jm_cd mm_Md_built 2 := ⟨wc_Md_built, wn_Md, by decide, by decide, by decide +kernel⟩
theorem cd_Md_count : jm_cd mm_Md_count 1 := ⟨wc_Md_count, wn_Md, by decide, by decide, by decide +kernel⟩
theorem cd_Md_feed : jm_cd mm_Md_feed 5 := ⟨wc_Md_feed, wn_Md, by decide, by decide, by decide +kernel⟩
theorem cd_Md_end : jm_cd mm_Md_end 1 := ⟨wc_Md_end, wn_Md, by decide, by decide, by decide +kernel⟩
