/-! the loop of formula() takes these steps -/
section STPR
variable {n0 s0 d : Nat} {Post : jm_r → jm_H → Prop} {h : jm_H} {a : Nat} {B : Nat → Int32} {n : Nat}
def XM (l : Launch) (G : jm_G) (n0 s0 d : Nat) (Post : jm_r → jm_H → Prop) (h : jm_H) (a : Nat) (b : Int32) (s : MS) : Prop := jm_X l G mm_Md_formula n0 s0 (jm_zn G d n0 s0) Post 22 [(1, .int b), (0, .ref a)] [] (mdH h a s)
def XM9 (l : Launch) (G : jm_G) (n0 s0 d : Nat) (Post : jm_r → jm_H → Prop) (h : jm_H) (a : Nat) (s : MS) : Prop := jm_X l G mm_Md_formula n0 s0 (jm_zn G d n0 s0) Post 77 [(0, .ref a)] [] (mdH h a s)
theorem xm_p1F (l : Launch) (G : jm_G) (hd : 1 ≤ d) (hK : MdK h a) {s s' : MS} {cd pl : Int32} (hz : s.1 3 = 0) (hC : jm_C l G mm_Md_part (d - 1) [.ref a] (mdH h a s) (some (.int 1)) (mdH h a s')) (hf : Flo s s' cd pl) (hcd : ¬ cd = 0) (k : XM9 l G n0 s0 d Post h a s') : XM l G n0 s0 d Post h a 1 s := fl_part1 l G hd hK hz hC (fl_flt l G hK (by rw [hf.1]; exact hcd) k)
theorem xm_p0F (l : Launch) (G : jm_G) (hd : 1 ≤ d) (hK : MdK h a) {s s' : MS} {cd pl : Int32} (hz : s.1 3 = 0) (hC : jm_C l G mm_Md_part (d - 1) [.ref a] (mdH h a s) (some (.int 0)) (mdH h a s')) (hf : Flo s s' cd pl) (hcd : ¬ cd = 0) (k : XM9 l G n0 s0 d Post h a s') : XM l G n0 s0 d Post h a 1 s := fl_part0 l G hd hK hz hC (fl_flt l G hK (by rw [hf.1]; exact hcd) k)
theorem xm_bF (l : Launch) (G : jm_G) (hd : 1 ≤ d) (hK : MdK h a) {s s' : MS} {b cd pl : Int32} (hz : s.1 3 = 0) (ht : ¬ s.1 24 = -2) (hC : jm_C l G mm_Md_behind (d - 1) [.ref a] (mdH h a s) (some (.int b)) (mdH h a s')) (hf : Flo s s' cd pl) (hcd : ¬ cd = 0) (k : XM9 l G n0 s0 d Post h a s') : XM l G n0 s0 d Post h a 0 s := fl_beh l G hd hK hz ht hC (fl_flt l G hK (by rw [hf.1]; exact hcd) k)
theorem if12 {p : Prop} [Decidable p] : ¬ (if p then (1 : Int32) else 2) = 0 := by split <;> decide
theorem stp_real (l : Launch) (G : jm_G) (hd : 4 ≤ d) (hK : MdK h a) : StpM B n (XM l G n0 s0 d Post h a 1) (XM l G n0 s0 d Post h a 0) (XM9 l G n0 s0 d Post h a) := by
  have h3 : 3 ≤ d - 1 := by omega
  have h1 : 1 ≤ d := by omega
  refine ⟨?_, ?_, ?_, ?_, ?_, ?_, ?_, ?_, ?_, ?_, ?_, ?_, ?_, ?_, ?_, ?_, ?_⟩
  · intro s c k C t hB hk ht
    have hz := hB.1.2.2.2.2.2.2.2.2
    rcases ht with ⟨e, rfl⟩ | ⟨e, rfl⟩
    · obtain ⟨v, g, hC, rfl, s', rfl, hA, hF⟩ := c_Md_part_num l G (d - 1) h3 hK hB hk e
      exact ⟨s', hA, hF, fun k => fl_part1 l G h1 hK hz hC k⟩
    · obtain ⟨v, g, hC, rfl, s', rfl, hA, hF⟩ := c_Md_part_nam l G (d - 1) h3 hK hB hk e
      exact ⟨s', hA, hF, fun k => fl_part1 l G h1 hK hz hC k⟩
  · intro s c k C hB hk ht
    have hz := hB.1.2.2.2.2.2.2.2.2
    have hko : KoC c := hB.1.2.1.2.2.2.2.2
    rcases ht with e | e | e | e
    · obtain ⟨v, g, hC, rfl, s', rfl, hA⟩ := c_Md_part_numF l G (d - 1) h3 hK hB hk e
      exact ⟨s', hA, xm_p1F l G h1 hK hz hC hA (by decide)⟩
    · obtain ⟨v, g, hC, rfl, s', rfl, hA⟩ := c_Md_part_namF l G (d - 1) h3 hK hB hk e
      exact ⟨s', hA, xm_p1F l G h1 hK hz hC hA (by decide)⟩
    · obtain ⟨v, g, hC, rfl, s', rfl, hA⟩ := c_Md_part_negF l G (d - 1) h3 hK hB hk e
      exact ⟨s', hA, xm_p0F l G h1 hK hz hC hA (by decide)⟩
    · have f79 := fkd_r c.1
      obtain ⟨v, g, hC, rfl, s', rfl, hA⟩ := c_Md_part_funF l G (d - 1) h3 hK hB (Or.inr e) ((mkd_v hko.neg).2.2.2.2.mpr e) (fkd_fun e (hko.fn e)) f79.1 f79.2 hk
      exact ⟨s', hA, xm_p0F l G h1 hK hz hC hA (by decide)⟩
  · intro s c k C hB hk hdp e
    have hz := hB.1.2.2.2.2.2.2.2.2
    obtain ⟨v, g, hC, rfl, s', rfl, hA, hF⟩ := c_Md_part_neg l G (d - 1) h3 hK hB hk hdp e
    exact ⟨s', hA, hF, fun k => fl_part0 l G h1 hK hz hC k⟩
  · intro s c k C hB hk hdp e
    have hz := hB.1.2.2.2.2.2.2.2.2
    obtain ⟨v, g, hC, rfl, s', rfl, hA⟩ := c_Md_part_negD l G (d - 1) h3 hK hB hk hdp e
    exact ⟨s', hA, xm_p0F l G h1 hK hz hC hA (by decide)⟩
  · intro s c k C hB hdp e
    have hz := hB.1.2.2.2.2.2.2.2.2
    obtain ⟨v, g, hC, rfl, s', rfl, hA, hF⟩ := c_Md_part_par l G (d - 1) h3 hK hB hdp e
    exact ⟨s', hA, hF, fun k => fl_part0 l G h1 hK hz hC k⟩
  · intro s c k C hB hdp e
    have hz := hB.1.2.2.2.2.2.2.2.2
    obtain ⟨v, g, hC, rfl, s', rfl, hA⟩ := c_Md_part_parD l G (d - 1) h3 hK hB hdp e
    exact ⟨s', hA, xm_p0F l G h1 hK hz hC hA (by decide)⟩
  · intro s c k C hB hk hdp e e2
    have hz := hB.1.2.2.2.2.2.2.2.2
    have hko : KoC c := hB.1.2.1.2.2.2.2.2
    have f79 := fkd_r c.1
    obtain ⟨v, g, hC, rfl, s', rfl, hA, hF⟩ := c_Md_part_fun l G (d - 1) h3 hK hB (Or.inr e) ((mkd_v hko.neg).2.2.2.2.mpr e) (fkd_fun e (hko.fn e)) f79.1 f79.2 hk hdp e2
    exact ⟨s', hA, hF, fun k => fl_part0 l G h1 hK hz hC k⟩
  · intro s c k C hB hk hdp e e2
    have hz := hB.1.2.2.2.2.2.2.2.2
    have hko : KoC c := hB.1.2.1.2.2.2.2.2
    have f79 := fkd_r c.1
    obtain ⟨v, g, hC, rfl, s', rfl, hA⟩ := c_Md_part_funD l G (d - 1) h3 hK hB (Or.inr e) ((mkd_v hko.neg).2.2.2.2.mpr e) (fkd_fun e (hko.fn e)) f79.1 f79.2 hk hdp e2
    exact ⟨s', hA, xm_p0F l G h1 hK hz hC hA (by decide)⟩
  · intro s c k C hB hk e e2
    have hz := hB.1.2.2.2.2.2.2.2.2
    have hko : KoC c := hB.1.2.1.2.2.2.2.2
    have hko2 : KoC (cu_adv B n c) := KoC.adv
    have f79 := fkd_r c.1
    obtain ⟨v, g, hC, rfl, s', rfl, hA⟩ := c_Md_part_funW l G (d - 1) h3 hK hB (Or.inr e) ((mkd_v hko.neg).2.2.2.2.mpr e) (fkd_fun e (hko.fn e)) f79.1 f79.2 hk (mkd_ne (by decide) e2)
    have hk1 := xm_p0F (n0 := n0) (s0 := s0) (Post := Post) l G h1 hK hz hC hA if12
    simp only [(mkd_v hko2.neg).2.1] at hA
    exact ⟨s', hA, hk1⟩
  · intro s c k C hB q3 q2 q45 q40 q4 q5 q6
    have hz := hB.1.2.2.2.2.2.2.2.2
    have hko : KoC c := hB.1.2.1.2.2.2.2.2
    have m3 : s.1 24 = mkd c.1 := hB.1.2.1.2.2.1
    have mv := mkd_v hko.neg
    obtain ⟨v, g, hC, rfl, s', rfl, hA⟩ := c_Md_part_bad l G (d - 1) h3 hK hB (by rw [m3, mv.2.2.2.1]; exact q3) (by rw [m3, mv.2.2.1]; exact q2) (by rw [m3]; exact mkd_ne (by decide) q45) (by rw [m3]; exact mkd_ne (by decide) q40) (by rw [m3, mv.2.2.2.2]; rintro (e | e | e); exact q4 e; exact q5 e; exact q6 e)
    have hk1 := xm_p0F (n0 := n0) (s0 := s0) (Post := Post) l G h1 hK hz hC hA if12
    simp only [m3, mv.2.1] at hA
    exact ⟨s', hA, hk1⟩
  · intro s c k C t kd q hA hk e
    have hz := hA.1.2.2.2.2.2.2.2.2
    have hko : KoC c := hA.1.2.1.2.2.2.2.2
    have m3 : s.1 24 = mkd c.1 := hA.1.2.1.2.2.1
    have mv := mkd_v hko.neg
    rcases e with ⟨e, rfl, rfl⟩ | ⟨e, rfl, rfl⟩ | ⟨e, rfl, rfl⟩ | ⟨e, rfl, rfl⟩
    · obtain ⟨v, g, hC, rfl, s', rfl, ⟨lo, hB⟩, hF⟩ := c_Md_behind_s43 l G (d - 1) h3 hK hA hk e
      exact ⟨s', lo, hB, hF, fun k => fl_beh l G h1 hK hz (by rw [m3, mv.1, e]; decide) hC k⟩
    · obtain ⟨v, g, hC, rfl, s', rfl, ⟨lo, hB⟩, hF⟩ := c_Md_behind_s45 l G (d - 1) h3 hK hA hk e
      exact ⟨s', lo, hB, hF, fun k => fl_beh l G h1 hK hz (by rw [m3, mv.1, e]; decide) hC k⟩
    · obtain ⟨v, g, hC, rfl, s', rfl, ⟨lo, hB⟩, hF⟩ := c_Md_behind_s42 l G (d - 1) h3 hK hA hk e
      exact ⟨s', lo, hB, hF, fun k => fl_beh l G h1 hK hz (by rw [m3, mv.1, e]; decide) hC k⟩
    · obtain ⟨v, g, hC, rfl, s', rfl, ⟨lo, hB⟩, hF⟩ := c_Md_behind_s47 l G (d - 1) h3 hK hA hk e
      exact ⟨s', lo, hB, hF, fun k => fl_beh l G h1 hK hz (by rw [m3, mv.1, e]; decide) hC k⟩
  · intro s c k C t hA hk e
    have hz := hA.1.2.2.2.2.2.2.2.2
    have hko : KoC c := hA.1.2.1.2.2.2.2.2
    have m3 : s.1 24 = mkd c.1 := hA.1.2.1.2.2.1
    have mv := mkd_v hko.neg
    rcases e with e | e | e | e
    · obtain ⟨v, g, hC, rfl, s', rfl, hF⟩ := c_Md_behind_s43F l G (d - 1) h3 hK hA hk e
      exact ⟨s', hF, xm_bF l G h1 hK hz (by rw [m3, mv.1, e]; decide) hC hF (by decide)⟩
    · obtain ⟨v, g, hC, rfl, s', rfl, hF⟩ := c_Md_behind_s45F l G (d - 1) h3 hK hA hk e
      exact ⟨s', hF, xm_bF l G h1 hK hz (by rw [m3, mv.1, e]; decide) hC hF (by decide)⟩
    · obtain ⟨v, g, hC, rfl, s', rfl, hF⟩ := c_Md_behind_s42F l G (d - 1) h3 hK hA hk e
      exact ⟨s', hF, xm_bF l G h1 hK hz (by rw [m3, mv.1, e]; decide) hC hF (by decide)⟩
    · obtain ⟨v, g, hC, rfl, s', rfl, hF⟩ := c_Md_behind_s47F l G (d - 1) h3 hK hA hk e
      exact ⟨s', hF, xm_bF l G h1 hK hz (by rw [m3, mv.1, e]; decide) hC hF (by decide)⟩
  · intro s c k C t hA e hst
    have hz := hA.1.2.2.2.2.2.2.2.2
    have m3 : s.1 24 = -2 := hA.1.2.1.2.2.1.trans (by rw [e]; first | done | rfl)
    have hw : s.1 35 = nI C.length := hA.1.2.2.2.2.2.2.2.1
    match C, hA, hst, hw with
    | [], hA, hst, hw => exact ⟨s, hA, Fix.rf, fun k => fl_end l G hK hz m3 hw k⟩
    | f :: C, hA, hst, hw =>
      obtain ⟨nx, hW⟩ := hA.weak
      have hlf := Ctx.lf hW.2.2.2.2.2
      have hld := lfts_dpt (f :: C)
      have hlc : (f :: C).length = C.length + 1 := rfl
      have := hW.2.2.2.1
      have := hW.2.2.2.2.1
      obtain ⟨v, g, hC, rfl, s', rfl, hB, hF⟩ := c_Md_behind_end l G (d - 1) h3 hK hA hst e
      exact ⟨s', hB, hF, fun k => fl_behE l G h1 hK hz m3 hw (by omega) hC (fl_end l G hK hB.1.2.2.2.2.2.2.2.2 (hB.1.2.1.2.2.1.trans (by rw [e]; first | done | rfl)) hB.1.2.2.2.2.2.2.2.1 k)⟩
  · intro s c k C t hA q43 q45 q42 q47 q0 q41 q44
    have hz := hA.1.2.2.2.2.2.2.2.2
    have hko : KoC c := hA.1.2.1.2.2.2.2.2
    have m3 : s.1 24 = mkd c.1 := hA.1.2.1.2.2.1
    have mv := mkd_v hko.neg
    by_cases e0 : c.1 = 0
    · have m2 : s.1 24 = -2 := m3.trans (mv.1.mpr e0)
      obtain ⟨v, g, hC, rfl, s', rfl, hF⟩ := c_Md_behind_endW l G (d - 1) h3 hK hA (q0 e0) e0
      rw [if_neg (by rw [e0]; decide)]
      have hw : s.1 35 = nI C.length := hA.1.2.2.2.2.2.2.2.1
      match C, hA, q0, hw with
      | [], hA, q0, hw => exact absurd rfl (q0 e0)
      | f :: C, hA, q0, hw =>
        obtain ⟨nx, hW⟩ := hA.weak
        have hlf := Ctx.lf hW.2.2.2.2.2
        have hld := lfts_dpt (f :: C)
        have hlc : (f :: C).length = C.length + 1 := rfl
        have := hW.2.2.2.1
        have := hW.2.2.2.2.1
        exact ⟨s', hF, fun k => fl_behE l G h1 hK hz m2 hw (by omega) hC (fl_flt l G hK (by rw [hF.1]; decide) k)⟩
    · have m2 : ¬ s.1 24 = -2 := by rw [m3, mv.1]; exact e0
      by_cases e41 : c.1 = 41
      · rw [if_neg (by rw [e41]; decide)]
        rcases q41 e41 with e | ⟨f, C', t', e, f7, f9, fg⟩
        · obtain ⟨v, g, hC, rfl, s', rfl, hF⟩ := c_Md_behind_n41 l G (d - 1) h3 hK hA e e41
          exact ⟨s', hF, xm_bF l G h1 hK hz m2 hC hF (by decide)⟩
        · obtain ⟨v, g, hC, rfl, s', rfl, hF⟩ := c_Md_behind_f41W l G (d - 1) h3 hK hA e f7 f9 fg e41
          exact ⟨s', hF, xm_bF l G h1 hK hz m2 hC hF (by decide)⟩
      · by_cases e44 : c.1 = 44
        · rw [if_neg (by rw [e44]; decide)]
          rcases q44 e44 with e | ⟨f, C', t', e, f1 | ⟨f7, f9, fg⟩⟩
          · obtain ⟨v, g, hC, rfl, s', rfl, hF⟩ := c_Md_behind_n44 l G (d - 1) h3 hK hA e e44
            exact ⟨s', hF, xm_bF l G h1 hK hz m2 hC hF (by decide)⟩
          · obtain ⟨v, g, hC, rfl, s', rfl, hF⟩ := c_Md_behind_b44 l G (d - 1) h3 hK hA e f1 e44
            exact ⟨s', hF, xm_bF l G h1 hK hz m2 hC hF (by decide)⟩
          · obtain ⟨v, g, hC, rfl, s', rfl, hF⟩ := c_Md_behind_f44W l G (d - 1) h3 hK hA e f7 f9 fg e44
            exact ⟨s', hF, xm_bF l G h1 hK hz m2 hC hF (by decide)⟩
        · obtain ⟨v, g, hC, rfl, s', rfl, hF⟩ := c_Md_behind_bad l G (d - 1) h3 hK hA (by rw [m3]; exact mkd_ne (by decide) q43) (by rw [m3]; exact mkd_ne (by decide) q45) (by rw [m3]; exact mkd_ne (by decide) q42) (by rw [m3]; exact mkd_ne (by decide) q47) m2 (by rw [m3]; exact mkd_ne (by decide) e41) (by rw [m3]; exact mkd_ne (by decide) e44)
          have hk1 := xm_bF (n0 := n0) (s0 := s0) (Post := Post) l G h1 hK hz m2 hC hF if12
          simp only [m3, mv.2.1] at hF
          exact ⟨s', hF, hk1⟩
  · intro s c k C t f C' t' hA e f7 f9 fg e44
    have hz := hA.1.2.2.2.2.2.2.2.2
    have hko : KoC c := hA.1.2.1.2.2.2.2.2
    have m3 : s.1 24 = mkd c.1 := hA.1.2.1.2.2.1
    have mv := mkd_v hko.neg
    obtain ⟨v, g, hC, rfl, s', rfl, hB, hF⟩ := c_Md_behind_f44 l G (d - 1) h3 hK hA e f7 f9 fg e44
    exact ⟨s', hB, hF, fun k => fl_beh l G h1 hK hz (by rw [m3, mv.1, e44]; decide) hC k⟩
  · intro s c k C t f C' t' hA e f7 f9 fg e41
    have hz := hA.1.2.2.2.2.2.2.2.2
    have hko : KoC c := hA.1.2.1.2.2.2.2.2
    have m3 : s.1 24 = mkd c.1 := hA.1.2.1.2.2.1
    have mv := mkd_v hko.neg
    obtain ⟨v, g, hC, rfl, s', rfl, hB, hF⟩ := c_Md_behind_f41 l G (d - 1) h3 hK hA e f7 f9 fg e41
    exact ⟨s', hB, hF, fun k => fl_beh l G h1 hK hz (by rw [m3, mv.1, e41]; decide) hC k⟩
  · intro s c k C t f C' t' hA e f1 e41
    have hz := hA.1.2.2.2.2.2.2.2.2
    have hko : KoC c := hA.1.2.1.2.2.2.2.2
    have m3 : s.1 24 = mkd c.1 := hA.1.2.1.2.2.1
    have mv := mkd_v hko.neg
    obtain ⟨v, g, hC, rfl, s', rfl, hB, hF⟩ := c_Md_behind_b41 l G (d - 1) h3 hK hA e f1 e41
    exact ⟨s', hB, hF, fun k => fl_beh l G h1 hK hz (by rw [m3, mv.1, e41]; decide) hC k⟩
end STPR
/-- what reading a formula comes to, at the reference -/
def OutM (z s' : MS) (B : Nat → Int32) (n : Nat) (res : PR) : Prop := Fix z s' ∧ match res with
  | .inl e => s'.1 3 = e.1 ∧ s'.1 4 = nI e.2
  | .inr y => if y.2.1.1 = 0 then ASt s' B n y.2.1 y.2.2 [] y.1 else s'.1 3 = 2 ∧ s'.1 4 = nI y.2.1.2.1
