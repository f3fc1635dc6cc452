theorem jm_R.newX {G : jm_G} {h : jm_H} {H H1 : Heap} {f : Nat → Value} {n : Nat} (hR : jm_R G h H) (hz : H1.size = h.1 + 1) (hq : ∀ q : Nat, q < h.1 → H1[q]? = H[q]?) : jm_R G (jm_new h 0 n f) H1 := by
  have hlt : ∀ {a c n : Nat}, h.2.2.1 a = (jm_o c, n) → a < H.size := fun hk => hR.lt hk
  have hltA : ∀ {a t n : Nat}, h.2.2.1 a = (jm_a t, n) → a < H.size := fun hk => hR.ltA hk
  obtain ⟨h1, h2, h3, h4⟩ := hR
  refine ⟨hz.symm, h2.new h1 hz hq, fun b c' n' hb => ?_, fun b t' n' hb => ?_⟩
  · have e : b ≠ h.1 := fun e => by
      subst e
      simp only [jm_new, if_true] at hb
      have := (Prod.mk.inj hb).1
      unfold jm_o at this
      omega
    have hb' : h.2.2.1 b = (jm_o c', n') := by
      simp only [jm_new, if_neg e] at hb
      exact hb
    obtain ⟨g1, r', g2, g3⟩ := h3 b c' n' hb'
    refine ⟨g1, r', g2, ?_⟩
    rw [jm_new_ne h _ _ f e]
    exact g3.kept (hq b (by rw [h1]; exact hlt hb'))
  · have e : b ≠ h.1 := fun e => by
      subst e
      simp only [jm_new, if_true] at hb
      have := (Prod.mk.inj hb).1
      unfold jm_a at this
      omega
    have hb' : h.2.2.1 b = (jm_a t', n') := by
      simp only [jm_new, if_neg e] at hb
      exact hb
    obtain ⟨g1, g2, g3⟩ := h4 b t' n' hb'
    refine ⟨g1, g2, ?_⟩
    rw [jm_new_ne h _ _ f e, hq b (by rw [h1]; exact hltA hb')]
    exact g3
theorem jm_same_frames {T U : State} {fs : List Frame} {L : List Loc} {c n : Nat} (h : (T.setFrames fs).sameButNew U L c n) : T.sameButNew U L c n := by
  obtain ⟨h1, h2⟩ := h
  refine ⟨?_, h2⟩
  rw [State.setFrames_setFrames] at h1
  exact h1
def jm_thr (h : jm_H) : jm_H := jm_new h 0 6 (fun _ => .null)
set_option maxHeartbeats 4000000 in
theorem jx_throw {l : Launch} {G : jm_G} {M : jm_M} {n0 s0 d : Nat} {Post : jm_r → jm_H → Prop} {pc : Nat} {lv : List (Nat × Value)} {h : jm_H} {E tx : String} {inw ic ix is_ : Nat} {rx : ByteArray} (hl : l.stackTraces = false) (hM : M.1.cls = "CellWorks") (htb0 : M.2.2.2.2 = []) (hk : th_ok E ic ix rx) (hS0 : (is_, tx) ∈ jm_NS)
    (hw1 : Cond.classLink "CellWorks" inw E ∈ jm_W) (hw2 : Cond.instantiable E 6 ∈ jm_W) (hw3 : Cond.initialized E ∈ jm_W) (d0 : decode M.2.1 pc = .ok (.new inw, 3)) (d3 : decode M.2.1 (pc + 3) = .ok (.dup, 1)) (d4 : decode M.2.1 (pc + 3 + 1) = .ok (.ldc is_, 2)) (d6 : decode M.2.1 (pc + 3 + 1 + 2) = .ok (.invokespecial ic, 3)) (d9 : decode M.2.1 (pc + 3 + 1 + 2 + 3) = .ok (.athrow, 1))
    (hd : 6 ≤ d) (hp : Post (.inr E) (jm_thr h)) : jm_X l G M n0 s0 (jm_zn G d n0 s0) Post pc lv [] h := by
  refine ⟨.inr E, jm_thr h, Nat.le_succ _, Nat.le_add_right _ _, Nat.le_refl _, Nat.le_refl _, hp, fun p e s m args below meth c H locs ls C n1 n2 n3 hR hS hv => ?_⟩
  obtain ⟨hx, hb, hml, hr, hlk, hnm, hown, htb, hts, hK, hN⟩ := C
  rw [hM] at hown
  rw [htb0] at htb
  intro T hT X
  have c1 : h.1 - n0 ≤ (jm_rm (jm_zn G d n0 s0) (.inr E) (jm_thr h)).cells := by show h.1 - n0 ≤ h.1 + 1 - n0; omega
  have c2 : h.2.1 - s0 ≤ (jm_rm (jm_zn G d n0 s0) (.inr E) (jm_thr h)).slots := by show h.2.1 - s0 ≤ h.2.1 + 6 - s0; omega
  have X' := jm_rebase X c1 c2
  have htr : e.platform.stackTraces = false := by rw [X.admits.platform]; exact hl
  have hsz : h.1 = H.size := hR.1
  generalize hs' : T.setFrames (.invoking m args :: below) = s' at X'
  have hvm : s'.vm = T.vm := by rw [← hs']; rfl
  have hhp : s'.heap = T.heap := by rw [← hs']; rfl
  have hW0 : s.WarmedH s'.vm := by rw [hvm]; exact X.warmed
  have hts' : ∀ w ∈ jm_W, w.before args s' = true := fun w hw => word_at hW0 (jm_W_good w hw) (hts w hw)
  have hN' : jm_N G s' s'.heap := by rw [← hs']; exact (jm_N.warm X.warmed hT hS hN).frames
  have hown' : s'.vm.findClass "CellWorks" = some m.cls := by rw [hW0.alike.findClass]; exact hown
  obtain ⟨aS, hZ⟩ := hN'.2.2.2.2.2.2 (is_, tx) hS0
  obtain ⟨cE, kE, hfE, hkE, -, -, -, -⟩ := Cond.instantiable_spec (hts' _ hw2)
  have key : W p l e { jm_rm (jm_zn G d n0 s0) (.inr E) (jm_thr h) with cells := (jm_rm (jm_zn G d n0 s0) (.inr E) (jm_thr h)).cells - (h.1 - n0), slots := (jm_rm (jm_zn G d n0 s0) (.inr E) (jm_thr h)).slots - (h.2.1 - s0) } s' m args below meth c H [] 0 0 (fun U => U.status = .running ∧ Ended U below (.threw H.size) ∧ s'.WarmedH U.vm ∧ s'.sameButNew ({ U with vm := s'.vm } : State) [] 1 6 ∧ ∃ ce, U.heap[H.size]? = some ce ∧ ce.cls = cE ∧ ce.vm = .none) (F0 m pc ls []) := by
    refine W.newcK (g := F0 m pc ls []) hx hb hown' (hts' _ hw1) (hts' _ hw2) (hts' _ hw3) rfl d0 (by show 0 + 1 ≤ h.1 + 1 - n0 - (h.1 - n0); omega) (by show 0 + 6 ≤ h.2.1 + 6 - s0 - (h.2.1 - s0); omega) hfE rfl fun H1 kC hkC e1 z1 o1 => ?_
    refine lv_dup hx hb d3 rfl ?_
    refine va_ldcS hx hb hown' hZ d4 ?_
    intro T1 hT1 X1
    cases Option.some.inj (hkE.symm.trans hkC)
    obtain ⟨U, u1, u2, u3, u4, u5, u6⟩ := th_made X1 hx htr hown' hk (th_words hk hts' hN') hfE hkE (by rw [hT1]; exact e1) (by rw [hhp, hT]; exact Nat.le_refl _) (msg := .ref aS) rfl (g := F0 m (pc + 3 + 1 + 2) ls [.ref aS, .ref H.size, .ref H.size]) rfl (by rw [hml]; exact hv.1) rfl rfl rfl (by rw [hb]; exact d6) (by rw [hb]; exact d9) htb (by show 5 < d; omega) (by show 2 * 0 + 82 ≤ jm_lo d; unfold jm_lo; omega) hlk
    exact ⟨U, u1, u2, u3, u4, u5, u6⟩
  obtain ⟨U, st, u2, u3, u4, u5, ce, u6, u7, u8⟩ := key T hT X'
  have hsame : T.sameButNew ({ U with vm := T.vm } : State) [] 1 6 := by
    rw [hvm] at u5
    rw [← hs'] at u5
    exact jm_same_frames u5
  have hold : ∀ q : Nat, q < H.size → U.heap[q]? = H[q]? := fun q hq => by
    have hq' : T.heap[q]? = some (T.heap[q]'(by rw [hT]; exact hq)) := Array.getElem?_eq_getElem _
    have := State.sameButNew.old_cell (s' := ({ U with vm := T.vm } : State)) hsame hq'
    rw [← hT]
    exact (show U.heap[q]? = _ from this).trans hq'.symm
  have hUz : U.heap.size = H.size + 1 := by
    have g1 : U.heap.size ≤ T.heap.size + 1 := hsame.2.2.1
    have g2 : H.size < U.heap.size := (Array.getElem?_eq_some_iff.mp u6).1
    rw [hT] at g1
    omega
  refine ⟨U, st, .threw H.size, u2, u3, H.size, ce, locs ++ [], rfl, (by show H.size + 1 = h.1 + 1; omega), u6, u8, ?_, ?_, ?_, ?_, ?_, ?_⟩
  · rw [u7, ← hfE]; exact (hW0.alike.findClass _ _).symm
  · refine State.WarmedH.trans X.warmed ?_
    rw [← hs'] at u4
    exact u4
  · have g := X.same.trans (hsame.setVm s.vm)
    refine g.weaken (fun y hy _ => hy) ?_ ?_
    · show h.1 - n0 + 1 ≤ h.1 + 1 - n0
      omega
    · show h.2.1 - s0 + 6 ≤ h.2.1 + 6 - s0
      omega
  · intro z hz
    rw [List.append_nil] at hz
    exact hS.2.2 z hz
  · exact hR.newX (by rw [hUz, hsz]) (fun q hq => hold q (by rw [← hsz]; exact hq))
  · exact ⟨by rw [hUz]; exact Nat.le_succ_of_le hS.1, fun q h1 h2 => by rw [hold q (Nat.lt_of_lt_of_le h1 hS.1)]; exact hS.2.1 q h1 h2⟩
