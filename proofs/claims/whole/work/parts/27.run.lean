def ev2 (p q : Int32 × Int64) (f : Int64 → Int64 → Int32 × Int64) : Int32 × Int64 := if p.1 = 1 then (if q.1 = 1 then f p.2 q.2 else q) else p
/-- what a tree gives, by the results of the names: kind and value -/
def ev (ρ : Int64 → Int32 × Int64) : Term → Int32 × Int64
  | .long v => (1, v)
  | .elem (.long u) _ => if (ρ u).1 = 1 then (1, (ρ u).2) else (3, 0)
  | .length t => if (ev ρ t).1 = 1 then (1, -(ev ρ t).2) else ev ρ t
  | .add a b => ev2 (ev ρ a) (ev ρ b) fun x y => (1, x + y)
  | .sub a b => ev2 (ev ρ a) (ev ρ b) fun x y => (1, x - y)
  | .mul a b => ev2 (ev ρ a) (ev ρ b) fun x y => (1, x * y)
  | .div a b => ev2 (ev ρ a) (ev ρ b) fun x y => if y = 0 then (2, 0) else (1, x / y)
  | .rem a b => ev2 (ev ρ a) (ev ρ b) fun x y => (1, if y < x then y else x)
  | .op2 _ a b => ev2 (ev ρ a) (ev ρ b) fun x y => (1, if x < y then y else x)
  | .old (.add a (.add b c)) => if (ev ρ a).1 = 1 then (if 0 < (ev ρ a).2 then ev ρ b else ev ρ c) else ev ρ a
  | _ => (0, 0)
section RUN
variable {l : Launch} {G : jm_G} {d w f n0 s0 Lf N : Nat} {h0 : jm_H} {Post : jm_r → jm_H → Prop} {ST DT : Nat → Int32} {NA : Nat → Int64} {PL : Nat → Int32} {SK : Nat → Int32} {SV : Nat → Int64} {ρ : Int64 → Int32 × Int64} {v0 : Int64}
def RX (l : Launch) (G : jm_G) (d w f n0 s0 : Nat) (Post : jm_r → jm_H → Prop) (at_ g : Nat) (h : jm_H) : Prop := jm_X l G mm_Wk_run n0 s0 (jm_zn G d n0 s0) Post 14 [(3, .int (nI at_)), (2, .int (nI g)), (0, .ref w), (1, .ref f)] [] h
/-- the formula, as it lies on the heap while it is worked out -/
def RunF (h0 : jm_H) (w f Lf N : Nat) (ST DT : Nat → Int32) (SK : Nat → Int32) (SV : Nat → Int64) : Prop := FmA h0 f Lf N ∧ arI h0 (f + 1) 80 ST ∧ arI h0 (f + 2) 80 DT ∧ arI h0 (f + 4) 40 SK ∧ arL h0 (f + 5) 40 SV ∧ h0.2.2.1 w = (jm_o 7, 4) ∧ h0.2.2.1 (w + 1) = (jm_a 2, 40) ∧ w + 1 ≠ f + 5 ∧ Lf ≤ 79 ∧ N ≤ 40
theorem RunF.fr {h : jm_H} (p : RunF h0 w f Lf N ST DT SK SV) (q : jm_fr (S_wk w) h0 h) : FmA h f Lf N ∧ arI h (f + 1) 80 ST ∧ arI h (f + 2) 80 DT ∧ arI h (f + 4) 40 SK ∧ arL h (f + 5) 40 SV := by
  obtain ⟨hF, h1, h2, h4, h5, tw, ts, hne, -, -⟩ := p
  obtain ⟨tf, -, -, -, -, -, -, -, t1, t2, t3, t4, t5⟩ := id hF
  refine ⟨hF.fr q (fun e => e.elim (jm_ne_oo tf tw (by decide)) (jm_ne_oa tf ts)), h1.fr q (fun e => e.elim (Ne.symm (jm_ne_oa tw t1)) (jm_ne_aa t1 ts (by decide))), h2.fr q (fun e => e.elim (Ne.symm (jm_ne_oa tw t2)) (jm_ne_aa t2 ts (by decide))), h4.fr q (fun e => e.elim (Ne.symm (jm_ne_oa tw t4)) (jm_ne_aa t4 ts (by decide))), h5.fr q (fun e => e.elim (Ne.symm (jm_ne_oa tw t5)) (Ne.symm hne))⟩
set_option maxHeartbeats 4000000 in
set_option maxRecDepth 100000 in
theorem run_step {h h' : jm_H} {n at_ g g' : Nat} {S : Nat → Int64} (hd : 4 ≤ d) (hF0 : RunF h0 w f Lf N ST DT SK SV) (q : jm_fr (S_wk w) h0 h) (hW : WkA h w n 1 v0 S) (ha : at_ < Lf) (hg : g ≤ at_) (hC : jm_C l G mm_Wk_take (d - 1) [.ref w, .ref f, .int (ST at_), .int (DT at_), .int (nI (at_ + 1))] h (some (.int (nI g'))) h') (kk : RX l G d w f n0 s0 Post (at_ + 1) g' h') : RX l G d w f n0 s0 Post at_ g h := by
  obtain ⟨tw, w0, w1, w2, w3, ts, hS⟩ := id hW
  obtain ⟨hF, h1, h2, h4, h5⟩ := hF0.fr q
  have hLf := hF0.2.2.2.2.2.2.2.2.1
  unfold RX at kk ⊢
  refine jx_iload_n d_Wk_run_14 0 rfl ?_
  refine jx_aload_n d_Wk_run_15 3 rfl ?_
  refine jx_get d_Wk_run_16 fF_Wk_26 hF.1 hF.2.2.2.1 ?_
  refine jx_icmp_geN (tgt := 62) (at_) (Lf) d_Wk_run_19 rfl rfl (by omega) (by omega) (by decide) (fun c1 => ?_) (fun c1 => ?_)
  · omega
  ·
    refine jx_aload_n d_Wk_run_22 2 rfl ?_
    refine jx_get d_Wk_run_23 fF_Wk_19 tw w2 ?_
    refine jx_iconst (v0 := 1) d_Wk_run_26 (by decide) ?_
    refine jx_icmp_ne (tgt := 62) d_Wk_run_27 (by decide) (fun c2 => absurd c2 (by decide)) (fun c2 => ?_)
    refine jx_iload_n d_Wk_run_30 0 rfl ?_
    refine jx_iload_n d_Wk_run_31 1 rfl ?_
    refine jx_icmp_ltN (tgt := 56) (at_) (g) d_Wk_run_32 rfl rfl (by omega) (by omega) (by decide) (fun c3 => ?_) (fun c3 => ?_)
    · omega
    ·
      refine jx_aload_n d_Wk_run_35 2 rfl ?_
      refine jx_aload_n d_Wk_run_36 3 rfl ?_
      refine jx_aload_n d_Wk_run_37 3 rfl ?_
      refine jx_get d_Wk_run_38 fF_Wk_31 hF.1 hF.2.1 ?_
      refine jx_iload_n d_Wk_run_41 0 rfl ?_
      refine jx_iald d_Wk_run_42 hF.2.2.2.2.2.2.2.2.1 rfl (jm_vinN (by omega) (by decide)) (jm_atN (by omega) (h1 _ (by omega))) ?_
      refine jx_aload_n d_Wk_run_43 3 rfl ?_
      refine jx_get d_Wk_run_44 fF_Wk_35 hF.1 hF.2.2.1 ?_
      refine jx_iload_n d_Wk_run_47 0 rfl ?_
      refine jx_iald d_Wk_run_48 hF.2.2.2.2.2.2.2.2.2.1 rfl (jm_vinN (by omega) (by decide)) (jm_atN (by omega) (h2 _ (by omega))) ?_
      refine jx_iload_n d_Wk_run_49 0 rfl ?_
      refine jx_iconst (v0 := 1) d_Wk_run_50 (by decide) ?_
      refine jx_iadd d_Wk_run_51 ?_
      refine jx_ati (nI_add (at_) (1)) ?_
      refine jx_callV (M2 := mm_Wk_take) rfl tw lk_Wk_38 wi_Wk_take ws_Wk_take d_Wk_run_52 hC cd_Wk_take rfl rfl (Nat.le_of_ble_eq_true rfl) (jm_fok (by omega)) (jm_look (by decide) (by omega)) ?_
      refine jx_istore_n (lv' := [(2, .int (nI (g'))), (3, .int (nI (at_))), (0, .ref (w)), (1, .ref (f))]) d_Wk_run_55 (by decide) rfl ?_
      refine jx_iinc (v0 := nI (at_ + 1)) (lv' := [(3, .int (nI (at_ + 1))), (2, .int (nI (g'))), (0, .ref (w)), (1, .ref (f))]) d_Wk_run_56 1 rfl (nI_add _ 1) (by decide) rfl ?_
      refine jx_goto (tgt := 14) d_Wk_run_59 (by decide) ?_
      exact kk
set_option maxHeartbeats 4000000 in
set_option maxRecDepth 100000 in
theorem run_skip1 {h : jm_H} {n at_ g : Nat} {S : Nat → Int64} (hF0 : RunF h0 w f Lf N ST DT SK SV) (q : jm_fr (S_wk w) h0 h) (hW : WkA h w n 1 v0 S) (ha : at_ < Lf) (hg : at_ < g) (hg2 : g ≤ 80) (kk : RX l G d w f n0 s0 Post (at_ + 1) g h) : RX l G d w f n0 s0 Post at_ g h := by
  obtain ⟨tw, w0, w1, w2, w3, ts, hS⟩ := id hW
  obtain ⟨hF, h1, h2, h4, h5⟩ := hF0.fr q
  have hLf := hF0.2.2.2.2.2.2.2.2.1
  unfold RX at kk ⊢
  refine jx_iload_n d_Wk_run_14 0 rfl ?_
  refine jx_aload_n d_Wk_run_15 3 rfl ?_
  refine jx_get d_Wk_run_16 fF_Wk_26 hF.1 hF.2.2.2.1 ?_
  refine jx_icmp_geN (tgt := 62) (at_) (Lf) d_Wk_run_19 rfl rfl (by omega) (by omega) (by decide) (fun c1 => ?_) (fun c1 => ?_)
  · omega
  ·
    refine jx_aload_n d_Wk_run_22 2 rfl ?_
    refine jx_get d_Wk_run_23 fF_Wk_19 tw w2 ?_
    refine jx_iconst (v0 := 1) d_Wk_run_26 (by decide) ?_
    refine jx_icmp_ne (tgt := 62) d_Wk_run_27 (by decide) (fun c2 => absurd c2 (by decide)) (fun c2 => ?_)
    refine jx_iload_n d_Wk_run_30 0 rfl ?_
    refine jx_iload_n d_Wk_run_31 1 rfl ?_
    refine jx_icmp_ltN (tgt := 56) (at_) (g) d_Wk_run_32 rfl rfl (by omega) (by omega) (by decide) (fun c3 => ?_) (fun c3 => ?_)
    ·
      refine jx_iinc (v0 := nI (at_ + 1)) (lv' := [(3, .int (nI (at_ + 1))), (2, .int (nI (g))), (0, .ref (w)), (1, .ref (f))]) d_Wk_run_56 0 rfl (nI_add _ 1) (by decide) rfl ?_
      refine jx_goto (tgt := 14) d_Wk_run_59 (by decide) ?_
      exact kk
    · omega
theorem run_skip {h : jm_H} {n g : Nat} {S : Nat → Int64} (hF0 : RunF h0 w f Lf N ST DT SK SV) (q : jm_fr (S_wk w) h0 h) (hW : WkA h w n 1 v0 S) (hg2 : g ≤ Lf) (kk : RX l G d w f n0 s0 Post g g h) (t : Nat) : ∀ at_, g - at_ < t → at_ ≤ g → RX l G d w f n0 s0 Post at_ g h := by
  have hLf := hF0.2.2.2.2.2.2.2.2.1
  induction t with
  | zero => intro a h; omega
  | succ t ih =>
    intro a h1 h2
    by_cases e : a = g
    · rw [e]; exact kk
    · exact run_skip1 hF0 q hW (by omega) (by omega) (by omega) (ih (a + 1) (by omega) (by omega))
def RunP (l : Launch) (G : jm_G) (d w f n0 s0 Lf N : Nat) (h0 : jm_H) (Post : jm_r → jm_H → Prop) (ST DT : Nat → Int32) (NA : Nat → Int64) (PL : Nat → Int32) (ρ : Int64 → Int32 × Int64) (v0 : Int64) (t : Term) : Prop := ∀ L M L' M', Cdx ST DT NA PL t L M L' M' → L' ≤ Lf → M' ≤ N → ∀ (n : Nat) (S : Nat → Int64) (h : jm_H) (g : Nat), g ≤ L → WkA h w n 1 v0 S → jm_fr (S_wk w) h0 h → 2 * n + (L' - L) + 1 ≤ 80 →
  ((ev ρ t).1 = 1 → ∀ (h' : jm_H) (S' : Nat → Int64) (g' : Nat), g' ≤ L' → WkA h' w (n + 1) 1 v0 S' → jm_fr (S_wk w) h0 h' → S' n = (ev ρ t).2 → (∀ j, j < n → S' j = S j) → RX l G d w f n0 s0 Post L' g' h') →
  ((ev ρ t).1 ≠ 1 → ∀ (h' : jm_H) (S' : Nat → Int64) (at_ g' n' : Nat), at_ ≤ 80 → WkA h' w n' (ev ρ t).1 v0 S' → jm_fr (S_wk w) h0 h' → RX l G d w f n0 s0 Post at_ g' h') → RX l G d w f n0 s0 Post L g h
theorem run_bin {a b t : Term} {u : Int32} {fop : Int64 → Int64 → Int32 × Int64} (hd : 4 ≤ d) (hF0 : RunF h0 w f Lf N ST DT SK SV) (ta : Tree a) (tb : Tree b) (iha : RunP l G d w f n0 s0 Lf N h0 Post ST DT NA PL ρ v0 a) (ihb : RunP l G d w f n0 s0 Lf N h0 Post ST DT NA PL ρ v0 b) (hev : ev ρ t = ev2 (ev ρ a) (ev ρ b) fop)
    (hco : ∀ L N L' N', Cdx ST DT NA PL t L N L' N' → ∃ L1 N1 L2, Cdx ST DT NA PL a L N L1 N1 ∧ Cdx ST DT NA PL b L1 N1 L2 N' ∧ ST L2 = u ∧ L' = L2 + 1)
    (htk : ∀ (h : jm_H) (n : Nat) (S : Nat → Int64) (D z : Int32), WkA h w (n + 2) 1 v0 S → n + 2 ≤ 40 → ∃ h', jm_C l G mm_Wk_take (d - 1) [.ref w, .ref f, .int u, .int D, .int z] h (some (.int z)) h' ∧ jm_fr (S_wk w) h h' ∧ ((fop (S n) (S (n + 1))).1 = 1 → WkA h' w (n + 1) 1 v0 (jm_up S n (fop (S n) (S (n + 1))).2)) ∧ ((fop (S n) (S (n + 1))).1 ≠ 1 → ∃ n' S', WkA h' w n' (fop (S n) (S (n + 1))).1 v0 S')) : RunP l G d w f n0 s0 Lf N h0 Post ST DT NA PL ρ v0 t := by
  intro L M L' M' hc hL hM n S h g hg hW q hn kok kerr
  have hLf := hF0.2.2.2.2.2.2.2.2.1
  obtain ⟨L1, M1, L2, ca, cb, hu, rfl⟩ := hco _ _ _ _ hc
  have la := Cdx.le ta ca
  have lb := Cdx.le tb cb
  rw [hev] at kok kerr
  unfold ev2 at kok kerr
  refine iha L M L1 M1 ca (by omega) (by omega) n S h g hg hW q (by omega) (fun ea h1 S1 g1 hg1 hW1 q1 e1 e2 => ?_) (fun ea => ?_)
  · rw [if_pos ea] at kok kerr
    refine ihb L1 M1 L2 M' cb (by omega) (by omega) (n + 1) S1 h1 g1 hg1 hW1 q1 (by omega) (fun eb h2 S2 g2 hg2 hW2 q2 f1 f2 => ?_) (fun eb => ?_)
    · rw [if_pos eb] at kok kerr
      obtain ⟨h3, hC, q3, k1, k2⟩ := htk h2 n S2 (DT L2) (nI (L2 + 1)) hW2 (by omega)
      rw [f1, f2 n (by omega), e1] at k1 k2
      refine run_step hd hF0 q2 hW2 (by omega) hg2 (by rw [hu]; exact hC) ?_
      by_cases e9 : (fop (ev ρ a).2 (ev ρ b).2).1 = 1
      · exact kok e9 h3 _ (L2 + 1) (Nat.le_refl _) (k1 e9) (q2.trans q3) jm_up_eq (fun j hj => by rw [jm_up_ne (by omega), f2 j (by omega), e2 j hj])
      · obtain ⟨n', S', hW'⟩ := k2 e9
        exact kerr e9 h3 S' (L2 + 1) _ n' (by omega) hW' (q2.trans q3)
    · rw [if_neg eb] at kerr
      exact kerr eb
  · rw [if_neg ea] at kerr
    exact kerr ea
theorem tk_add (hd : 4 ≤ d) (h : jm_H) (n : Nat) (S : Nat → Int64) (D z : Int32) (hW : WkA h w (n + 2) 1 v0 S) (hn : n + 2 ≤ 40) : ∃ h', jm_C l G mm_Wk_take (d - 1) [.ref w, .ref f, .int 43, .int D, .int z] h (some (.int z)) h' ∧ jm_fr (S_wk w) h h' ∧ (((fun x y : Int64 => (((1, x + y) : Int32 × Int64))) (S n) (S (n + 1))).1 = 1 → WkA h' w (n + 1) 1 v0 (jm_up S n ((fun x y : Int64 => (((1, x + y) : Int32 × Int64))) (S n) (S (n + 1))).2)) ∧ (((fun x y : Int64 => (((1, x + y) : Int32 × Int64))) (S n) (S (n + 1))).1 ≠ 1 → ∃ n' S', WkA h' w n' ((fun x y : Int64 => (((1, x + y) : Int32 × Int64))) (S n) (S (n + 1))).1 v0 S') :=
  ⟨_, c_Wk_take43 l G (d - 1) (by omega) hW (by omega) hn, wk_push_fr ((jm_fr.rf.put (Or.inl rfl)).put (Or.inl rfl)), (fun _ => hW.hgt.hgt.push), (fun e => absurd rfl e)⟩
theorem tk_sub (hd : 4 ≤ d) (h : jm_H) (n : Nat) (S : Nat → Int64) (D z : Int32) (hW : WkA h w (n + 2) 1 v0 S) (hn : n + 2 ≤ 40) : ∃ h', jm_C l G mm_Wk_take (d - 1) [.ref w, .ref f, .int 45, .int D, .int z] h (some (.int z)) h' ∧ jm_fr (S_wk w) h h' ∧ (((fun x y : Int64 => (((1, x - y) : Int32 × Int64))) (S n) (S (n + 1))).1 = 1 → WkA h' w (n + 1) 1 v0 (jm_up S n ((fun x y : Int64 => (((1, x - y) : Int32 × Int64))) (S n) (S (n + 1))).2)) ∧ (((fun x y : Int64 => (((1, x - y) : Int32 × Int64))) (S n) (S (n + 1))).1 ≠ 1 → ∃ n' S', WkA h' w n' ((fun x y : Int64 => (((1, x - y) : Int32 × Int64))) (S n) (S (n + 1))).1 v0 S') :=
  ⟨_, c_Wk_take45 l G (d - 1) (by omega) hW (by omega) hn, wk_push_fr ((jm_fr.rf.put (Or.inl rfl)).put (Or.inl rfl)), (fun _ => hW.hgt.hgt.push), (fun e => absurd rfl e)⟩
theorem tk_mul (hd : 4 ≤ d) (h : jm_H) (n : Nat) (S : Nat → Int64) (D z : Int32) (hW : WkA h w (n + 2) 1 v0 S) (hn : n + 2 ≤ 40) : ∃ h', jm_C l G mm_Wk_take (d - 1) [.ref w, .ref f, .int 42, .int D, .int z] h (some (.int z)) h' ∧ jm_fr (S_wk w) h h' ∧ (((fun x y : Int64 => (((1, x * y) : Int32 × Int64))) (S n) (S (n + 1))).1 = 1 → WkA h' w (n + 1) 1 v0 (jm_up S n ((fun x y : Int64 => (((1, x * y) : Int32 × Int64))) (S n) (S (n + 1))).2)) ∧ (((fun x y : Int64 => (((1, x * y) : Int32 × Int64))) (S n) (S (n + 1))).1 ≠ 1 → ∃ n' S', WkA h' w n' ((fun x y : Int64 => (((1, x * y) : Int32 × Int64))) (S n) (S (n + 1))).1 v0 S') :=
  ⟨_, c_Wk_take42 l G (d - 1) (by omega) hW (by omega) hn, wk_push_fr ((jm_fr.rf.put (Or.inl rfl)).put (Or.inl rfl)), (fun _ => hW.hgt.hgt.push), (fun e => absurd rfl e)⟩
theorem tk_rem (hd : 4 ≤ d) (h : jm_H) (n : Nat) (S : Nat → Int64) (D z : Int32) (hW : WkA h w (n + 2) 1 v0 S) (hn : n + 2 ≤ 40) : ∃ h', jm_C l G mm_Wk_take (d - 1) [.ref w, .ref f, .int 4, .int D, .int z] h (some (.int z)) h' ∧ jm_fr (S_wk w) h h' ∧ (((fun x y : Int64 => (((1, if y < x then y else x) : Int32 × Int64))) (S n) (S (n + 1))).1 = 1 → WkA h' w (n + 1) 1 v0 (jm_up S n ((fun x y : Int64 => (((1, if y < x then y else x) : Int32 × Int64))) (S n) (S (n + 1))).2)) ∧ (((fun x y : Int64 => (((1, if y < x then y else x) : Int32 × Int64))) (S n) (S (n + 1))).1 ≠ 1 → ∃ n' S', WkA h' w n' ((fun x y : Int64 => (((1, if y < x then y else x) : Int32 × Int64))) (S n) (S (n + 1))).1 v0 S') :=
  ⟨_, c_Wk_take4 l G (d - 1) (by omega) hW (by omega) hn, wk_push_fr ((jm_fr.rf.put (Or.inl rfl)).put (Or.inl rfl)), (fun _ => hW.hgt.hgt.push), (fun e => absurd rfl e)⟩
theorem tk_op2 (hd : 4 ≤ d) (h : jm_H) (n : Nat) (S : Nat → Int64) (D z : Int32) (hW : WkA h w (n + 2) 1 v0 S) (hn : n + 2 ≤ 40) : ∃ h', jm_C l G mm_Wk_take (d - 1) [.ref w, .ref f, .int 5, .int D, .int z] h (some (.int z)) h' ∧ jm_fr (S_wk w) h h' ∧ (((fun x y : Int64 => (((1, if x < y then y else x) : Int32 × Int64))) (S n) (S (n + 1))).1 = 1 → WkA h' w (n + 1) 1 v0 (jm_up S n ((fun x y : Int64 => (((1, if x < y then y else x) : Int32 × Int64))) (S n) (S (n + 1))).2)) ∧ (((fun x y : Int64 => (((1, if x < y then y else x) : Int32 × Int64))) (S n) (S (n + 1))).1 ≠ 1 → ∃ n' S', WkA h' w n' ((fun x y : Int64 => (((1, if x < y then y else x) : Int32 × Int64))) (S n) (S (n + 1))).1 v0 S') :=
  ⟨_, c_Wk_take5 l G (d - 1) (by omega) hW (by omega) hn, wk_push_fr ((jm_fr.rf.put (Or.inl rfl)).put (Or.inl rfl)), (fun _ => hW.hgt.hgt.push), (fun e => absurd rfl e)⟩
theorem tk_div (hd : 4 ≤ d) (h : jm_H) (n : Nat) (S : Nat → Int64) (D z : Int32) (hW : WkA h w (n + 2) 1 v0 S) (hn : n + 2 ≤ 40) : ∃ h', jm_C l G mm_Wk_take (d - 1) [.ref w, .ref f, .int 47, .int D, .int z] h (some (.int z)) h' ∧ jm_fr (S_wk w) h h' ∧ (((fun x y : Int64 => if y = 0 then ((2, 0) : Int32 × Int64) else (1, x / y)) (S n) (S (n + 1))).1 = 1 → WkA h' w (n + 1) 1 v0 (jm_up S n ((fun x y : Int64 => if y = 0 then ((2, 0) : Int32 × Int64) else (1, x / y)) (S n) (S (n + 1))).2)) ∧ (((fun x y : Int64 => if y = 0 then ((2, 0) : Int32 × Int64) else (1, x / y)) (S n) (S (n + 1))).1 ≠ 1 → ∃ n' S', WkA h' w n' ((fun x y : Int64 => if y = 0 then ((2, 0) : Int32 × Int64) else (1, x / y)) (S n) (S (n + 1))).1 v0 S') := by
  by_cases hz : S (n + 1) = 0
  · refine ⟨_, c_Wk_take470 l G (d - 1) (by omega) hW (by omega) hn hz, ((jm_fr.rf.put (Or.inl rfl)).put (Or.inl rfl)).put (Or.inl rfl), ?_, ?_⟩
    · intro e
      simp only [hz, if_true] at e
      exact absurd e (by decide)
    · intro e
      simp only [hz, if_true]
      exact ⟨_, _, hW.hgt.hgt.knd⟩
  · refine ⟨_, c_Wk_take47 l G (d - 1) (by omega) hW (by omega) hn hz, wk_push_fr ((jm_fr.rf.put (Or.inl rfl)).put (Or.inl rfl)), ?_, ?_⟩
    · intro e
      simp only [hz, if_false]
      exact hW.hgt.hgt.push
    · intro e
      simp only [hz, if_false] at e
      exact absurd rfl e
theorem run_tree (hd : 4 ≤ d) (hF0 : RunF h0 w f Lf N ST DT SK SV) (hρ : ∀ j, j < N → (SK j, SV j) = ρ (NA j)) (t : Term) (ht : Tree t) : RunP l G d w f n0 s0 Lf N h0 Post ST DT NA PL ρ v0 t := by
  have hLf := hF0.2.2.2.2.2.2.2.2.1
  have hN40 := hF0.2.2.2.2.2.2.2.2.2
  refine Tree.rec9 (P := fun t => RunP l G d w f n0 s0 Lf N h0 Post ST DT NA PL ρ v0 t) ?_ ?_ ?_ ?_ ?_ ?_ ?_ ?_ ?_ ?_ t ht
  · intro v L M L' M' hc hL hM n S h g hg hW q hn kok kerr
    obtain ⟨c1, c2, rfl, rfl⟩ := hc
    refine run_step (g' := L + 1) hd hF0 q hW (by omega) hg (by rw [c1]; exact c_Wk_take3 l G (d - 1) (by omega) hW (by omega)) ?_
    rw [c2]
    exact kok rfl _ _ _ (Nat.le_refl _) hW.push (wk_push_fr q) jm_up_eq (fun j hj => jm_up_ne (by omega))
  · intro u p L M L' M' hc hL hM n S h g hg hW q hn kok kerr
    obtain ⟨c1, c2, c3, c4, rfl, rfl⟩ := hc
    obtain ⟨hF, -, -, h4, h5⟩ := hF0.fr q
    have hr := hρ M (by omega)
    rw [c3] at hr
    have e0 : ev ρ (.elem (.long u) (.index p)) = if (ρ u).1 = 1 then (1, (ρ u).2) else (3, 0) := rfl
    rw [e0, ← hr] at kok kerr
    by_cases hk : SK M = 1
    · rw [if_pos hk] at kok
      refine run_step (g' := L + 1) hd hF0 q hW (by omega) hg (by rw [c1, c2]; exact c_Wk_take21 l G (d - 1) (by omega) hW (by omega) hF hN40 h4 h5 (by omega) hk) ?_
      exact kok rfl _ _ _ (Nat.le_refl _) hW.push (wk_push_fr q) jm_up_eq (fun j hj => jm_up_ne (by omega))
    · rw [if_neg hk] at kerr
      refine run_step (g' := L + 1) hd hF0 q hW (by omega) hg (by rw [c1, c2]; exact c_Wk_take20 l G (d - 1) (by omega) hW hF hN40 h4 h5 (by omega) hk) ?_
      exact kerr (by decide) _ _ _ _ _ (by omega) hW.knd (q.put (Or.inl rfl))
  · intro t tt ih L M L' M' hc hL hM n S h g hg hW q hn kok kerr
    obtain ⟨L1, c1, c2, rfl⟩ := hc
    have lt := Cdx.le tt c1
    have e0 : ev ρ (.length t) = if (ev ρ t).1 = 1 then (1, -(ev ρ t).2) else ev ρ t := rfl
    rw [e0] at kok kerr
    refine ih L M L1 M' c1 (by omega) hM n S h g hg hW q (by omega) (fun ea h1 S1 g1 hg1 hW1 q1 e1 e2 => ?_) (fun ea => ?_)
    · rw [if_pos ea] at kok
      refine run_step (g' := L1 + 1) hd hF0 q1 hW1 (by omega) hg1 (by rw [c2]; exact c_Wk_take7 l G (d - 1) (by omega) hW1 (by omega) (by omega)) ?_
      refine kok rfl _ _ _ (Nat.le_refl _) hW1.hgt.push (wk_push_fr (q1.put (Or.inl rfl))) ?_ (fun j hj => ?_)
      · rw [← e1]; exact jm_up_eq
      · rw [← e2 j hj]; exact jm_up_ne (by omega)
    · rw [if_neg ea] at kerr
      exact kerr ea
  · intro a b ta tb ha hb
    exact run_bin hd hF0 ta tb ha hb rfl (fun _ _ _ _ h => h) (tk_add hd)
  · intro a b ta tb ha hb
    exact run_bin hd hF0 ta tb ha hb rfl (fun _ _ _ _ h => h) (tk_sub hd)
  · intro a b ta tb ha hb
    exact run_bin hd hF0 ta tb ha hb rfl (fun _ _ _ _ h => h) (tk_mul hd)
  · intro a b ta tb ha hb
    exact run_bin hd hF0 ta tb ha hb rfl (fun _ _ _ _ h => h) (tk_div hd)
  · intro a b ta tb ha hb
    exact run_bin hd hF0 ta tb ha hb rfl (fun _ _ _ _ h => h) (tk_rem hd)
  · intro o a b ta tb ha hb
    exact run_bin hd hF0 ta tb ha hb rfl (fun _ _ _ _ h => h) (tk_op2 hd)
  · intro a b c ta tb tc ha hb hc L M L' M' hcd hL hM n S h g hg hW q hn kok kerr
    obtain ⟨L1, M1, L2, M2, c1, s1, d1, c2, s2, d2, c3⟩ := hcd
    have l1 := Cdx.le ta c1
    have l2 := Cdx.le tb c2
    have l3 := Cdx.le tc c3
    have e0 : ev ρ (.old (.add a (.add b c))) = if (ev ρ a).1 = 1 then (if 0 < (ev ρ a).2 then ev ρ b else ev ρ c) else ev ρ a := rfl
    rw [e0] at kok kerr
    refine ha L M L1 M1 c1 (by omega) (by omega) n S h g hg hW q (by omega) (fun ea h1 S1 g1 hg1 hW1 q1 e1 e2 => ?_) (fun ea => ?_)
    · rw [if_pos ea] at kok kerr
      have q2 : jm_fr (S_wk w) h0 (jm_put h1 w 1 (.int (nI n))) := q1.put (Or.inl rfl)
      have hW2 : WkA (jm_put h1 w 1 (.int (nI n))) w n 1 v0 S1 := hW1.hgt
      by_cases hp : 0 < (ev ρ a).2
      · rw [if_pos hp] at kok kerr
        refine run_step (g' := L1 + 1) hd hF0 q1 hW1 (by omega) hg1 (by rw [s1]; exact c_Wk_take81 l G (d - 1) (by omega) hW1 (by omega) (by omega) (by rw [← e1] at hp; exact hp)) ?_
        refine hb (L1 + 1) M1 L2 M2 c2 (by omega) (by omega) n S1 _ (L1 + 1) (Nat.le_refl _) hW2 q2 (by omega) (fun eb h3 S3 g3 hg3 hW3 q3 f1 f2 => ?_) (fun eb => kerr eb)
        refine run_step (g' := L') hd hF0 q3 hW3 (by omega) hg3 (by rw [s2, d2]; exact c_Wk_take9 l G (d - 1) (by omega)) ?_
        refine run_skip hF0 q3 hW3 (by omega) ?_ (L' + 1) (L2 + 1) (by omega) (by omega)
        exact kok eb _ _ _ (Nat.le_refl _) hW3 q3 f1 (fun j hj => by rw [f2 j hj, e2 j hj])
      · rw [if_neg hp] at kok kerr
        refine run_step (g' := L2 + 1) hd hF0 q1 hW1 (by omega) hg1 (by rw [s1, d1]; exact c_Wk_take80 l G (d - 1) (by omega) hW1 (by omega) (by omega) (by rw [← e1] at hp; exact Int64.not_lt.mp hp)) ?_
        refine run_skip hF0 q2 hW2 (by omega) ?_ (L2 + 2) (L1 + 1) (by omega) (by omega)
        exact hc (L2 + 1) M2 L' M' c3 (by omega) (by omega) n S1 _ (L2 + 1) (Nat.le_refl _) hW2 q2 (by omega) (fun eb h3 S3 g3 hg3 hW3 q3 f1 f2 => kok eb _ _ _ hg3 hW3 q3 f1 (fun j hj => by rw [f2 j hj, e2 j hj])) (fun eb => kerr eb)
    · rw [if_neg ea] at kerr
      exact kerr ea
end RUN
