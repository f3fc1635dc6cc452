section RUN
variable {l : Launch} {G : jm_G} {d w f n0 s0 Lf N : Nat} {h0 : jm_H} {Post : jm_r → jm_H → Prop} {ST DT : Nat → Int32} {NA : Nat → Int64} {PL : Nat → Int32} {SK : Nat → Int32} {SV : Nat → Int64} {ρ : Int64 → Int32 × Int64} {v0 : Int64}
set_option maxHeartbeats 4000000 in
set_option maxRecDepth 100000 in
theorem run_end1 {h : jm_H} {g : Nat} {S : Nat → Int64} (hd : 4 ≤ d) (hF0 : RunF h0 w f Lf N ST DT SK SV) (q : jm_fr (S_wk w) h0 h) (hW : WkA h w 1 1 v0 S) (kk : Post (.inl none) (jm_put (jm_put h w 1 (.int (nI (1 - 1)))) w 3 (.long (S (1 - 1))))) : RX l G d w f n0 s0 Post Lf g h := by
  obtain ⟨tw, w0, w1, w2, w3, ts, hS⟩ := id hW
  obtain ⟨hF, h1, h2, h4, h5⟩ := hF0.fr q
  have hLf := hF0.2.2.2.2.2.2.2.2.1
  unfold RX
  refine jx_iload_n d_Wk_run_14 0 rfl ?_
  refine jx_aload_n d_Wk_run_15 3 rfl ?_
  refine jx_get d_Wk_run_16 fF_Wk_26 hF.1 hF.2.2.2.1 ?_
  refine jx_icmp_geN (tgt := 62) (Lf) (Lf) d_Wk_run_19 rfl rfl (by omega) (by omega) (by decide) (fun c1 => ?_) (fun c1 => ?_)
  ·
    refine jx_aload_n d_Wk_run_62 2 rfl ?_
    refine jx_aload_n d_Wk_run_63 2 rfl ?_
    refine jx_get d_Wk_run_64 fF_Wk_19 tw w2 ?_
    refine jx_iconst (v0 := 1) d_Wk_run_67 (by decide) ?_
    refine jx_icmp_ne (tgt := 78) d_Wk_run_68 (by decide) (fun c2 => absurd c2 (by decide)) (fun c2 => ?_)
    refine jx_aload_n d_Wk_run_71 2 rfl ?_
    refine jx_callV (M2 := mm_Wk_pop) rfl tw lk_Wk_42 wi_Wk_pop ws_Wk_pop d_Wk_run_72 (c_Wk_pop l G (d - 1) hW (by omega) (by omega)) cd_Wk_pop rfl rfl (Nat.le_of_ble_eq_true rfl) (jm_fok (by omega)) (jm_look (by decide) (by omega)) ?_
    refine jx_goto (tgt := 79) d_Wk_run_75 (by decide) ?_
    refine jx_put (v0 := .long (S (1 - 1))) d_Wk_run_79 fF_Wk_22 jv_Wk ft_Wk_value tw rfl rfl ?_
    exact jx_vret d_Wk_run_82 rfl (kk)
  · omega
set_option maxHeartbeats 4000000 in
set_option maxRecDepth 100000 in
theorem run_end0 {h : jm_H} {n at_ g : Nat} {kd : Int32} {S : Nat → Int64} (hF0 : RunF h0 w f Lf N ST DT SK SV) (q : jm_fr (S_wk w) h0 h) (hW : WkA h w n kd v0 S) (hk : ¬ kd = 1) (ha : at_ ≤ 80) (kk : Post (.inl none) (jm_put h w 3 (.long 0))) : RX l G d w f n0 s0 Post at_ g h := by
  obtain ⟨tw, w0, w1, w2, w3, ts, hS⟩ := id hW
  obtain ⟨hF, h1, h2, h4, h5⟩ := hF0.fr q
  have hLf := hF0.2.2.2.2.2.2.2.2.1
  unfold RX
  refine jx_iload_n d_Wk_run_14 0 rfl ?_
  refine jx_aload_n d_Wk_run_15 3 rfl ?_
  refine jx_get d_Wk_run_16 fF_Wk_26 hF.1 hF.2.2.2.1 ?_
  refine jx_icmp_geN (tgt := 62) (at_) (Lf) d_Wk_run_19 rfl rfl (by omega) (by omega) (by decide) (fun c1 => ?_) (fun c1 => ?_)
  ·
    refine jx_aload_n d_Wk_run_62 2 rfl ?_
    refine jx_aload_n d_Wk_run_63 2 rfl ?_
    refine jx_get d_Wk_run_64 fF_Wk_19 tw w2 ?_
    refine jx_iconst (v0 := 1) d_Wk_run_67 (by decide) ?_
    refine jx_icmp_ne (tgt := 78) d_Wk_run_68 (by decide) (fun c2 => ?_) (fun c2 => ?_)
    ·
      refine jx_lconst (v0 := 0) d_Wk_run_78 (by decide) ?_
      refine jx_put (v0 := .long (0)) d_Wk_run_79 fF_Wk_22 jv_Wk ft_Wk_value tw rfl rfl ?_
      exact jx_vret d_Wk_run_82 rfl (kk)
    · exact absurd c2 hk
  ·
    refine jx_aload_n d_Wk_run_22 2 rfl ?_
    refine jx_get d_Wk_run_23 fF_Wk_19 tw w2 ?_
    refine jx_iconst (v0 := 1) d_Wk_run_26 (by decide) ?_
    refine jx_icmp_ne (tgt := 62) d_Wk_run_27 (by decide) (fun c3 => ?_) (fun c3 => ?_)
    ·
      refine jx_aload_n d_Wk_run_62 2 rfl ?_
      refine jx_aload_n d_Wk_run_63 2 rfl ?_
      refine jx_get d_Wk_run_64 fF_Wk_19 tw w2 ?_
      refine jx_iconst (v0 := 1) d_Wk_run_67 (by decide) ?_
      refine jx_icmp_ne (tgt := 78) d_Wk_run_68 (by decide) (fun c4 => ?_) (fun c4 => ?_)
      ·
        refine jx_lconst (v0 := 0) d_Wk_run_78 (by decide) ?_
        refine jx_put (v0 := .long (0)) d_Wk_run_79 fF_Wk_22 jv_Wk ft_Wk_value tw rfl rfl ?_
        exact jx_vret d_Wk_run_82 rfl (kk)
      · exact absurd c4 hk
    · exact absurd c3 hk
end RUN
theorem ev2_err {p q : Int32 × Int64} {f : Int64 → Int64 → Int32 × Int64} (hp : p.1 ≠ 1 → p.2 = 0) (hq : q.1 ≠ 1 → q.2 = 0) (hf : ∀ x y, (f x y).1 ≠ 1 → (f x y).2 = 0) (h : (ev2 p q f).1 ≠ 1) : (ev2 p q f).2 = 0 := by
  unfold ev2 at h ⊢
  by_cases h1 : p.1 = 1
  · rw [if_pos h1] at h ⊢
    by_cases h2 : q.1 = 1
    · rw [if_pos h2] at h ⊢
      exact hf _ _ h
    · rw [if_neg h2] at h ⊢
      exact hq h
  · rw [if_neg h1] at h ⊢
    exact hp h
theorem ev_err (ρ : Int64 → Int32 × Int64) (t : Term) (ht : Tree t) : (ev ρ t).1 ≠ 1 → (ev ρ t).2 = 0 := by
  refine Tree.rec9 (P := fun t => (ev ρ t).1 ≠ 1 → (ev ρ t).2 = 0) ?_ ?_ ?_ ?_ ?_ ?_ ?_ ?_ ?_ ?_ t ht
  · intro v h
    exact absurd rfl h
  · intro u p h
    have e0 : ev ρ (.elem (.long u) (.index p)) = if (ρ u).1 = 1 then (1, (ρ u).2) else (3, 0) := rfl
    rw [e0] at h ⊢
    by_cases h1 : (ρ u).1 = 1
    · rw [if_pos h1] at h
      exact absurd rfl h
    · rw [if_neg h1]
  · intro t _ ih h
    have e0 : ev ρ (.length t) = if (ev ρ t).1 = 1 then (1, -(ev ρ t).2) else ev ρ t := rfl
    rw [e0] at h ⊢
    by_cases h1 : (ev ρ t).1 = 1
    · rw [if_pos h1] at h
      exact absurd rfl h
    · rw [if_neg h1]
      exact ih h1
  · intro a b _ _ ha hb
    exact ev2_err ha hb (fun x y h => absurd rfl h)
  · intro a b _ _ ha hb
    exact ev2_err ha hb (fun x y h => absurd rfl h)
  · intro a b _ _ ha hb
    exact ev2_err ha hb (fun x y h => absurd rfl h)
  · intro a b _ _ ha hb
    refine ev2_err ha hb (fun x y h => ?_)
    by_cases h1 : y = 0
    · rw [if_pos h1]
    · rw [if_neg h1] at h
      exact absurd rfl h
  · intro a b _ _ ha hb
    exact ev2_err ha hb (fun x y h => absurd rfl h)
  · intro o a b _ _ ha hb
    exact ev2_err ha hb (fun x y h => absurd rfl h)
  · intro a b c _ _ _ ha hb hc h
    have e0 : ev ρ (.old (.add a (.add b c))) = if (ev ρ a).1 = 1 then (if 0 < (ev ρ a).2 then ev ρ b else ev ρ c) else ev ρ a := rfl
    rw [e0] at h ⊢
    by_cases h1 : (ev ρ a).1 = 1
    · rw [if_pos h1] at h ⊢
      by_cases h2 : 0 < (ev ρ a).2
      · rw [if_pos h2] at h ⊢
        exact hb h
      · rw [if_neg h2] at h ⊢
        exact hc h
    · rw [if_neg h1]
      exact ha h1
set_option maxHeartbeats 4000000 in
set_option maxRecDepth 100000 in
theorem c_Wk_run (l : Launch) (G : jm_G) (d : Nat) (hd : 4 ≤ d) {h : jm_H} {w n : Nat} {kd : Int32} {v : Int64} {S : Nat → Int64} {f Lf N : Nat} {ST DT : Nat → Int32} {NA : Nat → Int64} {PL : Nat → Int32} {SK : Nat → Int32} {SV : Nat → Int64} {ρ : Int64 → Int32 × Int64} {t : Term} (hW : WkA h w n kd v S) (hF0 : RunF h w f Lf N ST DT SK SV) (ht : Tree t) (hc : Cdx ST DT NA PL t 0 0 Lf N) (hρ : ∀ j, j < N → (SK j, SV j) = ρ (NA j)) : jm_CP l G mm_Wk_run d [.ref w, .ref f] h (fun v9 h9 => v9 = none ∧ jm_fr (S_wk w) h h9 ∧ ∃ n' S', WkA h9 w n' (ev ρ t).1 (ev ρ t).2 S') := by
  obtain ⟨tw, w0, w1, w2, w3, ts, hS⟩ := id hW
  have hLf := hF0.2.2.2.2.2.2.2.2.1
  refine jm_of (by decide) rfl (Nat.le_of_ble_eq_true rfl) ?_
  refine jx_aload_n d_Wk_run_0 0 rfl ?_
  refine jx_iconst (v0 := 0) d_Wk_run_1 (by decide) ?_
  refine jx_put (v0 := .int (0)) d_Wk_run_2 fF_Wk_15 jv_Wk ft_Wk_height tw rfl rfl ?_
  refine jx_aload_n d_Wk_run_5 0 rfl ?_
  refine jx_iconst (v0 := 1) d_Wk_run_6 (by decide) ?_
  refine jx_put (v0 := .int (1)) d_Wk_run_7 fF_Wk_19 jv_Wk ft_Wk_kind tw rfl rfl ?_
  refine jx_iconst (v0 := 0) d_Wk_run_10 (by decide) ?_
  refine jx_istore_n (lv' := [(2, .int (0)), (0, .ref (w)), (1, .ref (f))]) d_Wk_run_11 (by decide) rfl ?_
  refine jx_iconst (v0 := 0) d_Wk_run_12 (by decide) ?_
  refine jx_istore_n (lv' := [(3, .int (0)), (2, .int (0)), (0, .ref (w)), (1, .ref (f))]) d_Wk_run_13 (by decide) rfl ?_
  have q : jm_fr (S_wk w) h (jm_put (jm_put h (w) 1 (.int (0))) (w) 2 (.int (1))) := (jm_fr.rf.put (Or.inl rfl)).put (Or.inl rfl)
  have hW2 : WkA (jm_put (jm_put h (w) 1 (.int (0))) (w) 2 (.int (1))) w 0 1 v S := hW.hgt.knd
  refine run_tree (l := l) (G := G) hd hF0 hρ t ht 0 0 Lf N hc (Nat.le_refl _) (Nat.le_refl _) 0 S _ 0 (Nat.le_refl _) hW2 q (by omega) (fun e h1 S1 g1 hg1 hW1 q1 e1 e2 => ?_) (fun e h1 S1 a1 g1 n1 ha1 hW1 q1 => ?_)
  · refine run_end1 hd hF0 q1 hW1 ⟨_, rfl, rfl, (q1.put (Or.inl rfl)).put (Or.inl rfl), 0, S1, ?_⟩
    rw [e, ← e1]
    exact hW1.hgt.val
  · refine run_end0 hF0 q1 hW1 e ha1 ⟨_, rfl, rfl, q1.put (Or.inl rfl), n1, S1, ?_⟩
    rw [ev_err ρ t ht e]
    exact hW1.val
