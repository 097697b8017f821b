/-! ===== the law: all calls of a script ===== -/
set_option maxHeartbeats 1000000 in
theorem law_loop {N S : Int} : ∀ (it : Nat) (i : Int) (c : zC) (R : zI) (o5 o6 : Option zV), ((c.2.2.1 : Int) + 10 - i).toNat = it → 3 ≤ i → i ≤ 646 → c.2.2.1 ≤ 643 → INV c R → (c.1 : Int) ≤ N + i → (c.2.1 : Int) ≤ S + 6 * i → ZX m_L_law 57 (lwL i o5 o6) [] (wr c R) (fun o w => o = .inl (some (.inl 1)) ∧ (w.1 : Int) ≤ N + 646 ∧ (w.2.1 : Int) ≤ S + 6 * 646) := by
  intro it
  refine Nat.strongRecOn it (fun it ih_v => ?_)
  intro i c R o5 o6 hit_v i0_v i9_v hL hI hc_v hs
  refine zx_go (pc1 := 60) (l1 := lwL i o5 o6) (st1 := [zr 0, zi i]) (w1 := wr c R) g_L_law 2 _ _ _ _ rfl ?_
  refine gz_alen (q := (.int, c.2.2.1)) g_L_law rfl rfl (by decide) ?_
  refine zx_go (pc1 := 64) (l1 := lwL i o5 o6) (st1 := [zi ((c.2.2.1 : Int) - 10), zi i]) (w1 := wr c R) g_L_law 2 _ _ _ _ rfl ?_
  refine zx_cmp g_L_law rfl (by omega) (by omega) (fun (h_v : (c.2.2.1 : Int) - 10 < i) => ?_) (fun (h_v : ¬ ((c.2.2.1 : Int) - 10 < i)) => ?_)
  · refine zx_go (pc1 := 1424) (l1 := lwL i o5 o6) (st1 := [zi 1]) (w1 := wr c R) g_L_law 1 _ _ _ _ rfl ?_
    refine zx_iret g_L_law rfl (.inr (.inr rfl)) ?_
    exact ⟨rfl, show (c.1 : Int) ≤ N + 646 by omega, show (c.2.1 : Int) ≤ S + 6 * 646 by omega⟩
  · refine zx_go (pc1 := 70) (l1 := lwL i o5 o6) (st1 := [zi i, zr 0]) (w1 := wr c R) g_L_law 2 _ _ _ _ rfl ?_
    refine gz_sld (n := c.2.2.1) rfl g_L_law rfl rfl (by omega) (by omega) (by omega) ?_
    refine zx_go (pc1 := 73) (l1 := lwL i o5 o6) (st1 := [zi 15, zi (R 0 i)]) (w1 := wr c R) g_L_law 1 _ _ _ _ rfl ?_
    refine zx_go (pc1 := 74) (l1 := lwL i o5 o6) (st1 := [zi (zand (R 0 i) 15)]) (w1 := wr c R) g_L_law 1 _ _ _ _ rfl ?_
    have K_v : ∀ {c1 : zC} {R1 : zI} (o5 o6 : Option zV), INV c1 R1 → c1.2.2.1 = c.2.2.1 → c1.1 ≤ c.1 + 1 → c1.2.1 ≤ c.2.1 + 6 → ZX m_L_law 1417 (lwL i o5 o6) [] (wr c1 R1) (fun o w => o = .inl (some (.inl 1)) ∧ (w.1 : Int) ≤ N + 646 ∧ (w.2.1 : Int) ≤ S + 6 * 646) := by
      intro c1 R1 o5 o6 h1 h2 h3 h4
      refine zx_go (pc1 := 57) (l1 := lwL (i + 10) o5 o6) (st1 := []) (w1 := wr c1 R1) g_L_law 2 _ _ _ _ rfl ?_
      exact ih_v ((c1.2.2.1 : Int) + 10 - (i + 10)).toNat (by omega) (i + 10) c1 R1 o5 o6 rfl (by omega) (by omega) (by omega) h1 (by omega) (by omega)
    by_cases e0_v : zand (R 0 i) 15 = 0
    · refine zx_swE g_L_law rfl e0_v (by decide) (t := 144) rfl ?_
      exact lc_rule hI i0_v (by omega) (by omega) K_v
    by_cases e1_v : zand (R 0 i) 15 = 1
    · refine zx_swE g_L_law rfl e1_v (by decide) (t := 263) rfl ?_
      exact lc_net hI i0_v (by omega) (by omega) K_v
    by_cases e2_v : zand (R 0 i) 15 = 2
    · refine zx_swE g_L_law rfl e2_v (by decide) (t := 307) rfl ?_
      exact lc_pin hI i0_v (by omega) (by omega) K_v
    by_cases e3_v : zand (R 0 i) 15 = 3
    · refine zx_swE g_L_law rfl e3_v (by decide) (t := 363) rfl ?_
      exact lc_access hI i0_v (by omega) (by omega) K_v
    by_cases e4_v : zand (R 0 i) 15 = 4
    · refine zx_swE g_L_law rfl e4_v (by decide) (t := 528) rfl ?_
      exact lc_bar hI i0_v (by omega) (by omega) K_v
    by_cases e5_v : zand (R 0 i) 15 = 5
    · refine zx_swE g_L_law rfl e5_v (by decide) (t := 775) rfl ?_
      exact lc_shield hI i0_v (by omega) (by omega) K_v
    by_cases e6_v : zand (R 0 i) 15 = 6
    · refine zx_swE g_L_law rfl e6_v (by decide) (t := 838) rfl ?_
      exact lc_run hI i0_v (by omega) (by omega) K_v
    by_cases e7_v : zand (R 0 i) 15 = 7
    · refine zx_swE g_L_law rfl e7_v (by decide) (t := 894) rfl ?_
      exact lc_piece hI i0_v (by omega) (by omega) K_v
    by_cases e8 : zand (R 0 i) 15 = 8
    · refine zx_swE g_L_law rfl e8 (by decide) (t := 974) rfl ?_
      exact lc_chosen hI i0_v (by omega) (by omega) K_v
    by_cases e9_v : zand (R 0 i) 15 = 9
    · refine zx_swE g_L_law rfl e9_v (by decide) (t := 1030) rfl ?_
      exact lc_open hI i0_v (by omega) (by omega) K_v
    by_cases e10_v : zand (R 0 i) 15 = 10
    · refine zx_swE g_L_law rfl e10_v (by decide) (t := 1098) rfl ?_
      exact lc_joined hI i0_v (by omega) (by omega) K_v
    by_cases e11_v : zand (R 0 i) 15 = 11
    · refine zx_swE g_L_law rfl e11_v (by decide) (t := 1161) rfl ?_
      exact lc_broken hI i0_v (by omega) (by omega) K_v
    by_cases e12_v : zand (R 0 i) 15 = 12
    · refine zx_swE g_L_law rfl e12_v (by decide) (t := 1217) rfl ?_
      exact lc_history hI i0_v (by omega) (by omega) K_v
    by_cases e13_v : zand (R 0 i) 15 = 13
    · refine zx_swE g_L_law rfl e13_v (by decide) (t := 1361) rfl ?_
      exact lc_count hI i0_v (by omega) (by omega) K_v
    have zr15 := zand_R (R 0 i) 15
    refine zx_swD g_L_law rfl zr15 (by omega) (t := 1417) rfl ?_
    exact K_v o5 o6 hI rfl (Nat.le_succ _) (Nat.le_add_right _ _)

