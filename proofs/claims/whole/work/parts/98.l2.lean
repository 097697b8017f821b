/-! ===== the law: one call of a script ===== -/
abbrev lwL (i : Int) (o5 o6 : Option zV) : zL := [some (zr 0), some (zr 1), some (zr 32), some (zr 55), some (zi i), o5, o6]

set_option maxHeartbeats 1000000 in
theorem lc_rule {c : zC} {R : zI} {i : Int} {o5 o6 : Option zV} {Q : zO → zW → Prop} (hI : INV c R) (i0 : 3 ≤ i) (i1 : i + 10 ≤ (c.2.2.1 : Int)) (hL : c.2.2.1 ≤ 643) (K : ∀ {c1 : zC} {R1 : zI} (o5 o6 : Option zV), INV c1 R1 → c1.2.2.1 = c.2.2.1 → c1.1 ≤ c.1 + 1 → c1.2.1 ≤ c.2.1 + 6 → ZX m_L_law 1417 (lwL i o5 o6) [] (wr c1 R1) Q) : ZX m_L_law 144 (lwL i o5 o6) [] (wr c R) Q := by
  obtain ⟨code_v, val_v, V, hcd, hPv, hV0, hC, hMo⟩ := b_rule (k := R 0 (i + 1)) (z := R 0 (i + 2)) (v := zlor (zlshl (R 0 (i + 3)) 32) (zland (R 0 (i + 4)) 4294967295)) hI (hI.2.2.2.2.2.2.1 _) (hI.2.2.2.2.2.2.1 _) (zlor_R _ _)
  refine zx_go (pc1 := 150) (l1 := [some (zr 0), some (zr 1), some (zr 32), some (zr 55), some (zi i), o5, o6]) (st1 := [zi (i + 1), zr 0, zr 1]) (w1 := wr c R) g_L_law 5 _ _ _ _ rfl ?_
  refine gz_sld (n := c.2.2.1) rfl g_L_law rfl rfl (by omega) (by omega) (by omega) ?_
  refine zx_go (pc1 := 156) (l1 := [some (zr 0), some (zr 1), some (zr 32), some (zr 55), some (zi i), o5, o6]) (st1 := [zi (i + 2), zr 0, zi (R 0 (i + 1)), zr 1]) (w1 := wr c R) g_L_law 4 _ _ _ _ rfl ?_
  refine gz_sld (n := c.2.2.1) rfl g_L_law rfl rfl (by omega) (by omega) (by omega) ?_
  refine zx_go (pc1 := 162) (l1 := [some (zr 0), some (zr 1), some (zr 32), some (zr 55), some (zi i), o5, o6]) (st1 := [zi (i + 3), zr 0, zi (R 0 (i + 2)), zi (R 0 (i + 1)), zr 1]) (w1 := wr c R) g_L_law 4 _ _ _ _ rfl ?_
  refine gz_sld (n := c.2.2.1) rfl g_L_law rfl rfl (by omega) (by omega) (by omega) ?_
  refine zx_i2l g_L_law rfl (hI.2.2.2.2.2.2.1 _) ?_
  refine zx_go (pc1 := 166) (l1 := [some (zr 0), some (zr 1), some (zr 32), some (zr 55), some (zi i), o5, o6]) (st1 := [zi 32, zl (R 0 (i + 3)), zi (R 0 (i + 2)), zi (R 0 (i + 1)), zr 1]) (w1 := wr c R) g_L_law 1 _ _ _ _ rfl ?_
  refine zx_lshl g_L_law rfl ?_
  refine zx_go (pc1 := 172) (l1 := [some (zr 0), some (zr 1), some (zr 32), some (zr 55), some (zi i), o5, o6]) (st1 := [zi (i + 4), zr 0, zl (zlshl (R 0 (i + 3)) 32), zi (R 0 (i + 2)), zi (R 0 (i + 1)), zr 1]) (w1 := wr c R) g_L_law 4 _ _ _ _ rfl ?_
  refine gz_sld (n := c.2.2.1) rfl g_L_law rfl rfl (by omega) (by omega) (by omega) ?_
  refine zx_i2l g_L_law rfl (hI.2.2.2.2.2.2.1 _) ?_
  refine zx_go (pc1 := 177) (l1 := [some (zr 0), some (zr 1), some (zr 32), some (zr 55), some (zi i), o5, o6]) (st1 := [zl 4294967295, zl (R 0 (i + 4)), zl (zlshl (R 0 (i + 3)) 32), zi (R 0 (i + 2)), zi (R 0 (i + 1)), zr 1]) (w1 := wr c R) g_L_law 1 _ _ _ _ rfl ?_
  refine zx_land g_L_law rfl ?_
  refine zx_lor g_L_law rfl ?_
  refine zx_go (pc1 := 180) (l1 := [some (zr 0), some (zr 1), some (zr 32), some (zr 55), some (zi i), o5, o6]) (st1 := [zr 55, zl (zlor (zlshl (R 0 (i + 3)) 32) (zland (R 0 (i + 4)) 4294967295)), zi (R 0 (i + 2)), zi (R 0 (i + 1)), zr 1]) (w1 := wr c R) g_L_law 1 _ _ _ _ rfl ?_
  refine lw_cs (As := [zr 1, zi (R 0 (i + 1)), zi (R 0 (i + 2)), zl (zlor (zlshl (R 0 (i + 3)) 32) (zland (R 0 (i + 4)) 4294967295)), zr 55]) (rest := []) g_L_law rfl g_L_rule rfl rfl (Nat.le_of_ble_eq_true rfl) (Nat.le_of_ble_eq_true rfl) (t_L_rule hcd hPv hC) (fun hk R1 hV => ?_) (fun hk => ?_)
  · have hR0 := hV0 R1 hV
    refine zx_go (pc1 := 191) (l1 := [some (zr 0), some (zr 1), some (zr 32), some (zr 55), some (zi i), some (zi 0), o6]) (st1 := [zi (i + 1), zr 0, zr 32]) (w1 := wr (cOut c val_v) R1) g_L_law 6 _ _ _ _ rfl ?_
    refine gz_sld (n := c.2.2.1) hR0 g_L_law rfl rfl (by omega) (by omega) (by omega) ?_
    refine zx_go (pc1 := 197) (l1 := [some (zr 0), some (zr 1), some (zr 32), some (zr 55), some (zi i), some (zi 0), o6]) (st1 := [zi (i + 2), zr 0, zi (R 0 (i + 1)), zr 32]) (w1 := wr (cOut c val_v) R1) g_L_law 4 _ _ _ _ rfl ?_
    refine gz_sld (n := c.2.2.1) hR0 g_L_law rfl rfl (by omega) (by omega) (by omega) ?_
    refine zx_go (pc1 := 203) (l1 := [some (zr 0), some (zr 1), some (zr 32), some (zr 55), some (zi i), some (zi 0), o6]) (st1 := [zi (i + 3), zr 0, zi (R 0 (i + 2)), zi (R 0 (i + 1)), zr 32]) (w1 := wr (cOut c val_v) R1) g_L_law 4 _ _ _ _ rfl ?_
    refine gz_sld (n := c.2.2.1) hR0 g_L_law rfl rfl (by omega) (by omega) (by omega) ?_
    refine zx_i2l g_L_law rfl (hI.2.2.2.2.2.2.1 _) ?_
    refine zx_go (pc1 := 207) (l1 := [some (zr 0), some (zr 1), some (zr 32), some (zr 55), some (zi i), some (zi 0), o6]) (st1 := [zi 32, zl (R 0 (i + 3)), zi (R 0 (i + 2)), zi (R 0 (i + 1)), zr 32]) (w1 := wr (cOut c val_v) R1) g_L_law 1 _ _ _ _ rfl ?_
    refine zx_lshl g_L_law rfl ?_
    refine zx_go (pc1 := 213) (l1 := [some (zr 0), some (zr 1), some (zr 32), some (zr 55), some (zi i), some (zi 0), o6]) (st1 := [zi (i + 4), zr 0, zl (zlshl (R 0 (i + 3)) 32), zi (R 0 (i + 2)), zi (R 0 (i + 1)), zr 32]) (w1 := wr (cOut c val_v) R1) g_L_law 4 _ _ _ _ rfl ?_
    refine gz_sld (n := c.2.2.1) hR0 g_L_law rfl rfl (by omega) (by omega) (by omega) ?_
    refine zx_i2l g_L_law rfl (hI.2.2.2.2.2.2.1 _) ?_
    refine zx_go (pc1 := 218) (l1 := [some (zr 0), some (zr 1), some (zr 32), some (zr 55), some (zi i), some (zi 0), o6]) (st1 := [zl 4294967295, zl (R 0 (i + 4)), zl (zlshl (R 0 (i + 3)) 32), zi (R 0 (i + 2)), zi (R 0 (i + 1)), zr 32]) (w1 := wr (cOut c val_v) R1) g_L_law 1 _ _ _ _ rfl ?_
    refine zx_land g_L_law rfl ?_
    refine zx_lor g_L_law rfl ?_
    refine gx_cvR (As := [zi (R 0 (i + 1)), zi (R 0 (i + 2)), zl (zlor (zlshl (R 0 (i + 3)) 32) (zland (R 0 (i + 4)) 4294967295))]) (rest := []) g_L_law rfl g_X6_rule rfl rfl (Nat.le_of_ble_eq_true rfl) (Nat.le_of_ble_eq_true rfl) rfl (by decide) (hMo _ _ _ _ (.inl ⟨hk, hV⟩)) (fun rm Rrm hrm => ?_)
    obtain ⟨hq1, hq2, hq3⟩ := hrm
    have hq4 := hq2 hk
    have hv1 := hPv hk
    refine zx_go (pc1 := 226) (l1 := [some (zr 0), some (zr 1), some (zr 32), some (zr 55), some (zi i), some (zi 0), some (zi rm)]) (st1 := [zr 32]) (w1 := wr (cOut c val_v) Rrm) g_L_law 2 _ _ _ _ rfl ?_
    refine zx_cvF (As := []) (rest := []) g_L_law rfl g_X6_thrown rfl rfl (Nat.le_of_ble_eq_true rfl) (Nat.le_of_ble_eq_true rfl) rfl (by decide) m_thrown ?_
    refine zx_go (pc1 := 231) (l1 := [some (zr 0), some (zr 1), some (zr 32), some (zr 55), some (zi i), some (zi 0), some (zi rm)]) (st1 := [zi 0, zi (Rrm 32 0)]) (w1 := wr (cOut c val_v) Rrm) g_L_law 1 _ _ _ _ rfl ?_
    refine zx_cmp g_L_law rfl (by omega) (by decide) (fun (h231 : (Rrm 32 0) = 0) => ?_) (fun (h231 : ¬ ((Rrm 32 0) = 0)) => ?_)
    · refine zx_go (pc1 := 238) (l1 := [some (zr 0), some (zr 1), some (zr 32), some (zr 55), some (zi i), some (zi 0), some (zi rm)]) (st1 := [zi 0]) (w1 := wr (cOut c val_v) Rrm) g_L_law 1 _ _ _ _ rfl ?_
      refine zx_ifF g_L_law rfl (by decide) (show ¬ ((0 : Int) ≠ 0) by decide) ?_
      refine zx_go (pc1 := 243) (l1 := [some (zr 0), some (zr 1), some (zr 32), some (zr 55), some (zi i), some (zi 0), some (zi rm)]) (st1 := [zi 0, zr 55]) (w1 := wr (cOut c val_v) Rrm) g_L_law 2 _ _ _ _ rfl ?_
      refine gz_lald g_L_law rfl ?_
      refine zx_go (pc1 := 246) (l1 := [some (zr 0), some (zr 1), some (zr 32), some (zr 55), some (zi i), some (zi 0), some (zi rm)]) (st1 := [zi rm, zl val_v]) (w1 := wr (cOut c val_v) Rrm) g_L_law 1 _ _ _ _ rfl ?_
      refine zx_if g_L_law rfl (by omega) (fun (h246 : rm = 0) => ?_) (fun (h246 : ¬ rm = 0) => ?_)
      · refine zx_go (pc1 := 254) (l1 := [some (zr 0), some (zr 1), some (zr 32), some (zr 55), some (zi i), some (zi 0), some (zi rm)]) (st1 := [zl 0, zl val_v]) (w1 := wr (cOut c val_v) Rrm) g_L_law 1 _ _ _ _ rfl ?_
        refine zx_lcif g_L_law rfl rfl (by omega) (by decide) (fun (h254 : val_v = 0) => ?_) (fun (h254 : ¬ (val_v = 0)) => ?_)
        · refine zx_go (pc1 := 1417) (l1 := [some (zr 0), some (zr 1), some (zr 32), some (zr 55), some (zi i), some (zi 0), some (zi rm)]) (st1 := []) (w1 := wr (cOut c val_v) Rrm) g_L_law 1 _ _ _ _ rfl ?_
          exact K _ _ hq3 rfl (Nat.le_succ _) (Nat.le_add_right _ _)
        · omega
      · refine zx_go (pc1 := 254) (l1 := [some (zr 0), some (zr 1), some (zr 32), some (zr 55), some (zi i), some (zi 0), some (zi rm)]) (st1 := [zl 1, zl val_v]) (w1 := wr (cOut c val_v) Rrm) g_L_law 2 _ _ _ _ rfl ?_
        refine zx_lcif g_L_law rfl rfl (by omega) (by decide) (fun (h254 : val_v = 1) => ?_) (fun (h254 : ¬ (val_v = 1)) => ?_)
        · refine zx_go (pc1 := 1417) (l1 := [some (zr 0), some (zr 1), some (zr 32), some (zr 55), some (zi i), some (zi 0), some (zi rm)]) (st1 := []) (w1 := wr (cOut c val_v) Rrm) g_L_law 1 _ _ _ _ rfl ?_
          exact K _ _ hq3 rfl (Nat.le_succ _) (Nat.le_add_right _ _)
        · omega
    · omega
  · refine zx_go (pc1 := 191) (l1 := [some (zr 0), some (zr 1), some (zr 32), some (zr 55), some (zi i), some (zi code_v), o6]) (st1 := [zi (i + 1), zr 0, zr 32]) (w1 := wr (cBm c) R) g_L_law 6 _ _ _ _ rfl ?_
    refine gz_sld (n := c.2.2.1) rfl g_L_law rfl rfl (by omega) (by omega) (by omega) ?_
    refine zx_go (pc1 := 197) (l1 := [some (zr 0), some (zr 1), some (zr 32), some (zr 55), some (zi i), some (zi code_v), o6]) (st1 := [zi (i + 2), zr 0, zi (R 0 (i + 1)), zr 32]) (w1 := wr (cBm c) R) g_L_law 4 _ _ _ _ rfl ?_
    refine gz_sld (n := c.2.2.1) rfl g_L_law rfl rfl (by omega) (by omega) (by omega) ?_
    refine zx_go (pc1 := 203) (l1 := [some (zr 0), some (zr 1), some (zr 32), some (zr 55), some (zi i), some (zi code_v), o6]) (st1 := [zi (i + 3), zr 0, zi (R 0 (i + 2)), zi (R 0 (i + 1)), zr 32]) (w1 := wr (cBm c) R) g_L_law 4 _ _ _ _ rfl ?_
    refine gz_sld (n := c.2.2.1) rfl g_L_law rfl rfl (by omega) (by omega) (by omega) ?_
    refine zx_i2l g_L_law rfl (hI.2.2.2.2.2.2.1 _) ?_
    refine zx_go (pc1 := 207) (l1 := [some (zr 0), some (zr 1), some (zr 32), some (zr 55), some (zi i), some (zi code_v), o6]) (st1 := [zi 32, zl (R 0 (i + 3)), zi (R 0 (i + 2)), zi (R 0 (i + 1)), zr 32]) (w1 := wr (cBm c) R) g_L_law 1 _ _ _ _ rfl ?_
    refine zx_lshl g_L_law rfl ?_
    refine zx_go (pc1 := 213) (l1 := [some (zr 0), some (zr 1), some (zr 32), some (zr 55), some (zi i), some (zi code_v), o6]) (st1 := [zi (i + 4), zr 0, zl (zlshl (R 0 (i + 3)) 32), zi (R 0 (i + 2)), zi (R 0 (i + 1)), zr 32]) (w1 := wr (cBm c) R) g_L_law 4 _ _ _ _ rfl ?_
    refine gz_sld (n := c.2.2.1) rfl g_L_law rfl rfl (by omega) (by omega) (by omega) ?_
    refine zx_i2l g_L_law rfl (hI.2.2.2.2.2.2.1 _) ?_
    refine zx_go (pc1 := 218) (l1 := [some (zr 0), some (zr 1), some (zr 32), some (zr 55), some (zi i), some (zi code_v), o6]) (st1 := [zl 4294967295, zl (R 0 (i + 4)), zl (zlshl (R 0 (i + 3)) 32), zi (R 0 (i + 2)), zi (R 0 (i + 1)), zr 32]) (w1 := wr (cBm c) R) g_L_law 1 _ _ _ _ rfl ?_
    refine zx_land g_L_law rfl ?_
    refine zx_lor g_L_law rfl ?_
    refine gx_cvR (As := [zi (R 0 (i + 1)), zi (R 0 (i + 2)), zl (zlor (zlshl (R 0 (i + 3)) 32) (zland (R 0 (i + 4)) 4294967295))]) (rest := []) g_L_law rfl g_X6_rule rfl rfl (Nat.le_of_ble_eq_true rfl) (Nat.le_of_ble_eq_true rfl) rfl (by decide) (hMo _ _ _ _ (.inr ⟨hk, rfl⟩)) (fun rm Rrm hrm => ?_)
    obtain ⟨hq1, hq2, hq3⟩ := hrm
    refine zx_go (pc1 := 226) (l1 := [some (zr 0), some (zr 1), some (zr 32), some (zr 55), some (zi i), some (zi code_v), some (zi rm)]) (st1 := [zr 32]) (w1 := wr (cBm c) Rrm) g_L_law 2 _ _ _ _ rfl ?_
    refine zx_cvF (As := []) (rest := []) g_L_law rfl g_X6_thrown rfl rfl (Nat.le_of_ble_eq_true rfl) (Nat.le_of_ble_eq_true rfl) rfl (by decide) m_thrown ?_
    refine zx_go (pc1 := 231) (l1 := [some (zr 0), some (zr 1), some (zr 32), some (zr 55), some (zi i), some (zi code_v), some (zi rm)]) (st1 := [zi code_v, zi (Rrm 32 0)]) (w1 := wr (cBm c) Rrm) g_L_law 1 _ _ _ _ rfl ?_
    refine zx_cmp g_L_law rfl (by omega) (by omega) (fun (h231 : (Rrm 32 0) = code_v) => ?_) (fun (h231 : ¬ ((Rrm 32 0) = code_v)) => ?_)
    · refine zx_go (pc1 := 238) (l1 := [some (zr 0), some (zr 1), some (zr 32), some (zr 55), some (zi i), some (zi code_v), some (zi rm)]) (st1 := [zi code_v]) (w1 := wr (cBm c) Rrm) g_L_law 1 _ _ _ _ rfl ?_
      refine zx_if g_L_law rfl (by omega) (fun (h238 : code_v ≠ 0) => ?_) (fun (h238 : ¬ code_v ≠ 0) => ?_)
      · refine zx_go (pc1 := 1417) (l1 := [some (zr 0), some (zr 1), some (zr 32), some (zr 55), some (zi i), some (zi code_v), some (zi rm)]) (st1 := []) (w1 := wr (cBm c) Rrm) g_L_law 1 _ _ _ _ rfl ?_
        exact K _ _ hq3 rfl (Nat.le_refl _) (Nat.le_refl _)
      · exact absurd (Classical.not_not.mp h238) hk
    · omega

set_option maxHeartbeats 1000000 in
theorem lc_net {c : zC} {R : zI} {i : Int} {o5 o6 : Option zV} {Q : zO → zW → Prop} (hI : INV c R) (i0 : 3 ≤ i) (i1 : i + 10 ≤ (c.2.2.1 : Int)) (hL : c.2.2.1 ≤ 643) (K : ∀ {c1 : zC} {R1 : zI} (o5 o6 : Option zV), INV c1 R1 → c1.2.2.1 = c.2.2.1 → c1.1 ≤ c.1 + 1 → c1.2.1 ≤ c.2.1 + 6 → ZX m_L_law 1417 (lwL i o5 o6) [] (wr c1 R1) Q) : ZX m_L_law 263 (lwL i o5 o6) [] (wr c R) Q := by
  obtain ⟨code_v, val_v, V, hcd, hPv, hV0, hC, hMo⟩ := b_net  hI 
  refine zx_go (pc1 := 265) (l1 := [some (zr 0), some (zr 1), some (zr 32), some (zr 55), some (zi i), o5, o6]) (st1 := [zr 55, zr 1]) (w1 := wr c R) g_L_law 2 _ _ _ _ rfl ?_
  refine lw_cs (As := [zr 1, zr 55]) (rest := []) g_L_law rfl g_L_net rfl rfl (Nat.le_of_ble_eq_true rfl) (Nat.le_of_ble_eq_true rfl) (t_L_net hcd hPv hC) (fun hk R1 hV => ?_) (fun hk => ?_)
  · have hR0 := hV0 R1 hV
    refine zx_go (pc1 := 271) (l1 := [some (zr 0), some (zr 1), some (zr 32), some (zr 55), some (zi i), some (zi 0), o6]) (st1 := [zr 32]) (w1 := wr (cOut c val_v) R1) g_L_law 2 _ _ _ _ rfl ?_
    refine gx_cvR (As := []) (rest := []) g_L_law rfl g_X6_net rfl rfl (Nat.le_of_ble_eq_true rfl) (Nat.le_of_ble_eq_true rfl) rfl (by decide) (hMo _ _ _ _ (.inl ⟨hk, hV⟩)) (fun rm Rrm hrm => ?_)
    obtain ⟨hq1, hq2, hq3⟩ := hrm
    have hq4 := hq2 hk
    have hv1 := hPv hk
    refine zx_go (pc1 := 277) (l1 := [some (zr 0), some (zr 1), some (zr 32), some (zr 55), some (zi i), some (zi 0), some (zi rm)]) (st1 := [zr 32]) (w1 := wr (cOut c val_v) Rrm) g_L_law 2 _ _ _ _ rfl ?_
    refine zx_cvF (As := []) (rest := []) g_L_law rfl g_X6_thrown rfl rfl (Nat.le_of_ble_eq_true rfl) (Nat.le_of_ble_eq_true rfl) rfl (by decide) m_thrown ?_
    refine zx_go (pc1 := 282) (l1 := [some (zr 0), some (zr 1), some (zr 32), some (zr 55), some (zi i), some (zi 0), some (zi rm)]) (st1 := [zi 0, zi (Rrm 32 0)]) (w1 := wr (cOut c val_v) Rrm) g_L_law 1 _ _ _ _ rfl ?_
    refine zx_cmp g_L_law rfl (by omega) (by decide) (fun (h282 : (Rrm 32 0) = 0) => ?_) (fun (h282 : ¬ ((Rrm 32 0) = 0)) => ?_)
    · refine zx_go (pc1 := 289) (l1 := [some (zr 0), some (zr 1), some (zr 32), some (zr 55), some (zi i), some (zi 0), some (zi rm)]) (st1 := [zi 0]) (w1 := wr (cOut c val_v) Rrm) g_L_law 1 _ _ _ _ rfl ?_
      refine zx_ifF g_L_law rfl (by decide) (show ¬ ((0 : Int) ≠ 0) by decide) ?_
      refine zx_go (pc1 := 294) (l1 := [some (zr 0), some (zr 1), some (zr 32), some (zr 55), some (zi i), some (zi 0), some (zi rm)]) (st1 := [zi 0, zr 55]) (w1 := wr (cOut c val_v) Rrm) g_L_law 2 _ _ _ _ rfl ?_
      refine gz_lald g_L_law rfl ?_
      refine zx_go (pc1 := 297) (l1 := [some (zr 0), some (zr 1), some (zr 32), some (zr 55), some (zi i), some (zi 0), some (zi rm)]) (st1 := [zi rm, zl val_v]) (w1 := wr (cOut c val_v) Rrm) g_L_law 1 _ _ _ _ rfl ?_
      refine zx_i2l g_L_law rfl (by omega) ?_
      refine zx_lcif g_L_law rfl rfl (by omega) (by omega) (fun (h298 : val_v = rm) => ?_) (fun (h298 : ¬ (val_v = rm)) => ?_)
      · refine zx_go (pc1 := 1417) (l1 := [some (zr 0), some (zr 1), some (zr 32), some (zr 55), some (zi i), some (zi 0), some (zi rm)]) (st1 := []) (w1 := wr (cOut c val_v) Rrm) g_L_law 1 _ _ _ _ rfl ?_
        exact K _ _ hq3 rfl (Nat.le_succ _) (Nat.le_add_right _ _)
      · omega
    · omega
  · refine zx_go (pc1 := 271) (l1 := [some (zr 0), some (zr 1), some (zr 32), some (zr 55), some (zi i), some (zi code_v), o6]) (st1 := [zr 32]) (w1 := wr (cBm c) R) g_L_law 2 _ _ _ _ rfl ?_
    refine gx_cvR (As := []) (rest := []) g_L_law rfl g_X6_net rfl rfl (Nat.le_of_ble_eq_true rfl) (Nat.le_of_ble_eq_true rfl) rfl (by decide) (hMo _ _ _ _ (.inr ⟨hk, rfl⟩)) (fun rm Rrm hrm => ?_)
    obtain ⟨hq1, hq2, hq3⟩ := hrm
    refine zx_go (pc1 := 277) (l1 := [some (zr 0), some (zr 1), some (zr 32), some (zr 55), some (zi i), some (zi code_v), some (zi rm)]) (st1 := [zr 32]) (w1 := wr (cBm c) Rrm) g_L_law 2 _ _ _ _ rfl ?_
    refine zx_cvF (As := []) (rest := []) g_L_law rfl g_X6_thrown rfl rfl (Nat.le_of_ble_eq_true rfl) (Nat.le_of_ble_eq_true rfl) rfl (by decide) m_thrown ?_
    refine zx_go (pc1 := 282) (l1 := [some (zr 0), some (zr 1), some (zr 32), some (zr 55), some (zi i), some (zi code_v), some (zi rm)]) (st1 := [zi code_v, zi (Rrm 32 0)]) (w1 := wr (cBm c) Rrm) g_L_law 1 _ _ _ _ rfl ?_
    refine zx_cmp g_L_law rfl (by omega) (by omega) (fun (h282 : (Rrm 32 0) = code_v) => ?_) (fun (h282 : ¬ ((Rrm 32 0) = code_v)) => ?_)
    · refine zx_go (pc1 := 289) (l1 := [some (zr 0), some (zr 1), some (zr 32), some (zr 55), some (zi i), some (zi code_v), some (zi rm)]) (st1 := [zi code_v]) (w1 := wr (cBm c) Rrm) g_L_law 1 _ _ _ _ rfl ?_
      refine zx_if g_L_law rfl (by omega) (fun (h289 : code_v ≠ 0) => ?_) (fun (h289 : ¬ code_v ≠ 0) => ?_)
      · refine zx_go (pc1 := 1417) (l1 := [some (zr 0), some (zr 1), some (zr 32), some (zr 55), some (zi i), some (zi code_v), some (zi rm)]) (st1 := []) (w1 := wr (cBm c) Rrm) g_L_law 1 _ _ _ _ rfl ?_
        exact K _ _ hq3 rfl (Nat.le_refl _) (Nat.le_refl _)
      · exact absurd (Classical.not_not.mp h289) hk
    · omega

set_option maxHeartbeats 1000000 in
theorem lc_pin {c : zC} {R : zI} {i : Int} {o5 o6 : Option zV} {Q : zO → zW → Prop} (hI : INV c R) (i0 : 3 ≤ i) (i1 : i + 10 ≤ (c.2.2.1 : Int)) (hL : c.2.2.1 ≤ 643) (K : ∀ {c1 : zC} {R1 : zI} (o5 o6 : Option zV), INV c1 R1 → c1.2.2.1 = c.2.2.1 → c1.1 ≤ c.1 + 1 → c1.2.1 ≤ c.2.1 + 6 → ZX m_L_law 1417 (lwL i o5 o6) [] (wr c1 R1) Q) : ZX m_L_law 307 (lwL i o5 o6) [] (wr c R) Q := by
  obtain ⟨code_v, val_v, V, hcd, hPv, hV0, hC, hMo⟩ := b_pin (n := R 0 (i + 1)) hI (hI.2.2.2.2.2.2.1 _)
  refine zx_go (pc1 := 313) (l1 := [some (zr 0), some (zr 1), some (zr 32), some (zr 55), some (zi i), o5, o6]) (st1 := [zi (i + 1), zr 0, zr 1]) (w1 := wr c R) g_L_law 5 _ _ _ _ rfl ?_
  refine gz_sld (n := c.2.2.1) rfl g_L_law rfl rfl (by omega) (by omega) (by omega) ?_
  refine zx_go (pc1 := 315) (l1 := [some (zr 0), some (zr 1), some (zr 32), some (zr 55), some (zi i), o5, o6]) (st1 := [zr 55, zi (R 0 (i + 1)), zr 1]) (w1 := wr c R) g_L_law 1 _ _ _ _ rfl ?_
  refine lw_cs (As := [zr 1, zi (R 0 (i + 1)), zr 55]) (rest := []) g_L_law rfl g_L_pin rfl rfl (Nat.le_of_ble_eq_true rfl) (Nat.le_of_ble_eq_true rfl) (t_L_pin hcd hPv hC) (fun hk R1 hV => ?_) (fun hk => ?_)
  · have hR0 := hV0 R1 hV
    refine zx_go (pc1 := 326) (l1 := [some (zr 0), some (zr 1), some (zr 32), some (zr 55), some (zi i), some (zi 0), o6]) (st1 := [zi (i + 1), zr 0, zr 32]) (w1 := wr (cOut c val_v) R1) g_L_law 6 _ _ _ _ rfl ?_
    refine gz_sld (n := c.2.2.1) hR0 g_L_law rfl rfl (by omega) (by omega) (by omega) ?_
    refine gx_cvR (As := [zi (R 0 (i + 1))]) (rest := []) g_L_law rfl g_X6_pin rfl rfl (Nat.le_of_ble_eq_true rfl) (Nat.le_of_ble_eq_true rfl) rfl (by decide) (hMo _ _ _ _ (.inl ⟨hk, hV⟩)) (fun rm Rrm hrm => ?_)
    obtain ⟨hq1, hq2, hq3⟩ := hrm
    have hq4 := hq2 hk
    have hv1 := hPv hk
    refine zx_go (pc1 := 333) (l1 := [some (zr 0), some (zr 1), some (zr 32), some (zr 55), some (zi i), some (zi 0), some (zi rm)]) (st1 := [zr 32]) (w1 := wr (cOut c val_v) Rrm) g_L_law 2 _ _ _ _ rfl ?_
    refine zx_cvF (As := []) (rest := []) g_L_law rfl g_X6_thrown rfl rfl (Nat.le_of_ble_eq_true rfl) (Nat.le_of_ble_eq_true rfl) rfl (by decide) m_thrown ?_
    refine zx_go (pc1 := 338) (l1 := [some (zr 0), some (zr 1), some (zr 32), some (zr 55), some (zi i), some (zi 0), some (zi rm)]) (st1 := [zi 0, zi (Rrm 32 0)]) (w1 := wr (cOut c val_v) Rrm) g_L_law 1 _ _ _ _ rfl ?_
    refine zx_cmp g_L_law rfl (by omega) (by decide) (fun (h338 : (Rrm 32 0) = 0) => ?_) (fun (h338 : ¬ ((Rrm 32 0) = 0)) => ?_)
    · refine zx_go (pc1 := 345) (l1 := [some (zr 0), some (zr 1), some (zr 32), some (zr 55), some (zi i), some (zi 0), some (zi rm)]) (st1 := [zi 0]) (w1 := wr (cOut c val_v) Rrm) g_L_law 1 _ _ _ _ rfl ?_
      refine zx_ifF g_L_law rfl (by decide) (show ¬ ((0 : Int) ≠ 0) by decide) ?_
      refine zx_go (pc1 := 350) (l1 := [some (zr 0), some (zr 1), some (zr 32), some (zr 55), some (zi i), some (zi 0), some (zi rm)]) (st1 := [zi 0, zr 55]) (w1 := wr (cOut c val_v) Rrm) g_L_law 2 _ _ _ _ rfl ?_
      refine gz_lald g_L_law rfl ?_
      refine zx_go (pc1 := 353) (l1 := [some (zr 0), some (zr 1), some (zr 32), some (zr 55), some (zi i), some (zi 0), some (zi rm)]) (st1 := [zi rm, zl val_v]) (w1 := wr (cOut c val_v) Rrm) g_L_law 1 _ _ _ _ rfl ?_
      refine zx_i2l g_L_law rfl (by omega) ?_
      refine zx_lcif g_L_law rfl rfl (by omega) (by omega) (fun (h354 : val_v = rm) => ?_) (fun (h354 : ¬ (val_v = rm)) => ?_)
      · refine zx_go (pc1 := 1417) (l1 := [some (zr 0), some (zr 1), some (zr 32), some (zr 55), some (zi i), some (zi 0), some (zi rm)]) (st1 := []) (w1 := wr (cOut c val_v) Rrm) g_L_law 1 _ _ _ _ rfl ?_
        exact K _ _ hq3 rfl (Nat.le_succ _) (Nat.le_add_right _ _)
      · omega
    · omega
  · refine zx_go (pc1 := 326) (l1 := [some (zr 0), some (zr 1), some (zr 32), some (zr 55), some (zi i), some (zi code_v), o6]) (st1 := [zi (i + 1), zr 0, zr 32]) (w1 := wr (cBm c) R) g_L_law 6 _ _ _ _ rfl ?_
    refine gz_sld (n := c.2.2.1) rfl g_L_law rfl rfl (by omega) (by omega) (by omega) ?_
    refine gx_cvR (As := [zi (R 0 (i + 1))]) (rest := []) g_L_law rfl g_X6_pin rfl rfl (Nat.le_of_ble_eq_true rfl) (Nat.le_of_ble_eq_true rfl) rfl (by decide) (hMo _ _ _ _ (.inr ⟨hk, rfl⟩)) (fun rm Rrm hrm => ?_)
    obtain ⟨hq1, hq2, hq3⟩ := hrm
    refine zx_go (pc1 := 333) (l1 := [some (zr 0), some (zr 1), some (zr 32), some (zr 55), some (zi i), some (zi code_v), some (zi rm)]) (st1 := [zr 32]) (w1 := wr (cBm c) Rrm) g_L_law 2 _ _ _ _ rfl ?_
    refine zx_cvF (As := []) (rest := []) g_L_law rfl g_X6_thrown rfl rfl (Nat.le_of_ble_eq_true rfl) (Nat.le_of_ble_eq_true rfl) rfl (by decide) m_thrown ?_
    refine zx_go (pc1 := 338) (l1 := [some (zr 0), some (zr 1), some (zr 32), some (zr 55), some (zi i), some (zi code_v), some (zi rm)]) (st1 := [zi code_v, zi (Rrm 32 0)]) (w1 := wr (cBm c) Rrm) g_L_law 1 _ _ _ _ rfl ?_
    refine zx_cmp g_L_law rfl (by omega) (by omega) (fun (h338 : (Rrm 32 0) = code_v) => ?_) (fun (h338 : ¬ ((Rrm 32 0) = code_v)) => ?_)
    · refine zx_go (pc1 := 345) (l1 := [some (zr 0), some (zr 1), some (zr 32), some (zr 55), some (zi i), some (zi code_v), some (zi rm)]) (st1 := [zi code_v]) (w1 := wr (cBm c) Rrm) g_L_law 1 _ _ _ _ rfl ?_
      refine zx_if g_L_law rfl (by omega) (fun (h345 : code_v ≠ 0) => ?_) (fun (h345 : ¬ code_v ≠ 0) => ?_)
      · refine zx_go (pc1 := 1417) (l1 := [some (zr 0), some (zr 1), some (zr 32), some (zr 55), some (zi i), some (zi code_v), some (zi rm)]) (st1 := []) (w1 := wr (cBm c) Rrm) g_L_law 1 _ _ _ _ rfl ?_
        exact K _ _ hq3 rfl (Nat.le_refl _) (Nat.le_refl _)
      · exact absurd (Classical.not_not.mp h345) hk
    · omega

set_option maxHeartbeats 1000000 in
theorem lc_access {c : zC} {R : zI} {i : Int} {o5 o6 : Option zV} {Q : zO → zW → Prop} (hI : INV c R) (i0 : 3 ≤ i) (i1 : i + 10 ≤ (c.2.2.1 : Int)) (hL : c.2.2.1 ≤ 643) (K : ∀ {c1 : zC} {R1 : zI} (o5 o6 : Option zV), INV c1 R1 → c1.2.2.1 = c.2.2.1 → c1.1 ≤ c.1 + 1 → c1.2.1 ≤ c.2.1 + 6 → ZX m_L_law 1417 (lwL i o5 o6) [] (wr c1 R1) Q) : ZX m_L_law 363 (lwL i o5 o6) [] (wr c R) Q := by
  obtain ⟨code_v, val_v, V, hcd, hPv, hV0, hC, hMo⟩ := b_access (k := R 0 (i + 1)) (z := R 0 (i + 2)) (x := zlor (zlshl (R 0 (i + 3)) 32) (zland (R 0 (i + 4)) 4294967295)) (y := zlor (zlshl (R 0 (i + 5)) 32) (zland (R 0 (i + 6)) 4294967295)) hI (hI.2.2.2.2.2.2.1 _) (hI.2.2.2.2.2.2.1 _) (zlor_R _ _) (zlor_R _ _)
  refine zx_go (pc1 := 369) (l1 := [some (zr 0), some (zr 1), some (zr 32), some (zr 55), some (zi i), o5, o6]) (st1 := [zi (i + 1), zr 0, zr 1]) (w1 := wr c R) g_L_law 5 _ _ _ _ rfl ?_
  refine gz_sld (n := c.2.2.1) rfl g_L_law rfl rfl (by omega) (by omega) (by omega) ?_
  refine zx_go (pc1 := 375) (l1 := [some (zr 0), some (zr 1), some (zr 32), some (zr 55), some (zi i), o5, o6]) (st1 := [zi (i + 2), zr 0, zi (R 0 (i + 1)), zr 1]) (w1 := wr c R) g_L_law 4 _ _ _ _ rfl ?_
  refine gz_sld (n := c.2.2.1) rfl g_L_law rfl rfl (by omega) (by omega) (by omega) ?_
  refine zx_go (pc1 := 381) (l1 := [some (zr 0), some (zr 1), some (zr 32), some (zr 55), some (zi i), o5, o6]) (st1 := [zi (i + 3), zr 0, zi (R 0 (i + 2)), zi (R 0 (i + 1)), zr 1]) (w1 := wr c R) g_L_law 4 _ _ _ _ rfl ?_
  refine gz_sld (n := c.2.2.1) rfl g_L_law rfl rfl (by omega) (by omega) (by omega) ?_
  refine zx_i2l g_L_law rfl (hI.2.2.2.2.2.2.1 _) ?_
  refine zx_go (pc1 := 385) (l1 := [some (zr 0), some (zr 1), some (zr 32), some (zr 55), some (zi i), o5, o6]) (st1 := [zi 32, zl (R 0 (i + 3)), zi (R 0 (i + 2)), zi (R 0 (i + 1)), zr 1]) (w1 := wr c R) g_L_law 1 _ _ _ _ rfl ?_
  refine zx_lshl g_L_law rfl ?_
  refine zx_go (pc1 := 391) (l1 := [some (zr 0), some (zr 1), some (zr 32), some (zr 55), some (zi i), o5, o6]) (st1 := [zi (i + 4), zr 0, zl (zlshl (R 0 (i + 3)) 32), zi (R 0 (i + 2)), zi (R 0 (i + 1)), zr 1]) (w1 := wr c R) g_L_law 4 _ _ _ _ rfl ?_
  refine gz_sld (n := c.2.2.1) rfl g_L_law rfl rfl (by omega) (by omega) (by omega) ?_
  refine zx_i2l g_L_law rfl (hI.2.2.2.2.2.2.1 _) ?_
  refine zx_go (pc1 := 396) (l1 := [some (zr 0), some (zr 1), some (zr 32), some (zr 55), some (zi i), o5, o6]) (st1 := [zl 4294967295, zl (R 0 (i + 4)), zl (zlshl (R 0 (i + 3)) 32), zi (R 0 (i + 2)), zi (R 0 (i + 1)), zr 1]) (w1 := wr c R) g_L_law 1 _ _ _ _ rfl ?_
  refine zx_land g_L_law rfl ?_
  refine zx_lor g_L_law rfl ?_
  refine zx_go (pc1 := 403) (l1 := [some (zr 0), some (zr 1), some (zr 32), some (zr 55), some (zi i), o5, o6]) (st1 := [zi (i + 5), zr 0, zl (zlor (zlshl (R 0 (i + 3)) 32) (zland (R 0 (i + 4)) 4294967295)), zi (R 0 (i + 2)), zi (R 0 (i + 1)), zr 1]) (w1 := wr c R) g_L_law 4 _ _ _ _ rfl ?_
  refine gz_sld (n := c.2.2.1) rfl g_L_law rfl rfl (by omega) (by omega) (by omega) ?_
  refine zx_i2l g_L_law rfl (hI.2.2.2.2.2.2.1 _) ?_
  refine zx_go (pc1 := 407) (l1 := [some (zr 0), some (zr 1), some (zr 32), some (zr 55), some (zi i), o5, o6]) (st1 := [zi 32, zl (R 0 (i + 5)), zl (zlor (zlshl (R 0 (i + 3)) 32) (zland (R 0 (i + 4)) 4294967295)), zi (R 0 (i + 2)), zi (R 0 (i + 1)), zr 1]) (w1 := wr c R) g_L_law 1 _ _ _ _ rfl ?_
  refine zx_lshl g_L_law rfl ?_
  refine zx_go (pc1 := 414) (l1 := [some (zr 0), some (zr 1), some (zr 32), some (zr 55), some (zi i), o5, o6]) (st1 := [zi (i + 6), zr 0, zl (zlshl (R 0 (i + 5)) 32), zl (zlor (zlshl (R 0 (i + 3)) 32) (zland (R 0 (i + 4)) 4294967295)), zi (R 0 (i + 2)), zi (R 0 (i + 1)), zr 1]) (w1 := wr c R) g_L_law 4 _ _ _ _ rfl ?_
  refine gz_sld (n := c.2.2.1) rfl g_L_law rfl rfl (by omega) (by omega) (by omega) ?_
  refine zx_i2l g_L_law rfl (hI.2.2.2.2.2.2.1 _) ?_
  refine zx_go (pc1 := 419) (l1 := [some (zr 0), some (zr 1), some (zr 32), some (zr 55), some (zi i), o5, o6]) (st1 := [zl 4294967295, zl (R 0 (i + 6)), zl (zlshl (R 0 (i + 5)) 32), zl (zlor (zlshl (R 0 (i + 3)) 32) (zland (R 0 (i + 4)) 4294967295)), zi (R 0 (i + 2)), zi (R 0 (i + 1)), zr 1]) (w1 := wr c R) g_L_law 1 _ _ _ _ rfl ?_
  refine zx_land g_L_law rfl ?_
  refine zx_lor g_L_law rfl ?_
  refine zx_go (pc1 := 422) (l1 := [some (zr 0), some (zr 1), some (zr 32), some (zr 55), some (zi i), o5, o6]) (st1 := [zr 55, zl (zlor (zlshl (R 0 (i + 5)) 32) (zland (R 0 (i + 6)) 4294967295)), zl (zlor (zlshl (R 0 (i + 3)) 32) (zland (R 0 (i + 4)) 4294967295)), zi (R 0 (i + 2)), zi (R 0 (i + 1)), zr 1]) (w1 := wr c R) g_L_law 1 _ _ _ _ rfl ?_
  refine lw_cs (As := [zr 1, zi (R 0 (i + 1)), zi (R 0 (i + 2)), zl (zlor (zlshl (R 0 (i + 3)) 32) (zland (R 0 (i + 4)) 4294967295)), zl (zlor (zlshl (R 0 (i + 5)) 32) (zland (R 0 (i + 6)) 4294967295)), zr 55]) (rest := []) g_L_law rfl g_L_access rfl rfl (Nat.le_of_ble_eq_true rfl) (Nat.le_of_ble_eq_true rfl) (t_L_access hcd hPv hC) (fun hk R1 hV => ?_) (fun hk => ?_)
  · have hR0 := hV0 R1 hV
    refine zx_go (pc1 := 433) (l1 := [some (zr 0), some (zr 1), some (zr 32), some (zr 55), some (zi i), some (zi 0), o6]) (st1 := [zi (i + 1), zr 0, zr 32]) (w1 := wr (cOut c val_v) R1) g_L_law 6 _ _ _ _ rfl ?_
    refine gz_sld (n := c.2.2.1) hR0 g_L_law rfl rfl (by omega) (by omega) (by omega) ?_
    refine zx_go (pc1 := 439) (l1 := [some (zr 0), some (zr 1), some (zr 32), some (zr 55), some (zi i), some (zi 0), o6]) (st1 := [zi (i + 2), zr 0, zi (R 0 (i + 1)), zr 32]) (w1 := wr (cOut c val_v) R1) g_L_law 4 _ _ _ _ rfl ?_
    refine gz_sld (n := c.2.2.1) hR0 g_L_law rfl rfl (by omega) (by omega) (by omega) ?_
    refine zx_go (pc1 := 445) (l1 := [some (zr 0), some (zr 1), some (zr 32), some (zr 55), some (zi i), some (zi 0), o6]) (st1 := [zi (i + 3), zr 0, zi (R 0 (i + 2)), zi (R 0 (i + 1)), zr 32]) (w1 := wr (cOut c val_v) R1) g_L_law 4 _ _ _ _ rfl ?_
    refine gz_sld (n := c.2.2.1) hR0 g_L_law rfl rfl (by omega) (by omega) (by omega) ?_
    refine zx_i2l g_L_law rfl (hI.2.2.2.2.2.2.1 _) ?_
    refine zx_go (pc1 := 449) (l1 := [some (zr 0), some (zr 1), some (zr 32), some (zr 55), some (zi i), some (zi 0), o6]) (st1 := [zi 32, zl (R 0 (i + 3)), zi (R 0 (i + 2)), zi (R 0 (i + 1)), zr 32]) (w1 := wr (cOut c val_v) R1) g_L_law 1 _ _ _ _ rfl ?_
    refine zx_lshl g_L_law rfl ?_
    refine zx_go (pc1 := 455) (l1 := [some (zr 0), some (zr 1), some (zr 32), some (zr 55), some (zi i), some (zi 0), o6]) (st1 := [zi (i + 4), zr 0, zl (zlshl (R 0 (i + 3)) 32), zi (R 0 (i + 2)), zi (R 0 (i + 1)), zr 32]) (w1 := wr (cOut c val_v) R1) g_L_law 4 _ _ _ _ rfl ?_
    refine gz_sld (n := c.2.2.1) hR0 g_L_law rfl rfl (by omega) (by omega) (by omega) ?_
    refine zx_i2l g_L_law rfl (hI.2.2.2.2.2.2.1 _) ?_
    refine zx_go (pc1 := 460) (l1 := [some (zr 0), some (zr 1), some (zr 32), some (zr 55), some (zi i), some (zi 0), o6]) (st1 := [zl 4294967295, zl (R 0 (i + 4)), zl (zlshl (R 0 (i + 3)) 32), zi (R 0 (i + 2)), zi (R 0 (i + 1)), zr 32]) (w1 := wr (cOut c val_v) R1) g_L_law 1 _ _ _ _ rfl ?_
    refine zx_land g_L_law rfl ?_
    refine zx_lor g_L_law rfl ?_
    refine zx_go (pc1 := 467) (l1 := [some (zr 0), some (zr 1), some (zr 32), some (zr 55), some (zi i), some (zi 0), o6]) (st1 := [zi (i + 5), zr 0, zl (zlor (zlshl (R 0 (i + 3)) 32) (zland (R 0 (i + 4)) 4294967295)), zi (R 0 (i + 2)), zi (R 0 (i + 1)), zr 32]) (w1 := wr (cOut c val_v) R1) g_L_law 4 _ _ _ _ rfl ?_
    refine gz_sld (n := c.2.2.1) hR0 g_L_law rfl rfl (by omega) (by omega) (by omega) ?_
    refine zx_i2l g_L_law rfl (hI.2.2.2.2.2.2.1 _) ?_
    refine zx_go (pc1 := 471) (l1 := [some (zr 0), some (zr 1), some (zr 32), some (zr 55), some (zi i), some (zi 0), o6]) (st1 := [zi 32, zl (R 0 (i + 5)), zl (zlor (zlshl (R 0 (i + 3)) 32) (zland (R 0 (i + 4)) 4294967295)), zi (R 0 (i + 2)), zi (R 0 (i + 1)), zr 32]) (w1 := wr (cOut c val_v) R1) g_L_law 1 _ _ _ _ rfl ?_
    refine zx_lshl g_L_law rfl ?_
    refine zx_go (pc1 := 478) (l1 := [some (zr 0), some (zr 1), some (zr 32), some (zr 55), some (zi i), some (zi 0), o6]) (st1 := [zi (i + 6), zr 0, zl (zlshl (R 0 (i + 5)) 32), zl (zlor (zlshl (R 0 (i + 3)) 32) (zland (R 0 (i + 4)) 4294967295)), zi (R 0 (i + 2)), zi (R 0 (i + 1)), zr 32]) (w1 := wr (cOut c val_v) R1) g_L_law 4 _ _ _ _ rfl ?_
    refine gz_sld (n := c.2.2.1) hR0 g_L_law rfl rfl (by omega) (by omega) (by omega) ?_
    refine zx_i2l g_L_law rfl (hI.2.2.2.2.2.2.1 _) ?_
    refine zx_go (pc1 := 483) (l1 := [some (zr 0), some (zr 1), some (zr 32), some (zr 55), some (zi i), some (zi 0), o6]) (st1 := [zl 4294967295, zl (R 0 (i + 6)), zl (zlshl (R 0 (i + 5)) 32), zl (zlor (zlshl (R 0 (i + 3)) 32) (zland (R 0 (i + 4)) 4294967295)), zi (R 0 (i + 2)), zi (R 0 (i + 1)), zr 32]) (w1 := wr (cOut c val_v) R1) g_L_law 1 _ _ _ _ rfl ?_
    refine zx_land g_L_law rfl ?_
    refine zx_lor g_L_law rfl ?_
    refine gx_cvR (As := [zi (R 0 (i + 1)), zi (R 0 (i + 2)), zl (zlor (zlshl (R 0 (i + 3)) 32) (zland (R 0 (i + 4)) 4294967295)), zl (zlor (zlshl (R 0 (i + 5)) 32) (zland (R 0 (i + 6)) 4294967295))]) (rest := []) g_L_law rfl g_X6_access rfl rfl (Nat.le_of_ble_eq_true rfl) (Nat.le_of_ble_eq_true rfl) rfl (by decide) (hMo _ _ _ _ (.inl ⟨hk, hV⟩)) (fun rm Rrm hrm => ?_)
    obtain ⟨hq1, hq2, hq3⟩ := hrm
    have hq4 := hq2 hk
    have hv1 := hPv hk
    refine zx_go (pc1 := 491) (l1 := [some (zr 0), some (zr 1), some (zr 32), some (zr 55), some (zi i), some (zi 0), some (zi rm)]) (st1 := [zr 32]) (w1 := wr (cOut c val_v) Rrm) g_L_law 2 _ _ _ _ rfl ?_
    refine zx_cvF (As := []) (rest := []) g_L_law rfl g_X6_thrown rfl rfl (Nat.le_of_ble_eq_true rfl) (Nat.le_of_ble_eq_true rfl) rfl (by decide) m_thrown ?_
    refine zx_go (pc1 := 496) (l1 := [some (zr 0), some (zr 1), some (zr 32), some (zr 55), some (zi i), some (zi 0), some (zi rm)]) (st1 := [zi 0, zi (Rrm 32 0)]) (w1 := wr (cOut c val_v) Rrm) g_L_law 1 _ _ _ _ rfl ?_
    refine zx_cmp g_L_law rfl (by omega) (by decide) (fun (h496 : (Rrm 32 0) = 0) => ?_) (fun (h496 : ¬ ((Rrm 32 0) = 0)) => ?_)
    · refine zx_go (pc1 := 503) (l1 := [some (zr 0), some (zr 1), some (zr 32), some (zr 55), some (zi i), some (zi 0), some (zi rm)]) (st1 := [zi 0]) (w1 := wr (cOut c val_v) Rrm) g_L_law 1 _ _ _ _ rfl ?_
      refine zx_ifF g_L_law rfl (by decide) (show ¬ ((0 : Int) ≠ 0) by decide) ?_
      refine zx_go (pc1 := 508) (l1 := [some (zr 0), some (zr 1), some (zr 32), some (zr 55), some (zi i), some (zi 0), some (zi rm)]) (st1 := [zi 0, zr 55]) (w1 := wr (cOut c val_v) Rrm) g_L_law 2 _ _ _ _ rfl ?_
      refine gz_lald g_L_law rfl ?_
      refine zx_go (pc1 := 511) (l1 := [some (zr 0), some (zr 1), some (zr 32), some (zr 55), some (zi i), some (zi 0), some (zi rm)]) (st1 := [zi rm, zl val_v]) (w1 := wr (cOut c val_v) Rrm) g_L_law 1 _ _ _ _ rfl ?_
      refine zx_if g_L_law rfl (by omega) (fun (h511 : rm = 0) => ?_) (fun (h511 : ¬ rm = 0) => ?_)
      · refine zx_go (pc1 := 519) (l1 := [some (zr 0), some (zr 1), some (zr 32), some (zr 55), some (zi i), some (zi 0), some (zi rm)]) (st1 := [zl 0, zl val_v]) (w1 := wr (cOut c val_v) Rrm) g_L_law 1 _ _ _ _ rfl ?_
        refine zx_lcif g_L_law rfl rfl (by omega) (by decide) (fun (h519 : val_v = 0) => ?_) (fun (h519 : ¬ (val_v = 0)) => ?_)
        · refine zx_go (pc1 := 1417) (l1 := [some (zr 0), some (zr 1), some (zr 32), some (zr 55), some (zi i), some (zi 0), some (zi rm)]) (st1 := []) (w1 := wr (cOut c val_v) Rrm) g_L_law 1 _ _ _ _ rfl ?_
          exact K _ _ hq3 rfl (Nat.le_succ _) (Nat.le_add_right _ _)
        · omega
      · refine zx_go (pc1 := 519) (l1 := [some (zr 0), some (zr 1), some (zr 32), some (zr 55), some (zi i), some (zi 0), some (zi rm)]) (st1 := [zl 1, zl val_v]) (w1 := wr (cOut c val_v) Rrm) g_L_law 2 _ _ _ _ rfl ?_
        refine zx_lcif g_L_law rfl rfl (by omega) (by decide) (fun (h519 : val_v = 1) => ?_) (fun (h519 : ¬ (val_v = 1)) => ?_)
        · refine zx_go (pc1 := 1417) (l1 := [some (zr 0), some (zr 1), some (zr 32), some (zr 55), some (zi i), some (zi 0), some (zi rm)]) (st1 := []) (w1 := wr (cOut c val_v) Rrm) g_L_law 1 _ _ _ _ rfl ?_
          exact K _ _ hq3 rfl (Nat.le_succ _) (Nat.le_add_right _ _)
        · omega
    · omega
  · refine zx_go (pc1 := 433) (l1 := [some (zr 0), some (zr 1), some (zr 32), some (zr 55), some (zi i), some (zi code_v), o6]) (st1 := [zi (i + 1), zr 0, zr 32]) (w1 := wr (cBm c) R) g_L_law 6 _ _ _ _ rfl ?_
    refine gz_sld (n := c.2.2.1) rfl g_L_law rfl rfl (by omega) (by omega) (by omega) ?_
    refine zx_go (pc1 := 439) (l1 := [some (zr 0), some (zr 1), some (zr 32), some (zr 55), some (zi i), some (zi code_v), o6]) (st1 := [zi (i + 2), zr 0, zi (R 0 (i + 1)), zr 32]) (w1 := wr (cBm c) R) g_L_law 4 _ _ _ _ rfl ?_
    refine gz_sld (n := c.2.2.1) rfl g_L_law rfl rfl (by omega) (by omega) (by omega) ?_
    refine zx_go (pc1 := 445) (l1 := [some (zr 0), some (zr 1), some (zr 32), some (zr 55), some (zi i), some (zi code_v), o6]) (st1 := [zi (i + 3), zr 0, zi (R 0 (i + 2)), zi (R 0 (i + 1)), zr 32]) (w1 := wr (cBm c) R) g_L_law 4 _ _ _ _ rfl ?_
    refine gz_sld (n := c.2.2.1) rfl g_L_law rfl rfl (by omega) (by omega) (by omega) ?_
    refine zx_i2l g_L_law rfl (hI.2.2.2.2.2.2.1 _) ?_
    refine zx_go (pc1 := 449) (l1 := [some (zr 0), some (zr 1), some (zr 32), some (zr 55), some (zi i), some (zi code_v), o6]) (st1 := [zi 32, zl (R 0 (i + 3)), zi (R 0 (i + 2)), zi (R 0 (i + 1)), zr 32]) (w1 := wr (cBm c) R) g_L_law 1 _ _ _ _ rfl ?_
    refine zx_lshl g_L_law rfl ?_
    refine zx_go (pc1 := 455) (l1 := [some (zr 0), some (zr 1), some (zr 32), some (zr 55), some (zi i), some (zi code_v), o6]) (st1 := [zi (i + 4), zr 0, zl (zlshl (R 0 (i + 3)) 32), zi (R 0 (i + 2)), zi (R 0 (i + 1)), zr 32]) (w1 := wr (cBm c) R) g_L_law 4 _ _ _ _ rfl ?_
    refine gz_sld (n := c.2.2.1) rfl g_L_law rfl rfl (by omega) (by omega) (by omega) ?_
    refine zx_i2l g_L_law rfl (hI.2.2.2.2.2.2.1 _) ?_
    refine zx_go (pc1 := 460) (l1 := [some (zr 0), some (zr 1), some (zr 32), some (zr 55), some (zi i), some (zi code_v), o6]) (st1 := [zl 4294967295, zl (R 0 (i + 4)), zl (zlshl (R 0 (i + 3)) 32), zi (R 0 (i + 2)), zi (R 0 (i + 1)), zr 32]) (w1 := wr (cBm c) R) g_L_law 1 _ _ _ _ rfl ?_
    refine zx_land g_L_law rfl ?_
    refine zx_lor g_L_law rfl ?_
    refine zx_go (pc1 := 467) (l1 := [some (zr 0), some (zr 1), some (zr 32), some (zr 55), some (zi i), some (zi code_v), o6]) (st1 := [zi (i + 5), zr 0, zl (zlor (zlshl (R 0 (i + 3)) 32) (zland (R 0 (i + 4)) 4294967295)), zi (R 0 (i + 2)), zi (R 0 (i + 1)), zr 32]) (w1 := wr (cBm c) R) g_L_law 4 _ _ _ _ rfl ?_
    refine gz_sld (n := c.2.2.1) rfl g_L_law rfl rfl (by omega) (by omega) (by omega) ?_
    refine zx_i2l g_L_law rfl (hI.2.2.2.2.2.2.1 _) ?_
    refine zx_go (pc1 := 471) (l1 := [some (zr 0), some (zr 1), some (zr 32), some (zr 55), some (zi i), some (zi code_v), o6]) (st1 := [zi 32, zl (R 0 (i + 5)), zl (zlor (zlshl (R 0 (i + 3)) 32) (zland (R 0 (i + 4)) 4294967295)), zi (R 0 (i + 2)), zi (R 0 (i + 1)), zr 32]) (w1 := wr (cBm c) R) g_L_law 1 _ _ _ _ rfl ?_
    refine zx_lshl g_L_law rfl ?_
    refine zx_go (pc1 := 478) (l1 := [some (zr 0), some (zr 1), some (zr 32), some (zr 55), some (zi i), some (zi code_v), o6]) (st1 := [zi (i + 6), zr 0, zl (zlshl (R 0 (i + 5)) 32), zl (zlor (zlshl (R 0 (i + 3)) 32) (zland (R 0 (i + 4)) 4294967295)), zi (R 0 (i + 2)), zi (R 0 (i + 1)), zr 32]) (w1 := wr (cBm c) R) g_L_law 4 _ _ _ _ rfl ?_
    refine gz_sld (n := c.2.2.1) rfl g_L_law rfl rfl (by omega) (by omega) (by omega) ?_
    refine zx_i2l g_L_law rfl (hI.2.2.2.2.2.2.1 _) ?_
    refine zx_go (pc1 := 483) (l1 := [some (zr 0), some (zr 1), some (zr 32), some (zr 55), some (zi i), some (zi code_v), o6]) (st1 := [zl 4294967295, zl (R 0 (i + 6)), zl (zlshl (R 0 (i + 5)) 32), zl (zlor (zlshl (R 0 (i + 3)) 32) (zland (R 0 (i + 4)) 4294967295)), zi (R 0 (i + 2)), zi (R 0 (i + 1)), zr 32]) (w1 := wr (cBm c) R) g_L_law 1 _ _ _ _ rfl ?_
    refine zx_land g_L_law rfl ?_
    refine zx_lor g_L_law rfl ?_
    refine gx_cvR (As := [zi (R 0 (i + 1)), zi (R 0 (i + 2)), zl (zlor (zlshl (R 0 (i + 3)) 32) (zland (R 0 (i + 4)) 4294967295)), zl (zlor (zlshl (R 0 (i + 5)) 32) (zland (R 0 (i + 6)) 4294967295))]) (rest := []) g_L_law rfl g_X6_access rfl rfl (Nat.le_of_ble_eq_true rfl) (Nat.le_of_ble_eq_true rfl) rfl (by decide) (hMo _ _ _ _ (.inr ⟨hk, rfl⟩)) (fun rm Rrm hrm => ?_)
    obtain ⟨hq1, hq2, hq3⟩ := hrm
    refine zx_go (pc1 := 491) (l1 := [some (zr 0), some (zr 1), some (zr 32), some (zr 55), some (zi i), some (zi code_v), some (zi rm)]) (st1 := [zr 32]) (w1 := wr (cBm c) Rrm) g_L_law 2 _ _ _ _ rfl ?_
    refine zx_cvF (As := []) (rest := []) g_L_law rfl g_X6_thrown rfl rfl (Nat.le_of_ble_eq_true rfl) (Nat.le_of_ble_eq_true rfl) rfl (by decide) m_thrown ?_
    refine zx_go (pc1 := 496) (l1 := [some (zr 0), some (zr 1), some (zr 32), some (zr 55), some (zi i), some (zi code_v), some (zi rm)]) (st1 := [zi code_v, zi (Rrm 32 0)]) (w1 := wr (cBm c) Rrm) g_L_law 1 _ _ _ _ rfl ?_
    refine zx_cmp g_L_law rfl (by omega) (by omega) (fun (h496 : (Rrm 32 0) = code_v) => ?_) (fun (h496 : ¬ ((Rrm 32 0) = code_v)) => ?_)
    · refine zx_go (pc1 := 503) (l1 := [some (zr 0), some (zr 1), some (zr 32), some (zr 55), some (zi i), some (zi code_v), some (zi rm)]) (st1 := [zi code_v]) (w1 := wr (cBm c) Rrm) g_L_law 1 _ _ _ _ rfl ?_
      refine zx_if g_L_law rfl (by omega) (fun (h503 : code_v ≠ 0) => ?_) (fun (h503 : ¬ code_v ≠ 0) => ?_)
      · refine zx_go (pc1 := 1417) (l1 := [some (zr 0), some (zr 1), some (zr 32), some (zr 55), some (zi i), some (zi code_v), some (zi rm)]) (st1 := []) (w1 := wr (cBm c) Rrm) g_L_law 1 _ _ _ _ rfl ?_
        exact K _ _ hq3 rfl (Nat.le_refl _) (Nat.le_refl _)
      · exact absurd (Classical.not_not.mp h503) hk
    · omega

set_option maxHeartbeats 1000000 in
theorem lc_bar {c : zC} {R : zI} {i : Int} {o5 o6 : Option zV} {Q : zO → zW → Prop} (hI : INV c R) (i0 : 3 ≤ i) (i1 : i + 10 ≤ (c.2.2.1 : Int)) (hL : c.2.2.1 ≤ 643) (K : ∀ {c1 : zC} {R1 : zI} (o5 o6 : Option zV), INV c1 R1 → c1.2.2.1 = c.2.2.1 → c1.1 ≤ c.1 + 1 → c1.2.1 ≤ c.2.1 + 6 → ZX m_L_law 1417 (lwL i o5 o6) [] (wr c1 R1) Q) : ZX m_L_law 528 (lwL i o5 o6) [] (wr c R) Q := by
  obtain ⟨code_v, val_v, V, hcd, hPv, hV0, hC, hMo⟩ := b_bar (z := R 0 (i + 1)) (x0 := zlor (zlshl (R 0 (i + 2)) 32) (zland (R 0 (i + 3)) 4294967295)) (y0 := zlor (zlshl (R 0 (i + 4)) 32) (zland (R 0 (i + 5)) 4294967295)) (x1 := zlor (zlshl (R 0 (i + 6)) 32) (zland (R 0 (i + 7)) 4294967295)) (y1 := zlor (zlshl (R 0 (i + 8)) 32) (zland (R 0 (i + 9)) 4294967295)) hI (hI.2.2.2.2.2.2.1 _) (zlor_R _ _) (zlor_R _ _) (zlor_R _ _) (zlor_R _ _)
  refine zx_go (pc1 := 534) (l1 := [some (zr 0), some (zr 1), some (zr 32), some (zr 55), some (zi i), o5, o6]) (st1 := [zi (i + 1), zr 0, zr 1]) (w1 := wr c R) g_L_law 5 _ _ _ _ rfl ?_
  refine gz_sld (n := c.2.2.1) rfl g_L_law rfl rfl (by omega) (by omega) (by omega) ?_
  refine zx_go (pc1 := 540) (l1 := [some (zr 0), some (zr 1), some (zr 32), some (zr 55), some (zi i), o5, o6]) (st1 := [zi (i + 2), zr 0, zi (R 0 (i + 1)), zr 1]) (w1 := wr c R) g_L_law 4 _ _ _ _ rfl ?_
  refine gz_sld (n := c.2.2.1) rfl g_L_law rfl rfl (by omega) (by omega) (by omega) ?_
  refine zx_i2l g_L_law rfl (hI.2.2.2.2.2.2.1 _) ?_
  refine zx_go (pc1 := 544) (l1 := [some (zr 0), some (zr 1), some (zr 32), some (zr 55), some (zi i), o5, o6]) (st1 := [zi 32, zl (R 0 (i + 2)), zi (R 0 (i + 1)), zr 1]) (w1 := wr c R) g_L_law 1 _ _ _ _ rfl ?_
  refine zx_lshl g_L_law rfl ?_
  refine zx_go (pc1 := 550) (l1 := [some (zr 0), some (zr 1), some (zr 32), some (zr 55), some (zi i), o5, o6]) (st1 := [zi (i + 3), zr 0, zl (zlshl (R 0 (i + 2)) 32), zi (R 0 (i + 1)), zr 1]) (w1 := wr c R) g_L_law 4 _ _ _ _ rfl ?_
  refine gz_sld (n := c.2.2.1) rfl g_L_law rfl rfl (by omega) (by omega) (by omega) ?_
  refine zx_i2l g_L_law rfl (hI.2.2.2.2.2.2.1 _) ?_
  refine zx_go (pc1 := 555) (l1 := [some (zr 0), some (zr 1), some (zr 32), some (zr 55), some (zi i), o5, o6]) (st1 := [zl 4294967295, zl (R 0 (i + 3)), zl (zlshl (R 0 (i + 2)) 32), zi (R 0 (i + 1)), zr 1]) (w1 := wr c R) g_L_law 1 _ _ _ _ rfl ?_
  refine zx_land g_L_law rfl ?_
  refine zx_lor g_L_law rfl ?_
  refine zx_go (pc1 := 562) (l1 := [some (zr 0), some (zr 1), some (zr 32), some (zr 55), some (zi i), o5, o6]) (st1 := [zi (i + 4), zr 0, zl (zlor (zlshl (R 0 (i + 2)) 32) (zland (R 0 (i + 3)) 4294967295)), zi (R 0 (i + 1)), zr 1]) (w1 := wr c R) g_L_law 4 _ _ _ _ rfl ?_
  refine gz_sld (n := c.2.2.1) rfl g_L_law rfl rfl (by omega) (by omega) (by omega) ?_
  refine zx_i2l g_L_law rfl (hI.2.2.2.2.2.2.1 _) ?_
  refine zx_go (pc1 := 566) (l1 := [some (zr 0), some (zr 1), some (zr 32), some (zr 55), some (zi i), o5, o6]) (st1 := [zi 32, zl (R 0 (i + 4)), zl (zlor (zlshl (R 0 (i + 2)) 32) (zland (R 0 (i + 3)) 4294967295)), zi (R 0 (i + 1)), zr 1]) (w1 := wr c R) g_L_law 1 _ _ _ _ rfl ?_
  refine zx_lshl g_L_law rfl ?_
  refine zx_go (pc1 := 572) (l1 := [some (zr 0), some (zr 1), some (zr 32), some (zr 55), some (zi i), o5, o6]) (st1 := [zi (i + 5), zr 0, zl (zlshl (R 0 (i + 4)) 32), zl (zlor (zlshl (R 0 (i + 2)) 32) (zland (R 0 (i + 3)) 4294967295)), zi (R 0 (i + 1)), zr 1]) (w1 := wr c R) g_L_law 4 _ _ _ _ rfl ?_
  refine gz_sld (n := c.2.2.1) rfl g_L_law rfl rfl (by omega) (by omega) (by omega) ?_
  refine zx_i2l g_L_law rfl (hI.2.2.2.2.2.2.1 _) ?_
  refine zx_go (pc1 := 577) (l1 := [some (zr 0), some (zr 1), some (zr 32), some (zr 55), some (zi i), o5, o6]) (st1 := [zl 4294967295, zl (R 0 (i + 5)), zl (zlshl (R 0 (i + 4)) 32), zl (zlor (zlshl (R 0 (i + 2)) 32) (zland (R 0 (i + 3)) 4294967295)), zi (R 0 (i + 1)), zr 1]) (w1 := wr c R) g_L_law 1 _ _ _ _ rfl ?_
  refine zx_land g_L_law rfl ?_
  refine zx_lor g_L_law rfl ?_
  refine zx_go (pc1 := 585) (l1 := [some (zr 0), some (zr 1), some (zr 32), some (zr 55), some (zi i), o5, o6]) (st1 := [zi (i + 6), zr 0, zl (zlor (zlshl (R 0 (i + 4)) 32) (zland (R 0 (i + 5)) 4294967295)), zl (zlor (zlshl (R 0 (i + 2)) 32) (zland (R 0 (i + 3)) 4294967295)), zi (R 0 (i + 1)), zr 1]) (w1 := wr c R) g_L_law 4 _ _ _ _ rfl ?_
  refine gz_sld (n := c.2.2.1) rfl g_L_law rfl rfl (by omega) (by omega) (by omega) ?_
  refine zx_i2l g_L_law rfl (hI.2.2.2.2.2.2.1 _) ?_
  refine zx_go (pc1 := 589) (l1 := [some (zr 0), some (zr 1), some (zr 32), some (zr 55), some (zi i), o5, o6]) (st1 := [zi 32, zl (R 0 (i + 6)), zl (zlor (zlshl (R 0 (i + 4)) 32) (zland (R 0 (i + 5)) 4294967295)), zl (zlor (zlshl (R 0 (i + 2)) 32) (zland (R 0 (i + 3)) 4294967295)), zi (R 0 (i + 1)), zr 1]) (w1 := wr c R) g_L_law 1 _ _ _ _ rfl ?_
  refine zx_lshl g_L_law rfl ?_
  refine zx_go (pc1 := 596) (l1 := [some (zr 0), some (zr 1), some (zr 32), some (zr 55), some (zi i), o5, o6]) (st1 := [zi (i + 7), zr 0, zl (zlshl (R 0 (i + 6)) 32), zl (zlor (zlshl (R 0 (i + 4)) 32) (zland (R 0 (i + 5)) 4294967295)), zl (zlor (zlshl (R 0 (i + 2)) 32) (zland (R 0 (i + 3)) 4294967295)), zi (R 0 (i + 1)), zr 1]) (w1 := wr c R) g_L_law 4 _ _ _ _ rfl ?_
  refine gz_sld (n := c.2.2.1) rfl g_L_law rfl rfl (by omega) (by omega) (by omega) ?_
  refine zx_i2l g_L_law rfl (hI.2.2.2.2.2.2.1 _) ?_
  refine zx_go (pc1 := 601) (l1 := [some (zr 0), some (zr 1), some (zr 32), some (zr 55), some (zi i), o5, o6]) (st1 := [zl 4294967295, zl (R 0 (i + 7)), zl (zlshl (R 0 (i + 6)) 32), zl (zlor (zlshl (R 0 (i + 4)) 32) (zland (R 0 (i + 5)) 4294967295)), zl (zlor (zlshl (R 0 (i + 2)) 32) (zland (R 0 (i + 3)) 4294967295)), zi (R 0 (i + 1)), zr 1]) (w1 := wr c R) g_L_law 1 _ _ _ _ rfl ?_
  refine zx_land g_L_law rfl ?_
  refine zx_lor g_L_law rfl ?_
  refine zx_go (pc1 := 609) (l1 := [some (zr 0), some (zr 1), some (zr 32), some (zr 55), some (zi i), o5, o6]) (st1 := [zi (i + 8), zr 0, zl (zlor (zlshl (R 0 (i + 6)) 32) (zland (R 0 (i + 7)) 4294967295)), zl (zlor (zlshl (R 0 (i + 4)) 32) (zland (R 0 (i + 5)) 4294967295)), zl (zlor (zlshl (R 0 (i + 2)) 32) (zland (R 0 (i + 3)) 4294967295)), zi (R 0 (i + 1)), zr 1]) (w1 := wr c R) g_L_law 4 _ _ _ _ rfl ?_
  refine gz_sld (n := c.2.2.1) rfl g_L_law rfl rfl (by omega) (by omega) (by omega) ?_
  refine zx_i2l g_L_law rfl (hI.2.2.2.2.2.2.1 _) ?_
  refine zx_go (pc1 := 613) (l1 := [some (zr 0), some (zr 1), some (zr 32), some (zr 55), some (zi i), o5, o6]) (st1 := [zi 32, zl (R 0 (i + 8)), zl (zlor (zlshl (R 0 (i + 6)) 32) (zland (R 0 (i + 7)) 4294967295)), zl (zlor (zlshl (R 0 (i + 4)) 32) (zland (R 0 (i + 5)) 4294967295)), zl (zlor (zlshl (R 0 (i + 2)) 32) (zland (R 0 (i + 3)) 4294967295)), zi (R 0 (i + 1)), zr 1]) (w1 := wr c R) g_L_law 1 _ _ _ _ rfl ?_
  refine zx_lshl g_L_law rfl ?_
  refine zx_go (pc1 := 620) (l1 := [some (zr 0), some (zr 1), some (zr 32), some (zr 55), some (zi i), o5, o6]) (st1 := [zi (i + 9), zr 0, zl (zlshl (R 0 (i + 8)) 32), zl (zlor (zlshl (R 0 (i + 6)) 32) (zland (R 0 (i + 7)) 4294967295)), zl (zlor (zlshl (R 0 (i + 4)) 32) (zland (R 0 (i + 5)) 4294967295)), zl (zlor (zlshl (R 0 (i + 2)) 32) (zland (R 0 (i + 3)) 4294967295)), zi (R 0 (i + 1)), zr 1]) (w1 := wr c R) g_L_law 4 _ _ _ _ rfl ?_
  refine gz_sld (n := c.2.2.1) rfl g_L_law rfl rfl (by omega) (by omega) (by omega) ?_
  refine zx_i2l g_L_law rfl (hI.2.2.2.2.2.2.1 _) ?_
  refine zx_go (pc1 := 625) (l1 := [some (zr 0), some (zr 1), some (zr 32), some (zr 55), some (zi i), o5, o6]) (st1 := [zl 4294967295, zl (R 0 (i + 9)), zl (zlshl (R 0 (i + 8)) 32), zl (zlor (zlshl (R 0 (i + 6)) 32) (zland (R 0 (i + 7)) 4294967295)), zl (zlor (zlshl (R 0 (i + 4)) 32) (zland (R 0 (i + 5)) 4294967295)), zl (zlor (zlshl (R 0 (i + 2)) 32) (zland (R 0 (i + 3)) 4294967295)), zi (R 0 (i + 1)), zr 1]) (w1 := wr c R) g_L_law 1 _ _ _ _ rfl ?_
  refine zx_land g_L_law rfl ?_
  refine zx_lor g_L_law rfl ?_
  refine zx_go (pc1 := 628) (l1 := [some (zr 0), some (zr 1), some (zr 32), some (zr 55), some (zi i), o5, o6]) (st1 := [zr 55, zl (zlor (zlshl (R 0 (i + 8)) 32) (zland (R 0 (i + 9)) 4294967295)), zl (zlor (zlshl (R 0 (i + 6)) 32) (zland (R 0 (i + 7)) 4294967295)), zl (zlor (zlshl (R 0 (i + 4)) 32) (zland (R 0 (i + 5)) 4294967295)), zl (zlor (zlshl (R 0 (i + 2)) 32) (zland (R 0 (i + 3)) 4294967295)), zi (R 0 (i + 1)), zr 1]) (w1 := wr c R) g_L_law 1 _ _ _ _ rfl ?_
  refine lw_cs (As := [zr 1, zi (R 0 (i + 1)), zl (zlor (zlshl (R 0 (i + 2)) 32) (zland (R 0 (i + 3)) 4294967295)), zl (zlor (zlshl (R 0 (i + 4)) 32) (zland (R 0 (i + 5)) 4294967295)), zl (zlor (zlshl (R 0 (i + 6)) 32) (zland (R 0 (i + 7)) 4294967295)), zl (zlor (zlshl (R 0 (i + 8)) 32) (zland (R 0 (i + 9)) 4294967295)), zr 55]) (rest := []) g_L_law rfl g_L_bar rfl rfl (Nat.le_of_ble_eq_true rfl) (Nat.le_of_ble_eq_true rfl) (t_L_bar hcd hPv hC) (fun hk R1 hV => ?_) (fun hk => ?_)
  · have hR0 := hV0 R1 hV
    refine zx_go (pc1 := 639) (l1 := [some (zr 0), some (zr 1), some (zr 32), some (zr 55), some (zi i), some (zi 0), o6]) (st1 := [zi (i + 1), zr 0, zr 32]) (w1 := wr (cOut c val_v) R1) g_L_law 6 _ _ _ _ rfl ?_
    refine gz_sld (n := c.2.2.1) hR0 g_L_law rfl rfl (by omega) (by omega) (by omega) ?_
    refine zx_go (pc1 := 645) (l1 := [some (zr 0), some (zr 1), some (zr 32), some (zr 55), some (zi i), some (zi 0), o6]) (st1 := [zi (i + 2), zr 0, zi (R 0 (i + 1)), zr 32]) (w1 := wr (cOut c val_v) R1) g_L_law 4 _ _ _ _ rfl ?_
    refine gz_sld (n := c.2.2.1) hR0 g_L_law rfl rfl (by omega) (by omega) (by omega) ?_
    refine zx_i2l g_L_law rfl (hI.2.2.2.2.2.2.1 _) ?_
    refine zx_go (pc1 := 649) (l1 := [some (zr 0), some (zr 1), some (zr 32), some (zr 55), some (zi i), some (zi 0), o6]) (st1 := [zi 32, zl (R 0 (i + 2)), zi (R 0 (i + 1)), zr 32]) (w1 := wr (cOut c val_v) R1) g_L_law 1 _ _ _ _ rfl ?_
    refine zx_lshl g_L_law rfl ?_
    refine zx_go (pc1 := 655) (l1 := [some (zr 0), some (zr 1), some (zr 32), some (zr 55), some (zi i), some (zi 0), o6]) (st1 := [zi (i + 3), zr 0, zl (zlshl (R 0 (i + 2)) 32), zi (R 0 (i + 1)), zr 32]) (w1 := wr (cOut c val_v) R1) g_L_law 4 _ _ _ _ rfl ?_
    refine gz_sld (n := c.2.2.1) hR0 g_L_law rfl rfl (by omega) (by omega) (by omega) ?_
    refine zx_i2l g_L_law rfl (hI.2.2.2.2.2.2.1 _) ?_
    refine zx_go (pc1 := 660) (l1 := [some (zr 0), some (zr 1), some (zr 32), some (zr 55), some (zi i), some (zi 0), o6]) (st1 := [zl 4294967295, zl (R 0 (i + 3)), zl (zlshl (R 0 (i + 2)) 32), zi (R 0 (i + 1)), zr 32]) (w1 := wr (cOut c val_v) R1) g_L_law 1 _ _ _ _ rfl ?_
    refine zx_land g_L_law rfl ?_
    refine zx_lor g_L_law rfl ?_
    refine zx_go (pc1 := 667) (l1 := [some (zr 0), some (zr 1), some (zr 32), some (zr 55), some (zi i), some (zi 0), o6]) (st1 := [zi (i + 4), zr 0, zl (zlor (zlshl (R 0 (i + 2)) 32) (zland (R 0 (i + 3)) 4294967295)), zi (R 0 (i + 1)), zr 32]) (w1 := wr (cOut c val_v) R1) g_L_law 4 _ _ _ _ rfl ?_
    refine gz_sld (n := c.2.2.1) hR0 g_L_law rfl rfl (by omega) (by omega) (by omega) ?_
    refine zx_i2l g_L_law rfl (hI.2.2.2.2.2.2.1 _) ?_
    refine zx_go (pc1 := 671) (l1 := [some (zr 0), some (zr 1), some (zr 32), some (zr 55), some (zi i), some (zi 0), o6]) (st1 := [zi 32, zl (R 0 (i + 4)), zl (zlor (zlshl (R 0 (i + 2)) 32) (zland (R 0 (i + 3)) 4294967295)), zi (R 0 (i + 1)), zr 32]) (w1 := wr (cOut c val_v) R1) g_L_law 1 _ _ _ _ rfl ?_
    refine zx_lshl g_L_law rfl ?_
    refine zx_go (pc1 := 677) (l1 := [some (zr 0), some (zr 1), some (zr 32), some (zr 55), some (zi i), some (zi 0), o6]) (st1 := [zi (i + 5), zr 0, zl (zlshl (R 0 (i + 4)) 32), zl (zlor (zlshl (R 0 (i + 2)) 32) (zland (R 0 (i + 3)) 4294967295)), zi (R 0 (i + 1)), zr 32]) (w1 := wr (cOut c val_v) R1) g_L_law 4 _ _ _ _ rfl ?_
    refine gz_sld (n := c.2.2.1) hR0 g_L_law rfl rfl (by omega) (by omega) (by omega) ?_
    refine zx_i2l g_L_law rfl (hI.2.2.2.2.2.2.1 _) ?_
    refine zx_go (pc1 := 682) (l1 := [some (zr 0), some (zr 1), some (zr 32), some (zr 55), some (zi i), some (zi 0), o6]) (st1 := [zl 4294967295, zl (R 0 (i + 5)), zl (zlshl (R 0 (i + 4)) 32), zl (zlor (zlshl (R 0 (i + 2)) 32) (zland (R 0 (i + 3)) 4294967295)), zi (R 0 (i + 1)), zr 32]) (w1 := wr (cOut c val_v) R1) g_L_law 1 _ _ _ _ rfl ?_
    refine zx_land g_L_law rfl ?_
    refine zx_lor g_L_law rfl ?_
    refine zx_go (pc1 := 690) (l1 := [some (zr 0), some (zr 1), some (zr 32), some (zr 55), some (zi i), some (zi 0), o6]) (st1 := [zi (i + 6), zr 0, zl (zlor (zlshl (R 0 (i + 4)) 32) (zland (R 0 (i + 5)) 4294967295)), zl (zlor (zlshl (R 0 (i + 2)) 32) (zland (R 0 (i + 3)) 4294967295)), zi (R 0 (i + 1)), zr 32]) (w1 := wr (cOut c val_v) R1) g_L_law 4 _ _ _ _ rfl ?_
    refine gz_sld (n := c.2.2.1) hR0 g_L_law rfl rfl (by omega) (by omega) (by omega) ?_
    refine zx_i2l g_L_law rfl (hI.2.2.2.2.2.2.1 _) ?_
    refine zx_go (pc1 := 694) (l1 := [some (zr 0), some (zr 1), some (zr 32), some (zr 55), some (zi i), some (zi 0), o6]) (st1 := [zi 32, zl (R 0 (i + 6)), zl (zlor (zlshl (R 0 (i + 4)) 32) (zland (R 0 (i + 5)) 4294967295)), zl (zlor (zlshl (R 0 (i + 2)) 32) (zland (R 0 (i + 3)) 4294967295)), zi (R 0 (i + 1)), zr 32]) (w1 := wr (cOut c val_v) R1) g_L_law 1 _ _ _ _ rfl ?_
    refine zx_lshl g_L_law rfl ?_
    refine zx_go (pc1 := 701) (l1 := [some (zr 0), some (zr 1), some (zr 32), some (zr 55), some (zi i), some (zi 0), o6]) (st1 := [zi (i + 7), zr 0, zl (zlshl (R 0 (i + 6)) 32), zl (zlor (zlshl (R 0 (i + 4)) 32) (zland (R 0 (i + 5)) 4294967295)), zl (zlor (zlshl (R 0 (i + 2)) 32) (zland (R 0 (i + 3)) 4294967295)), zi (R 0 (i + 1)), zr 32]) (w1 := wr (cOut c val_v) R1) g_L_law 4 _ _ _ _ rfl ?_
    refine gz_sld (n := c.2.2.1) hR0 g_L_law rfl rfl (by omega) (by omega) (by omega) ?_
    refine zx_i2l g_L_law rfl (hI.2.2.2.2.2.2.1 _) ?_
    refine zx_go (pc1 := 706) (l1 := [some (zr 0), some (zr 1), some (zr 32), some (zr 55), some (zi i), some (zi 0), o6]) (st1 := [zl 4294967295, zl (R 0 (i + 7)), zl (zlshl (R 0 (i + 6)) 32), zl (zlor (zlshl (R 0 (i + 4)) 32) (zland (R 0 (i + 5)) 4294967295)), zl (zlor (zlshl (R 0 (i + 2)) 32) (zland (R 0 (i + 3)) 4294967295)), zi (R 0 (i + 1)), zr 32]) (w1 := wr (cOut c val_v) R1) g_L_law 1 _ _ _ _ rfl ?_
    refine zx_land g_L_law rfl ?_
    refine zx_lor g_L_law rfl ?_
    refine zx_go (pc1 := 714) (l1 := [some (zr 0), some (zr 1), some (zr 32), some (zr 55), some (zi i), some (zi 0), o6]) (st1 := [zi (i + 8), zr 0, zl (zlor (zlshl (R 0 (i + 6)) 32) (zland (R 0 (i + 7)) 4294967295)), zl (zlor (zlshl (R 0 (i + 4)) 32) (zland (R 0 (i + 5)) 4294967295)), zl (zlor (zlshl (R 0 (i + 2)) 32) (zland (R 0 (i + 3)) 4294967295)), zi (R 0 (i + 1)), zr 32]) (w1 := wr (cOut c val_v) R1) g_L_law 4 _ _ _ _ rfl ?_
    refine gz_sld (n := c.2.2.1) hR0 g_L_law rfl rfl (by omega) (by omega) (by omega) ?_
    refine zx_i2l g_L_law rfl (hI.2.2.2.2.2.2.1 _) ?_
    refine zx_go (pc1 := 718) (l1 := [some (zr 0), some (zr 1), some (zr 32), some (zr 55), some (zi i), some (zi 0), o6]) (st1 := [zi 32, zl (R 0 (i + 8)), zl (zlor (zlshl (R 0 (i + 6)) 32) (zland (R 0 (i + 7)) 4294967295)), zl (zlor (zlshl (R 0 (i + 4)) 32) (zland (R 0 (i + 5)) 4294967295)), zl (zlor (zlshl (R 0 (i + 2)) 32) (zland (R 0 (i + 3)) 4294967295)), zi (R 0 (i + 1)), zr 32]) (w1 := wr (cOut c val_v) R1) g_L_law 1 _ _ _ _ rfl ?_
    refine zx_lshl g_L_law rfl ?_
    refine zx_go (pc1 := 725) (l1 := [some (zr 0), some (zr 1), some (zr 32), some (zr 55), some (zi i), some (zi 0), o6]) (st1 := [zi (i + 9), zr 0, zl (zlshl (R 0 (i + 8)) 32), zl (zlor (zlshl (R 0 (i + 6)) 32) (zland (R 0 (i + 7)) 4294967295)), zl (zlor (zlshl (R 0 (i + 4)) 32) (zland (R 0 (i + 5)) 4294967295)), zl (zlor (zlshl (R 0 (i + 2)) 32) (zland (R 0 (i + 3)) 4294967295)), zi (R 0 (i + 1)), zr 32]) (w1 := wr (cOut c val_v) R1) g_L_law 4 _ _ _ _ rfl ?_
    refine gz_sld (n := c.2.2.1) hR0 g_L_law rfl rfl (by omega) (by omega) (by omega) ?_
    refine zx_i2l g_L_law rfl (hI.2.2.2.2.2.2.1 _) ?_
    refine zx_go (pc1 := 730) (l1 := [some (zr 0), some (zr 1), some (zr 32), some (zr 55), some (zi i), some (zi 0), o6]) (st1 := [zl 4294967295, zl (R 0 (i + 9)), zl (zlshl (R 0 (i + 8)) 32), zl (zlor (zlshl (R 0 (i + 6)) 32) (zland (R 0 (i + 7)) 4294967295)), zl (zlor (zlshl (R 0 (i + 4)) 32) (zland (R 0 (i + 5)) 4294967295)), zl (zlor (zlshl (R 0 (i + 2)) 32) (zland (R 0 (i + 3)) 4294967295)), zi (R 0 (i + 1)), zr 32]) (w1 := wr (cOut c val_v) R1) g_L_law 1 _ _ _ _ rfl ?_
    refine zx_land g_L_law rfl ?_
    refine zx_lor g_L_law rfl ?_
    refine gx_cvR (As := [zi (R 0 (i + 1)), zl (zlor (zlshl (R 0 (i + 2)) 32) (zland (R 0 (i + 3)) 4294967295)), zl (zlor (zlshl (R 0 (i + 4)) 32) (zland (R 0 (i + 5)) 4294967295)), zl (zlor (zlshl (R 0 (i + 6)) 32) (zland (R 0 (i + 7)) 4294967295)), zl (zlor (zlshl (R 0 (i + 8)) 32) (zland (R 0 (i + 9)) 4294967295))]) (rest := []) g_L_law rfl g_X6_bar rfl rfl (Nat.le_of_ble_eq_true rfl) (Nat.le_of_ble_eq_true rfl) rfl (by decide) (hMo _ _ _ _ (.inl ⟨hk, hV⟩)) (fun rm Rrm hrm => ?_)
    obtain ⟨hq1, hq2, hq3⟩ := hrm
    have hq4 := hq2 hk
    have hv1 := hPv hk
    refine zx_go (pc1 := 738) (l1 := [some (zr 0), some (zr 1), some (zr 32), some (zr 55), some (zi i), some (zi 0), some (zi rm)]) (st1 := [zr 32]) (w1 := wr (cOut c val_v) Rrm) g_L_law 2 _ _ _ _ rfl ?_
    refine zx_cvF (As := []) (rest := []) g_L_law rfl g_X6_thrown rfl rfl (Nat.le_of_ble_eq_true rfl) (Nat.le_of_ble_eq_true rfl) rfl (by decide) m_thrown ?_
    refine zx_go (pc1 := 743) (l1 := [some (zr 0), some (zr 1), some (zr 32), some (zr 55), some (zi i), some (zi 0), some (zi rm)]) (st1 := [zi 0, zi (Rrm 32 0)]) (w1 := wr (cOut c val_v) Rrm) g_L_law 1 _ _ _ _ rfl ?_
    refine zx_cmp g_L_law rfl (by omega) (by decide) (fun (h743 : (Rrm 32 0) = 0) => ?_) (fun (h743 : ¬ ((Rrm 32 0) = 0)) => ?_)
    · refine zx_go (pc1 := 750) (l1 := [some (zr 0), some (zr 1), some (zr 32), some (zr 55), some (zi i), some (zi 0), some (zi rm)]) (st1 := [zi 0]) (w1 := wr (cOut c val_v) Rrm) g_L_law 1 _ _ _ _ rfl ?_
      refine zx_ifF g_L_law rfl (by decide) (show ¬ ((0 : Int) ≠ 0) by decide) ?_
      refine zx_go (pc1 := 755) (l1 := [some (zr 0), some (zr 1), some (zr 32), some (zr 55), some (zi i), some (zi 0), some (zi rm)]) (st1 := [zi 0, zr 55]) (w1 := wr (cOut c val_v) Rrm) g_L_law 2 _ _ _ _ rfl ?_
      refine gz_lald g_L_law rfl ?_
      refine zx_go (pc1 := 758) (l1 := [some (zr 0), some (zr 1), some (zr 32), some (zr 55), some (zi i), some (zi 0), some (zi rm)]) (st1 := [zi rm, zl val_v]) (w1 := wr (cOut c val_v) Rrm) g_L_law 1 _ _ _ _ rfl ?_
      refine zx_if g_L_law rfl (by omega) (fun (h758 : rm = 0) => ?_) (fun (h758 : ¬ rm = 0) => ?_)
      · refine zx_go (pc1 := 766) (l1 := [some (zr 0), some (zr 1), some (zr 32), some (zr 55), some (zi i), some (zi 0), some (zi rm)]) (st1 := [zl 0, zl val_v]) (w1 := wr (cOut c val_v) Rrm) g_L_law 1 _ _ _ _ rfl ?_
        refine zx_lcif g_L_law rfl rfl (by omega) (by decide) (fun (h766 : val_v = 0) => ?_) (fun (h766 : ¬ (val_v = 0)) => ?_)
        · refine zx_go (pc1 := 1417) (l1 := [some (zr 0), some (zr 1), some (zr 32), some (zr 55), some (zi i), some (zi 0), some (zi rm)]) (st1 := []) (w1 := wr (cOut c val_v) Rrm) g_L_law 1 _ _ _ _ rfl ?_
          exact K _ _ hq3 rfl (Nat.le_succ _) (Nat.le_add_right _ _)
        · omega
      · refine zx_go (pc1 := 766) (l1 := [some (zr 0), some (zr 1), some (zr 32), some (zr 55), some (zi i), some (zi 0), some (zi rm)]) (st1 := [zl 1, zl val_v]) (w1 := wr (cOut c val_v) Rrm) g_L_law 2 _ _ _ _ rfl ?_
        refine zx_lcif g_L_law rfl rfl (by omega) (by decide) (fun (h766 : val_v = 1) => ?_) (fun (h766 : ¬ (val_v = 1)) => ?_)
        · refine zx_go (pc1 := 1417) (l1 := [some (zr 0), some (zr 1), some (zr 32), some (zr 55), some (zi i), some (zi 0), some (zi rm)]) (st1 := []) (w1 := wr (cOut c val_v) Rrm) g_L_law 1 _ _ _ _ rfl ?_
          exact K _ _ hq3 rfl (Nat.le_succ _) (Nat.le_add_right _ _)
        · omega
    · omega
  · refine zx_go (pc1 := 639) (l1 := [some (zr 0), some (zr 1), some (zr 32), some (zr 55), some (zi i), some (zi code_v), o6]) (st1 := [zi (i + 1), zr 0, zr 32]) (w1 := wr (cBm c) R) g_L_law 6 _ _ _ _ rfl ?_
    refine gz_sld (n := c.2.2.1) rfl g_L_law rfl rfl (by omega) (by omega) (by omega) ?_
    refine zx_go (pc1 := 645) (l1 := [some (zr 0), some (zr 1), some (zr 32), some (zr 55), some (zi i), some (zi code_v), o6]) (st1 := [zi (i + 2), zr 0, zi (R 0 (i + 1)), zr 32]) (w1 := wr (cBm c) R) g_L_law 4 _ _ _ _ rfl ?_
    refine gz_sld (n := c.2.2.1) rfl g_L_law rfl rfl (by omega) (by omega) (by omega) ?_
    refine zx_i2l g_L_law rfl (hI.2.2.2.2.2.2.1 _) ?_
    refine zx_go (pc1 := 649) (l1 := [some (zr 0), some (zr 1), some (zr 32), some (zr 55), some (zi i), some (zi code_v), o6]) (st1 := [zi 32, zl (R 0 (i + 2)), zi (R 0 (i + 1)), zr 32]) (w1 := wr (cBm c) R) g_L_law 1 _ _ _ _ rfl ?_
    refine zx_lshl g_L_law rfl ?_
    refine zx_go (pc1 := 655) (l1 := [some (zr 0), some (zr 1), some (zr 32), some (zr 55), some (zi i), some (zi code_v), o6]) (st1 := [zi (i + 3), zr 0, zl (zlshl (R 0 (i + 2)) 32), zi (R 0 (i + 1)), zr 32]) (w1 := wr (cBm c) R) g_L_law 4 _ _ _ _ rfl ?_
    refine gz_sld (n := c.2.2.1) rfl g_L_law rfl rfl (by omega) (by omega) (by omega) ?_
    refine zx_i2l g_L_law rfl (hI.2.2.2.2.2.2.1 _) ?_
    refine zx_go (pc1 := 660) (l1 := [some (zr 0), some (zr 1), some (zr 32), some (zr 55), some (zi i), some (zi code_v), o6]) (st1 := [zl 4294967295, zl (R 0 (i + 3)), zl (zlshl (R 0 (i + 2)) 32), zi (R 0 (i + 1)), zr 32]) (w1 := wr (cBm c) R) g_L_law 1 _ _ _ _ rfl ?_
    refine zx_land g_L_law rfl ?_
    refine zx_lor g_L_law rfl ?_
    refine zx_go (pc1 := 667) (l1 := [some (zr 0), some (zr 1), some (zr 32), some (zr 55), some (zi i), some (zi code_v), o6]) (st1 := [zi (i + 4), zr 0, zl (zlor (zlshl (R 0 (i + 2)) 32) (zland (R 0 (i + 3)) 4294967295)), zi (R 0 (i + 1)), zr 32]) (w1 := wr (cBm c) R) g_L_law 4 _ _ _ _ rfl ?_
    refine gz_sld (n := c.2.2.1) rfl g_L_law rfl rfl (by omega) (by omega) (by omega) ?_
    refine zx_i2l g_L_law rfl (hI.2.2.2.2.2.2.1 _) ?_
    refine zx_go (pc1 := 671) (l1 := [some (zr 0), some (zr 1), some (zr 32), some (zr 55), some (zi i), some (zi code_v), o6]) (st1 := [zi 32, zl (R 0 (i + 4)), zl (zlor (zlshl (R 0 (i + 2)) 32) (zland (R 0 (i + 3)) 4294967295)), zi (R 0 (i + 1)), zr 32]) (w1 := wr (cBm c) R) g_L_law 1 _ _ _ _ rfl ?_
    refine zx_lshl g_L_law rfl ?_
    refine zx_go (pc1 := 677) (l1 := [some (zr 0), some (zr 1), some (zr 32), some (zr 55), some (zi i), some (zi code_v), o6]) (st1 := [zi (i + 5), zr 0, zl (zlshl (R 0 (i + 4)) 32), zl (zlor (zlshl (R 0 (i + 2)) 32) (zland (R 0 (i + 3)) 4294967295)), zi (R 0 (i + 1)), zr 32]) (w1 := wr (cBm c) R) g_L_law 4 _ _ _ _ rfl ?_
    refine gz_sld (n := c.2.2.1) rfl g_L_law rfl rfl (by omega) (by omega) (by omega) ?_
    refine zx_i2l g_L_law rfl (hI.2.2.2.2.2.2.1 _) ?_
    refine zx_go (pc1 := 682) (l1 := [some (zr 0), some (zr 1), some (zr 32), some (zr 55), some (zi i), some (zi code_v), o6]) (st1 := [zl 4294967295, zl (R 0 (i + 5)), zl (zlshl (R 0 (i + 4)) 32), zl (zlor (zlshl (R 0 (i + 2)) 32) (zland (R 0 (i + 3)) 4294967295)), zi (R 0 (i + 1)), zr 32]) (w1 := wr (cBm c) R) g_L_law 1 _ _ _ _ rfl ?_
    refine zx_land g_L_law rfl ?_
    refine zx_lor g_L_law rfl ?_
    refine zx_go (pc1 := 690) (l1 := [some (zr 0), some (zr 1), some (zr 32), some (zr 55), some (zi i), some (zi code_v), o6]) (st1 := [zi (i + 6), zr 0, zl (zlor (zlshl (R 0 (i + 4)) 32) (zland (R 0 (i + 5)) 4294967295)), zl (zlor (zlshl (R 0 (i + 2)) 32) (zland (R 0 (i + 3)) 4294967295)), zi (R 0 (i + 1)), zr 32]) (w1 := wr (cBm c) R) g_L_law 4 _ _ _ _ rfl ?_
    refine gz_sld (n := c.2.2.1) rfl g_L_law rfl rfl (by omega) (by omega) (by omega) ?_
    refine zx_i2l g_L_law rfl (hI.2.2.2.2.2.2.1 _) ?_
    refine zx_go (pc1 := 694) (l1 := [some (zr 0), some (zr 1), some (zr 32), some (zr 55), some (zi i), some (zi code_v), o6]) (st1 := [zi 32, zl (R 0 (i + 6)), zl (zlor (zlshl (R 0 (i + 4)) 32) (zland (R 0 (i + 5)) 4294967295)), zl (zlor (zlshl (R 0 (i + 2)) 32) (zland (R 0 (i + 3)) 4294967295)), zi (R 0 (i + 1)), zr 32]) (w1 := wr (cBm c) R) g_L_law 1 _ _ _ _ rfl ?_
    refine zx_lshl g_L_law rfl ?_
    refine zx_go (pc1 := 701) (l1 := [some (zr 0), some (zr 1), some (zr 32), some (zr 55), some (zi i), some (zi code_v), o6]) (st1 := [zi (i + 7), zr 0, zl (zlshl (R 0 (i + 6)) 32), zl (zlor (zlshl (R 0 (i + 4)) 32) (zland (R 0 (i + 5)) 4294967295)), zl (zlor (zlshl (R 0 (i + 2)) 32) (zland (R 0 (i + 3)) 4294967295)), zi (R 0 (i + 1)), zr 32]) (w1 := wr (cBm c) R) g_L_law 4 _ _ _ _ rfl ?_
    refine gz_sld (n := c.2.2.1) rfl g_L_law rfl rfl (by omega) (by omega) (by omega) ?_
    refine zx_i2l g_L_law rfl (hI.2.2.2.2.2.2.1 _) ?_
    refine zx_go (pc1 := 706) (l1 := [some (zr 0), some (zr 1), some (zr 32), some (zr 55), some (zi i), some (zi code_v), o6]) (st1 := [zl 4294967295, zl (R 0 (i + 7)), zl (zlshl (R 0 (i + 6)) 32), zl (zlor (zlshl (R 0 (i + 4)) 32) (zland (R 0 (i + 5)) 4294967295)), zl (zlor (zlshl (R 0 (i + 2)) 32) (zland (R 0 (i + 3)) 4294967295)), zi (R 0 (i + 1)), zr 32]) (w1 := wr (cBm c) R) g_L_law 1 _ _ _ _ rfl ?_
    refine zx_land g_L_law rfl ?_
    refine zx_lor g_L_law rfl ?_
    refine zx_go (pc1 := 714) (l1 := [some (zr 0), some (zr 1), some (zr 32), some (zr 55), some (zi i), some (zi code_v), o6]) (st1 := [zi (i + 8), zr 0, zl (zlor (zlshl (R 0 (i + 6)) 32) (zland (R 0 (i + 7)) 4294967295)), zl (zlor (zlshl (R 0 (i + 4)) 32) (zland (R 0 (i + 5)) 4294967295)), zl (zlor (zlshl (R 0 (i + 2)) 32) (zland (R 0 (i + 3)) 4294967295)), zi (R 0 (i + 1)), zr 32]) (w1 := wr (cBm c) R) g_L_law 4 _ _ _ _ rfl ?_
    refine gz_sld (n := c.2.2.1) rfl g_L_law rfl rfl (by omega) (by omega) (by omega) ?_
    refine zx_i2l g_L_law rfl (hI.2.2.2.2.2.2.1 _) ?_
    refine zx_go (pc1 := 718) (l1 := [some (zr 0), some (zr 1), some (zr 32), some (zr 55), some (zi i), some (zi code_v), o6]) (st1 := [zi 32, zl (R 0 (i + 8)), zl (zlor (zlshl (R 0 (i + 6)) 32) (zland (R 0 (i + 7)) 4294967295)), zl (zlor (zlshl (R 0 (i + 4)) 32) (zland (R 0 (i + 5)) 4294967295)), zl (zlor (zlshl (R 0 (i + 2)) 32) (zland (R 0 (i + 3)) 4294967295)), zi (R 0 (i + 1)), zr 32]) (w1 := wr (cBm c) R) g_L_law 1 _ _ _ _ rfl ?_
    refine zx_lshl g_L_law rfl ?_
    refine zx_go (pc1 := 725) (l1 := [some (zr 0), some (zr 1), some (zr 32), some (zr 55), some (zi i), some (zi code_v), o6]) (st1 := [zi (i + 9), zr 0, zl (zlshl (R 0 (i + 8)) 32), zl (zlor (zlshl (R 0 (i + 6)) 32) (zland (R 0 (i + 7)) 4294967295)), zl (zlor (zlshl (R 0 (i + 4)) 32) (zland (R 0 (i + 5)) 4294967295)), zl (zlor (zlshl (R 0 (i + 2)) 32) (zland (R 0 (i + 3)) 4294967295)), zi (R 0 (i + 1)), zr 32]) (w1 := wr (cBm c) R) g_L_law 4 _ _ _ _ rfl ?_
    refine gz_sld (n := c.2.2.1) rfl g_L_law rfl rfl (by omega) (by omega) (by omega) ?_
    refine zx_i2l g_L_law rfl (hI.2.2.2.2.2.2.1 _) ?_
    refine zx_go (pc1 := 730) (l1 := [some (zr 0), some (zr 1), some (zr 32), some (zr 55), some (zi i), some (zi code_v), o6]) (st1 := [zl 4294967295, zl (R 0 (i + 9)), zl (zlshl (R 0 (i + 8)) 32), zl (zlor (zlshl (R 0 (i + 6)) 32) (zland (R 0 (i + 7)) 4294967295)), zl (zlor (zlshl (R 0 (i + 4)) 32) (zland (R 0 (i + 5)) 4294967295)), zl (zlor (zlshl (R 0 (i + 2)) 32) (zland (R 0 (i + 3)) 4294967295)), zi (R 0 (i + 1)), zr 32]) (w1 := wr (cBm c) R) g_L_law 1 _ _ _ _ rfl ?_
    refine zx_land g_L_law rfl ?_
    refine zx_lor g_L_law rfl ?_
    refine gx_cvR (As := [zi (R 0 (i + 1)), zl (zlor (zlshl (R 0 (i + 2)) 32) (zland (R 0 (i + 3)) 4294967295)), zl (zlor (zlshl (R 0 (i + 4)) 32) (zland (R 0 (i + 5)) 4294967295)), zl (zlor (zlshl (R 0 (i + 6)) 32) (zland (R 0 (i + 7)) 4294967295)), zl (zlor (zlshl (R 0 (i + 8)) 32) (zland (R 0 (i + 9)) 4294967295))]) (rest := []) g_L_law rfl g_X6_bar rfl rfl (Nat.le_of_ble_eq_true rfl) (Nat.le_of_ble_eq_true rfl) rfl (by decide) (hMo _ _ _ _ (.inr ⟨hk, rfl⟩)) (fun rm Rrm hrm => ?_)
    obtain ⟨hq1, hq2, hq3⟩ := hrm
    refine zx_go (pc1 := 738) (l1 := [some (zr 0), some (zr 1), some (zr 32), some (zr 55), some (zi i), some (zi code_v), some (zi rm)]) (st1 := [zr 32]) (w1 := wr (cBm c) Rrm) g_L_law 2 _ _ _ _ rfl ?_
    refine zx_cvF (As := []) (rest := []) g_L_law rfl g_X6_thrown rfl rfl (Nat.le_of_ble_eq_true rfl) (Nat.le_of_ble_eq_true rfl) rfl (by decide) m_thrown ?_
    refine zx_go (pc1 := 743) (l1 := [some (zr 0), some (zr 1), some (zr 32), some (zr 55), some (zi i), some (zi code_v), some (zi rm)]) (st1 := [zi code_v, zi (Rrm 32 0)]) (w1 := wr (cBm c) Rrm) g_L_law 1 _ _ _ _ rfl ?_
    refine zx_cmp g_L_law rfl (by omega) (by omega) (fun (h743 : (Rrm 32 0) = code_v) => ?_) (fun (h743 : ¬ ((Rrm 32 0) = code_v)) => ?_)
    · refine zx_go (pc1 := 750) (l1 := [some (zr 0), some (zr 1), some (zr 32), some (zr 55), some (zi i), some (zi code_v), some (zi rm)]) (st1 := [zi code_v]) (w1 := wr (cBm c) Rrm) g_L_law 1 _ _ _ _ rfl ?_
      refine zx_if g_L_law rfl (by omega) (fun (h750 : code_v ≠ 0) => ?_) (fun (h750 : ¬ code_v ≠ 0) => ?_)
      · refine zx_go (pc1 := 1417) (l1 := [some (zr 0), some (zr 1), some (zr 32), some (zr 55), some (zi i), some (zi code_v), some (zi rm)]) (st1 := []) (w1 := wr (cBm c) Rrm) g_L_law 1 _ _ _ _ rfl ?_
        exact K _ _ hq3 rfl (Nat.le_refl _) (Nat.le_refl _)
      · exact absurd (Classical.not_not.mp h750) hk
    · omega

set_option maxHeartbeats 1000000 in
theorem lc_shield {c : zC} {R : zI} {i : Int} {o5 o6 : Option zV} {Q : zO → zW → Prop} (hI : INV c R) (i0 : 3 ≤ i) (i1 : i + 10 ≤ (c.2.2.1 : Int)) (hL : c.2.2.1 ≤ 643) (K : ∀ {c1 : zC} {R1 : zI} (o5 o6 : Option zV), INV c1 R1 → c1.2.2.1 = c.2.2.1 → c1.1 ≤ c.1 + 1 → c1.2.1 ≤ c.2.1 + 6 → ZX m_L_law 1417 (lwL i o5 o6) [] (wr c1 R1) Q) : ZX m_L_law 775 (lwL i o5 o6) [] (wr c R) Q := by
  obtain ⟨code_v, val_v, V, hcd, hPv, hV0, hC, hMo⟩ := b_shield (n := R 0 (i + 1)) hI (hI.2.2.2.2.2.2.1 _)
  refine zx_go (pc1 := 781) (l1 := [some (zr 0), some (zr 1), some (zr 32), some (zr 55), some (zi i), o5, o6]) (st1 := [zi (i + 1), zr 0, zr 1]) (w1 := wr c R) g_L_law 5 _ _ _ _ rfl ?_
  refine gz_sld (n := c.2.2.1) rfl g_L_law rfl rfl (by omega) (by omega) (by omega) ?_
  refine zx_go (pc1 := 783) (l1 := [some (zr 0), some (zr 1), some (zr 32), some (zr 55), some (zi i), o5, o6]) (st1 := [zr 55, zi (R 0 (i + 1)), zr 1]) (w1 := wr c R) g_L_law 1 _ _ _ _ rfl ?_
  refine lw_cs (As := [zr 1, zi (R 0 (i + 1)), zr 55]) (rest := []) g_L_law rfl g_L_shield rfl rfl (Nat.le_of_ble_eq_true rfl) (Nat.le_of_ble_eq_true rfl) (t_L_shield hcd hPv hC) (fun hk R1 hV => ?_) (fun hk => ?_)
  · have hR0 := hV0 R1 hV
    refine zx_go (pc1 := 794) (l1 := [some (zr 0), some (zr 1), some (zr 32), some (zr 55), some (zi i), some (zi 0), o6]) (st1 := [zi (i + 1), zr 0, zr 32]) (w1 := wr (cOut c val_v) R1) g_L_law 6 _ _ _ _ rfl ?_
    refine gz_sld (n := c.2.2.1) hR0 g_L_law rfl rfl (by omega) (by omega) (by omega) ?_
    refine gx_cvR (As := [zi (R 0 (i + 1))]) (rest := []) g_L_law rfl g_X6_shield rfl rfl (Nat.le_of_ble_eq_true rfl) (Nat.le_of_ble_eq_true rfl) rfl (by decide) (hMo _ _ _ _ (.inl ⟨hk, hV⟩)) (fun rm Rrm hrm => ?_)
    obtain ⟨hq1, hq2, hq3⟩ := hrm
    have hq4 := hq2 hk
    have hv1 := hPv hk
    refine zx_go (pc1 := 801) (l1 := [some (zr 0), some (zr 1), some (zr 32), some (zr 55), some (zi i), some (zi 0), some (zi rm)]) (st1 := [zr 32]) (w1 := wr (cOut c val_v) Rrm) g_L_law 2 _ _ _ _ rfl ?_
    refine zx_cvF (As := []) (rest := []) g_L_law rfl g_X6_thrown rfl rfl (Nat.le_of_ble_eq_true rfl) (Nat.le_of_ble_eq_true rfl) rfl (by decide) m_thrown ?_
    refine zx_go (pc1 := 806) (l1 := [some (zr 0), some (zr 1), some (zr 32), some (zr 55), some (zi i), some (zi 0), some (zi rm)]) (st1 := [zi 0, zi (Rrm 32 0)]) (w1 := wr (cOut c val_v) Rrm) g_L_law 1 _ _ _ _ rfl ?_
    refine zx_cmp g_L_law rfl (by omega) (by decide) (fun (h806 : (Rrm 32 0) = 0) => ?_) (fun (h806 : ¬ ((Rrm 32 0) = 0)) => ?_)
    · refine zx_go (pc1 := 813) (l1 := [some (zr 0), some (zr 1), some (zr 32), some (zr 55), some (zi i), some (zi 0), some (zi rm)]) (st1 := [zi 0]) (w1 := wr (cOut c val_v) Rrm) g_L_law 1 _ _ _ _ rfl ?_
      refine zx_ifF g_L_law rfl (by decide) (show ¬ ((0 : Int) ≠ 0) by decide) ?_
      refine zx_go (pc1 := 818) (l1 := [some (zr 0), some (zr 1), some (zr 32), some (zr 55), some (zi i), some (zi 0), some (zi rm)]) (st1 := [zi 0, zr 55]) (w1 := wr (cOut c val_v) Rrm) g_L_law 2 _ _ _ _ rfl ?_
      refine gz_lald g_L_law rfl ?_
      refine zx_go (pc1 := 821) (l1 := [some (zr 0), some (zr 1), some (zr 32), some (zr 55), some (zi i), some (zi 0), some (zi rm)]) (st1 := [zi rm, zl val_v]) (w1 := wr (cOut c val_v) Rrm) g_L_law 1 _ _ _ _ rfl ?_
      refine zx_if g_L_law rfl (by omega) (fun (h821 : rm = 0) => ?_) (fun (h821 : ¬ rm = 0) => ?_)
      · refine zx_go (pc1 := 829) (l1 := [some (zr 0), some (zr 1), some (zr 32), some (zr 55), some (zi i), some (zi 0), some (zi rm)]) (st1 := [zl 0, zl val_v]) (w1 := wr (cOut c val_v) Rrm) g_L_law 1 _ _ _ _ rfl ?_
        refine zx_lcif g_L_law rfl rfl (by omega) (by decide) (fun (h829 : val_v = 0) => ?_) (fun (h829 : ¬ (val_v = 0)) => ?_)
        · refine zx_go (pc1 := 1417) (l1 := [some (zr 0), some (zr 1), some (zr 32), some (zr 55), some (zi i), some (zi 0), some (zi rm)]) (st1 := []) (w1 := wr (cOut c val_v) Rrm) g_L_law 1 _ _ _ _ rfl ?_
          exact K _ _ hq3 rfl (Nat.le_succ _) (Nat.le_add_right _ _)
        · omega
      · refine zx_go (pc1 := 829) (l1 := [some (zr 0), some (zr 1), some (zr 32), some (zr 55), some (zi i), some (zi 0), some (zi rm)]) (st1 := [zl 1, zl val_v]) (w1 := wr (cOut c val_v) Rrm) g_L_law 2 _ _ _ _ rfl ?_
        refine zx_lcif g_L_law rfl rfl (by omega) (by decide) (fun (h829 : val_v = 1) => ?_) (fun (h829 : ¬ (val_v = 1)) => ?_)
        · refine zx_go (pc1 := 1417) (l1 := [some (zr 0), some (zr 1), some (zr 32), some (zr 55), some (zi i), some (zi 0), some (zi rm)]) (st1 := []) (w1 := wr (cOut c val_v) Rrm) g_L_law 1 _ _ _ _ rfl ?_
          exact K _ _ hq3 rfl (Nat.le_succ _) (Nat.le_add_right _ _)
        · omega
    · omega
  · refine zx_go (pc1 := 794) (l1 := [some (zr 0), some (zr 1), some (zr 32), some (zr 55), some (zi i), some (zi code_v), o6]) (st1 := [zi (i + 1), zr 0, zr 32]) (w1 := wr (cBm c) R) g_L_law 6 _ _ _ _ rfl ?_
    refine gz_sld (n := c.2.2.1) rfl g_L_law rfl rfl (by omega) (by omega) (by omega) ?_
    refine gx_cvR (As := [zi (R 0 (i + 1))]) (rest := []) g_L_law rfl g_X6_shield rfl rfl (Nat.le_of_ble_eq_true rfl) (Nat.le_of_ble_eq_true rfl) rfl (by decide) (hMo _ _ _ _ (.inr ⟨hk, rfl⟩)) (fun rm Rrm hrm => ?_)
    obtain ⟨hq1, hq2, hq3⟩ := hrm
    refine zx_go (pc1 := 801) (l1 := [some (zr 0), some (zr 1), some (zr 32), some (zr 55), some (zi i), some (zi code_v), some (zi rm)]) (st1 := [zr 32]) (w1 := wr (cBm c) Rrm) g_L_law 2 _ _ _ _ rfl ?_
    refine zx_cvF (As := []) (rest := []) g_L_law rfl g_X6_thrown rfl rfl (Nat.le_of_ble_eq_true rfl) (Nat.le_of_ble_eq_true rfl) rfl (by decide) m_thrown ?_
    refine zx_go (pc1 := 806) (l1 := [some (zr 0), some (zr 1), some (zr 32), some (zr 55), some (zi i), some (zi code_v), some (zi rm)]) (st1 := [zi code_v, zi (Rrm 32 0)]) (w1 := wr (cBm c) Rrm) g_L_law 1 _ _ _ _ rfl ?_
    refine zx_cmp g_L_law rfl (by omega) (by omega) (fun (h806 : (Rrm 32 0) = code_v) => ?_) (fun (h806 : ¬ ((Rrm 32 0) = code_v)) => ?_)
    · refine zx_go (pc1 := 813) (l1 := [some (zr 0), some (zr 1), some (zr 32), some (zr 55), some (zi i), some (zi code_v), some (zi rm)]) (st1 := [zi code_v]) (w1 := wr (cBm c) Rrm) g_L_law 1 _ _ _ _ rfl ?_
      refine zx_if g_L_law rfl (by omega) (fun (h813 : code_v ≠ 0) => ?_) (fun (h813 : ¬ code_v ≠ 0) => ?_)
      · refine zx_go (pc1 := 1417) (l1 := [some (zr 0), some (zr 1), some (zr 32), some (zr 55), some (zi i), some (zi code_v), some (zi rm)]) (st1 := []) (w1 := wr (cBm c) Rrm) g_L_law 1 _ _ _ _ rfl ?_
        exact K _ _ hq3 rfl (Nat.le_refl _) (Nat.le_refl _)
      · exact absurd (Classical.not_not.mp h813) hk
    · omega

set_option maxHeartbeats 1000000 in
theorem lc_run {c : zC} {R : zI} {i : Int} {o5 o6 : Option zV} {Q : zO → zW → Prop} (hI : INV c R) (i0 : 3 ≤ i) (i1 : i + 10 ≤ (c.2.2.1 : Int)) (hL : c.2.2.1 ≤ 643) (K : ∀ {c1 : zC} {R1 : zI} (o5 o6 : Option zV), INV c1 R1 → c1.2.2.1 = c.2.2.1 → c1.1 ≤ c.1 + 1 → c1.2.1 ≤ c.2.1 + 6 → ZX m_L_law 1417 (lwL i o5 o6) [] (wr c1 R1) Q) : ZX m_L_law 838 (lwL i o5 o6) [] (wr c R) Q := by
  obtain ⟨code_v, val_v, V, hcd, hPv, hV0, hC, hMo⟩ := b_run (k := R 0 (i + 1)) hI (hI.2.2.2.2.2.2.1 _)
  refine zx_go (pc1 := 844) (l1 := [some (zr 0), some (zr 1), some (zr 32), some (zr 55), some (zi i), o5, o6]) (st1 := [zi (i + 1), zr 0, zr 1]) (w1 := wr c R) g_L_law 5 _ _ _ _ rfl ?_
  refine gz_sld (n := c.2.2.1) rfl g_L_law rfl rfl (by omega) (by omega) (by omega) ?_
  refine zx_go (pc1 := 846) (l1 := [some (zr 0), some (zr 1), some (zr 32), some (zr 55), some (zi i), o5, o6]) (st1 := [zr 55, zi (R 0 (i + 1)), zr 1]) (w1 := wr c R) g_L_law 1 _ _ _ _ rfl ?_
  refine lw_cs (As := [zr 1, zi (R 0 (i + 1)), zr 55]) (rest := []) g_L_law rfl g_L_run rfl rfl (Nat.le_of_ble_eq_true rfl) (Nat.le_of_ble_eq_true rfl) (t_L_run hcd hPv hC) (fun hk R1 hV => ?_) (fun hk => ?_)
  · have hR0 := hV0 R1 hV
    refine zx_go (pc1 := 857) (l1 := [some (zr 0), some (zr 1), some (zr 32), some (zr 55), some (zi i), some (zi 0), o6]) (st1 := [zi (i + 1), zr 0, zr 32]) (w1 := wr (cOut c val_v) R1) g_L_law 6 _ _ _ _ rfl ?_
    refine gz_sld (n := c.2.2.1) hR0 g_L_law rfl rfl (by omega) (by omega) (by omega) ?_
    refine gx_cvR (As := [zi (R 0 (i + 1))]) (rest := []) g_L_law rfl g_X6_run rfl rfl (Nat.le_of_ble_eq_true rfl) (Nat.le_of_ble_eq_true rfl) rfl (by decide) (hMo _ _ _ _ (.inl ⟨hk, hV⟩)) (fun rm Rrm hrm => ?_)
    obtain ⟨hq1, hq2, hq3⟩ := hrm
    have hq4 := hq2 hk
    have hv1 := hPv hk
    refine zx_go (pc1 := 864) (l1 := [some (zr 0), some (zr 1), some (zr 32), some (zr 55), some (zi i), some (zi 0), some (zi rm)]) (st1 := [zr 32]) (w1 := wr (cOut c val_v) Rrm) g_L_law 2 _ _ _ _ rfl ?_
    refine zx_cvF (As := []) (rest := []) g_L_law rfl g_X6_thrown rfl rfl (Nat.le_of_ble_eq_true rfl) (Nat.le_of_ble_eq_true rfl) rfl (by decide) m_thrown ?_
    refine zx_go (pc1 := 869) (l1 := [some (zr 0), some (zr 1), some (zr 32), some (zr 55), some (zi i), some (zi 0), some (zi rm)]) (st1 := [zi 0, zi (Rrm 32 0)]) (w1 := wr (cOut c val_v) Rrm) g_L_law 1 _ _ _ _ rfl ?_
    refine zx_cmp g_L_law rfl (by omega) (by decide) (fun (h869 : (Rrm 32 0) = 0) => ?_) (fun (h869 : ¬ ((Rrm 32 0) = 0)) => ?_)
    · refine zx_go (pc1 := 876) (l1 := [some (zr 0), some (zr 1), some (zr 32), some (zr 55), some (zi i), some (zi 0), some (zi rm)]) (st1 := [zi 0]) (w1 := wr (cOut c val_v) Rrm) g_L_law 1 _ _ _ _ rfl ?_
      refine zx_ifF g_L_law rfl (by decide) (show ¬ ((0 : Int) ≠ 0) by decide) ?_
      refine zx_go (pc1 := 881) (l1 := [some (zr 0), some (zr 1), some (zr 32), some (zr 55), some (zi i), some (zi 0), some (zi rm)]) (st1 := [zi 0, zr 55]) (w1 := wr (cOut c val_v) Rrm) g_L_law 2 _ _ _ _ rfl ?_
      refine gz_lald g_L_law rfl ?_
      refine zx_go (pc1 := 884) (l1 := [some (zr 0), some (zr 1), some (zr 32), some (zr 55), some (zi i), some (zi 0), some (zi rm)]) (st1 := [zi rm, zl val_v]) (w1 := wr (cOut c val_v) Rrm) g_L_law 1 _ _ _ _ rfl ?_
      refine zx_i2l g_L_law rfl (by omega) ?_
      refine zx_lcif g_L_law rfl rfl (by omega) (by omega) (fun (h885 : val_v = rm) => ?_) (fun (h885 : ¬ (val_v = rm)) => ?_)
      · refine zx_go (pc1 := 1417) (l1 := [some (zr 0), some (zr 1), some (zr 32), some (zr 55), some (zi i), some (zi 0), some (zi rm)]) (st1 := []) (w1 := wr (cOut c val_v) Rrm) g_L_law 1 _ _ _ _ rfl ?_
        exact K _ _ hq3 rfl (Nat.le_succ _) (Nat.le_add_right _ _)
      · omega
    · omega
  · refine zx_go (pc1 := 857) (l1 := [some (zr 0), some (zr 1), some (zr 32), some (zr 55), some (zi i), some (zi code_v), o6]) (st1 := [zi (i + 1), zr 0, zr 32]) (w1 := wr (cBm c) R) g_L_law 6 _ _ _ _ rfl ?_
    refine gz_sld (n := c.2.2.1) rfl g_L_law rfl rfl (by omega) (by omega) (by omega) ?_
    refine gx_cvR (As := [zi (R 0 (i + 1))]) (rest := []) g_L_law rfl g_X6_run rfl rfl (Nat.le_of_ble_eq_true rfl) (Nat.le_of_ble_eq_true rfl) rfl (by decide) (hMo _ _ _ _ (.inr ⟨hk, rfl⟩)) (fun rm Rrm hrm => ?_)
    obtain ⟨hq1, hq2, hq3⟩ := hrm
    refine zx_go (pc1 := 864) (l1 := [some (zr 0), some (zr 1), some (zr 32), some (zr 55), some (zi i), some (zi code_v), some (zi rm)]) (st1 := [zr 32]) (w1 := wr (cBm c) Rrm) g_L_law 2 _ _ _ _ rfl ?_
    refine zx_cvF (As := []) (rest := []) g_L_law rfl g_X6_thrown rfl rfl (Nat.le_of_ble_eq_true rfl) (Nat.le_of_ble_eq_true rfl) rfl (by decide) m_thrown ?_
    refine zx_go (pc1 := 869) (l1 := [some (zr 0), some (zr 1), some (zr 32), some (zr 55), some (zi i), some (zi code_v), some (zi rm)]) (st1 := [zi code_v, zi (Rrm 32 0)]) (w1 := wr (cBm c) Rrm) g_L_law 1 _ _ _ _ rfl ?_
    refine zx_cmp g_L_law rfl (by omega) (by omega) (fun (h869 : (Rrm 32 0) = code_v) => ?_) (fun (h869 : ¬ ((Rrm 32 0) = code_v)) => ?_)
    · refine zx_go (pc1 := 876) (l1 := [some (zr 0), some (zr 1), some (zr 32), some (zr 55), some (zi i), some (zi code_v), some (zi rm)]) (st1 := [zi code_v]) (w1 := wr (cBm c) Rrm) g_L_law 1 _ _ _ _ rfl ?_
      refine zx_if g_L_law rfl (by omega) (fun (h876 : code_v ≠ 0) => ?_) (fun (h876 : ¬ code_v ≠ 0) => ?_)
      · refine zx_go (pc1 := 1417) (l1 := [some (zr 0), some (zr 1), some (zr 32), some (zr 55), some (zi i), some (zi code_v), some (zi rm)]) (st1 := []) (w1 := wr (cBm c) Rrm) g_L_law 1 _ _ _ _ rfl ?_
        exact K _ _ hq3 rfl (Nat.le_refl _) (Nat.le_refl _)
      · exact absurd (Classical.not_not.mp h876) hk
    · omega

set_option maxHeartbeats 1000000 in
theorem lc_piece {c : zC} {R : zI} {i : Int} {o5 o6 : Option zV} {Q : zO → zW → Prop} (hI : INV c R) (i0 : 3 ≤ i) (i1 : i + 10 ≤ (c.2.2.1 : Int)) (hL : c.2.2.1 ≤ 643) (K : ∀ {c1 : zC} {R1 : zI} (o5 o6 : Option zV), INV c1 R1 → c1.2.2.1 = c.2.2.1 → c1.1 ≤ c.1 + 1 → c1.2.1 ≤ c.2.1 + 6 → ZX m_L_law 1417 (lwL i o5 o6) [] (wr c1 R1) Q) : ZX m_L_law 894 (lwL i o5 o6) [] (wr c R) Q := by
  obtain ⟨code_v, val_v, V, hcd, hPv, hV0, hC, hMo⟩ := b_piece (n := R 0 (i + 1)) (k := R 0 (i + 2)) (w := R 0 (i + 3)) hI (hI.2.2.2.2.2.2.1 _) (hI.2.2.2.2.2.2.1 _) (hI.2.2.2.2.2.2.1 _)
  refine zx_go (pc1 := 900) (l1 := [some (zr 0), some (zr 1), some (zr 32), some (zr 55), some (zi i), o5, o6]) (st1 := [zi (i + 1), zr 0, zr 1]) (w1 := wr c R) g_L_law 5 _ _ _ _ rfl ?_
  refine gz_sld (n := c.2.2.1) rfl g_L_law rfl rfl (by omega) (by omega) (by omega) ?_
  refine zx_go (pc1 := 906) (l1 := [some (zr 0), some (zr 1), some (zr 32), some (zr 55), some (zi i), o5, o6]) (st1 := [zi (i + 2), zr 0, zi (R 0 (i + 1)), zr 1]) (w1 := wr c R) g_L_law 4 _ _ _ _ rfl ?_
  refine gz_sld (n := c.2.2.1) rfl g_L_law rfl rfl (by omega) (by omega) (by omega) ?_
  refine zx_go (pc1 := 912) (l1 := [some (zr 0), some (zr 1), some (zr 32), some (zr 55), some (zi i), o5, o6]) (st1 := [zi (i + 3), zr 0, zi (R 0 (i + 2)), zi (R 0 (i + 1)), zr 1]) (w1 := wr c R) g_L_law 4 _ _ _ _ rfl ?_
  refine gz_sld (n := c.2.2.1) rfl g_L_law rfl rfl (by omega) (by omega) (by omega) ?_
  refine zx_go (pc1 := 914) (l1 := [some (zr 0), some (zr 1), some (zr 32), some (zr 55), some (zi i), o5, o6]) (st1 := [zr 55, zi (R 0 (i + 3)), zi (R 0 (i + 2)), zi (R 0 (i + 1)), zr 1]) (w1 := wr c R) g_L_law 1 _ _ _ _ rfl ?_
  refine lw_cs (As := [zr 1, zi (R 0 (i + 1)), zi (R 0 (i + 2)), zi (R 0 (i + 3)), zr 55]) (rest := []) g_L_law rfl g_L_piece rfl rfl (Nat.le_of_ble_eq_true rfl) (Nat.le_of_ble_eq_true rfl) (t_L_piece hcd hPv hC) (fun hk R1 hV => ?_) (fun hk => ?_)
  · have hR0 := hV0 R1 hV
    refine zx_go (pc1 := 925) (l1 := [some (zr 0), some (zr 1), some (zr 32), some (zr 55), some (zi i), some (zi 0), o6]) (st1 := [zi (i + 1), zr 0, zr 32]) (w1 := wr (cOut c val_v) R1) g_L_law 6 _ _ _ _ rfl ?_
    refine gz_sld (n := c.2.2.1) hR0 g_L_law rfl rfl (by omega) (by omega) (by omega) ?_
    refine zx_go (pc1 := 931) (l1 := [some (zr 0), some (zr 1), some (zr 32), some (zr 55), some (zi i), some (zi 0), o6]) (st1 := [zi (i + 2), zr 0, zi (R 0 (i + 1)), zr 32]) (w1 := wr (cOut c val_v) R1) g_L_law 4 _ _ _ _ rfl ?_
    refine gz_sld (n := c.2.2.1) hR0 g_L_law rfl rfl (by omega) (by omega) (by omega) ?_
    refine zx_go (pc1 := 937) (l1 := [some (zr 0), some (zr 1), some (zr 32), some (zr 55), some (zi i), some (zi 0), o6]) (st1 := [zi (i + 3), zr 0, zi (R 0 (i + 2)), zi (R 0 (i + 1)), zr 32]) (w1 := wr (cOut c val_v) R1) g_L_law 4 _ _ _ _ rfl ?_
    refine gz_sld (n := c.2.2.1) hR0 g_L_law rfl rfl (by omega) (by omega) (by omega) ?_
    refine gx_cvR (As := [zi (R 0 (i + 1)), zi (R 0 (i + 2)), zi (R 0 (i + 3))]) (rest := []) g_L_law rfl g_X6_piece rfl rfl (Nat.le_of_ble_eq_true rfl) (Nat.le_of_ble_eq_true rfl) rfl (by decide) (hMo _ _ _ _ (.inl ⟨hk, hV⟩)) (fun rm Rrm hrm => ?_)
    obtain ⟨hq1, hq2, hq3⟩ := hrm
    have hq4 := hq2 hk
    have hv1 := hPv hk
    refine zx_go (pc1 := 944) (l1 := [some (zr 0), some (zr 1), some (zr 32), some (zr 55), some (zi i), some (zi 0), some (zi rm)]) (st1 := [zr 32]) (w1 := wr (cOut c val_v) Rrm) g_L_law 2 _ _ _ _ rfl ?_
    refine zx_cvF (As := []) (rest := []) g_L_law rfl g_X6_thrown rfl rfl (Nat.le_of_ble_eq_true rfl) (Nat.le_of_ble_eq_true rfl) rfl (by decide) m_thrown ?_
    refine zx_go (pc1 := 949) (l1 := [some (zr 0), some (zr 1), some (zr 32), some (zr 55), some (zi i), some (zi 0), some (zi rm)]) (st1 := [zi 0, zi (Rrm 32 0)]) (w1 := wr (cOut c val_v) Rrm) g_L_law 1 _ _ _ _ rfl ?_
    refine zx_cmp g_L_law rfl (by omega) (by decide) (fun (h949 : (Rrm 32 0) = 0) => ?_) (fun (h949 : ¬ ((Rrm 32 0) = 0)) => ?_)
    · refine zx_go (pc1 := 956) (l1 := [some (zr 0), some (zr 1), some (zr 32), some (zr 55), some (zi i), some (zi 0), some (zi rm)]) (st1 := [zi 0]) (w1 := wr (cOut c val_v) Rrm) g_L_law 1 _ _ _ _ rfl ?_
      refine zx_ifF g_L_law rfl (by decide) (show ¬ ((0 : Int) ≠ 0) by decide) ?_
      refine zx_go (pc1 := 961) (l1 := [some (zr 0), some (zr 1), some (zr 32), some (zr 55), some (zi i), some (zi 0), some (zi rm)]) (st1 := [zi 0, zr 55]) (w1 := wr (cOut c val_v) Rrm) g_L_law 2 _ _ _ _ rfl ?_
      refine gz_lald g_L_law rfl ?_
      refine zx_go (pc1 := 964) (l1 := [some (zr 0), some (zr 1), some (zr 32), some (zr 55), some (zi i), some (zi 0), some (zi rm)]) (st1 := [zi rm, zl val_v]) (w1 := wr (cOut c val_v) Rrm) g_L_law 1 _ _ _ _ rfl ?_
      refine zx_i2l g_L_law rfl (by omega) ?_
      refine zx_lcif g_L_law rfl rfl (by omega) (by omega) (fun (h965 : val_v = rm) => ?_) (fun (h965 : ¬ (val_v = rm)) => ?_)
      · refine zx_go (pc1 := 1417) (l1 := [some (zr 0), some (zr 1), some (zr 32), some (zr 55), some (zi i), some (zi 0), some (zi rm)]) (st1 := []) (w1 := wr (cOut c val_v) Rrm) g_L_law 1 _ _ _ _ rfl ?_
        exact K _ _ hq3 rfl (Nat.le_succ _) (Nat.le_add_right _ _)
      · omega
    · omega
  · refine zx_go (pc1 := 925) (l1 := [some (zr 0), some (zr 1), some (zr 32), some (zr 55), some (zi i), some (zi code_v), o6]) (st1 := [zi (i + 1), zr 0, zr 32]) (w1 := wr (cBm c) R) g_L_law 6 _ _ _ _ rfl ?_
    refine gz_sld (n := c.2.2.1) rfl g_L_law rfl rfl (by omega) (by omega) (by omega) ?_
    refine zx_go (pc1 := 931) (l1 := [some (zr 0), some (zr 1), some (zr 32), some (zr 55), some (zi i), some (zi code_v), o6]) (st1 := [zi (i + 2), zr 0, zi (R 0 (i + 1)), zr 32]) (w1 := wr (cBm c) R) g_L_law 4 _ _ _ _ rfl ?_
    refine gz_sld (n := c.2.2.1) rfl g_L_law rfl rfl (by omega) (by omega) (by omega) ?_
    refine zx_go (pc1 := 937) (l1 := [some (zr 0), some (zr 1), some (zr 32), some (zr 55), some (zi i), some (zi code_v), o6]) (st1 := [zi (i + 3), zr 0, zi (R 0 (i + 2)), zi (R 0 (i + 1)), zr 32]) (w1 := wr (cBm c) R) g_L_law 4 _ _ _ _ rfl ?_
    refine gz_sld (n := c.2.2.1) rfl g_L_law rfl rfl (by omega) (by omega) (by omega) ?_
    refine gx_cvR (As := [zi (R 0 (i + 1)), zi (R 0 (i + 2)), zi (R 0 (i + 3))]) (rest := []) g_L_law rfl g_X6_piece rfl rfl (Nat.le_of_ble_eq_true rfl) (Nat.le_of_ble_eq_true rfl) rfl (by decide) (hMo _ _ _ _ (.inr ⟨hk, rfl⟩)) (fun rm Rrm hrm => ?_)
    obtain ⟨hq1, hq2, hq3⟩ := hrm
    refine zx_go (pc1 := 944) (l1 := [some (zr 0), some (zr 1), some (zr 32), some (zr 55), some (zi i), some (zi code_v), some (zi rm)]) (st1 := [zr 32]) (w1 := wr (cBm c) Rrm) g_L_law 2 _ _ _ _ rfl ?_
    refine zx_cvF (As := []) (rest := []) g_L_law rfl g_X6_thrown rfl rfl (Nat.le_of_ble_eq_true rfl) (Nat.le_of_ble_eq_true rfl) rfl (by decide) m_thrown ?_
    refine zx_go (pc1 := 949) (l1 := [some (zr 0), some (zr 1), some (zr 32), some (zr 55), some (zi i), some (zi code_v), some (zi rm)]) (st1 := [zi code_v, zi (Rrm 32 0)]) (w1 := wr (cBm c) Rrm) g_L_law 1 _ _ _ _ rfl ?_
    refine zx_cmp g_L_law rfl (by omega) (by omega) (fun (h949 : (Rrm 32 0) = code_v) => ?_) (fun (h949 : ¬ ((Rrm 32 0) = code_v)) => ?_)
    · refine zx_go (pc1 := 956) (l1 := [some (zr 0), some (zr 1), some (zr 32), some (zr 55), some (zi i), some (zi code_v), some (zi rm)]) (st1 := [zi code_v]) (w1 := wr (cBm c) Rrm) g_L_law 1 _ _ _ _ rfl ?_
      refine zx_if g_L_law rfl (by omega) (fun (h956 : code_v ≠ 0) => ?_) (fun (h956 : ¬ code_v ≠ 0) => ?_)
      · refine zx_go (pc1 := 1417) (l1 := [some (zr 0), some (zr 1), some (zr 32), some (zr 55), some (zi i), some (zi code_v), some (zi rm)]) (st1 := []) (w1 := wr (cBm c) Rrm) g_L_law 1 _ _ _ _ rfl ?_
        exact K _ _ hq3 rfl (Nat.le_refl _) (Nat.le_refl _)
      · exact absurd (Classical.not_not.mp h956) hk
    · omega

set_option maxHeartbeats 1000000 in
theorem lc_chosen {c : zC} {R : zI} {i : Int} {o5 o6 : Option zV} {Q : zO → zW → Prop} (hI : INV c R) (i0 : 3 ≤ i) (i1 : i + 10 ≤ (c.2.2.1 : Int)) (hL : c.2.2.1 ≤ 643) (K : ∀ {c1 : zC} {R1 : zI} (o5 o6 : Option zV), INV c1 R1 → c1.2.2.1 = c.2.2.1 → c1.1 ≤ c.1 + 1 → c1.2.1 ≤ c.2.1 + 6 → ZX m_L_law 1417 (lwL i o5 o6) [] (wr c1 R1) Q) : ZX m_L_law 974 (lwL i o5 o6) [] (wr c R) Q := by
  obtain ⟨code_v, val_v, V, hcd, hPv, hV0, hC, hMo⟩ := b_chosen (k := R 0 (i + 1)) hI (hI.2.2.2.2.2.2.1 _)
  refine zx_go (pc1 := 980) (l1 := [some (zr 0), some (zr 1), some (zr 32), some (zr 55), some (zi i), o5, o6]) (st1 := [zi (i + 1), zr 0, zr 1]) (w1 := wr c R) g_L_law 5 _ _ _ _ rfl ?_
  refine gz_sld (n := c.2.2.1) rfl g_L_law rfl rfl (by omega) (by omega) (by omega) ?_
  refine zx_go (pc1 := 982) (l1 := [some (zr 0), some (zr 1), some (zr 32), some (zr 55), some (zi i), o5, o6]) (st1 := [zr 55, zi (R 0 (i + 1)), zr 1]) (w1 := wr c R) g_L_law 1 _ _ _ _ rfl ?_
  refine lw_cs (As := [zr 1, zi (R 0 (i + 1)), zr 55]) (rest := []) g_L_law rfl g_L_chosen rfl rfl (Nat.le_of_ble_eq_true rfl) (Nat.le_of_ble_eq_true rfl) (t_L_chosen hcd hPv hC) (fun hk R1 hV => ?_) (fun hk => ?_)
  · have hR0 := hV0 R1 hV
    refine zx_go (pc1 := 993) (l1 := [some (zr 0), some (zr 1), some (zr 32), some (zr 55), some (zi i), some (zi 0), o6]) (st1 := [zi (i + 1), zr 0, zr 32]) (w1 := wr (cOut c val_v) R1) g_L_law 6 _ _ _ _ rfl ?_
    refine gz_sld (n := c.2.2.1) hR0 g_L_law rfl rfl (by omega) (by omega) (by omega) ?_
    refine gx_cvR (As := [zi (R 0 (i + 1))]) (rest := []) g_L_law rfl g_X6_chosen rfl rfl (Nat.le_of_ble_eq_true rfl) (Nat.le_of_ble_eq_true rfl) rfl (by decide) (hMo _ _ _ _ (.inl ⟨hk, hV⟩)) (fun rm Rrm hrm => ?_)
    obtain ⟨hq1, hq2, hq3⟩ := hrm
    have hq4 := hq2 hk
    have hv1 := hPv hk
    refine zx_go (pc1 := 1000) (l1 := [some (zr 0), some (zr 1), some (zr 32), some (zr 55), some (zi i), some (zi 0), some (zi rm)]) (st1 := [zr 32]) (w1 := wr (cOut c val_v) Rrm) g_L_law 2 _ _ _ _ rfl ?_
    refine zx_cvF (As := []) (rest := []) g_L_law rfl g_X6_thrown rfl rfl (Nat.le_of_ble_eq_true rfl) (Nat.le_of_ble_eq_true rfl) rfl (by decide) m_thrown ?_
    refine zx_go (pc1 := 1005) (l1 := [some (zr 0), some (zr 1), some (zr 32), some (zr 55), some (zi i), some (zi 0), some (zi rm)]) (st1 := [zi 0, zi (Rrm 32 0)]) (w1 := wr (cOut c val_v) Rrm) g_L_law 1 _ _ _ _ rfl ?_
    refine zx_cmp g_L_law rfl (by omega) (by decide) (fun (h1005 : (Rrm 32 0) = 0) => ?_) (fun (h1005 : ¬ ((Rrm 32 0) = 0)) => ?_)
    · refine zx_go (pc1 := 1012) (l1 := [some (zr 0), some (zr 1), some (zr 32), some (zr 55), some (zi i), some (zi 0), some (zi rm)]) (st1 := [zi 0]) (w1 := wr (cOut c val_v) Rrm) g_L_law 1 _ _ _ _ rfl ?_
      refine zx_ifF g_L_law rfl (by decide) (show ¬ ((0 : Int) ≠ 0) by decide) ?_
      refine zx_go (pc1 := 1017) (l1 := [some (zr 0), some (zr 1), some (zr 32), some (zr 55), some (zi i), some (zi 0), some (zi rm)]) (st1 := [zi 0, zr 55]) (w1 := wr (cOut c val_v) Rrm) g_L_law 2 _ _ _ _ rfl ?_
      refine gz_lald g_L_law rfl ?_
      refine zx_go (pc1 := 1020) (l1 := [some (zr 0), some (zr 1), some (zr 32), some (zr 55), some (zi i), some (zi 0), some (zi rm)]) (st1 := [zi rm, zl val_v]) (w1 := wr (cOut c val_v) Rrm) g_L_law 1 _ _ _ _ rfl ?_
      refine zx_i2l g_L_law rfl (by omega) ?_
      refine zx_lcif g_L_law rfl rfl (by omega) (by omega) (fun (h1021 : val_v = rm) => ?_) (fun (h1021 : ¬ (val_v = rm)) => ?_)
      · refine zx_go (pc1 := 1417) (l1 := [some (zr 0), some (zr 1), some (zr 32), some (zr 55), some (zi i), some (zi 0), some (zi rm)]) (st1 := []) (w1 := wr (cOut c val_v) Rrm) g_L_law 1 _ _ _ _ rfl ?_
        exact K _ _ hq3 rfl (Nat.le_succ _) (Nat.le_add_right _ _)
      · omega
    · omega
  · refine zx_go (pc1 := 993) (l1 := [some (zr 0), some (zr 1), some (zr 32), some (zr 55), some (zi i), some (zi code_v), o6]) (st1 := [zi (i + 1), zr 0, zr 32]) (w1 := wr (cBm c) R) g_L_law 6 _ _ _ _ rfl ?_
    refine gz_sld (n := c.2.2.1) rfl g_L_law rfl rfl (by omega) (by omega) (by omega) ?_
    refine gx_cvR (As := [zi (R 0 (i + 1))]) (rest := []) g_L_law rfl g_X6_chosen rfl rfl (Nat.le_of_ble_eq_true rfl) (Nat.le_of_ble_eq_true rfl) rfl (by decide) (hMo _ _ _ _ (.inr ⟨hk, rfl⟩)) (fun rm Rrm hrm => ?_)
    obtain ⟨hq1, hq2, hq3⟩ := hrm
    refine zx_go (pc1 := 1000) (l1 := [some (zr 0), some (zr 1), some (zr 32), some (zr 55), some (zi i), some (zi code_v), some (zi rm)]) (st1 := [zr 32]) (w1 := wr (cBm c) Rrm) g_L_law 2 _ _ _ _ rfl ?_
    refine zx_cvF (As := []) (rest := []) g_L_law rfl g_X6_thrown rfl rfl (Nat.le_of_ble_eq_true rfl) (Nat.le_of_ble_eq_true rfl) rfl (by decide) m_thrown ?_
    refine zx_go (pc1 := 1005) (l1 := [some (zr 0), some (zr 1), some (zr 32), some (zr 55), some (zi i), some (zi code_v), some (zi rm)]) (st1 := [zi code_v, zi (Rrm 32 0)]) (w1 := wr (cBm c) Rrm) g_L_law 1 _ _ _ _ rfl ?_
    refine zx_cmp g_L_law rfl (by omega) (by omega) (fun (h1005 : (Rrm 32 0) = code_v) => ?_) (fun (h1005 : ¬ ((Rrm 32 0) = code_v)) => ?_)
    · refine zx_go (pc1 := 1012) (l1 := [some (zr 0), some (zr 1), some (zr 32), some (zr 55), some (zi i), some (zi code_v), some (zi rm)]) (st1 := [zi code_v]) (w1 := wr (cBm c) Rrm) g_L_law 1 _ _ _ _ rfl ?_
      refine zx_if g_L_law rfl (by omega) (fun (h1012 : code_v ≠ 0) => ?_) (fun (h1012 : ¬ code_v ≠ 0) => ?_)
      · refine zx_go (pc1 := 1417) (l1 := [some (zr 0), some (zr 1), some (zr 32), some (zr 55), some (zi i), some (zi code_v), some (zi rm)]) (st1 := []) (w1 := wr (cBm c) Rrm) g_L_law 1 _ _ _ _ rfl ?_
        exact K _ _ hq3 rfl (Nat.le_refl _) (Nat.le_refl _)
      · exact absurd (Classical.not_not.mp h1012) hk
    · omega

set_option maxHeartbeats 1000000 in
theorem lc_open {c : zC} {R : zI} {i : Int} {o5 o6 : Option zV} {Q : zO → zW → Prop} (hI : INV c R) (i0 : 3 ≤ i) (i1 : i + 10 ≤ (c.2.2.1 : Int)) (hL : c.2.2.1 ≤ 643) (K : ∀ {c1 : zC} {R1 : zI} (o5 o6 : Option zV), INV c1 R1 → c1.2.2.1 = c.2.2.1 → c1.1 ≤ c.1 + 1 → c1.2.1 ≤ c.2.1 + 6 → ZX m_L_law 1417 (lwL i o5 o6) [] (wr c1 R1) Q) : ZX m_L_law 1030 (lwL i o5 o6) [] (wr c R) Q := by
  obtain ⟨code_v, val_v, V, hcd, hPv, hV0, hC, hMo⟩ := b_open (k := R 0 (i + 1)) (w := R 0 (i + 2)) hI (hI.2.2.2.2.2.2.1 _) (hI.2.2.2.2.2.2.1 _)
  refine zx_go (pc1 := 1036) (l1 := [some (zr 0), some (zr 1), some (zr 32), some (zr 55), some (zi i), o5, o6]) (st1 := [zi (i + 1), zr 0, zr 1]) (w1 := wr c R) g_L_law 5 _ _ _ _ rfl ?_
  refine gz_sld (n := c.2.2.1) rfl g_L_law rfl rfl (by omega) (by omega) (by omega) ?_
  refine zx_go (pc1 := 1042) (l1 := [some (zr 0), some (zr 1), some (zr 32), some (zr 55), some (zi i), o5, o6]) (st1 := [zi (i + 2), zr 0, zi (R 0 (i + 1)), zr 1]) (w1 := wr c R) g_L_law 4 _ _ _ _ rfl ?_
  refine gz_sld (n := c.2.2.1) rfl g_L_law rfl rfl (by omega) (by omega) (by omega) ?_
  refine zx_go (pc1 := 1044) (l1 := [some (zr 0), some (zr 1), some (zr 32), some (zr 55), some (zi i), o5, o6]) (st1 := [zr 55, zi (R 0 (i + 2)), zi (R 0 (i + 1)), zr 1]) (w1 := wr c R) g_L_law 1 _ _ _ _ rfl ?_
  refine lw_cs (As := [zr 1, zi (R 0 (i + 1)), zi (R 0 (i + 2)), zr 55]) (rest := []) g_L_law rfl g_L_open rfl rfl (Nat.le_of_ble_eq_true rfl) (Nat.le_of_ble_eq_true rfl) (t_L_open hcd hPv hC) (fun hk R1 hV => ?_) (fun hk => ?_)
  · have hR0 := hV0 R1 hV
    refine zx_go (pc1 := 1055) (l1 := [some (zr 0), some (zr 1), some (zr 32), some (zr 55), some (zi i), some (zi 0), o6]) (st1 := [zi (i + 1), zr 0, zr 32]) (w1 := wr (cOut c val_v) R1) g_L_law 6 _ _ _ _ rfl ?_
    refine gz_sld (n := c.2.2.1) hR0 g_L_law rfl rfl (by omega) (by omega) (by omega) ?_
    refine zx_go (pc1 := 1061) (l1 := [some (zr 0), some (zr 1), some (zr 32), some (zr 55), some (zi i), some (zi 0), o6]) (st1 := [zi (i + 2), zr 0, zi (R 0 (i + 1)), zr 32]) (w1 := wr (cOut c val_v) R1) g_L_law 4 _ _ _ _ rfl ?_
    refine gz_sld (n := c.2.2.1) hR0 g_L_law rfl rfl (by omega) (by omega) (by omega) ?_
    refine gx_cvR (As := [zi (R 0 (i + 1)), zi (R 0 (i + 2))]) (rest := []) g_L_law rfl g_X6_open rfl rfl (Nat.le_of_ble_eq_true rfl) (Nat.le_of_ble_eq_true rfl) rfl (by decide) (hMo _ _ _ _ (.inl ⟨hk, hV⟩)) (fun rm Rrm hrm => ?_)
    obtain ⟨hq1, hq2, hq3⟩ := hrm
    have hq4 := hq2 hk
    have hv1 := hPv hk
    refine zx_go (pc1 := 1068) (l1 := [some (zr 0), some (zr 1), some (zr 32), some (zr 55), some (zi i), some (zi 0), some (zi rm)]) (st1 := [zr 32]) (w1 := wr (cOut c val_v) Rrm) g_L_law 2 _ _ _ _ rfl ?_
    refine zx_cvF (As := []) (rest := []) g_L_law rfl g_X6_thrown rfl rfl (Nat.le_of_ble_eq_true rfl) (Nat.le_of_ble_eq_true rfl) rfl (by decide) m_thrown ?_
    refine zx_go (pc1 := 1073) (l1 := [some (zr 0), some (zr 1), some (zr 32), some (zr 55), some (zi i), some (zi 0), some (zi rm)]) (st1 := [zi 0, zi (Rrm 32 0)]) (w1 := wr (cOut c val_v) Rrm) g_L_law 1 _ _ _ _ rfl ?_
    refine zx_cmp g_L_law rfl (by omega) (by decide) (fun (h1073 : (Rrm 32 0) = 0) => ?_) (fun (h1073 : ¬ ((Rrm 32 0) = 0)) => ?_)
    · refine zx_go (pc1 := 1080) (l1 := [some (zr 0), some (zr 1), some (zr 32), some (zr 55), some (zi i), some (zi 0), some (zi rm)]) (st1 := [zi 0]) (w1 := wr (cOut c val_v) Rrm) g_L_law 1 _ _ _ _ rfl ?_
      refine zx_ifF g_L_law rfl (by decide) (show ¬ ((0 : Int) ≠ 0) by decide) ?_
      refine zx_go (pc1 := 1085) (l1 := [some (zr 0), some (zr 1), some (zr 32), some (zr 55), some (zi i), some (zi 0), some (zi rm)]) (st1 := [zi 0, zr 55]) (w1 := wr (cOut c val_v) Rrm) g_L_law 2 _ _ _ _ rfl ?_
      refine gz_lald g_L_law rfl ?_
      refine zx_go (pc1 := 1088) (l1 := [some (zr 0), some (zr 1), some (zr 32), some (zr 55), some (zi i), some (zi 0), some (zi rm)]) (st1 := [zi rm, zl val_v]) (w1 := wr (cOut c val_v) Rrm) g_L_law 1 _ _ _ _ rfl ?_
      refine zx_i2l g_L_law rfl (by omega) ?_
      refine zx_lcif g_L_law rfl rfl (by omega) (by omega) (fun (h1089 : val_v = rm) => ?_) (fun (h1089 : ¬ (val_v = rm)) => ?_)
      · refine zx_go (pc1 := 1417) (l1 := [some (zr 0), some (zr 1), some (zr 32), some (zr 55), some (zi i), some (zi 0), some (zi rm)]) (st1 := []) (w1 := wr (cOut c val_v) Rrm) g_L_law 1 _ _ _ _ rfl ?_
        exact K _ _ hq3 rfl (Nat.le_succ _) (Nat.le_add_right _ _)
      · omega
    · omega
  · refine zx_go (pc1 := 1055) (l1 := [some (zr 0), some (zr 1), some (zr 32), some (zr 55), some (zi i), some (zi code_v), o6]) (st1 := [zi (i + 1), zr 0, zr 32]) (w1 := wr (cBm c) R) g_L_law 6 _ _ _ _ rfl ?_
    refine gz_sld (n := c.2.2.1) rfl g_L_law rfl rfl (by omega) (by omega) (by omega) ?_
    refine zx_go (pc1 := 1061) (l1 := [some (zr 0), some (zr 1), some (zr 32), some (zr 55), some (zi i), some (zi code_v), o6]) (st1 := [zi (i + 2), zr 0, zi (R 0 (i + 1)), zr 32]) (w1 := wr (cBm c) R) g_L_law 4 _ _ _ _ rfl ?_
    refine gz_sld (n := c.2.2.1) rfl g_L_law rfl rfl (by omega) (by omega) (by omega) ?_
    refine gx_cvR (As := [zi (R 0 (i + 1)), zi (R 0 (i + 2))]) (rest := []) g_L_law rfl g_X6_open rfl rfl (Nat.le_of_ble_eq_true rfl) (Nat.le_of_ble_eq_true rfl) rfl (by decide) (hMo _ _ _ _ (.inr ⟨hk, rfl⟩)) (fun rm Rrm hrm => ?_)
    obtain ⟨hq1, hq2, hq3⟩ := hrm
    refine zx_go (pc1 := 1068) (l1 := [some (zr 0), some (zr 1), some (zr 32), some (zr 55), some (zi i), some (zi code_v), some (zi rm)]) (st1 := [zr 32]) (w1 := wr (cBm c) Rrm) g_L_law 2 _ _ _ _ rfl ?_
    refine zx_cvF (As := []) (rest := []) g_L_law rfl g_X6_thrown rfl rfl (Nat.le_of_ble_eq_true rfl) (Nat.le_of_ble_eq_true rfl) rfl (by decide) m_thrown ?_
    refine zx_go (pc1 := 1073) (l1 := [some (zr 0), some (zr 1), some (zr 32), some (zr 55), some (zi i), some (zi code_v), some (zi rm)]) (st1 := [zi code_v, zi (Rrm 32 0)]) (w1 := wr (cBm c) Rrm) g_L_law 1 _ _ _ _ rfl ?_
    refine zx_cmp g_L_law rfl (by omega) (by omega) (fun (h1073 : (Rrm 32 0) = code_v) => ?_) (fun (h1073 : ¬ ((Rrm 32 0) = code_v)) => ?_)
    · refine zx_go (pc1 := 1080) (l1 := [some (zr 0), some (zr 1), some (zr 32), some (zr 55), some (zi i), some (zi code_v), some (zi rm)]) (st1 := [zi code_v]) (w1 := wr (cBm c) Rrm) g_L_law 1 _ _ _ _ rfl ?_
      refine zx_if g_L_law rfl (by omega) (fun (h1080 : code_v ≠ 0) => ?_) (fun (h1080 : ¬ code_v ≠ 0) => ?_)
      · refine zx_go (pc1 := 1417) (l1 := [some (zr 0), some (zr 1), some (zr 32), some (zr 55), some (zi i), some (zi code_v), some (zi rm)]) (st1 := []) (w1 := wr (cBm c) Rrm) g_L_law 1 _ _ _ _ rfl ?_
        exact K _ _ hq3 rfl (Nat.le_refl _) (Nat.le_refl _)
      · exact absurd (Classical.not_not.mp h1080) hk
    · omega

set_option maxHeartbeats 1000000 in
theorem lc_joined {c : zC} {R : zI} {i : Int} {o5 o6 : Option zV} {Q : zO → zW → Prop} (hI : INV c R) (i0 : 3 ≤ i) (i1 : i + 10 ≤ (c.2.2.1 : Int)) (hL : c.2.2.1 ≤ 643) (K : ∀ {c1 : zC} {R1 : zI} (o5 o6 : Option zV), INV c1 R1 → c1.2.2.1 = c.2.2.1 → c1.1 ≤ c.1 + 1 → c1.2.1 ≤ c.2.1 + 6 → ZX m_L_law 1417 (lwL i o5 o6) [] (wr c1 R1) Q) : ZX m_L_law 1098 (lwL i o5 o6) [] (wr c R) Q := by
  obtain ⟨code_v, val_v, V, hcd, hPv, hV0, hC, hMo⟩ := b_joined (n := R 0 (i + 1)) hI (hI.2.2.2.2.2.2.1 _)
  refine zx_go (pc1 := 1104) (l1 := [some (zr 0), some (zr 1), some (zr 32), some (zr 55), some (zi i), o5, o6]) (st1 := [zi (i + 1), zr 0, zr 1]) (w1 := wr c R) g_L_law 5 _ _ _ _ rfl ?_
  refine gz_sld (n := c.2.2.1) rfl g_L_law rfl rfl (by omega) (by omega) (by omega) ?_
  refine zx_go (pc1 := 1106) (l1 := [some (zr 0), some (zr 1), some (zr 32), some (zr 55), some (zi i), o5, o6]) (st1 := [zr 55, zi (R 0 (i + 1)), zr 1]) (w1 := wr c R) g_L_law 1 _ _ _ _ rfl ?_
  refine lw_cs (As := [zr 1, zi (R 0 (i + 1)), zr 55]) (rest := []) g_L_law rfl g_L_joined rfl rfl (Nat.le_of_ble_eq_true rfl) (Nat.le_of_ble_eq_true rfl) (t_L_joined hcd hPv hC) (fun hk R1 hV => ?_) (fun hk => ?_)
  · have hR0 := hV0 R1 hV
    refine zx_go (pc1 := 1117) (l1 := [some (zr 0), some (zr 1), some (zr 32), some (zr 55), some (zi i), some (zi 0), o6]) (st1 := [zi (i + 1), zr 0, zr 32]) (w1 := wr (cOut c val_v) R1) g_L_law 6 _ _ _ _ rfl ?_
    refine gz_sld (n := c.2.2.1) hR0 g_L_law rfl rfl (by omega) (by omega) (by omega) ?_
    refine gx_cvR (As := [zi (R 0 (i + 1))]) (rest := []) g_L_law rfl g_X6_joined rfl rfl (Nat.le_of_ble_eq_true rfl) (Nat.le_of_ble_eq_true rfl) rfl (by decide) (hMo _ _ _ _ (.inl ⟨hk, hV⟩)) (fun rm Rrm hrm => ?_)
    obtain ⟨hq1, hq2, hq3⟩ := hrm
    have hq4 := hq2 hk
    have hv1 := hPv hk
    refine zx_go (pc1 := 1124) (l1 := [some (zr 0), some (zr 1), some (zr 32), some (zr 55), some (zi i), some (zi 0), some (zi rm)]) (st1 := [zr 32]) (w1 := wr (cOut c val_v) Rrm) g_L_law 2 _ _ _ _ rfl ?_
    refine zx_cvF (As := []) (rest := []) g_L_law rfl g_X6_thrown rfl rfl (Nat.le_of_ble_eq_true rfl) (Nat.le_of_ble_eq_true rfl) rfl (by decide) m_thrown ?_
    refine zx_go (pc1 := 1129) (l1 := [some (zr 0), some (zr 1), some (zr 32), some (zr 55), some (zi i), some (zi 0), some (zi rm)]) (st1 := [zi 0, zi (Rrm 32 0)]) (w1 := wr (cOut c val_v) Rrm) g_L_law 1 _ _ _ _ rfl ?_
    refine zx_cmp g_L_law rfl (by omega) (by decide) (fun (h1129 : (Rrm 32 0) = 0) => ?_) (fun (h1129 : ¬ ((Rrm 32 0) = 0)) => ?_)
    · refine zx_go (pc1 := 1136) (l1 := [some (zr 0), some (zr 1), some (zr 32), some (zr 55), some (zi i), some (zi 0), some (zi rm)]) (st1 := [zi 0]) (w1 := wr (cOut c val_v) Rrm) g_L_law 1 _ _ _ _ rfl ?_
      refine zx_ifF g_L_law rfl (by decide) (show ¬ ((0 : Int) ≠ 0) by decide) ?_
      refine zx_go (pc1 := 1141) (l1 := [some (zr 0), some (zr 1), some (zr 32), some (zr 55), some (zi i), some (zi 0), some (zi rm)]) (st1 := [zi 0, zr 55]) (w1 := wr (cOut c val_v) Rrm) g_L_law 2 _ _ _ _ rfl ?_
      refine gz_lald g_L_law rfl ?_
      refine zx_go (pc1 := 1144) (l1 := [some (zr 0), some (zr 1), some (zr 32), some (zr 55), some (zi i), some (zi 0), some (zi rm)]) (st1 := [zi rm, zl val_v]) (w1 := wr (cOut c val_v) Rrm) g_L_law 1 _ _ _ _ rfl ?_
      refine zx_if g_L_law rfl (by omega) (fun (h1144 : rm = 0) => ?_) (fun (h1144 : ¬ rm = 0) => ?_)
      · refine zx_go (pc1 := 1152) (l1 := [some (zr 0), some (zr 1), some (zr 32), some (zr 55), some (zi i), some (zi 0), some (zi rm)]) (st1 := [zl 0, zl val_v]) (w1 := wr (cOut c val_v) Rrm) g_L_law 1 _ _ _ _ rfl ?_
        refine zx_lcif g_L_law rfl rfl (by omega) (by decide) (fun (h1152 : val_v = 0) => ?_) (fun (h1152 : ¬ (val_v = 0)) => ?_)
        · refine zx_go (pc1 := 1417) (l1 := [some (zr 0), some (zr 1), some (zr 32), some (zr 55), some (zi i), some (zi 0), some (zi rm)]) (st1 := []) (w1 := wr (cOut c val_v) Rrm) g_L_law 1 _ _ _ _ rfl ?_
          exact K _ _ hq3 rfl (Nat.le_succ _) (Nat.le_add_right _ _)
        · omega
      · refine zx_go (pc1 := 1152) (l1 := [some (zr 0), some (zr 1), some (zr 32), some (zr 55), some (zi i), some (zi 0), some (zi rm)]) (st1 := [zl 1, zl val_v]) (w1 := wr (cOut c val_v) Rrm) g_L_law 2 _ _ _ _ rfl ?_
        refine zx_lcif g_L_law rfl rfl (by omega) (by decide) (fun (h1152 : val_v = 1) => ?_) (fun (h1152 : ¬ (val_v = 1)) => ?_)
        · refine zx_go (pc1 := 1417) (l1 := [some (zr 0), some (zr 1), some (zr 32), some (zr 55), some (zi i), some (zi 0), some (zi rm)]) (st1 := []) (w1 := wr (cOut c val_v) Rrm) g_L_law 1 _ _ _ _ rfl ?_
          exact K _ _ hq3 rfl (Nat.le_succ _) (Nat.le_add_right _ _)
        · omega
    · omega
  · refine zx_go (pc1 := 1117) (l1 := [some (zr 0), some (zr 1), some (zr 32), some (zr 55), some (zi i), some (zi code_v), o6]) (st1 := [zi (i + 1), zr 0, zr 32]) (w1 := wr (cBm c) R) g_L_law 6 _ _ _ _ rfl ?_
    refine gz_sld (n := c.2.2.1) rfl g_L_law rfl rfl (by omega) (by omega) (by omega) ?_
    refine gx_cvR (As := [zi (R 0 (i + 1))]) (rest := []) g_L_law rfl g_X6_joined rfl rfl (Nat.le_of_ble_eq_true rfl) (Nat.le_of_ble_eq_true rfl) rfl (by decide) (hMo _ _ _ _ (.inr ⟨hk, rfl⟩)) (fun rm Rrm hrm => ?_)
    obtain ⟨hq1, hq2, hq3⟩ := hrm
    refine zx_go (pc1 := 1124) (l1 := [some (zr 0), some (zr 1), some (zr 32), some (zr 55), some (zi i), some (zi code_v), some (zi rm)]) (st1 := [zr 32]) (w1 := wr (cBm c) Rrm) g_L_law 2 _ _ _ _ rfl ?_
    refine zx_cvF (As := []) (rest := []) g_L_law rfl g_X6_thrown rfl rfl (Nat.le_of_ble_eq_true rfl) (Nat.le_of_ble_eq_true rfl) rfl (by decide) m_thrown ?_
    refine zx_go (pc1 := 1129) (l1 := [some (zr 0), some (zr 1), some (zr 32), some (zr 55), some (zi i), some (zi code_v), some (zi rm)]) (st1 := [zi code_v, zi (Rrm 32 0)]) (w1 := wr (cBm c) Rrm) g_L_law 1 _ _ _ _ rfl ?_
    refine zx_cmp g_L_law rfl (by omega) (by omega) (fun (h1129 : (Rrm 32 0) = code_v) => ?_) (fun (h1129 : ¬ ((Rrm 32 0) = code_v)) => ?_)
    · refine zx_go (pc1 := 1136) (l1 := [some (zr 0), some (zr 1), some (zr 32), some (zr 55), some (zi i), some (zi code_v), some (zi rm)]) (st1 := [zi code_v]) (w1 := wr (cBm c) Rrm) g_L_law 1 _ _ _ _ rfl ?_
      refine zx_if g_L_law rfl (by omega) (fun (h1136 : code_v ≠ 0) => ?_) (fun (h1136 : ¬ code_v ≠ 0) => ?_)
      · refine zx_go (pc1 := 1417) (l1 := [some (zr 0), some (zr 1), some (zr 32), some (zr 55), some (zi i), some (zi code_v), some (zi rm)]) (st1 := []) (w1 := wr (cBm c) Rrm) g_L_law 1 _ _ _ _ rfl ?_
        exact K _ _ hq3 rfl (Nat.le_refl _) (Nat.le_refl _)
      · exact absurd (Classical.not_not.mp h1136) hk
    · omega

set_option maxHeartbeats 1000000 in
theorem lc_broken {c : zC} {R : zI} {i : Int} {o5 o6 : Option zV} {Q : zO → zW → Prop} (hI : INV c R) (i0 : 3 ≤ i) (i1 : i + 10 ≤ (c.2.2.1 : Int)) (hL : c.2.2.1 ≤ 643) (K : ∀ {c1 : zC} {R1 : zI} (o5 o6 : Option zV), INV c1 R1 → c1.2.2.1 = c.2.2.1 → c1.1 ≤ c.1 + 1 → c1.2.1 ≤ c.2.1 + 6 → ZX m_L_law 1417 (lwL i o5 o6) [] (wr c1 R1) Q) : ZX m_L_law 1161 (lwL i o5 o6) [] (wr c R) Q := by
  obtain ⟨code_v, val_v, V, hcd, hPv, hV0, hC, hMo⟩ := b_broken (k := R 0 (i + 1)) hI (hI.2.2.2.2.2.2.1 _)
  refine zx_go (pc1 := 1167) (l1 := [some (zr 0), some (zr 1), some (zr 32), some (zr 55), some (zi i), o5, o6]) (st1 := [zi (i + 1), zr 0, zr 1]) (w1 := wr c R) g_L_law 5 _ _ _ _ rfl ?_
  refine gz_sld (n := c.2.2.1) rfl g_L_law rfl rfl (by omega) (by omega) (by omega) ?_
  refine zx_go (pc1 := 1169) (l1 := [some (zr 0), some (zr 1), some (zr 32), some (zr 55), some (zi i), o5, o6]) (st1 := [zr 55, zi (R 0 (i + 1)), zr 1]) (w1 := wr c R) g_L_law 1 _ _ _ _ rfl ?_
  refine lw_cs (As := [zr 1, zi (R 0 (i + 1)), zr 55]) (rest := []) g_L_law rfl g_L_broken rfl rfl (Nat.le_of_ble_eq_true rfl) (Nat.le_of_ble_eq_true rfl) (t_L_broken hcd hPv hC) (fun hk R1 hV => ?_) (fun hk => ?_)
  · have hR0 := hV0 R1 hV
    refine zx_go (pc1 := 1180) (l1 := [some (zr 0), some (zr 1), some (zr 32), some (zr 55), some (zi i), some (zi 0), o6]) (st1 := [zi (i + 1), zr 0, zr 32]) (w1 := wr (cOut c val_v) R1) g_L_law 6 _ _ _ _ rfl ?_
    refine gz_sld (n := c.2.2.1) hR0 g_L_law rfl rfl (by omega) (by omega) (by omega) ?_
    refine gx_cvR (As := [zi (R 0 (i + 1))]) (rest := []) g_L_law rfl g_X6_broken rfl rfl (Nat.le_of_ble_eq_true rfl) (Nat.le_of_ble_eq_true rfl) rfl (by decide) (hMo _ _ _ _ (.inl ⟨hk, hV⟩)) (fun rm Rrm hrm => ?_)
    obtain ⟨hq1, hq2, hq3⟩ := hrm
    have hq4 := hq2 hk
    have hv1 := hPv hk
    refine zx_go (pc1 := 1187) (l1 := [some (zr 0), some (zr 1), some (zr 32), some (zr 55), some (zi i), some (zi 0), some (zi rm)]) (st1 := [zr 32]) (w1 := wr (cOut c val_v) Rrm) g_L_law 2 _ _ _ _ rfl ?_
    refine zx_cvF (As := []) (rest := []) g_L_law rfl g_X6_thrown rfl rfl (Nat.le_of_ble_eq_true rfl) (Nat.le_of_ble_eq_true rfl) rfl (by decide) m_thrown ?_
    refine zx_go (pc1 := 1192) (l1 := [some (zr 0), some (zr 1), some (zr 32), some (zr 55), some (zi i), some (zi 0), some (zi rm)]) (st1 := [zi 0, zi (Rrm 32 0)]) (w1 := wr (cOut c val_v) Rrm) g_L_law 1 _ _ _ _ rfl ?_
    refine zx_cmp g_L_law rfl (by omega) (by decide) (fun (h1192 : (Rrm 32 0) = 0) => ?_) (fun (h1192 : ¬ ((Rrm 32 0) = 0)) => ?_)
    · refine zx_go (pc1 := 1199) (l1 := [some (zr 0), some (zr 1), some (zr 32), some (zr 55), some (zi i), some (zi 0), some (zi rm)]) (st1 := [zi 0]) (w1 := wr (cOut c val_v) Rrm) g_L_law 1 _ _ _ _ rfl ?_
      refine zx_ifF g_L_law rfl (by decide) (show ¬ ((0 : Int) ≠ 0) by decide) ?_
      refine zx_go (pc1 := 1204) (l1 := [some (zr 0), some (zr 1), some (zr 32), some (zr 55), some (zi i), some (zi 0), some (zi rm)]) (st1 := [zi 0, zr 55]) (w1 := wr (cOut c val_v) Rrm) g_L_law 2 _ _ _ _ rfl ?_
      refine gz_lald g_L_law rfl ?_
      refine zx_go (pc1 := 1207) (l1 := [some (zr 0), some (zr 1), some (zr 32), some (zr 55), some (zi i), some (zi 0), some (zi rm)]) (st1 := [zi rm, zl val_v]) (w1 := wr (cOut c val_v) Rrm) g_L_law 1 _ _ _ _ rfl ?_
      refine zx_i2l g_L_law rfl (by omega) ?_
      refine zx_lcif g_L_law rfl rfl (by omega) (by omega) (fun (h1208 : val_v = rm) => ?_) (fun (h1208 : ¬ (val_v = rm)) => ?_)
      · refine zx_go (pc1 := 1417) (l1 := [some (zr 0), some (zr 1), some (zr 32), some (zr 55), some (zi i), some (zi 0), some (zi rm)]) (st1 := []) (w1 := wr (cOut c val_v) Rrm) g_L_law 1 _ _ _ _ rfl ?_
        exact K _ _ hq3 rfl (Nat.le_succ _) (Nat.le_add_right _ _)
      · omega
    · omega
  · refine zx_go (pc1 := 1180) (l1 := [some (zr 0), some (zr 1), some (zr 32), some (zr 55), some (zi i), some (zi code_v), o6]) (st1 := [zi (i + 1), zr 0, zr 32]) (w1 := wr (cBm c) R) g_L_law 6 _ _ _ _ rfl ?_
    refine gz_sld (n := c.2.2.1) rfl g_L_law rfl rfl (by omega) (by omega) (by omega) ?_
    refine gx_cvR (As := [zi (R 0 (i + 1))]) (rest := []) g_L_law rfl g_X6_broken rfl rfl (Nat.le_of_ble_eq_true rfl) (Nat.le_of_ble_eq_true rfl) rfl (by decide) (hMo _ _ _ _ (.inr ⟨hk, rfl⟩)) (fun rm Rrm hrm => ?_)
    obtain ⟨hq1, hq2, hq3⟩ := hrm
    refine zx_go (pc1 := 1187) (l1 := [some (zr 0), some (zr 1), some (zr 32), some (zr 55), some (zi i), some (zi code_v), some (zi rm)]) (st1 := [zr 32]) (w1 := wr (cBm c) Rrm) g_L_law 2 _ _ _ _ rfl ?_
    refine zx_cvF (As := []) (rest := []) g_L_law rfl g_X6_thrown rfl rfl (Nat.le_of_ble_eq_true rfl) (Nat.le_of_ble_eq_true rfl) rfl (by decide) m_thrown ?_
    refine zx_go (pc1 := 1192) (l1 := [some (zr 0), some (zr 1), some (zr 32), some (zr 55), some (zi i), some (zi code_v), some (zi rm)]) (st1 := [zi code_v, zi (Rrm 32 0)]) (w1 := wr (cBm c) Rrm) g_L_law 1 _ _ _ _ rfl ?_
    refine zx_cmp g_L_law rfl (by omega) (by omega) (fun (h1192 : (Rrm 32 0) = code_v) => ?_) (fun (h1192 : ¬ ((Rrm 32 0) = code_v)) => ?_)
    · refine zx_go (pc1 := 1199) (l1 := [some (zr 0), some (zr 1), some (zr 32), some (zr 55), some (zi i), some (zi code_v), some (zi rm)]) (st1 := [zi code_v]) (w1 := wr (cBm c) Rrm) g_L_law 1 _ _ _ _ rfl ?_
      refine zx_if g_L_law rfl (by omega) (fun (h1199 : code_v ≠ 0) => ?_) (fun (h1199 : ¬ code_v ≠ 0) => ?_)
      · refine zx_go (pc1 := 1417) (l1 := [some (zr 0), some (zr 1), some (zr 32), some (zr 55), some (zi i), some (zi code_v), some (zi rm)]) (st1 := []) (w1 := wr (cBm c) Rrm) g_L_law 1 _ _ _ _ rfl ?_
        exact K _ _ hq3 rfl (Nat.le_refl _) (Nat.le_refl _)
      · exact absurd (Classical.not_not.mp h1199) hk
    · omega

set_option maxHeartbeats 1000000 in
theorem lc_history {c : zC} {R : zI} {i : Int} {o5 o6 : Option zV} {Q : zO → zW → Prop} (hI : INV c R) (i0 : 3 ≤ i) (i1 : i + 10 ≤ (c.2.2.1 : Int)) (hL : c.2.2.1 ≤ 643) (K : ∀ {c1 : zC} {R1 : zI} (o5 o6 : Option zV), INV c1 R1 → c1.2.2.1 = c.2.2.1 → c1.1 ≤ c.1 + 1 → c1.2.1 ≤ c.2.1 + 6 → ZX m_L_law 1417 (lwL i o5 o6) [] (wr c1 R1) Q) : ZX m_L_law 1217 (lwL i o5 o6) [] (wr c R) Q := by
  obtain ⟨code_v, val_v, V, hcd, hPv, hV0, hC, hMo⟩ := b_history (z := R 0 (i + 1)) (x := zlor (zlshl (R 0 (i + 2)) 32) (zland (R 0 (i + 3)) 4294967295)) (y := zlor (zlshl (R 0 (i + 4)) 32) (zland (R 0 (i + 5)) 4294967295)) hI (hI.2.2.2.2.2.2.1 _) (zlor_R _ _) (zlor_R _ _)
  refine zx_go (pc1 := 1223) (l1 := [some (zr 0), some (zr 1), some (zr 32), some (zr 55), some (zi i), o5, o6]) (st1 := [zi (i + 1), zr 0, zr 1]) (w1 := wr c R) g_L_law 5 _ _ _ _ rfl ?_
  refine gz_sld (n := c.2.2.1) rfl g_L_law rfl rfl (by omega) (by omega) (by omega) ?_
  refine zx_go (pc1 := 1229) (l1 := [some (zr 0), some (zr 1), some (zr 32), some (zr 55), some (zi i), o5, o6]) (st1 := [zi (i + 2), zr 0, zi (R 0 (i + 1)), zr 1]) (w1 := wr c R) g_L_law 4 _ _ _ _ rfl ?_
  refine gz_sld (n := c.2.2.1) rfl g_L_law rfl rfl (by omega) (by omega) (by omega) ?_
  refine zx_i2l g_L_law rfl (hI.2.2.2.2.2.2.1 _) ?_
  refine zx_go (pc1 := 1233) (l1 := [some (zr 0), some (zr 1), some (zr 32), some (zr 55), some (zi i), o5, o6]) (st1 := [zi 32, zl (R 0 (i + 2)), zi (R 0 (i + 1)), zr 1]) (w1 := wr c R) g_L_law 1 _ _ _ _ rfl ?_
  refine zx_lshl g_L_law rfl ?_
  refine zx_go (pc1 := 1239) (l1 := [some (zr 0), some (zr 1), some (zr 32), some (zr 55), some (zi i), o5, o6]) (st1 := [zi (i + 3), zr 0, zl (zlshl (R 0 (i + 2)) 32), zi (R 0 (i + 1)), zr 1]) (w1 := wr c R) g_L_law 4 _ _ _ _ rfl ?_
  refine gz_sld (n := c.2.2.1) rfl g_L_law rfl rfl (by omega) (by omega) (by omega) ?_
  refine zx_i2l g_L_law rfl (hI.2.2.2.2.2.2.1 _) ?_
  refine zx_go (pc1 := 1244) (l1 := [some (zr 0), some (zr 1), some (zr 32), some (zr 55), some (zi i), o5, o6]) (st1 := [zl 4294967295, zl (R 0 (i + 3)), zl (zlshl (R 0 (i + 2)) 32), zi (R 0 (i + 1)), zr 1]) (w1 := wr c R) g_L_law 1 _ _ _ _ rfl ?_
  refine zx_land g_L_law rfl ?_
  refine zx_lor g_L_law rfl ?_
  refine zx_go (pc1 := 1251) (l1 := [some (zr 0), some (zr 1), some (zr 32), some (zr 55), some (zi i), o5, o6]) (st1 := [zi (i + 4), zr 0, zl (zlor (zlshl (R 0 (i + 2)) 32) (zland (R 0 (i + 3)) 4294967295)), zi (R 0 (i + 1)), zr 1]) (w1 := wr c R) g_L_law 4 _ _ _ _ rfl ?_
  refine gz_sld (n := c.2.2.1) rfl g_L_law rfl rfl (by omega) (by omega) (by omega) ?_
  refine zx_i2l g_L_law rfl (hI.2.2.2.2.2.2.1 _) ?_
  refine zx_go (pc1 := 1255) (l1 := [some (zr 0), some (zr 1), some (zr 32), some (zr 55), some (zi i), o5, o6]) (st1 := [zi 32, zl (R 0 (i + 4)), zl (zlor (zlshl (R 0 (i + 2)) 32) (zland (R 0 (i + 3)) 4294967295)), zi (R 0 (i + 1)), zr 1]) (w1 := wr c R) g_L_law 1 _ _ _ _ rfl ?_
  refine zx_lshl g_L_law rfl ?_
  refine zx_go (pc1 := 1261) (l1 := [some (zr 0), some (zr 1), some (zr 32), some (zr 55), some (zi i), o5, o6]) (st1 := [zi (i + 5), zr 0, zl (zlshl (R 0 (i + 4)) 32), zl (zlor (zlshl (R 0 (i + 2)) 32) (zland (R 0 (i + 3)) 4294967295)), zi (R 0 (i + 1)), zr 1]) (w1 := wr c R) g_L_law 4 _ _ _ _ rfl ?_
  refine gz_sld (n := c.2.2.1) rfl g_L_law rfl rfl (by omega) (by omega) (by omega) ?_
  refine zx_i2l g_L_law rfl (hI.2.2.2.2.2.2.1 _) ?_
  refine zx_go (pc1 := 1266) (l1 := [some (zr 0), some (zr 1), some (zr 32), some (zr 55), some (zi i), o5, o6]) (st1 := [zl 4294967295, zl (R 0 (i + 5)), zl (zlshl (R 0 (i + 4)) 32), zl (zlor (zlshl (R 0 (i + 2)) 32) (zland (R 0 (i + 3)) 4294967295)), zi (R 0 (i + 1)), zr 1]) (w1 := wr c R) g_L_law 1 _ _ _ _ rfl ?_
  refine zx_land g_L_law rfl ?_
  refine zx_lor g_L_law rfl ?_
  refine zx_go (pc1 := 1269) (l1 := [some (zr 0), some (zr 1), some (zr 32), some (zr 55), some (zi i), o5, o6]) (st1 := [zr 55, zl (zlor (zlshl (R 0 (i + 4)) 32) (zland (R 0 (i + 5)) 4294967295)), zl (zlor (zlshl (R 0 (i + 2)) 32) (zland (R 0 (i + 3)) 4294967295)), zi (R 0 (i + 1)), zr 1]) (w1 := wr c R) g_L_law 1 _ _ _ _ rfl ?_
  refine lw_cs (As := [zr 1, zi (R 0 (i + 1)), zl (zlor (zlshl (R 0 (i + 2)) 32) (zland (R 0 (i + 3)) 4294967295)), zl (zlor (zlshl (R 0 (i + 4)) 32) (zland (R 0 (i + 5)) 4294967295)), zr 55]) (rest := []) g_L_law rfl g_L_history rfl rfl (Nat.le_of_ble_eq_true rfl) (Nat.le_of_ble_eq_true rfl) (t_L_history hcd hPv hC) (fun hk R1 hV => ?_) (fun hk => ?_)
  · have hR0 := hV0 R1 hV
    refine zx_go (pc1 := 1280) (l1 := [some (zr 0), some (zr 1), some (zr 32), some (zr 55), some (zi i), some (zi 0), o6]) (st1 := [zi (i + 1), zr 0, zr 32]) (w1 := wr (cOut c val_v) R1) g_L_law 6 _ _ _ _ rfl ?_
    refine gz_sld (n := c.2.2.1) hR0 g_L_law rfl rfl (by omega) (by omega) (by omega) ?_
    refine zx_go (pc1 := 1286) (l1 := [some (zr 0), some (zr 1), some (zr 32), some (zr 55), some (zi i), some (zi 0), o6]) (st1 := [zi (i + 2), zr 0, zi (R 0 (i + 1)), zr 32]) (w1 := wr (cOut c val_v) R1) g_L_law 4 _ _ _ _ rfl ?_
    refine gz_sld (n := c.2.2.1) hR0 g_L_law rfl rfl (by omega) (by omega) (by omega) ?_
    refine zx_i2l g_L_law rfl (hI.2.2.2.2.2.2.1 _) ?_
    refine zx_go (pc1 := 1290) (l1 := [some (zr 0), some (zr 1), some (zr 32), some (zr 55), some (zi i), some (zi 0), o6]) (st1 := [zi 32, zl (R 0 (i + 2)), zi (R 0 (i + 1)), zr 32]) (w1 := wr (cOut c val_v) R1) g_L_law 1 _ _ _ _ rfl ?_
    refine zx_lshl g_L_law rfl ?_
    refine zx_go (pc1 := 1296) (l1 := [some (zr 0), some (zr 1), some (zr 32), some (zr 55), some (zi i), some (zi 0), o6]) (st1 := [zi (i + 3), zr 0, zl (zlshl (R 0 (i + 2)) 32), zi (R 0 (i + 1)), zr 32]) (w1 := wr (cOut c val_v) R1) g_L_law 4 _ _ _ _ rfl ?_
    refine gz_sld (n := c.2.2.1) hR0 g_L_law rfl rfl (by omega) (by omega) (by omega) ?_
    refine zx_i2l g_L_law rfl (hI.2.2.2.2.2.2.1 _) ?_
    refine zx_go (pc1 := 1301) (l1 := [some (zr 0), some (zr 1), some (zr 32), some (zr 55), some (zi i), some (zi 0), o6]) (st1 := [zl 4294967295, zl (R 0 (i + 3)), zl (zlshl (R 0 (i + 2)) 32), zi (R 0 (i + 1)), zr 32]) (w1 := wr (cOut c val_v) R1) g_L_law 1 _ _ _ _ rfl ?_
    refine zx_land g_L_law rfl ?_
    refine zx_lor g_L_law rfl ?_
    refine zx_go (pc1 := 1308) (l1 := [some (zr 0), some (zr 1), some (zr 32), some (zr 55), some (zi i), some (zi 0), o6]) (st1 := [zi (i + 4), zr 0, zl (zlor (zlshl (R 0 (i + 2)) 32) (zland (R 0 (i + 3)) 4294967295)), zi (R 0 (i + 1)), zr 32]) (w1 := wr (cOut c val_v) R1) g_L_law 4 _ _ _ _ rfl ?_
    refine gz_sld (n := c.2.2.1) hR0 g_L_law rfl rfl (by omega) (by omega) (by omega) ?_
    refine zx_i2l g_L_law rfl (hI.2.2.2.2.2.2.1 _) ?_
    refine zx_go (pc1 := 1312) (l1 := [some (zr 0), some (zr 1), some (zr 32), some (zr 55), some (zi i), some (zi 0), o6]) (st1 := [zi 32, zl (R 0 (i + 4)), zl (zlor (zlshl (R 0 (i + 2)) 32) (zland (R 0 (i + 3)) 4294967295)), zi (R 0 (i + 1)), zr 32]) (w1 := wr (cOut c val_v) R1) g_L_law 1 _ _ _ _ rfl ?_
    refine zx_lshl g_L_law rfl ?_
    refine zx_go (pc1 := 1318) (l1 := [some (zr 0), some (zr 1), some (zr 32), some (zr 55), some (zi i), some (zi 0), o6]) (st1 := [zi (i + 5), zr 0, zl (zlshl (R 0 (i + 4)) 32), zl (zlor (zlshl (R 0 (i + 2)) 32) (zland (R 0 (i + 3)) 4294967295)), zi (R 0 (i + 1)), zr 32]) (w1 := wr (cOut c val_v) R1) g_L_law 4 _ _ _ _ rfl ?_
    refine gz_sld (n := c.2.2.1) hR0 g_L_law rfl rfl (by omega) (by omega) (by omega) ?_
    refine zx_i2l g_L_law rfl (hI.2.2.2.2.2.2.1 _) ?_
    refine zx_go (pc1 := 1323) (l1 := [some (zr 0), some (zr 1), some (zr 32), some (zr 55), some (zi i), some (zi 0), o6]) (st1 := [zl 4294967295, zl (R 0 (i + 5)), zl (zlshl (R 0 (i + 4)) 32), zl (zlor (zlshl (R 0 (i + 2)) 32) (zland (R 0 (i + 3)) 4294967295)), zi (R 0 (i + 1)), zr 32]) (w1 := wr (cOut c val_v) R1) g_L_law 1 _ _ _ _ rfl ?_
    refine zx_land g_L_law rfl ?_
    refine zx_lor g_L_law rfl ?_
    refine gx_cvR (As := [zi (R 0 (i + 1)), zl (zlor (zlshl (R 0 (i + 2)) 32) (zland (R 0 (i + 3)) 4294967295)), zl (zlor (zlshl (R 0 (i + 4)) 32) (zland (R 0 (i + 5)) 4294967295))]) (rest := []) g_L_law rfl g_X6_history rfl rfl (Nat.le_of_ble_eq_true rfl) (Nat.le_of_ble_eq_true rfl) rfl (by decide) (hMo _ _ _ _ (.inl ⟨hk, hV⟩)) (fun rm Rrm hrm => ?_)
    obtain ⟨hq1, hq2, hq3⟩ := hrm
    have hq4 := hq2 hk
    have hv1 := hPv hk
    refine zx_go (pc1 := 1331) (l1 := [some (zr 0), some (zr 1), some (zr 32), some (zr 55), some (zi i), some (zi 0), some (zi rm)]) (st1 := [zr 32]) (w1 := wr (cOut c val_v) Rrm) g_L_law 2 _ _ _ _ rfl ?_
    refine zx_cvF (As := []) (rest := []) g_L_law rfl g_X6_thrown rfl rfl (Nat.le_of_ble_eq_true rfl) (Nat.le_of_ble_eq_true rfl) rfl (by decide) m_thrown ?_
    refine zx_go (pc1 := 1336) (l1 := [some (zr 0), some (zr 1), some (zr 32), some (zr 55), some (zi i), some (zi 0), some (zi rm)]) (st1 := [zi 0, zi (Rrm 32 0)]) (w1 := wr (cOut c val_v) Rrm) g_L_law 1 _ _ _ _ rfl ?_
    refine zx_cmp g_L_law rfl (by omega) (by decide) (fun (h1336 : (Rrm 32 0) = 0) => ?_) (fun (h1336 : ¬ ((Rrm 32 0) = 0)) => ?_)
    · refine zx_go (pc1 := 1343) (l1 := [some (zr 0), some (zr 1), some (zr 32), some (zr 55), some (zi i), some (zi 0), some (zi rm)]) (st1 := [zi 0]) (w1 := wr (cOut c val_v) Rrm) g_L_law 1 _ _ _ _ rfl ?_
      refine zx_ifF g_L_law rfl (by decide) (show ¬ ((0 : Int) ≠ 0) by decide) ?_
      refine zx_go (pc1 := 1348) (l1 := [some (zr 0), some (zr 1), some (zr 32), some (zr 55), some (zi i), some (zi 0), some (zi rm)]) (st1 := [zi 0, zr 55]) (w1 := wr (cOut c val_v) Rrm) g_L_law 2 _ _ _ _ rfl ?_
      refine gz_lald g_L_law rfl ?_
      refine zx_go (pc1 := 1351) (l1 := [some (zr 0), some (zr 1), some (zr 32), some (zr 55), some (zi i), some (zi 0), some (zi rm)]) (st1 := [zi rm, zl val_v]) (w1 := wr (cOut c val_v) Rrm) g_L_law 1 _ _ _ _ rfl ?_
      refine zx_i2l g_L_law rfl (by omega) ?_
      refine zx_lcif g_L_law rfl rfl (by omega) (by omega) (fun (h1352 : val_v = rm) => ?_) (fun (h1352 : ¬ (val_v = rm)) => ?_)
      · refine zx_go (pc1 := 1417) (l1 := [some (zr 0), some (zr 1), some (zr 32), some (zr 55), some (zi i), some (zi 0), some (zi rm)]) (st1 := []) (w1 := wr (cOut c val_v) Rrm) g_L_law 1 _ _ _ _ rfl ?_
        exact K _ _ hq3 rfl (Nat.le_succ _) (Nat.le_add_right _ _)
      · omega
    · omega
  · refine zx_go (pc1 := 1280) (l1 := [some (zr 0), some (zr 1), some (zr 32), some (zr 55), some (zi i), some (zi code_v), o6]) (st1 := [zi (i + 1), zr 0, zr 32]) (w1 := wr (cBm c) R) g_L_law 6 _ _ _ _ rfl ?_
    refine gz_sld (n := c.2.2.1) rfl g_L_law rfl rfl (by omega) (by omega) (by omega) ?_
    refine zx_go (pc1 := 1286) (l1 := [some (zr 0), some (zr 1), some (zr 32), some (zr 55), some (zi i), some (zi code_v), o6]) (st1 := [zi (i + 2), zr 0, zi (R 0 (i + 1)), zr 32]) (w1 := wr (cBm c) R) g_L_law 4 _ _ _ _ rfl ?_
    refine gz_sld (n := c.2.2.1) rfl g_L_law rfl rfl (by omega) (by omega) (by omega) ?_
    refine zx_i2l g_L_law rfl (hI.2.2.2.2.2.2.1 _) ?_
    refine zx_go (pc1 := 1290) (l1 := [some (zr 0), some (zr 1), some (zr 32), some (zr 55), some (zi i), some (zi code_v), o6]) (st1 := [zi 32, zl (R 0 (i + 2)), zi (R 0 (i + 1)), zr 32]) (w1 := wr (cBm c) R) g_L_law 1 _ _ _ _ rfl ?_
    refine zx_lshl g_L_law rfl ?_
    refine zx_go (pc1 := 1296) (l1 := [some (zr 0), some (zr 1), some (zr 32), some (zr 55), some (zi i), some (zi code_v), o6]) (st1 := [zi (i + 3), zr 0, zl (zlshl (R 0 (i + 2)) 32), zi (R 0 (i + 1)), zr 32]) (w1 := wr (cBm c) R) g_L_law 4 _ _ _ _ rfl ?_
    refine gz_sld (n := c.2.2.1) rfl g_L_law rfl rfl (by omega) (by omega) (by omega) ?_
    refine zx_i2l g_L_law rfl (hI.2.2.2.2.2.2.1 _) ?_
    refine zx_go (pc1 := 1301) (l1 := [some (zr 0), some (zr 1), some (zr 32), some (zr 55), some (zi i), some (zi code_v), o6]) (st1 := [zl 4294967295, zl (R 0 (i + 3)), zl (zlshl (R 0 (i + 2)) 32), zi (R 0 (i + 1)), zr 32]) (w1 := wr (cBm c) R) g_L_law 1 _ _ _ _ rfl ?_
    refine zx_land g_L_law rfl ?_
    refine zx_lor g_L_law rfl ?_
    refine zx_go (pc1 := 1308) (l1 := [some (zr 0), some (zr 1), some (zr 32), some (zr 55), some (zi i), some (zi code_v), o6]) (st1 := [zi (i + 4), zr 0, zl (zlor (zlshl (R 0 (i + 2)) 32) (zland (R 0 (i + 3)) 4294967295)), zi (R 0 (i + 1)), zr 32]) (w1 := wr (cBm c) R) g_L_law 4 _ _ _ _ rfl ?_
    refine gz_sld (n := c.2.2.1) rfl g_L_law rfl rfl (by omega) (by omega) (by omega) ?_
    refine zx_i2l g_L_law rfl (hI.2.2.2.2.2.2.1 _) ?_
    refine zx_go (pc1 := 1312) (l1 := [some (zr 0), some (zr 1), some (zr 32), some (zr 55), some (zi i), some (zi code_v), o6]) (st1 := [zi 32, zl (R 0 (i + 4)), zl (zlor (zlshl (R 0 (i + 2)) 32) (zland (R 0 (i + 3)) 4294967295)), zi (R 0 (i + 1)), zr 32]) (w1 := wr (cBm c) R) g_L_law 1 _ _ _ _ rfl ?_
    refine zx_lshl g_L_law rfl ?_
    refine zx_go (pc1 := 1318) (l1 := [some (zr 0), some (zr 1), some (zr 32), some (zr 55), some (zi i), some (zi code_v), o6]) (st1 := [zi (i + 5), zr 0, zl (zlshl (R 0 (i + 4)) 32), zl (zlor (zlshl (R 0 (i + 2)) 32) (zland (R 0 (i + 3)) 4294967295)), zi (R 0 (i + 1)), zr 32]) (w1 := wr (cBm c) R) g_L_law 4 _ _ _ _ rfl ?_
    refine gz_sld (n := c.2.2.1) rfl g_L_law rfl rfl (by omega) (by omega) (by omega) ?_
    refine zx_i2l g_L_law rfl (hI.2.2.2.2.2.2.1 _) ?_
    refine zx_go (pc1 := 1323) (l1 := [some (zr 0), some (zr 1), some (zr 32), some (zr 55), some (zi i), some (zi code_v), o6]) (st1 := [zl 4294967295, zl (R 0 (i + 5)), zl (zlshl (R 0 (i + 4)) 32), zl (zlor (zlshl (R 0 (i + 2)) 32) (zland (R 0 (i + 3)) 4294967295)), zi (R 0 (i + 1)), zr 32]) (w1 := wr (cBm c) R) g_L_law 1 _ _ _ _ rfl ?_
    refine zx_land g_L_law rfl ?_
    refine zx_lor g_L_law rfl ?_
    refine gx_cvR (As := [zi (R 0 (i + 1)), zl (zlor (zlshl (R 0 (i + 2)) 32) (zland (R 0 (i + 3)) 4294967295)), zl (zlor (zlshl (R 0 (i + 4)) 32) (zland (R 0 (i + 5)) 4294967295))]) (rest := []) g_L_law rfl g_X6_history rfl rfl (Nat.le_of_ble_eq_true rfl) (Nat.le_of_ble_eq_true rfl) rfl (by decide) (hMo _ _ _ _ (.inr ⟨hk, rfl⟩)) (fun rm Rrm hrm => ?_)
    obtain ⟨hq1, hq2, hq3⟩ := hrm
    refine zx_go (pc1 := 1331) (l1 := [some (zr 0), some (zr 1), some (zr 32), some (zr 55), some (zi i), some (zi code_v), some (zi rm)]) (st1 := [zr 32]) (w1 := wr (cBm c) Rrm) g_L_law 2 _ _ _ _ rfl ?_
    refine zx_cvF (As := []) (rest := []) g_L_law rfl g_X6_thrown rfl rfl (Nat.le_of_ble_eq_true rfl) (Nat.le_of_ble_eq_true rfl) rfl (by decide) m_thrown ?_
    refine zx_go (pc1 := 1336) (l1 := [some (zr 0), some (zr 1), some (zr 32), some (zr 55), some (zi i), some (zi code_v), some (zi rm)]) (st1 := [zi code_v, zi (Rrm 32 0)]) (w1 := wr (cBm c) Rrm) g_L_law 1 _ _ _ _ rfl ?_
    refine zx_cmp g_L_law rfl (by omega) (by omega) (fun (h1336 : (Rrm 32 0) = code_v) => ?_) (fun (h1336 : ¬ ((Rrm 32 0) = code_v)) => ?_)
    · refine zx_go (pc1 := 1343) (l1 := [some (zr 0), some (zr 1), some (zr 32), some (zr 55), some (zi i), some (zi code_v), some (zi rm)]) (st1 := [zi code_v]) (w1 := wr (cBm c) Rrm) g_L_law 1 _ _ _ _ rfl ?_
      refine zx_if g_L_law rfl (by omega) (fun (h1343 : code_v ≠ 0) => ?_) (fun (h1343 : ¬ code_v ≠ 0) => ?_)
      · refine zx_go (pc1 := 1417) (l1 := [some (zr 0), some (zr 1), some (zr 32), some (zr 55), some (zi i), some (zi code_v), some (zi rm)]) (st1 := []) (w1 := wr (cBm c) Rrm) g_L_law 1 _ _ _ _ rfl ?_
        exact K _ _ hq3 rfl (Nat.le_refl _) (Nat.le_refl _)
      · exact absurd (Classical.not_not.mp h1343) hk
    · omega

set_option maxHeartbeats 1000000 in
theorem lc_count {c : zC} {R : zI} {i : Int} {o5 o6 : Option zV} {Q : zO → zW → Prop} (hI : INV c R) (i0 : 3 ≤ i) (i1 : i + 10 ≤ (c.2.2.1 : Int)) (hL : c.2.2.1 ≤ 643) (K : ∀ {c1 : zC} {R1 : zI} (o5 o6 : Option zV), INV c1 R1 → c1.2.2.1 = c.2.2.1 → c1.1 ≤ c.1 + 1 → c1.2.1 ≤ c.2.1 + 6 → ZX m_L_law 1417 (lwL i o5 o6) [] (wr c1 R1) Q) : ZX m_L_law 1361 (lwL i o5 o6) [] (wr c R) Q := by
  obtain ⟨code_v, val_v, V, hcd, hPv, hV0, hC, hMo⟩ := b_count (w := R 0 (i + 1)) hI (hI.2.2.2.2.2.2.1 _)
  refine zx_go (pc1 := 1367) (l1 := [some (zr 0), some (zr 1), some (zr 32), some (zr 55), some (zi i), o5, o6]) (st1 := [zi (i + 1), zr 0, zr 1]) (w1 := wr c R) g_L_law 5 _ _ _ _ rfl ?_
  refine gz_sld (n := c.2.2.1) rfl g_L_law rfl rfl (by omega) (by omega) (by omega) ?_
  refine zx_go (pc1 := 1369) (l1 := [some (zr 0), some (zr 1), some (zr 32), some (zr 55), some (zi i), o5, o6]) (st1 := [zr 55, zi (R 0 (i + 1)), zr 1]) (w1 := wr c R) g_L_law 1 _ _ _ _ rfl ?_
  refine lw_cs (As := [zr 1, zi (R 0 (i + 1)), zr 55]) (rest := []) g_L_law rfl g_L_count rfl rfl (Nat.le_of_ble_eq_true rfl) (Nat.le_of_ble_eq_true rfl) (t_L_count hcd hPv hC) (fun hk R1 hV => ?_) (fun hk => ?_)
  · have hR0 := hV0 R1 hV
    refine zx_go (pc1 := 1380) (l1 := [some (zr 0), some (zr 1), some (zr 32), some (zr 55), some (zi i), some (zi 0), o6]) (st1 := [zi (i + 1), zr 0, zr 32]) (w1 := wr (cOut c val_v) R1) g_L_law 6 _ _ _ _ rfl ?_
    refine gz_sld (n := c.2.2.1) hR0 g_L_law rfl rfl (by omega) (by omega) (by omega) ?_
    refine gx_cvR (As := [zi (R 0 (i + 1))]) (rest := []) g_L_law rfl g_X6_count rfl rfl (Nat.le_of_ble_eq_true rfl) (Nat.le_of_ble_eq_true rfl) rfl (by decide) (hMo _ _ _ _ (.inl ⟨hk, hV⟩)) (fun rm Rrm hrm => ?_)
    obtain ⟨hq1, hq2, hq3⟩ := hrm
    have hq4 := hq2 hk
    have hv1 := hPv hk
    refine zx_go (pc1 := 1387) (l1 := [some (zr 0), some (zr 1), some (zr 32), some (zr 55), some (zi i), some (zi 0), some (zi rm)]) (st1 := [zr 32]) (w1 := wr (cOut c val_v) Rrm) g_L_law 2 _ _ _ _ rfl ?_
    refine zx_cvF (As := []) (rest := []) g_L_law rfl g_X6_thrown rfl rfl (Nat.le_of_ble_eq_true rfl) (Nat.le_of_ble_eq_true rfl) rfl (by decide) m_thrown ?_
    refine zx_go (pc1 := 1392) (l1 := [some (zr 0), some (zr 1), some (zr 32), some (zr 55), some (zi i), some (zi 0), some (zi rm)]) (st1 := [zi 0, zi (Rrm 32 0)]) (w1 := wr (cOut c val_v) Rrm) g_L_law 1 _ _ _ _ rfl ?_
    refine zx_cmp g_L_law rfl (by omega) (by decide) (fun (h1392 : (Rrm 32 0) = 0) => ?_) (fun (h1392 : ¬ ((Rrm 32 0) = 0)) => ?_)
    · refine zx_go (pc1 := 1399) (l1 := [some (zr 0), some (zr 1), some (zr 32), some (zr 55), some (zi i), some (zi 0), some (zi rm)]) (st1 := [zi 0]) (w1 := wr (cOut c val_v) Rrm) g_L_law 1 _ _ _ _ rfl ?_
      refine zx_ifF g_L_law rfl (by decide) (show ¬ ((0 : Int) ≠ 0) by decide) ?_
      refine zx_go (pc1 := 1404) (l1 := [some (zr 0), some (zr 1), some (zr 32), some (zr 55), some (zi i), some (zi 0), some (zi rm)]) (st1 := [zi 0, zr 55]) (w1 := wr (cOut c val_v) Rrm) g_L_law 2 _ _ _ _ rfl ?_
      refine gz_lald g_L_law rfl ?_
      refine zx_go (pc1 := 1407) (l1 := [some (zr 0), some (zr 1), some (zr 32), some (zr 55), some (zi i), some (zi 0), some (zi rm)]) (st1 := [zi rm, zl val_v]) (w1 := wr (cOut c val_v) Rrm) g_L_law 1 _ _ _ _ rfl ?_
      refine zx_i2l g_L_law rfl (by omega) ?_
      refine zx_lcif g_L_law rfl rfl (by omega) (by omega) (fun (h1408 : val_v = rm) => ?_) (fun (h1408 : ¬ (val_v = rm)) => ?_)
      · refine zx_go (pc1 := 1417) (l1 := [some (zr 0), some (zr 1), some (zr 32), some (zr 55), some (zi i), some (zi 0), some (zi rm)]) (st1 := []) (w1 := wr (cOut c val_v) Rrm) g_L_law 1 _ _ _ _ rfl ?_
        exact K _ _ hq3 rfl (Nat.le_succ _) (Nat.le_add_right _ _)
      · omega
    · omega
  · refine zx_go (pc1 := 1380) (l1 := [some (zr 0), some (zr 1), some (zr 32), some (zr 55), some (zi i), some (zi code_v), o6]) (st1 := [zi (i + 1), zr 0, zr 32]) (w1 := wr (cBm c) R) g_L_law 6 _ _ _ _ rfl ?_
    refine gz_sld (n := c.2.2.1) rfl g_L_law rfl rfl (by omega) (by omega) (by omega) ?_
    refine gx_cvR (As := [zi (R 0 (i + 1))]) (rest := []) g_L_law rfl g_X6_count rfl rfl (Nat.le_of_ble_eq_true rfl) (Nat.le_of_ble_eq_true rfl) rfl (by decide) (hMo _ _ _ _ (.inr ⟨hk, rfl⟩)) (fun rm Rrm hrm => ?_)
    obtain ⟨hq1, hq2, hq3⟩ := hrm
    refine zx_go (pc1 := 1387) (l1 := [some (zr 0), some (zr 1), some (zr 32), some (zr 55), some (zi i), some (zi code_v), some (zi rm)]) (st1 := [zr 32]) (w1 := wr (cBm c) Rrm) g_L_law 2 _ _ _ _ rfl ?_
    refine zx_cvF (As := []) (rest := []) g_L_law rfl g_X6_thrown rfl rfl (Nat.le_of_ble_eq_true rfl) (Nat.le_of_ble_eq_true rfl) rfl (by decide) m_thrown ?_
    refine zx_go (pc1 := 1392) (l1 := [some (zr 0), some (zr 1), some (zr 32), some (zr 55), some (zi i), some (zi code_v), some (zi rm)]) (st1 := [zi code_v, zi (Rrm 32 0)]) (w1 := wr (cBm c) Rrm) g_L_law 1 _ _ _ _ rfl ?_
    refine zx_cmp g_L_law rfl (by omega) (by omega) (fun (h1392 : (Rrm 32 0) = code_v) => ?_) (fun (h1392 : ¬ ((Rrm 32 0) = code_v)) => ?_)
    · refine zx_go (pc1 := 1399) (l1 := [some (zr 0), some (zr 1), some (zr 32), some (zr 55), some (zi i), some (zi code_v), some (zi rm)]) (st1 := [zi code_v]) (w1 := wr (cBm c) Rrm) g_L_law 1 _ _ _ _ rfl ?_
      refine zx_if g_L_law rfl (by omega) (fun (h1399 : code_v ≠ 0) => ?_) (fun (h1399 : ¬ code_v ≠ 0) => ?_)
      · refine zx_go (pc1 := 1417) (l1 := [some (zr 0), some (zr 1), some (zr 32), some (zr 55), some (zi i), some (zi code_v), some (zi rm)]) (st1 := []) (w1 := wr (cBm c) Rrm) g_L_law 1 _ _ _ _ rfl ?_
        exact K _ _ hq3 rfl (Nat.le_refl _) (Nat.le_refl _)
      · exact absurd (Classical.not_not.mp h1399) hk
    · omega

