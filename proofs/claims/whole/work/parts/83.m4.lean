/-! ===== contracts of the reference (4): steps, what may be gone to ===== -/
theorem plo_bes {c : zC} (hg : Geo c) {p d lz xz yz : Int} (hp : pls c p) (d0 : 0 ≤ d) (d1 : d < 6) (hz : lz = lay c p + (if d = 4 then -1 else if d = 5 then 1 else 0)) (hx : xz = xo c p + (if d = 0 then -1 else if d = 1 then 1 else 0)) (hy : yz = yo c p + (if d = 2 then -1 else if d = 3 then 1 else 0)) : plo c lz xz yz = bes c p d := by
  have g1 := place_geo hg hp.1 hp.2
  have g2 := hg
  unfold Geo at g2
  obtain ⟨l0, l1, x0_v, x1_v, y0, y1, e⟩ := g1
  have hd_v : d = 0 ∨ d = 1 ∨ d = 2 ∨ d = 3 ∨ d = 4 ∨ d = 5 := by omega
  unfold plo
  rcases hd_v with rfl | rfl | rfl | rfl | rfl | rfl
  · have ez : lz = lay c p := by omega
    have ex_v : xz = xo c p - 1 := by omega
    have ey : yz = yo c p := by omega
    subst ez ex_v ey
    show _ = if 0 < xo c p then p - 1 else -1
    by_cases q : 0 < xo c p
    · rw [if_pos (by omega), if_pos q]
      unfold pl at *
      omega
    · rw [if_neg (by omega), if_neg q]
  · have ez : lz = lay c p := by omega
    have ex_v : xz = xo c p + 1 := by omega
    have ey : yz = yo c p := by omega
    subst ez ex_v ey
    show _ = if xo c p < cW c - 1 then p + 1 else -1
    by_cases q : xo c p < cW c - 1
    · rw [if_pos (by omega), if_pos q]
      unfold pl at *
      omega
    · rw [if_neg (by omega), if_neg q]
  · have ez : lz = lay c p := by omega
    have ex_v : xz = xo c p := by omega
    have ey : yz = yo c p - 1 := by omega
    subst ez ex_v ey
    show _ = if 0 < yo c p then p - cW c else -1
    by_cases q : 0 < yo c p
    · rw [if_pos (by omega), if_pos q]
      unfold pl at *
      rw [Int.sub_mul]
      omega
    · rw [if_neg (by omega), if_neg q]
  · have ez : lz = lay c p := by omega
    have ex_v : xz = xo c p := by omega
    have ey : yz = yo c p + 1 := by omega
    subst ez ex_v ey
    show _ = if yo c p < cH c - 1 then p + cW c else -1
    by_cases q : yo c p < cH c - 1
    · rw [if_pos (by omega), if_pos q]
      unfold pl at *
      rw [Int.add_mul]
      omega
    · rw [if_neg (by omega), if_neg q]
  · have ez : lz = lay c p - 1 := by omega
    have ex_v : xz = xo c p := by omega
    have ey : yz = yo c p := by omega
    subst ez ex_v ey
    show _ = if 0 < lay c p then p - cW c * cH c else -1
    by_cases q : 0 < lay c p
    · rw [if_pos (by omega), if_pos q]
      unfold pl at *
      rw [Int.sub_mul]
      omega
    · rw [if_neg (by omega), if_neg q]
  · have ez : lz = lay c p + 1 := by omega
    have ex_v : xz = xo c p := by omega
    have ey : yz = yo c p := by omega
    subst ez ex_v ey
    show _ = if lay c p < cLa c - 1 then p + cW c * cH c else -1
    by_cases q : lay c p < cLa c - 1
    · rw [if_pos (by omega), if_pos q]
      unfold pl at *
      rw [Int.add_mul]
      omega
    · rw [if_neg (by omega), if_neg q]
theorem bes_co {c : zC} (hg : Geo c) {p d : Int} (hp : pls c p) (d0 : 0 ≤ d) (d1 : d < 6) (h : bes c p d ≠ -1) : pls c (bes c p d) ∧ lay c (bes c p d) = lay c p + (if d = 4 then -1 else if d = 5 then 1 else 0) ∧ xo c (bes c p d) = xo c p + (if d = 0 then -1 else if d = 1 then 1 else 0) ∧ yo c (bes c p d) = yo c p + (if d = 2 then -1 else if d = 3 then 1 else 0) := by
  have e := plo_bes hg hp d0 d1 rfl rfl rfl
  rw [← e] at h ⊢
  exact (plo_R hg _ _ _).resolve_left h

set_option maxHeartbeats 1000000 in
theorem m_beside {c : zC} {R : zI} (hg : Geo c) {p d : Int} (hp : pls c p) (d0 : 0 ≤ d) (d1 : d < 6) : MZ m_X6_beside [zr 32, zi p, zi d] (wr c R) (qF (zi (bes c p d)) (wr c R)) := by
  refine MZ.of g_X6_beside ?_
  show ZX m_X6_beside 0 [some (zr 32), some (zi p), some (zi d), none, none, none] [] (wr c R) _
  have g2 := hg
  unfold Geo at g2
  have g3_v := hg.S
  obtain ⟨hp0, hp1⟩ := hp
  have gp := place_geo hg hp0 hp1
  refine zx_go (pc1 := 2) (l1 := [some (zr 32), some (zi p), some (zi d), none, none, none]) (st1 := [zi p, zr 32]) (w1 := wr c R) g_X6_beside 2 _ _ _ _ rfl ?_
  refine zx_cvF (As := [zi p]) (rest := []) g_X6_beside rfl g_X6_layerOf rfl rfl (Nat.le_of_ble_eq_true rfl) (Nat.le_of_ble_eq_true rfl) rfl (by decide) (m_layerOf hg (by omega) (by omega)) ?_
  refine zx_go (pc1 := 7) (l1 := [some (zr 32), some (zi p), some (zi d), none, none, none]) (st1 := [zi 4, zi d, zi (lay c p)]) (w1 := wr c R) g_X6_beside 2 _ _ _ _ rfl ?_
  refine zx_cmp g_X6_beside rfl (by omega) (by decide) (fun (h7 : d ≠ 4) => ?_) (fun (h7 : ¬ (d ≠ 4)) => ?_)
  · refine zx_go (pc1 := 16) (l1 := [some (zr 32), some (zi p), some (zi d), none, none, none]) (st1 := [zi 5, zi d, zi (lay c p)]) (w1 := wr c R) g_X6_beside 2 _ _ _ _ rfl ?_
    refine zx_cmp g_X6_beside rfl (by omega) (by decide) (fun (h16_v : d ≠ 5) => ?_) (fun (h16_v : ¬ (d ≠ 5)) => ?_)
    · refine zx_go (pc1 := 28) (l1 := [some (zr 32), some (zi p), some (zi d), some (zi ((lay c p) + 0)), none, none]) (st1 := [zi p, zr 32]) (w1 := wr c R) g_X6_beside 5 _ _ _ _ rfl ?_
      refine zx_cvF (As := [zi p]) (rest := []) g_X6_beside rfl g_X6_xOf rfl rfl (Nat.le_of_ble_eq_true rfl) (Nat.le_of_ble_eq_true rfl) rfl (by decide) (m_xOf hg (by omega) (by omega)) ?_
      refine zx_go (pc1 := 32) (l1 := [some (zr 32), some (zi p), some (zi d), some (zi ((lay c p) + 0)), none, none]) (st1 := [zi d, zi (xo c p)]) (w1 := wr c R) g_X6_beside 1 _ _ _ _ rfl ?_
      refine zx_if g_X6_beside rfl (by omega) (fun (h32 : d ≠ 0) => ?_) (fun (h32 : ¬ d ≠ 0) => ?_)
      · refine zx_go (pc1 := 41) (l1 := [some (zr 32), some (zi p), some (zi d), some (zi ((lay c p) + 0)), none, none]) (st1 := [zi 1, zi d, zi (xo c p)]) (w1 := wr c R) g_X6_beside 2 _ _ _ _ rfl ?_
        refine zx_cmp g_X6_beside rfl (by omega) (by decide) (fun (h41 : d ≠ 1) => ?_) (fun (h41 : ¬ (d ≠ 1)) => ?_)
        · refine zx_go (pc1 := 54) (l1 := [some (zr 32), some (zi p), some (zi d), some (zi ((lay c p) + 0)), some (zi ((xo c p) + 0)), none]) (st1 := [zi p, zr 32]) (w1 := wr c R) g_X6_beside 5 _ _ _ _ rfl ?_
          refine zx_cvF (As := [zi p]) (rest := []) g_X6_beside rfl g_X6_yOf rfl rfl (Nat.le_of_ble_eq_true rfl) (Nat.le_of_ble_eq_true rfl) rfl (by decide) (m_yOf hg (by omega) (by omega)) ?_
          refine zx_go (pc1 := 59) (l1 := [some (zr 32), some (zi p), some (zi d), some (zi ((lay c p) + 0)), some (zi ((xo c p) + 0)), none]) (st1 := [zi 2, zi d, zi (yo c p)]) (w1 := wr c R) g_X6_beside 2 _ _ _ _ rfl ?_
          refine zx_cmp g_X6_beside rfl (by omega) (by decide) (fun (h59 : d ≠ 2) => ?_) (fun (h59 : ¬ (d ≠ 2)) => ?_)
          · refine zx_go (pc1 := 68) (l1 := [some (zr 32), some (zi p), some (zi d), some (zi ((lay c p) + 0)), some (zi ((xo c p) + 0)), none]) (st1 := [zi 3, zi d, zi (yo c p)]) (w1 := wr c R) g_X6_beside 2 _ _ _ _ rfl ?_
            refine zx_cmp g_X6_beside rfl (by omega) (by decide) (fun (h68 : d ≠ 3) => ?_) (fun (h68 : ¬ (d ≠ 3)) => ?_)
            · refine zx_go (pc1 := 83) (l1 := [some (zr 32), some (zi p), some (zi d), some (zi ((lay c p) + 0)), some (zi ((xo c p) + 0)), some (zi ((yo c p) + 0))]) (st1 := [zi ((xo c p) + 0), zi ((lay c p) + 0), zr 32]) (w1 := wr c R) g_X6_beside 6 _ _ _ _ rfl ?_
              refine zx_i2l g_X6_beside rfl (by omega) ?_
              refine zx_go (pc1 := 86) (l1 := [some (zr 32), some (zi p), some (zi d), some (zi ((lay c p) + 0)), some (zi ((xo c p) + 0)), some (zi ((yo c p) + 0))]) (st1 := [zi ((yo c p) + 0), zl ((xo c p) + 0), zi ((lay c p) + 0), zr 32]) (w1 := wr c R) g_X6_beside 1 _ _ _ _ rfl ?_
              refine zx_i2l g_X6_beside rfl (by omega) ?_
              refine zx_cvF (As := [zi ((lay c p) + 0), zl ((xo c p) + 0), zl ((yo c p) + 0)]) (rest := []) g_X6_beside rfl g_X6_placeOf rfl rfl (Nat.le_of_ble_eq_true rfl) (Nat.le_of_ble_eq_true rfl) rfl (by decide) (m_placeOf hg (by omega) (by omega) (by omega)) ?_
              refine zx_iret g_X6_beside rfl (.inl rfl) ?_
              refine qF_i (plo_bes hg ⟨hp0, hp1⟩ d0 d1 ?_ ?_ ?_)
              · omega
              · omega
              · omega
            · refine zx_go (pc1 := 83) (l1 := [some (zr 32), some (zi p), some (zi d), some (zi ((lay c p) + 0)), some (zi ((xo c p) + 0)), some (zi ((yo c p) + 1))]) (st1 := [zi ((xo c p) + 0), zi ((lay c p) + 0), zr 32]) (w1 := wr c R) g_X6_beside 7 _ _ _ _ rfl ?_
              refine zx_i2l g_X6_beside rfl (by omega) ?_
              refine zx_go (pc1 := 86) (l1 := [some (zr 32), some (zi p), some (zi d), some (zi ((lay c p) + 0)), some (zi ((xo c p) + 0)), some (zi ((yo c p) + 1))]) (st1 := [zi ((yo c p) + 1), zl ((xo c p) + 0), zi ((lay c p) + 0), zr 32]) (w1 := wr c R) g_X6_beside 1 _ _ _ _ rfl ?_
              refine zx_i2l g_X6_beside rfl (by omega) ?_
              refine zx_cvF (As := [zi ((lay c p) + 0), zl ((xo c p) + 0), zl ((yo c p) + 1)]) (rest := []) g_X6_beside rfl g_X6_placeOf rfl rfl (Nat.le_of_ble_eq_true rfl) (Nat.le_of_ble_eq_true rfl) rfl (by decide) (m_placeOf hg (by omega) (by omega) (by omega)) ?_
              refine zx_iret g_X6_beside rfl (.inl rfl) ?_
              refine qF_i (plo_bes hg ⟨hp0, hp1⟩ d0 d1 ?_ ?_ ?_)
              · omega
              · omega
              · omega
          · refine zx_go (pc1 := 83) (l1 := [some (zr 32), some (zi p), some (zi d), some (zi ((lay c p) + 0)), some (zi ((xo c p) + 0)), some (zi ((yo c p) + (-1)))]) (st1 := [zi ((xo c p) + 0), zi ((lay c p) + 0), zr 32]) (w1 := wr c R) g_X6_beside 7 _ _ _ _ rfl ?_
            refine zx_i2l g_X6_beside rfl (by omega) ?_
            refine zx_go (pc1 := 86) (l1 := [some (zr 32), some (zi p), some (zi d), some (zi ((lay c p) + 0)), some (zi ((xo c p) + 0)), some (zi ((yo c p) + (-1)))]) (st1 := [zi ((yo c p) + (-1)), zl ((xo c p) + 0), zi ((lay c p) + 0), zr 32]) (w1 := wr c R) g_X6_beside 1 _ _ _ _ rfl ?_
            refine zx_i2l g_X6_beside rfl (by omega) ?_
            refine zx_cvF (As := [zi ((lay c p) + 0), zl ((xo c p) + 0), zl ((yo c p) + (-1))]) (rest := []) g_X6_beside rfl g_X6_placeOf rfl rfl (Nat.le_of_ble_eq_true rfl) (Nat.le_of_ble_eq_true rfl) rfl (by decide) (m_placeOf hg (by omega) (by omega) (by omega)) ?_
            refine zx_iret g_X6_beside rfl (.inl rfl) ?_
            refine qF_i (plo_bes hg ⟨hp0, hp1⟩ d0 d1 ?_ ?_ ?_)
            · omega
            · omega
            · omega
        · refine zx_go (pc1 := 54) (l1 := [some (zr 32), some (zi p), some (zi d), some (zi ((lay c p) + 0)), some (zi ((xo c p) + 1)), none]) (st1 := [zi p, zr 32]) (w1 := wr c R) g_X6_beside 6 _ _ _ _ rfl ?_
          refine zx_cvF (As := [zi p]) (rest := []) g_X6_beside rfl g_X6_yOf rfl rfl (Nat.le_of_ble_eq_true rfl) (Nat.le_of_ble_eq_true rfl) rfl (by decide) (m_yOf hg (by omega) (by omega)) ?_
          refine zx_go (pc1 := 59) (l1 := [some (zr 32), some (zi p), some (zi d), some (zi ((lay c p) + 0)), some (zi ((xo c p) + 1)), none]) (st1 := [zi 2, zi d, zi (yo c p)]) (w1 := wr c R) g_X6_beside 2 _ _ _ _ rfl ?_
          refine zx_cmp g_X6_beside rfl (by omega) (by decide) (fun (h59 : d ≠ 2) => ?_) (fun (h59 : ¬ (d ≠ 2)) => ?_)
          · refine zx_go (pc1 := 68) (l1 := [some (zr 32), some (zi p), some (zi d), some (zi ((lay c p) + 0)), some (zi ((xo c p) + 1)), none]) (st1 := [zi 3, zi d, zi (yo c p)]) (w1 := wr c R) g_X6_beside 2 _ _ _ _ rfl ?_
            refine zx_cmp g_X6_beside rfl (by omega) (by decide) (fun (h68 : d ≠ 3) => ?_) (fun (h68 : ¬ (d ≠ 3)) => ?_)
            · refine zx_go (pc1 := 83) (l1 := [some (zr 32), some (zi p), some (zi d), some (zi ((lay c p) + 0)), some (zi ((xo c p) + 1)), some (zi ((yo c p) + 0))]) (st1 := [zi ((xo c p) + 1), zi ((lay c p) + 0), zr 32]) (w1 := wr c R) g_X6_beside 6 _ _ _ _ rfl ?_
              refine zx_i2l g_X6_beside rfl (by omega) ?_
              refine zx_go (pc1 := 86) (l1 := [some (zr 32), some (zi p), some (zi d), some (zi ((lay c p) + 0)), some (zi ((xo c p) + 1)), some (zi ((yo c p) + 0))]) (st1 := [zi ((yo c p) + 0), zl ((xo c p) + 1), zi ((lay c p) + 0), zr 32]) (w1 := wr c R) g_X6_beside 1 _ _ _ _ rfl ?_
              refine zx_i2l g_X6_beside rfl (by omega) ?_
              refine zx_cvF (As := [zi ((lay c p) + 0), zl ((xo c p) + 1), zl ((yo c p) + 0)]) (rest := []) g_X6_beside rfl g_X6_placeOf rfl rfl (Nat.le_of_ble_eq_true rfl) (Nat.le_of_ble_eq_true rfl) rfl (by decide) (m_placeOf hg (by omega) (by omega) (by omega)) ?_
              refine zx_iret g_X6_beside rfl (.inl rfl) ?_
              refine qF_i (plo_bes hg ⟨hp0, hp1⟩ d0 d1 ?_ ?_ ?_)
              · omega
              · omega
              · omega
            · refine zx_go (pc1 := 83) (l1 := [some (zr 32), some (zi p), some (zi d), some (zi ((lay c p) + 0)), some (zi ((xo c p) + 1)), some (zi ((yo c p) + 1))]) (st1 := [zi ((xo c p) + 1), zi ((lay c p) + 0), zr 32]) (w1 := wr c R) g_X6_beside 7 _ _ _ _ rfl ?_
              refine zx_i2l g_X6_beside rfl (by omega) ?_
              refine zx_go (pc1 := 86) (l1 := [some (zr 32), some (zi p), some (zi d), some (zi ((lay c p) + 0)), some (zi ((xo c p) + 1)), some (zi ((yo c p) + 1))]) (st1 := [zi ((yo c p) + 1), zl ((xo c p) + 1), zi ((lay c p) + 0), zr 32]) (w1 := wr c R) g_X6_beside 1 _ _ _ _ rfl ?_
              refine zx_i2l g_X6_beside rfl (by omega) ?_
              refine zx_cvF (As := [zi ((lay c p) + 0), zl ((xo c p) + 1), zl ((yo c p) + 1)]) (rest := []) g_X6_beside rfl g_X6_placeOf rfl rfl (Nat.le_of_ble_eq_true rfl) (Nat.le_of_ble_eq_true rfl) rfl (by decide) (m_placeOf hg (by omega) (by omega) (by omega)) ?_
              refine zx_iret g_X6_beside rfl (.inl rfl) ?_
              refine qF_i (plo_bes hg ⟨hp0, hp1⟩ d0 d1 ?_ ?_ ?_)
              · omega
              · omega
              · omega
          · refine zx_go (pc1 := 83) (l1 := [some (zr 32), some (zi p), some (zi d), some (zi ((lay c p) + 0)), some (zi ((xo c p) + 1)), some (zi ((yo c p) + (-1)))]) (st1 := [zi ((xo c p) + 1), zi ((lay c p) + 0), zr 32]) (w1 := wr c R) g_X6_beside 7 _ _ _ _ rfl ?_
            refine zx_i2l g_X6_beside rfl (by omega) ?_
            refine zx_go (pc1 := 86) (l1 := [some (zr 32), some (zi p), some (zi d), some (zi ((lay c p) + 0)), some (zi ((xo c p) + 1)), some (zi ((yo c p) + (-1)))]) (st1 := [zi ((yo c p) + (-1)), zl ((xo c p) + 1), zi ((lay c p) + 0), zr 32]) (w1 := wr c R) g_X6_beside 1 _ _ _ _ rfl ?_
            refine zx_i2l g_X6_beside rfl (by omega) ?_
            refine zx_cvF (As := [zi ((lay c p) + 0), zl ((xo c p) + 1), zl ((yo c p) + (-1))]) (rest := []) g_X6_beside rfl g_X6_placeOf rfl rfl (Nat.le_of_ble_eq_true rfl) (Nat.le_of_ble_eq_true rfl) rfl (by decide) (m_placeOf hg (by omega) (by omega) (by omega)) ?_
            refine zx_iret g_X6_beside rfl (.inl rfl) ?_
            refine qF_i (plo_bes hg ⟨hp0, hp1⟩ d0 d1 ?_ ?_ ?_)
            · omega
            · omega
            · omega
      · refine zx_go (pc1 := 54) (l1 := [some (zr 32), some (zi p), some (zi d), some (zi ((lay c p) + 0)), some (zi ((xo c p) + (-1))), none]) (st1 := [zi p, zr 32]) (w1 := wr c R) g_X6_beside 6 _ _ _ _ rfl ?_
        refine zx_cvF (As := [zi p]) (rest := []) g_X6_beside rfl g_X6_yOf rfl rfl (Nat.le_of_ble_eq_true rfl) (Nat.le_of_ble_eq_true rfl) rfl (by decide) (m_yOf hg (by omega) (by omega)) ?_
        refine zx_go (pc1 := 59) (l1 := [some (zr 32), some (zi p), some (zi d), some (zi ((lay c p) + 0)), some (zi ((xo c p) + (-1))), none]) (st1 := [zi 2, zi d, zi (yo c p)]) (w1 := wr c R) g_X6_beside 2 _ _ _ _ rfl ?_
        refine zx_cmp g_X6_beside rfl (by omega) (by decide) (fun (h59 : d ≠ 2) => ?_) (fun (h59 : ¬ (d ≠ 2)) => ?_)
        · refine zx_go (pc1 := 68) (l1 := [some (zr 32), some (zi p), some (zi d), some (zi ((lay c p) + 0)), some (zi ((xo c p) + (-1))), none]) (st1 := [zi 3, zi d, zi (yo c p)]) (w1 := wr c R) g_X6_beside 2 _ _ _ _ rfl ?_
          refine zx_cmp g_X6_beside rfl (by omega) (by decide) (fun (h68 : d ≠ 3) => ?_) (fun (h68 : ¬ (d ≠ 3)) => ?_)
          · refine zx_go (pc1 := 83) (l1 := [some (zr 32), some (zi p), some (zi d), some (zi ((lay c p) + 0)), some (zi ((xo c p) + (-1))), some (zi ((yo c p) + 0))]) (st1 := [zi ((xo c p) + (-1)), zi ((lay c p) + 0), zr 32]) (w1 := wr c R) g_X6_beside 6 _ _ _ _ rfl ?_
            refine zx_i2l g_X6_beside rfl (by omega) ?_
            refine zx_go (pc1 := 86) (l1 := [some (zr 32), some (zi p), some (zi d), some (zi ((lay c p) + 0)), some (zi ((xo c p) + (-1))), some (zi ((yo c p) + 0))]) (st1 := [zi ((yo c p) + 0), zl ((xo c p) + (-1)), zi ((lay c p) + 0), zr 32]) (w1 := wr c R) g_X6_beside 1 _ _ _ _ rfl ?_
            refine zx_i2l g_X6_beside rfl (by omega) ?_
            refine zx_cvF (As := [zi ((lay c p) + 0), zl ((xo c p) + (-1)), zl ((yo c p) + 0)]) (rest := []) g_X6_beside rfl g_X6_placeOf rfl rfl (Nat.le_of_ble_eq_true rfl) (Nat.le_of_ble_eq_true rfl) rfl (by decide) (m_placeOf hg (by omega) (by omega) (by omega)) ?_
            refine zx_iret g_X6_beside rfl (.inl rfl) ?_
            refine qF_i (plo_bes hg ⟨hp0, hp1⟩ d0 d1 ?_ ?_ ?_)
            · omega
            · omega
            · omega
          · refine zx_go (pc1 := 83) (l1 := [some (zr 32), some (zi p), some (zi d), some (zi ((lay c p) + 0)), some (zi ((xo c p) + (-1))), some (zi ((yo c p) + 1))]) (st1 := [zi ((xo c p) + (-1)), zi ((lay c p) + 0), zr 32]) (w1 := wr c R) g_X6_beside 7 _ _ _ _ rfl ?_
            refine zx_i2l g_X6_beside rfl (by omega) ?_
            refine zx_go (pc1 := 86) (l1 := [some (zr 32), some (zi p), some (zi d), some (zi ((lay c p) + 0)), some (zi ((xo c p) + (-1))), some (zi ((yo c p) + 1))]) (st1 := [zi ((yo c p) + 1), zl ((xo c p) + (-1)), zi ((lay c p) + 0), zr 32]) (w1 := wr c R) g_X6_beside 1 _ _ _ _ rfl ?_
            refine zx_i2l g_X6_beside rfl (by omega) ?_
            refine zx_cvF (As := [zi ((lay c p) + 0), zl ((xo c p) + (-1)), zl ((yo c p) + 1)]) (rest := []) g_X6_beside rfl g_X6_placeOf rfl rfl (Nat.le_of_ble_eq_true rfl) (Nat.le_of_ble_eq_true rfl) rfl (by decide) (m_placeOf hg (by omega) (by omega) (by omega)) ?_
            refine zx_iret g_X6_beside rfl (.inl rfl) ?_
            refine qF_i (plo_bes hg ⟨hp0, hp1⟩ d0 d1 ?_ ?_ ?_)
            · omega
            · omega
            · omega
        · refine zx_go (pc1 := 83) (l1 := [some (zr 32), some (zi p), some (zi d), some (zi ((lay c p) + 0)), some (zi ((xo c p) + (-1))), some (zi ((yo c p) + (-1)))]) (st1 := [zi ((xo c p) + (-1)), zi ((lay c p) + 0), zr 32]) (w1 := wr c R) g_X6_beside 7 _ _ _ _ rfl ?_
          refine zx_i2l g_X6_beside rfl (by omega) ?_
          refine zx_go (pc1 := 86) (l1 := [some (zr 32), some (zi p), some (zi d), some (zi ((lay c p) + 0)), some (zi ((xo c p) + (-1))), some (zi ((yo c p) + (-1)))]) (st1 := [zi ((yo c p) + (-1)), zl ((xo c p) + (-1)), zi ((lay c p) + 0), zr 32]) (w1 := wr c R) g_X6_beside 1 _ _ _ _ rfl ?_
          refine zx_i2l g_X6_beside rfl (by omega) ?_
          refine zx_cvF (As := [zi ((lay c p) + 0), zl ((xo c p) + (-1)), zl ((yo c p) + (-1))]) (rest := []) g_X6_beside rfl g_X6_placeOf rfl rfl (Nat.le_of_ble_eq_true rfl) (Nat.le_of_ble_eq_true rfl) rfl (by decide) (m_placeOf hg (by omega) (by omega) (by omega)) ?_
          refine zx_iret g_X6_beside rfl (.inl rfl) ?_
          refine qF_i (plo_bes hg ⟨hp0, hp1⟩ d0 d1 ?_ ?_ ?_)
          · omega
          · omega
          · omega
    · refine zx_go (pc1 := 28) (l1 := [some (zr 32), some (zi p), some (zi d), some (zi ((lay c p) + 1)), none, none]) (st1 := [zi p, zr 32]) (w1 := wr c R) g_X6_beside 6 _ _ _ _ rfl ?_
      refine zx_cvF (As := [zi p]) (rest := []) g_X6_beside rfl g_X6_xOf rfl rfl (Nat.le_of_ble_eq_true rfl) (Nat.le_of_ble_eq_true rfl) rfl (by decide) (m_xOf hg (by omega) (by omega)) ?_
      refine zx_go (pc1 := 32) (l1 := [some (zr 32), some (zi p), some (zi d), some (zi ((lay c p) + 1)), none, none]) (st1 := [zi d, zi (xo c p)]) (w1 := wr c R) g_X6_beside 1 _ _ _ _ rfl ?_
      refine zx_if g_X6_beside rfl (by omega) (fun (h32 : d ≠ 0) => ?_) (fun (h32 : ¬ d ≠ 0) => ?_)
      · refine zx_go (pc1 := 41) (l1 := [some (zr 32), some (zi p), some (zi d), some (zi ((lay c p) + 1)), none, none]) (st1 := [zi 1, zi d, zi (xo c p)]) (w1 := wr c R) g_X6_beside 2 _ _ _ _ rfl ?_
        refine zx_cmp g_X6_beside rfl (by omega) (by decide) (fun (h41 : d ≠ 1) => ?_) (fun (h41 : ¬ (d ≠ 1)) => ?_)
        · refine zx_go (pc1 := 54) (l1 := [some (zr 32), some (zi p), some (zi d), some (zi ((lay c p) + 1)), some (zi ((xo c p) + 0)), none]) (st1 := [zi p, zr 32]) (w1 := wr c R) g_X6_beside 5 _ _ _ _ rfl ?_
          refine zx_cvF (As := [zi p]) (rest := []) g_X6_beside rfl g_X6_yOf rfl rfl (Nat.le_of_ble_eq_true rfl) (Nat.le_of_ble_eq_true rfl) rfl (by decide) (m_yOf hg (by omega) (by omega)) ?_
          refine zx_go (pc1 := 59) (l1 := [some (zr 32), some (zi p), some (zi d), some (zi ((lay c p) + 1)), some (zi ((xo c p) + 0)), none]) (st1 := [zi 2, zi d, zi (yo c p)]) (w1 := wr c R) g_X6_beside 2 _ _ _ _ rfl ?_
          refine zx_cmp g_X6_beside rfl (by omega) (by decide) (fun (h59 : d ≠ 2) => ?_) (fun (h59 : ¬ (d ≠ 2)) => ?_)
          · refine zx_go (pc1 := 68) (l1 := [some (zr 32), some (zi p), some (zi d), some (zi ((lay c p) + 1)), some (zi ((xo c p) + 0)), none]) (st1 := [zi 3, zi d, zi (yo c p)]) (w1 := wr c R) g_X6_beside 2 _ _ _ _ rfl ?_
            refine zx_cmp g_X6_beside rfl (by omega) (by decide) (fun (h68 : d ≠ 3) => ?_) (fun (h68 : ¬ (d ≠ 3)) => ?_)
            · refine zx_go (pc1 := 83) (l1 := [some (zr 32), some (zi p), some (zi d), some (zi ((lay c p) + 1)), some (zi ((xo c p) + 0)), some (zi ((yo c p) + 0))]) (st1 := [zi ((xo c p) + 0), zi ((lay c p) + 1), zr 32]) (w1 := wr c R) g_X6_beside 6 _ _ _ _ rfl ?_
              refine zx_i2l g_X6_beside rfl (by omega) ?_
              refine zx_go (pc1 := 86) (l1 := [some (zr 32), some (zi p), some (zi d), some (zi ((lay c p) + 1)), some (zi ((xo c p) + 0)), some (zi ((yo c p) + 0))]) (st1 := [zi ((yo c p) + 0), zl ((xo c p) + 0), zi ((lay c p) + 1), zr 32]) (w1 := wr c R) g_X6_beside 1 _ _ _ _ rfl ?_
              refine zx_i2l g_X6_beside rfl (by omega) ?_
              refine zx_cvF (As := [zi ((lay c p) + 1), zl ((xo c p) + 0), zl ((yo c p) + 0)]) (rest := []) g_X6_beside rfl g_X6_placeOf rfl rfl (Nat.le_of_ble_eq_true rfl) (Nat.le_of_ble_eq_true rfl) rfl (by decide) (m_placeOf hg (by omega) (by omega) (by omega)) ?_
              refine zx_iret g_X6_beside rfl (.inl rfl) ?_
              refine qF_i (plo_bes hg ⟨hp0, hp1⟩ d0 d1 ?_ ?_ ?_)
              · omega
              · omega
              · omega
            · refine zx_go (pc1 := 83) (l1 := [some (zr 32), some (zi p), some (zi d), some (zi ((lay c p) + 1)), some (zi ((xo c p) + 0)), some (zi ((yo c p) + 1))]) (st1 := [zi ((xo c p) + 0), zi ((lay c p) + 1), zr 32]) (w1 := wr c R) g_X6_beside 7 _ _ _ _ rfl ?_
              refine zx_i2l g_X6_beside rfl (by omega) ?_
              refine zx_go (pc1 := 86) (l1 := [some (zr 32), some (zi p), some (zi d), some (zi ((lay c p) + 1)), some (zi ((xo c p) + 0)), some (zi ((yo c p) + 1))]) (st1 := [zi ((yo c p) + 1), zl ((xo c p) + 0), zi ((lay c p) + 1), zr 32]) (w1 := wr c R) g_X6_beside 1 _ _ _ _ rfl ?_
              refine zx_i2l g_X6_beside rfl (by omega) ?_
              refine zx_cvF (As := [zi ((lay c p) + 1), zl ((xo c p) + 0), zl ((yo c p) + 1)]) (rest := []) g_X6_beside rfl g_X6_placeOf rfl rfl (Nat.le_of_ble_eq_true rfl) (Nat.le_of_ble_eq_true rfl) rfl (by decide) (m_placeOf hg (by omega) (by omega) (by omega)) ?_
              refine zx_iret g_X6_beside rfl (.inl rfl) ?_
              refine qF_i (plo_bes hg ⟨hp0, hp1⟩ d0 d1 ?_ ?_ ?_)
              · omega
              · omega
              · omega
          · refine zx_go (pc1 := 83) (l1 := [some (zr 32), some (zi p), some (zi d), some (zi ((lay c p) + 1)), some (zi ((xo c p) + 0)), some (zi ((yo c p) + (-1)))]) (st1 := [zi ((xo c p) + 0), zi ((lay c p) + 1), zr 32]) (w1 := wr c R) g_X6_beside 7 _ _ _ _ rfl ?_
            refine zx_i2l g_X6_beside rfl (by omega) ?_
            refine zx_go (pc1 := 86) (l1 := [some (zr 32), some (zi p), some (zi d), some (zi ((lay c p) + 1)), some (zi ((xo c p) + 0)), some (zi ((yo c p) + (-1)))]) (st1 := [zi ((yo c p) + (-1)), zl ((xo c p) + 0), zi ((lay c p) + 1), zr 32]) (w1 := wr c R) g_X6_beside 1 _ _ _ _ rfl ?_
            refine zx_i2l g_X6_beside rfl (by omega) ?_
            refine zx_cvF (As := [zi ((lay c p) + 1), zl ((xo c p) + 0), zl ((yo c p) + (-1))]) (rest := []) g_X6_beside rfl g_X6_placeOf rfl rfl (Nat.le_of_ble_eq_true rfl) (Nat.le_of_ble_eq_true rfl) rfl (by decide) (m_placeOf hg (by omega) (by omega) (by omega)) ?_
            refine zx_iret g_X6_beside rfl (.inl rfl) ?_
            refine qF_i (plo_bes hg ⟨hp0, hp1⟩ d0 d1 ?_ ?_ ?_)
            · omega
            · omega
            · omega
        · refine zx_go (pc1 := 54) (l1 := [some (zr 32), some (zi p), some (zi d), some (zi ((lay c p) + 1)), some (zi ((xo c p) + 1)), none]) (st1 := [zi p, zr 32]) (w1 := wr c R) g_X6_beside 6 _ _ _ _ rfl ?_
          refine zx_cvF (As := [zi p]) (rest := []) g_X6_beside rfl g_X6_yOf rfl rfl (Nat.le_of_ble_eq_true rfl) (Nat.le_of_ble_eq_true rfl) rfl (by decide) (m_yOf hg (by omega) (by omega)) ?_
          refine zx_go (pc1 := 59) (l1 := [some (zr 32), some (zi p), some (zi d), some (zi ((lay c p) + 1)), some (zi ((xo c p) + 1)), none]) (st1 := [zi 2, zi d, zi (yo c p)]) (w1 := wr c R) g_X6_beside 2 _ _ _ _ rfl ?_
          refine zx_cmp g_X6_beside rfl (by omega) (by decide) (fun (h59 : d ≠ 2) => ?_) (fun (h59 : ¬ (d ≠ 2)) => ?_)
          · refine zx_go (pc1 := 68) (l1 := [some (zr 32), some (zi p), some (zi d), some (zi ((lay c p) + 1)), some (zi ((xo c p) + 1)), none]) (st1 := [zi 3, zi d, zi (yo c p)]) (w1 := wr c R) g_X6_beside 2 _ _ _ _ rfl ?_
            refine zx_cmp g_X6_beside rfl (by omega) (by decide) (fun (h68 : d ≠ 3) => ?_) (fun (h68 : ¬ (d ≠ 3)) => ?_)
            · refine zx_go (pc1 := 83) (l1 := [some (zr 32), some (zi p), some (zi d), some (zi ((lay c p) + 1)), some (zi ((xo c p) + 1)), some (zi ((yo c p) + 0))]) (st1 := [zi ((xo c p) + 1), zi ((lay c p) + 1), zr 32]) (w1 := wr c R) g_X6_beside 6 _ _ _ _ rfl ?_
              refine zx_i2l g_X6_beside rfl (by omega) ?_
              refine zx_go (pc1 := 86) (l1 := [some (zr 32), some (zi p), some (zi d), some (zi ((lay c p) + 1)), some (zi ((xo c p) + 1)), some (zi ((yo c p) + 0))]) (st1 := [zi ((yo c p) + 0), zl ((xo c p) + 1), zi ((lay c p) + 1), zr 32]) (w1 := wr c R) g_X6_beside 1 _ _ _ _ rfl ?_
              refine zx_i2l g_X6_beside rfl (by omega) ?_
              refine zx_cvF (As := [zi ((lay c p) + 1), zl ((xo c p) + 1), zl ((yo c p) + 0)]) (rest := []) g_X6_beside rfl g_X6_placeOf rfl rfl (Nat.le_of_ble_eq_true rfl) (Nat.le_of_ble_eq_true rfl) rfl (by decide) (m_placeOf hg (by omega) (by omega) (by omega)) ?_
              refine zx_iret g_X6_beside rfl (.inl rfl) ?_
              refine qF_i (plo_bes hg ⟨hp0, hp1⟩ d0 d1 ?_ ?_ ?_)
              · omega
              · omega
              · omega
            · refine zx_go (pc1 := 83) (l1 := [some (zr 32), some (zi p), some (zi d), some (zi ((lay c p) + 1)), some (zi ((xo c p) + 1)), some (zi ((yo c p) + 1))]) (st1 := [zi ((xo c p) + 1), zi ((lay c p) + 1), zr 32]) (w1 := wr c R) g_X6_beside 7 _ _ _ _ rfl ?_
              refine zx_i2l g_X6_beside rfl (by omega) ?_
              refine zx_go (pc1 := 86) (l1 := [some (zr 32), some (zi p), some (zi d), some (zi ((lay c p) + 1)), some (zi ((xo c p) + 1)), some (zi ((yo c p) + 1))]) (st1 := [zi ((yo c p) + 1), zl ((xo c p) + 1), zi ((lay c p) + 1), zr 32]) (w1 := wr c R) g_X6_beside 1 _ _ _ _ rfl ?_
              refine zx_i2l g_X6_beside rfl (by omega) ?_
              refine zx_cvF (As := [zi ((lay c p) + 1), zl ((xo c p) + 1), zl ((yo c p) + 1)]) (rest := []) g_X6_beside rfl g_X6_placeOf rfl rfl (Nat.le_of_ble_eq_true rfl) (Nat.le_of_ble_eq_true rfl) rfl (by decide) (m_placeOf hg (by omega) (by omega) (by omega)) ?_
              refine zx_iret g_X6_beside rfl (.inl rfl) ?_
              refine qF_i (plo_bes hg ⟨hp0, hp1⟩ d0 d1 ?_ ?_ ?_)
              · omega
              · omega
              · omega
          · refine zx_go (pc1 := 83) (l1 := [some (zr 32), some (zi p), some (zi d), some (zi ((lay c p) + 1)), some (zi ((xo c p) + 1)), some (zi ((yo c p) + (-1)))]) (st1 := [zi ((xo c p) + 1), zi ((lay c p) + 1), zr 32]) (w1 := wr c R) g_X6_beside 7 _ _ _ _ rfl ?_
            refine zx_i2l g_X6_beside rfl (by omega) ?_
            refine zx_go (pc1 := 86) (l1 := [some (zr 32), some (zi p), some (zi d), some (zi ((lay c p) + 1)), some (zi ((xo c p) + 1)), some (zi ((yo c p) + (-1)))]) (st1 := [zi ((yo c p) + (-1)), zl ((xo c p) + 1), zi ((lay c p) + 1), zr 32]) (w1 := wr c R) g_X6_beside 1 _ _ _ _ rfl ?_
            refine zx_i2l g_X6_beside rfl (by omega) ?_
            refine zx_cvF (As := [zi ((lay c p) + 1), zl ((xo c p) + 1), zl ((yo c p) + (-1))]) (rest := []) g_X6_beside rfl g_X6_placeOf rfl rfl (Nat.le_of_ble_eq_true rfl) (Nat.le_of_ble_eq_true rfl) rfl (by decide) (m_placeOf hg (by omega) (by omega) (by omega)) ?_
            refine zx_iret g_X6_beside rfl (.inl rfl) ?_
            refine qF_i (plo_bes hg ⟨hp0, hp1⟩ d0 d1 ?_ ?_ ?_)
            · omega
            · omega
            · omega
      · refine zx_go (pc1 := 54) (l1 := [some (zr 32), some (zi p), some (zi d), some (zi ((lay c p) + 1)), some (zi ((xo c p) + (-1))), none]) (st1 := [zi p, zr 32]) (w1 := wr c R) g_X6_beside 6 _ _ _ _ rfl ?_
        refine zx_cvF (As := [zi p]) (rest := []) g_X6_beside rfl g_X6_yOf rfl rfl (Nat.le_of_ble_eq_true rfl) (Nat.le_of_ble_eq_true rfl) rfl (by decide) (m_yOf hg (by omega) (by omega)) ?_
        refine zx_go (pc1 := 59) (l1 := [some (zr 32), some (zi p), some (zi d), some (zi ((lay c p) + 1)), some (zi ((xo c p) + (-1))), none]) (st1 := [zi 2, zi d, zi (yo c p)]) (w1 := wr c R) g_X6_beside 2 _ _ _ _ rfl ?_
        refine zx_cmp g_X6_beside rfl (by omega) (by decide) (fun (h59 : d ≠ 2) => ?_) (fun (h59 : ¬ (d ≠ 2)) => ?_)
        · refine zx_go (pc1 := 68) (l1 := [some (zr 32), some (zi p), some (zi d), some (zi ((lay c p) + 1)), some (zi ((xo c p) + (-1))), none]) (st1 := [zi 3, zi d, zi (yo c p)]) (w1 := wr c R) g_X6_beside 2 _ _ _ _ rfl ?_
          refine zx_cmp g_X6_beside rfl (by omega) (by decide) (fun (h68 : d ≠ 3) => ?_) (fun (h68 : ¬ (d ≠ 3)) => ?_)
          · refine zx_go (pc1 := 83) (l1 := [some (zr 32), some (zi p), some (zi d), some (zi ((lay c p) + 1)), some (zi ((xo c p) + (-1))), some (zi ((yo c p) + 0))]) (st1 := [zi ((xo c p) + (-1)), zi ((lay c p) + 1), zr 32]) (w1 := wr c R) g_X6_beside 6 _ _ _ _ rfl ?_
            refine zx_i2l g_X6_beside rfl (by omega) ?_
            refine zx_go (pc1 := 86) (l1 := [some (zr 32), some (zi p), some (zi d), some (zi ((lay c p) + 1)), some (zi ((xo c p) + (-1))), some (zi ((yo c p) + 0))]) (st1 := [zi ((yo c p) + 0), zl ((xo c p) + (-1)), zi ((lay c p) + 1), zr 32]) (w1 := wr c R) g_X6_beside 1 _ _ _ _ rfl ?_
            refine zx_i2l g_X6_beside rfl (by omega) ?_
            refine zx_cvF (As := [zi ((lay c p) + 1), zl ((xo c p) + (-1)), zl ((yo c p) + 0)]) (rest := []) g_X6_beside rfl g_X6_placeOf rfl rfl (Nat.le_of_ble_eq_true rfl) (Nat.le_of_ble_eq_true rfl) rfl (by decide) (m_placeOf hg (by omega) (by omega) (by omega)) ?_
            refine zx_iret g_X6_beside rfl (.inl rfl) ?_
            refine qF_i (plo_bes hg ⟨hp0, hp1⟩ d0 d1 ?_ ?_ ?_)
            · omega
            · omega
            · omega
          · refine zx_go (pc1 := 83) (l1 := [some (zr 32), some (zi p), some (zi d), some (zi ((lay c p) + 1)), some (zi ((xo c p) + (-1))), some (zi ((yo c p) + 1))]) (st1 := [zi ((xo c p) + (-1)), zi ((lay c p) + 1), zr 32]) (w1 := wr c R) g_X6_beside 7 _ _ _ _ rfl ?_
            refine zx_i2l g_X6_beside rfl (by omega) ?_
            refine zx_go (pc1 := 86) (l1 := [some (zr 32), some (zi p), some (zi d), some (zi ((lay c p) + 1)), some (zi ((xo c p) + (-1))), some (zi ((yo c p) + 1))]) (st1 := [zi ((yo c p) + 1), zl ((xo c p) + (-1)), zi ((lay c p) + 1), zr 32]) (w1 := wr c R) g_X6_beside 1 _ _ _ _ rfl ?_
            refine zx_i2l g_X6_beside rfl (by omega) ?_
            refine zx_cvF (As := [zi ((lay c p) + 1), zl ((xo c p) + (-1)), zl ((yo c p) + 1)]) (rest := []) g_X6_beside rfl g_X6_placeOf rfl rfl (Nat.le_of_ble_eq_true rfl) (Nat.le_of_ble_eq_true rfl) rfl (by decide) (m_placeOf hg (by omega) (by omega) (by omega)) ?_
            refine zx_iret g_X6_beside rfl (.inl rfl) ?_
            refine qF_i (plo_bes hg ⟨hp0, hp1⟩ d0 d1 ?_ ?_ ?_)
            · omega
            · omega
            · omega
        · refine zx_go (pc1 := 83) (l1 := [some (zr 32), some (zi p), some (zi d), some (zi ((lay c p) + 1)), some (zi ((xo c p) + (-1))), some (zi ((yo c p) + (-1)))]) (st1 := [zi ((xo c p) + (-1)), zi ((lay c p) + 1), zr 32]) (w1 := wr c R) g_X6_beside 7 _ _ _ _ rfl ?_
          refine zx_i2l g_X6_beside rfl (by omega) ?_
          refine zx_go (pc1 := 86) (l1 := [some (zr 32), some (zi p), some (zi d), some (zi ((lay c p) + 1)), some (zi ((xo c p) + (-1))), some (zi ((yo c p) + (-1)))]) (st1 := [zi ((yo c p) + (-1)), zl ((xo c p) + (-1)), zi ((lay c p) + 1), zr 32]) (w1 := wr c R) g_X6_beside 1 _ _ _ _ rfl ?_
          refine zx_i2l g_X6_beside rfl (by omega) ?_
          refine zx_cvF (As := [zi ((lay c p) + 1), zl ((xo c p) + (-1)), zl ((yo c p) + (-1))]) (rest := []) g_X6_beside rfl g_X6_placeOf rfl rfl (Nat.le_of_ble_eq_true rfl) (Nat.le_of_ble_eq_true rfl) rfl (by decide) (m_placeOf hg (by omega) (by omega) (by omega)) ?_
          refine zx_iret g_X6_beside rfl (.inl rfl) ?_
          refine qF_i (plo_bes hg ⟨hp0, hp1⟩ d0 d1 ?_ ?_ ?_)
          · omega
          · omega
          · omega
  · refine zx_go (pc1 := 28) (l1 := [some (zr 32), some (zi p), some (zi d), some (zi ((lay c p) + (-1))), none, none]) (st1 := [zi p, zr 32]) (w1 := wr c R) g_X6_beside 6 _ _ _ _ rfl ?_
    refine zx_cvF (As := [zi p]) (rest := []) g_X6_beside rfl g_X6_xOf rfl rfl (Nat.le_of_ble_eq_true rfl) (Nat.le_of_ble_eq_true rfl) rfl (by decide) (m_xOf hg (by omega) (by omega)) ?_
    refine zx_go (pc1 := 32) (l1 := [some (zr 32), some (zi p), some (zi d), some (zi ((lay c p) + (-1))), none, none]) (st1 := [zi d, zi (xo c p)]) (w1 := wr c R) g_X6_beside 1 _ _ _ _ rfl ?_
    refine zx_if g_X6_beside rfl (by omega) (fun (h32 : d ≠ 0) => ?_) (fun (h32 : ¬ d ≠ 0) => ?_)
    · refine zx_go (pc1 := 41) (l1 := [some (zr 32), some (zi p), some (zi d), some (zi ((lay c p) + (-1))), none, none]) (st1 := [zi 1, zi d, zi (xo c p)]) (w1 := wr c R) g_X6_beside 2 _ _ _ _ rfl ?_
      refine zx_cmp g_X6_beside rfl (by omega) (by decide) (fun (h41 : d ≠ 1) => ?_) (fun (h41 : ¬ (d ≠ 1)) => ?_)
      · refine zx_go (pc1 := 54) (l1 := [some (zr 32), some (zi p), some (zi d), some (zi ((lay c p) + (-1))), some (zi ((xo c p) + 0)), none]) (st1 := [zi p, zr 32]) (w1 := wr c R) g_X6_beside 5 _ _ _ _ rfl ?_
        refine zx_cvF (As := [zi p]) (rest := []) g_X6_beside rfl g_X6_yOf rfl rfl (Nat.le_of_ble_eq_true rfl) (Nat.le_of_ble_eq_true rfl) rfl (by decide) (m_yOf hg (by omega) (by omega)) ?_
        refine zx_go (pc1 := 59) (l1 := [some (zr 32), some (zi p), some (zi d), some (zi ((lay c p) + (-1))), some (zi ((xo c p) + 0)), none]) (st1 := [zi 2, zi d, zi (yo c p)]) (w1 := wr c R) g_X6_beside 2 _ _ _ _ rfl ?_
        refine zx_cmp g_X6_beside rfl (by omega) (by decide) (fun (h59 : d ≠ 2) => ?_) (fun (h59 : ¬ (d ≠ 2)) => ?_)
        · refine zx_go (pc1 := 68) (l1 := [some (zr 32), some (zi p), some (zi d), some (zi ((lay c p) + (-1))), some (zi ((xo c p) + 0)), none]) (st1 := [zi 3, zi d, zi (yo c p)]) (w1 := wr c R) g_X6_beside 2 _ _ _ _ rfl ?_
          refine zx_cmp g_X6_beside rfl (by omega) (by decide) (fun (h68 : d ≠ 3) => ?_) (fun (h68 : ¬ (d ≠ 3)) => ?_)
          · refine zx_go (pc1 := 83) (l1 := [some (zr 32), some (zi p), some (zi d), some (zi ((lay c p) + (-1))), some (zi ((xo c p) + 0)), some (zi ((yo c p) + 0))]) (st1 := [zi ((xo c p) + 0), zi ((lay c p) + (-1)), zr 32]) (w1 := wr c R) g_X6_beside 6 _ _ _ _ rfl ?_
            refine zx_i2l g_X6_beside rfl (by omega) ?_
            refine zx_go (pc1 := 86) (l1 := [some (zr 32), some (zi p), some (zi d), some (zi ((lay c p) + (-1))), some (zi ((xo c p) + 0)), some (zi ((yo c p) + 0))]) (st1 := [zi ((yo c p) + 0), zl ((xo c p) + 0), zi ((lay c p) + (-1)), zr 32]) (w1 := wr c R) g_X6_beside 1 _ _ _ _ rfl ?_
            refine zx_i2l g_X6_beside rfl (by omega) ?_
            refine zx_cvF (As := [zi ((lay c p) + (-1)), zl ((xo c p) + 0), zl ((yo c p) + 0)]) (rest := []) g_X6_beside rfl g_X6_placeOf rfl rfl (Nat.le_of_ble_eq_true rfl) (Nat.le_of_ble_eq_true rfl) rfl (by decide) (m_placeOf hg (by omega) (by omega) (by omega)) ?_
            refine zx_iret g_X6_beside rfl (.inl rfl) ?_
            refine qF_i (plo_bes hg ⟨hp0, hp1⟩ d0 d1 ?_ ?_ ?_)
            · omega
            · omega
            · omega
          · refine zx_go (pc1 := 83) (l1 := [some (zr 32), some (zi p), some (zi d), some (zi ((lay c p) + (-1))), some (zi ((xo c p) + 0)), some (zi ((yo c p) + 1))]) (st1 := [zi ((xo c p) + 0), zi ((lay c p) + (-1)), zr 32]) (w1 := wr c R) g_X6_beside 7 _ _ _ _ rfl ?_
            refine zx_i2l g_X6_beside rfl (by omega) ?_
            refine zx_go (pc1 := 86) (l1 := [some (zr 32), some (zi p), some (zi d), some (zi ((lay c p) + (-1))), some (zi ((xo c p) + 0)), some (zi ((yo c p) + 1))]) (st1 := [zi ((yo c p) + 1), zl ((xo c p) + 0), zi ((lay c p) + (-1)), zr 32]) (w1 := wr c R) g_X6_beside 1 _ _ _ _ rfl ?_
            refine zx_i2l g_X6_beside rfl (by omega) ?_
            refine zx_cvF (As := [zi ((lay c p) + (-1)), zl ((xo c p) + 0), zl ((yo c p) + 1)]) (rest := []) g_X6_beside rfl g_X6_placeOf rfl rfl (Nat.le_of_ble_eq_true rfl) (Nat.le_of_ble_eq_true rfl) rfl (by decide) (m_placeOf hg (by omega) (by omega) (by omega)) ?_
            refine zx_iret g_X6_beside rfl (.inl rfl) ?_
            refine qF_i (plo_bes hg ⟨hp0, hp1⟩ d0 d1 ?_ ?_ ?_)
            · omega
            · omega
            · omega
        · refine zx_go (pc1 := 83) (l1 := [some (zr 32), some (zi p), some (zi d), some (zi ((lay c p) + (-1))), some (zi ((xo c p) + 0)), some (zi ((yo c p) + (-1)))]) (st1 := [zi ((xo c p) + 0), zi ((lay c p) + (-1)), zr 32]) (w1 := wr c R) g_X6_beside 7 _ _ _ _ rfl ?_
          refine zx_i2l g_X6_beside rfl (by omega) ?_
          refine zx_go (pc1 := 86) (l1 := [some (zr 32), some (zi p), some (zi d), some (zi ((lay c p) + (-1))), some (zi ((xo c p) + 0)), some (zi ((yo c p) + (-1)))]) (st1 := [zi ((yo c p) + (-1)), zl ((xo c p) + 0), zi ((lay c p) + (-1)), zr 32]) (w1 := wr c R) g_X6_beside 1 _ _ _ _ rfl ?_
          refine zx_i2l g_X6_beside rfl (by omega) ?_
          refine zx_cvF (As := [zi ((lay c p) + (-1)), zl ((xo c p) + 0), zl ((yo c p) + (-1))]) (rest := []) g_X6_beside rfl g_X6_placeOf rfl rfl (Nat.le_of_ble_eq_true rfl) (Nat.le_of_ble_eq_true rfl) rfl (by decide) (m_placeOf hg (by omega) (by omega) (by omega)) ?_
          refine zx_iret g_X6_beside rfl (.inl rfl) ?_
          refine qF_i (plo_bes hg ⟨hp0, hp1⟩ d0 d1 ?_ ?_ ?_)
          · omega
          · omega
          · omega
      · refine zx_go (pc1 := 54) (l1 := [some (zr 32), some (zi p), some (zi d), some (zi ((lay c p) + (-1))), some (zi ((xo c p) + 1)), none]) (st1 := [zi p, zr 32]) (w1 := wr c R) g_X6_beside 6 _ _ _ _ rfl ?_
        refine zx_cvF (As := [zi p]) (rest := []) g_X6_beside rfl g_X6_yOf rfl rfl (Nat.le_of_ble_eq_true rfl) (Nat.le_of_ble_eq_true rfl) rfl (by decide) (m_yOf hg (by omega) (by omega)) ?_
        refine zx_go (pc1 := 59) (l1 := [some (zr 32), some (zi p), some (zi d), some (zi ((lay c p) + (-1))), some (zi ((xo c p) + 1)), none]) (st1 := [zi 2, zi d, zi (yo c p)]) (w1 := wr c R) g_X6_beside 2 _ _ _ _ rfl ?_
        refine zx_cmp g_X6_beside rfl (by omega) (by decide) (fun (h59 : d ≠ 2) => ?_) (fun (h59 : ¬ (d ≠ 2)) => ?_)
        · refine zx_go (pc1 := 68) (l1 := [some (zr 32), some (zi p), some (zi d), some (zi ((lay c p) + (-1))), some (zi ((xo c p) + 1)), none]) (st1 := [zi 3, zi d, zi (yo c p)]) (w1 := wr c R) g_X6_beside 2 _ _ _ _ rfl ?_
          refine zx_cmp g_X6_beside rfl (by omega) (by decide) (fun (h68 : d ≠ 3) => ?_) (fun (h68 : ¬ (d ≠ 3)) => ?_)
          · refine zx_go (pc1 := 83) (l1 := [some (zr 32), some (zi p), some (zi d), some (zi ((lay c p) + (-1))), some (zi ((xo c p) + 1)), some (zi ((yo c p) + 0))]) (st1 := [zi ((xo c p) + 1), zi ((lay c p) + (-1)), zr 32]) (w1 := wr c R) g_X6_beside 6 _ _ _ _ rfl ?_
            refine zx_i2l g_X6_beside rfl (by omega) ?_
            refine zx_go (pc1 := 86) (l1 := [some (zr 32), some (zi p), some (zi d), some (zi ((lay c p) + (-1))), some (zi ((xo c p) + 1)), some (zi ((yo c p) + 0))]) (st1 := [zi ((yo c p) + 0), zl ((xo c p) + 1), zi ((lay c p) + (-1)), zr 32]) (w1 := wr c R) g_X6_beside 1 _ _ _ _ rfl ?_
            refine zx_i2l g_X6_beside rfl (by omega) ?_
            refine zx_cvF (As := [zi ((lay c p) + (-1)), zl ((xo c p) + 1), zl ((yo c p) + 0)]) (rest := []) g_X6_beside rfl g_X6_placeOf rfl rfl (Nat.le_of_ble_eq_true rfl) (Nat.le_of_ble_eq_true rfl) rfl (by decide) (m_placeOf hg (by omega) (by omega) (by omega)) ?_
            refine zx_iret g_X6_beside rfl (.inl rfl) ?_
            refine qF_i (plo_bes hg ⟨hp0, hp1⟩ d0 d1 ?_ ?_ ?_)
            · omega
            · omega
            · omega
          · refine zx_go (pc1 := 83) (l1 := [some (zr 32), some (zi p), some (zi d), some (zi ((lay c p) + (-1))), some (zi ((xo c p) + 1)), some (zi ((yo c p) + 1))]) (st1 := [zi ((xo c p) + 1), zi ((lay c p) + (-1)), zr 32]) (w1 := wr c R) g_X6_beside 7 _ _ _ _ rfl ?_
            refine zx_i2l g_X6_beside rfl (by omega) ?_
            refine zx_go (pc1 := 86) (l1 := [some (zr 32), some (zi p), some (zi d), some (zi ((lay c p) + (-1))), some (zi ((xo c p) + 1)), some (zi ((yo c p) + 1))]) (st1 := [zi ((yo c p) + 1), zl ((xo c p) + 1), zi ((lay c p) + (-1)), zr 32]) (w1 := wr c R) g_X6_beside 1 _ _ _ _ rfl ?_
            refine zx_i2l g_X6_beside rfl (by omega) ?_
            refine zx_cvF (As := [zi ((lay c p) + (-1)), zl ((xo c p) + 1), zl ((yo c p) + 1)]) (rest := []) g_X6_beside rfl g_X6_placeOf rfl rfl (Nat.le_of_ble_eq_true rfl) (Nat.le_of_ble_eq_true rfl) rfl (by decide) (m_placeOf hg (by omega) (by omega) (by omega)) ?_
            refine zx_iret g_X6_beside rfl (.inl rfl) ?_
            refine qF_i (plo_bes hg ⟨hp0, hp1⟩ d0 d1 ?_ ?_ ?_)
            · omega
            · omega
            · omega
        · refine zx_go (pc1 := 83) (l1 := [some (zr 32), some (zi p), some (zi d), some (zi ((lay c p) + (-1))), some (zi ((xo c p) + 1)), some (zi ((yo c p) + (-1)))]) (st1 := [zi ((xo c p) + 1), zi ((lay c p) + (-1)), zr 32]) (w1 := wr c R) g_X6_beside 7 _ _ _ _ rfl ?_
          refine zx_i2l g_X6_beside rfl (by omega) ?_
          refine zx_go (pc1 := 86) (l1 := [some (zr 32), some (zi p), some (zi d), some (zi ((lay c p) + (-1))), some (zi ((xo c p) + 1)), some (zi ((yo c p) + (-1)))]) (st1 := [zi ((yo c p) + (-1)), zl ((xo c p) + 1), zi ((lay c p) + (-1)), zr 32]) (w1 := wr c R) g_X6_beside 1 _ _ _ _ rfl ?_
          refine zx_i2l g_X6_beside rfl (by omega) ?_
          refine zx_cvF (As := [zi ((lay c p) + (-1)), zl ((xo c p) + 1), zl ((yo c p) + (-1))]) (rest := []) g_X6_beside rfl g_X6_placeOf rfl rfl (Nat.le_of_ble_eq_true rfl) (Nat.le_of_ble_eq_true rfl) rfl (by decide) (m_placeOf hg (by omega) (by omega) (by omega)) ?_
          refine zx_iret g_X6_beside rfl (.inl rfl) ?_
          refine qF_i (plo_bes hg ⟨hp0, hp1⟩ d0 d1 ?_ ?_ ?_)
          · omega
          · omega
          · omega
    · refine zx_go (pc1 := 54) (l1 := [some (zr 32), some (zi p), some (zi d), some (zi ((lay c p) + (-1))), some (zi ((xo c p) + (-1))), none]) (st1 := [zi p, zr 32]) (w1 := wr c R) g_X6_beside 6 _ _ _ _ rfl ?_
      refine zx_cvF (As := [zi p]) (rest := []) g_X6_beside rfl g_X6_yOf rfl rfl (Nat.le_of_ble_eq_true rfl) (Nat.le_of_ble_eq_true rfl) rfl (by decide) (m_yOf hg (by omega) (by omega)) ?_
      refine zx_go (pc1 := 59) (l1 := [some (zr 32), some (zi p), some (zi d), some (zi ((lay c p) + (-1))), some (zi ((xo c p) + (-1))), none]) (st1 := [zi 2, zi d, zi (yo c p)]) (w1 := wr c R) g_X6_beside 2 _ _ _ _ rfl ?_
      refine zx_cmp g_X6_beside rfl (by omega) (by decide) (fun (h59 : d ≠ 2) => ?_) (fun (h59 : ¬ (d ≠ 2)) => ?_)
      · refine zx_go (pc1 := 68) (l1 := [some (zr 32), some (zi p), some (zi d), some (zi ((lay c p) + (-1))), some (zi ((xo c p) + (-1))), none]) (st1 := [zi 3, zi d, zi (yo c p)]) (w1 := wr c R) g_X6_beside 2 _ _ _ _ rfl ?_
        refine zx_cmp g_X6_beside rfl (by omega) (by decide) (fun (h68 : d ≠ 3) => ?_) (fun (h68 : ¬ (d ≠ 3)) => ?_)
        · refine zx_go (pc1 := 83) (l1 := [some (zr 32), some (zi p), some (zi d), some (zi ((lay c p) + (-1))), some (zi ((xo c p) + (-1))), some (zi ((yo c p) + 0))]) (st1 := [zi ((xo c p) + (-1)), zi ((lay c p) + (-1)), zr 32]) (w1 := wr c R) g_X6_beside 6 _ _ _ _ rfl ?_
          refine zx_i2l g_X6_beside rfl (by omega) ?_
          refine zx_go (pc1 := 86) (l1 := [some (zr 32), some (zi p), some (zi d), some (zi ((lay c p) + (-1))), some (zi ((xo c p) + (-1))), some (zi ((yo c p) + 0))]) (st1 := [zi ((yo c p) + 0), zl ((xo c p) + (-1)), zi ((lay c p) + (-1)), zr 32]) (w1 := wr c R) g_X6_beside 1 _ _ _ _ rfl ?_
          refine zx_i2l g_X6_beside rfl (by omega) ?_
          refine zx_cvF (As := [zi ((lay c p) + (-1)), zl ((xo c p) + (-1)), zl ((yo c p) + 0)]) (rest := []) g_X6_beside rfl g_X6_placeOf rfl rfl (Nat.le_of_ble_eq_true rfl) (Nat.le_of_ble_eq_true rfl) rfl (by decide) (m_placeOf hg (by omega) (by omega) (by omega)) ?_
          refine zx_iret g_X6_beside rfl (.inl rfl) ?_
          refine qF_i (plo_bes hg ⟨hp0, hp1⟩ d0 d1 ?_ ?_ ?_)
          · omega
          · omega
          · omega
        · refine zx_go (pc1 := 83) (l1 := [some (zr 32), some (zi p), some (zi d), some (zi ((lay c p) + (-1))), some (zi ((xo c p) + (-1))), some (zi ((yo c p) + 1))]) (st1 := [zi ((xo c p) + (-1)), zi ((lay c p) + (-1)), zr 32]) (w1 := wr c R) g_X6_beside 7 _ _ _ _ rfl ?_
          refine zx_i2l g_X6_beside rfl (by omega) ?_
          refine zx_go (pc1 := 86) (l1 := [some (zr 32), some (zi p), some (zi d), some (zi ((lay c p) + (-1))), some (zi ((xo c p) + (-1))), some (zi ((yo c p) + 1))]) (st1 := [zi ((yo c p) + 1), zl ((xo c p) + (-1)), zi ((lay c p) + (-1)), zr 32]) (w1 := wr c R) g_X6_beside 1 _ _ _ _ rfl ?_
          refine zx_i2l g_X6_beside rfl (by omega) ?_
          refine zx_cvF (As := [zi ((lay c p) + (-1)), zl ((xo c p) + (-1)), zl ((yo c p) + 1)]) (rest := []) g_X6_beside rfl g_X6_placeOf rfl rfl (Nat.le_of_ble_eq_true rfl) (Nat.le_of_ble_eq_true rfl) rfl (by decide) (m_placeOf hg (by omega) (by omega) (by omega)) ?_
          refine zx_iret g_X6_beside rfl (.inl rfl) ?_
          refine qF_i (plo_bes hg ⟨hp0, hp1⟩ d0 d1 ?_ ?_ ?_)
          · omega
          · omega
          · omega
      · refine zx_go (pc1 := 83) (l1 := [some (zr 32), some (zi p), some (zi d), some (zi ((lay c p) + (-1))), some (zi ((xo c p) + (-1))), some (zi ((yo c p) + (-1)))]) (st1 := [zi ((xo c p) + (-1)), zi ((lay c p) + (-1)), zr 32]) (w1 := wr c R) g_X6_beside 7 _ _ _ _ rfl ?_
        refine zx_i2l g_X6_beside rfl (by omega) ?_
        refine zx_go (pc1 := 86) (l1 := [some (zr 32), some (zi p), some (zi d), some (zi ((lay c p) + (-1))), some (zi ((xo c p) + (-1))), some (zi ((yo c p) + (-1)))]) (st1 := [zi ((yo c p) + (-1)), zl ((xo c p) + (-1)), zi ((lay c p) + (-1)), zr 32]) (w1 := wr c R) g_X6_beside 1 _ _ _ _ rfl ?_
        refine zx_i2l g_X6_beside rfl (by omega) ?_
        refine zx_cvF (As := [zi ((lay c p) + (-1)), zl ((xo c p) + (-1)), zl ((yo c p) + (-1))]) (rest := []) g_X6_beside rfl g_X6_placeOf rfl rfl (Nat.le_of_ble_eq_true rfl) (Nat.le_of_ble_eq_true rfl) rfl (by decide) (m_placeOf hg (by omega) (by omega) (by omega)) ?_
        refine zx_iret g_X6_beside rfl (.inl rfl) ?_
        refine qF_i (plo_bes hg ⟨hp0, hp1⟩ d0 d1 ?_ ?_ ?_)
        · omega
        · omega
        · omega

set_option maxHeartbeats 1000000 in
theorem m_stepCost {c : zC} {R : zI} {D : zI} {p d : Int} (hD : DOK c D) (hm : MDn c D R) (hp : pls c p) (d0 : 0 ≤ d) (d1 : d < 6) (hb : bes c p d ≠ -1) : MZ m_X6_stepCost [zr 32, zi p, zi d] (wr c R) (qF (zi (scost c (D 5) (D 4) (bes c p d) p)) (wr c R)) := by
  refine MZ.of g_X6_stepCost ?_
  show ZX m_X6_stepCost 0 [some (zr 32), some (zi p), some (zi d), none, none] [] (wr c R) _
  have hg := hD.1
  have g2 := hg
  unfold Geo at g2
  have g3_v := hg.S
  obtain ⟨hp0, hp1⟩ := hp
  have gp := place_geo hg hp0 hp1
  have bc := bes_co hg (show pls c p from ⟨hp0, hp1⟩) d0 d1 hb
  obtain ⟨⟨bc0, bc1⟩, bc2, bc3, bc4⟩ := bc
  have gb := place_geo hg bc0 bc1
  have e34 := (hm.1 (lay c p) (by omega) (by omega)).2.1
  refine zx_go (pc1 := 2) (l1 := [some (zr 32), some (zi p), some (zi d), none, none]) (st1 := [zi p, zr 32]) (w1 := wr c R) g_X6_stepCost 2 _ _ _ _ rfl ?_
  refine zx_cvF (As := [zi p]) (rest := []) g_X6_stepCost rfl g_X6_layerOf rfl rfl (Nat.le_of_ble_eq_true rfl) (Nat.le_of_ble_eq_true rfl) rfl (by decide) (m_layerOf hg (by omega) (by omega)) ?_
  refine zx_go (pc1 := 8) (l1 := [some (zr 32), some (zi p), some (zi d), some (zi (lay c p)), none]) (st1 := [zi 3, zi d]) (w1 := wr c R) g_X6_stepCost 3 _ _ _ _ rfl ?_
  refine zx_cmp g_X6_stepCost rfl (by omega) (by decide) (fun (h8 : d ≤ 3) => ?_) (fun (h8 : ¬ (d ≤ 3)) => ?_)
  · refine zx_go (pc1 := 36) (l1 := [some (zr 32), some (zi p), some (zi d), some (zi (lay c p)), none]) (st1 := [zi 2, zi d]) (w1 := wr c R) g_X6_stepCost 2 _ _ _ _ rfl ?_
    refine zx_cmp g_X6_stepCost rfl (by omega) (by decide) (fun (h36 : 2 ≤ d) => ?_) (fun (h36 : ¬ (2 ≤ d)) => ?_)
    · refine zx_go (pc1 := 46) (l1 := [some (zr 32), some (zi p), some (zi d), some (zi (lay c p)), none]) (st1 := [zi 2, zi (lay c p), zi 0]) (w1 := wr c R) g_X6_stepCost 3 _ _ _ _ rfl ?_
      refine zx_irem g_X6_stepCost rfl (by omega) (by omega) (by omega) (by omega) ?_
      refine zx_if g_X6_stepCost rfl (by omega) (fun (h47 : ((lay c p) % 2) ≠ 0) => ?_) (fun (h47 : ¬ ((lay c p) % 2) ≠ 0) => ?_)
      · refine zx_go (pc1 := 55) (l1 := [some (zr 32), some (zi p), some (zi d), some (zi (lay c p)), none]) (st1 := [zi 0, zi 0]) (w1 := wr c R) g_X6_stepCost 1 _ _ _ _ rfl ?_
        refine zx_cmp g_X6_stepCost rfl (by decide) (by decide) (fun (h55 : 0 ≠ 0) => ?_) (fun (h55 : ¬ (0 ≠ 0)) => ?_)
        · refine zx_go (pc1 := 67) (l1 := [some (zr 32), some (zi p), some (zi d), some (zi (lay c p)), some (zi 0)]) (st1 := [zi 0]) (w1 := wr c R) g_X6_stepCost 3 _ _ _ _ rfl ?_
          refine zx_ifT g_X6_stepCost rfl (by decide) (show ((0 : Int) = 0) by decide) ?_
          refine zx_go (pc1 := 80) (l1 := [some (zr 32), some (zi p), some (zi d), some (zi (lay c p)), some (zi 0)]) (st1 := [zi (lay c p), zr 34, zi 1]) (w1 := wr c R) g_X6_stepCost 4 _ _ _ _ rfl ?_
          refine gz_iald g_X6_stepCost rfl (n := 3) rfl (by decide) rfl (by decide) (by omega) (by omega) ?_
          refine zx_go (pc1 := 82) (l1 := [some (zr 32), some (zi p), some (zi d), some (zi (lay c p)), some (zi 0)]) (st1 := [zi (1 + (R 34 (lay c p)))]) (w1 := wr c R) g_X6_stepCost 1 _ _ _ _ rfl ?_
          refine zx_iret g_X6_stepCost rfl (.inl rfl) ?_
          refine qF_i ?_
          unfold scost
          rw [if_neg (by omega)]
          first
          | (rw [if_pos (by omega)]; done)
          | (rw [if_neg (by omega), e34, show lay c (bes c p d) = lay c p by omega]; done)
        · refine zx_go (pc1 := 67) (l1 := [some (zr 32), some (zi p), some (zi d), some (zi (lay c p)), some (zi 1)]) (st1 := [zi 1]) (w1 := wr c R) g_X6_stepCost 4 _ _ _ _ rfl ?_
          refine zx_ifF g_X6_stepCost rfl (by decide) (show ¬ ((1 : Int) = 0) by decide) ?_
          refine zx_go (pc1 := 82) (l1 := [some (zr 32), some (zi p), some (zi d), some (zi (lay c p)), some (zi 1)]) (st1 := [zi 1]) (w1 := wr c R) g_X6_stepCost 2 _ _ _ _ rfl ?_
          refine zx_iret g_X6_stepCost rfl (.inl rfl) ?_
          refine qF_i ?_
          unfold scost
          rw [if_neg (by omega)]
          first
          | (rw [if_pos (by omega)]; done)
          | (rw [if_neg (by omega), e34, show lay c (bes c p d) = lay c p by omega]; done)
      · refine zx_go (pc1 := 55) (l1 := [some (zr 32), some (zi p), some (zi d), some (zi (lay c p)), none]) (st1 := [zi 1, zi 0]) (w1 := wr c R) g_X6_stepCost 2 _ _ _ _ rfl ?_
        refine zx_cmp g_X6_stepCost rfl (by decide) (by decide) (fun (h55 : 0 ≠ 1) => ?_) (fun (h55 : ¬ (0 ≠ 1)) => ?_)
        · refine zx_go (pc1 := 67) (l1 := [some (zr 32), some (zi p), some (zi d), some (zi (lay c p)), some (zi 0)]) (st1 := [zi 0]) (w1 := wr c R) g_X6_stepCost 3 _ _ _ _ rfl ?_
          refine zx_ifT g_X6_stepCost rfl (by decide) (show ((0 : Int) = 0) by decide) ?_
          refine zx_go (pc1 := 80) (l1 := [some (zr 32), some (zi p), some (zi d), some (zi (lay c p)), some (zi 0)]) (st1 := [zi (lay c p), zr 34, zi 1]) (w1 := wr c R) g_X6_stepCost 4 _ _ _ _ rfl ?_
          refine gz_iald g_X6_stepCost rfl (n := 3) rfl (by decide) rfl (by decide) (by omega) (by omega) ?_
          refine zx_go (pc1 := 82) (l1 := [some (zr 32), some (zi p), some (zi d), some (zi (lay c p)), some (zi 0)]) (st1 := [zi (1 + (R 34 (lay c p)))]) (w1 := wr c R) g_X6_stepCost 1 _ _ _ _ rfl ?_
          refine zx_iret g_X6_stepCost rfl (.inl rfl) ?_
          refine qF_i ?_
          unfold scost
          rw [if_neg (by omega)]
          first
          | (rw [if_pos (by omega)]; done)
          | (rw [if_neg (by omega), e34, show lay c (bes c p d) = lay c p by omega]; done)
        · refine zx_go (pc1 := 67) (l1 := [some (zr 32), some (zi p), some (zi d), some (zi (lay c p)), some (zi 1)]) (st1 := [zi 1]) (w1 := wr c R) g_X6_stepCost 4 _ _ _ _ rfl ?_
          refine zx_ifF g_X6_stepCost rfl (by decide) (show ¬ ((1 : Int) = 0) by decide) ?_
          refine zx_go (pc1 := 82) (l1 := [some (zr 32), some (zi p), some (zi d), some (zi (lay c p)), some (zi 1)]) (st1 := [zi 1]) (w1 := wr c R) g_X6_stepCost 2 _ _ _ _ rfl ?_
          refine zx_iret g_X6_stepCost rfl (.inl rfl) ?_
          refine qF_i ?_
          unfold scost
          rw [if_neg (by omega)]
          first
          | (rw [if_pos (by omega)]; done)
          | (rw [if_neg (by omega), e34, show lay c (bes c p d) = lay c p by omega]; done)
    · refine zx_go (pc1 := 46) (l1 := [some (zr 32), some (zi p), some (zi d), some (zi (lay c p)), none]) (st1 := [zi 2, zi (lay c p), zi 1]) (w1 := wr c R) g_X6_stepCost 4 _ _ _ _ rfl ?_
      refine zx_irem g_X6_stepCost rfl (by omega) (by omega) (by omega) (by omega) ?_
      refine zx_if g_X6_stepCost rfl (by omega) (fun (h47 : ((lay c p) % 2) ≠ 0) => ?_) (fun (h47 : ¬ ((lay c p) % 2) ≠ 0) => ?_)
      · refine zx_go (pc1 := 55) (l1 := [some (zr 32), some (zi p), some (zi d), some (zi (lay c p)), none]) (st1 := [zi 0, zi 1]) (w1 := wr c R) g_X6_stepCost 1 _ _ _ _ rfl ?_
        refine zx_cmp g_X6_stepCost rfl (by decide) (by decide) (fun (h55 : 1 ≠ 0) => ?_) (fun (h55 : ¬ (1 ≠ 0)) => ?_)
        · refine zx_go (pc1 := 67) (l1 := [some (zr 32), some (zi p), some (zi d), some (zi (lay c p)), some (zi 0)]) (st1 := [zi 0]) (w1 := wr c R) g_X6_stepCost 3 _ _ _ _ rfl ?_
          refine zx_ifT g_X6_stepCost rfl (by decide) (show ((0 : Int) = 0) by decide) ?_
          refine zx_go (pc1 := 80) (l1 := [some (zr 32), some (zi p), some (zi d), some (zi (lay c p)), some (zi 0)]) (st1 := [zi (lay c p), zr 34, zi 1]) (w1 := wr c R) g_X6_stepCost 4 _ _ _ _ rfl ?_
          refine gz_iald g_X6_stepCost rfl (n := 3) rfl (by decide) rfl (by decide) (by omega) (by omega) ?_
          refine zx_go (pc1 := 82) (l1 := [some (zr 32), some (zi p), some (zi d), some (zi (lay c p)), some (zi 0)]) (st1 := [zi (1 + (R 34 (lay c p)))]) (w1 := wr c R) g_X6_stepCost 1 _ _ _ _ rfl ?_
          refine zx_iret g_X6_stepCost rfl (.inl rfl) ?_
          refine qF_i ?_
          unfold scost
          rw [if_neg (by omega)]
          first
          | (rw [if_pos (by omega)]; done)
          | (rw [if_neg (by omega), e34, show lay c (bes c p d) = lay c p by omega]; done)
        · refine zx_go (pc1 := 67) (l1 := [some (zr 32), some (zi p), some (zi d), some (zi (lay c p)), some (zi 1)]) (st1 := [zi 1]) (w1 := wr c R) g_X6_stepCost 4 _ _ _ _ rfl ?_
          refine zx_ifF g_X6_stepCost rfl (by decide) (show ¬ ((1 : Int) = 0) by decide) ?_
          refine zx_go (pc1 := 82) (l1 := [some (zr 32), some (zi p), some (zi d), some (zi (lay c p)), some (zi 1)]) (st1 := [zi 1]) (w1 := wr c R) g_X6_stepCost 2 _ _ _ _ rfl ?_
          refine zx_iret g_X6_stepCost rfl (.inl rfl) ?_
          refine qF_i ?_
          unfold scost
          rw [if_neg (by omega)]
          first
          | (rw [if_pos (by omega)]; done)
          | (rw [if_neg (by omega), e34, show lay c (bes c p d) = lay c p by omega]; done)
      · refine zx_go (pc1 := 55) (l1 := [some (zr 32), some (zi p), some (zi d), some (zi (lay c p)), none]) (st1 := [zi 1, zi 1]) (w1 := wr c R) g_X6_stepCost 2 _ _ _ _ rfl ?_
        refine zx_cmp g_X6_stepCost rfl (by decide) (by decide) (fun (h55 : 1 ≠ 1) => ?_) (fun (h55 : ¬ (1 ≠ 1)) => ?_)
        · refine zx_go (pc1 := 67) (l1 := [some (zr 32), some (zi p), some (zi d), some (zi (lay c p)), some (zi 0)]) (st1 := [zi 0]) (w1 := wr c R) g_X6_stepCost 3 _ _ _ _ rfl ?_
          refine zx_ifT g_X6_stepCost rfl (by decide) (show ((0 : Int) = 0) by decide) ?_
          refine zx_go (pc1 := 80) (l1 := [some (zr 32), some (zi p), some (zi d), some (zi (lay c p)), some (zi 0)]) (st1 := [zi (lay c p), zr 34, zi 1]) (w1 := wr c R) g_X6_stepCost 4 _ _ _ _ rfl ?_
          refine gz_iald g_X6_stepCost rfl (n := 3) rfl (by decide) rfl (by decide) (by omega) (by omega) ?_
          refine zx_go (pc1 := 82) (l1 := [some (zr 32), some (zi p), some (zi d), some (zi (lay c p)), some (zi 0)]) (st1 := [zi (1 + (R 34 (lay c p)))]) (w1 := wr c R) g_X6_stepCost 1 _ _ _ _ rfl ?_
          refine zx_iret g_X6_stepCost rfl (.inl rfl) ?_
          refine qF_i ?_
          unfold scost
          rw [if_neg (by omega)]
          first
          | (rw [if_pos (by omega)]; done)
          | (rw [if_neg (by omega), e34, show lay c (bes c p d) = lay c p by omega]; done)
        · refine zx_go (pc1 := 67) (l1 := [some (zr 32), some (zi p), some (zi d), some (zi (lay c p)), some (zi 1)]) (st1 := [zi 1]) (w1 := wr c R) g_X6_stepCost 4 _ _ _ _ rfl ?_
          refine zx_ifF g_X6_stepCost rfl (by decide) (show ¬ ((1 : Int) = 0) by decide) ?_
          refine zx_go (pc1 := 82) (l1 := [some (zr 32), some (zi p), some (zi d), some (zi (lay c p)), some (zi 1)]) (st1 := [zi 1]) (w1 := wr c R) g_X6_stepCost 2 _ _ _ _ rfl ?_
          refine zx_iret g_X6_stepCost rfl (.inl rfl) ?_
          refine qF_i ?_
          unfold scost
          rw [if_neg (by omega)]
          first
          | (rw [if_pos (by omega)]; done)
          | (rw [if_neg (by omega), e34, show lay c (bes c p d) = lay c p by omega]; done)
  · refine zx_go (pc1 := 13) (l1 := [some (zr 32), some (zi p), some (zi d), some (zi (lay c p)), none]) (st1 := [zi 4, zi d]) (w1 := wr c R) g_X6_stepCost 2 _ _ _ _ rfl ?_
    refine zx_cmp g_X6_stepCost rfl (by omega) (by decide) (fun (h13 : d ≠ 4) => ?_) (fun (h13 : ¬ (d ≠ 4)) => ?_)
    · refine zx_go (pc1 := 32) (l1 := [some (zr 32), some (zi p), some (zi d), some (zi (lay c p)), none]) (st1 := [zi (lay c p), zr 35]) (w1 := wr c R) g_X6_stepCost 3 _ _ _ _ rfl ?_
      refine gz_iald g_X6_stepCost rfl (n := 3) rfl (by decide) rfl (by decide) (by omega) (by omega) ?_
      refine zx_iret g_X6_stepCost rfl (.inl rfl) ?_
      refine qF_i ?_
      unfold scost
      rw [if_pos (by omega), (hm.1 _ (by omega) (by omega)).2.2]
      congr 1
      omega
    · refine zx_go (pc1 := 23) (l1 := [some (zr 32), some (zi p), some (zi d), some (zi (lay c p)), none]) (st1 := [zi ((lay c p) - 1), zr 35]) (w1 := wr c R) g_X6_stepCost 5 _ _ _ _ rfl ?_
      refine gz_iald g_X6_stepCost rfl (n := 3) rfl (by decide) rfl (by decide) (by omega) (by omega) ?_
      refine zx_go (pc1 := 33) (l1 := [some (zr 32), some (zi p), some (zi d), some (zi (lay c p)), none]) (st1 := [zi (R 35 ((lay c p) - 1))]) (w1 := wr c R) g_X6_stepCost 1 _ _ _ _ rfl ?_
      refine zx_iret g_X6_stepCost rfl (.inl rfl) ?_
      refine qF_i ?_
      unfold scost
      rw [if_pos (by omega), (hm.1 _ (by omega) (by omega)).2.2]
      congr 1
      omega

set_option maxHeartbeats 1000000 in
theorem m_isOpen {c : zC} {R : zI} {p tr D9 : Int} {X Y : Prop} (hg : Geo c) (hp : pls c p) (h36 : R 36 p = D9) (h9 : D9 = 0 ∨ D9 = 1) (h50 : R 50 p = bI X) (h51 : R 51 p = bI Y) (htr : tr = 0 ∨ tr = 1) : MZ m_X6_isOpen [zr 32, zi p, zi tr] (wr c R) (qF (zi (bI (D9 = 0 ∧ ¬ X ∧ (tr ≠ 0 ∨ ¬ Y)))) (wr c R)) := by
  refine MZ.of g_X6_isOpen ?_
  show ZX m_X6_isOpen 0 [some (zr 32), some (zi p), some (zi tr)] [] (wr c R) _
  have g3_v := hg.S
  obtain ⟨hp0, hp1⟩ := hp
  have bx := bI_01 X
  have by1 := bI_01 Y
  refine zx_go (pc1 := 5) (l1 := [some (zr 32), some (zi p), some (zi tr)]) (st1 := [zi p, zr 36]) (w1 := wr c R) g_X6_isOpen 3 _ _ _ _ rfl ?_
  refine gz_bald g_X6_isOpen rfl (n := 1728) rfl (by decide) rfl (by decide) (by omega) (by omega) ?_
  refine zx_if g_X6_isOpen rfl (by omega) (fun (h6 : (R 36 p) ≠ 0) => ?_) (fun (h6 : ¬ (R 36 p) ≠ 0) => ?_)
  · refine zx_go (pc1 := 36) (l1 := [some (zr 32), some (zi p), some (zi tr)]) (st1 := [zi 0]) (w1 := wr c R) g_X6_isOpen 1 _ _ _ _ rfl ?_
    refine zx_iret g_X6_isOpen rfl (.inr (.inl rfl)) ?_
    exact qF_f (fun z => absurd z.1 (by omega))
  · refine zx_go (pc1 := 14) (l1 := [some (zr 32), some (zi p), some (zi tr)]) (st1 := [zi p, zr 50]) (w1 := wr c R) g_X6_isOpen 3 _ _ _ _ rfl ?_
    refine gz_bald g_X6_isOpen rfl (n := 1728) rfl (by decide) rfl (by decide) (by omega) (by omega) ?_
    refine zx_if g_X6_isOpen rfl (by omega) (fun (h15 : (R 50 p) ≠ 0) => ?_) (fun (h15 : ¬ (R 50 p) ≠ 0) => ?_)
    · refine zx_go (pc1 := 36) (l1 := [some (zr 32), some (zi p), some (zi tr)]) (st1 := [zi 0]) (w1 := wr c R) g_X6_isOpen 1 _ _ _ _ rfl ?_
      refine zx_iret g_X6_isOpen rfl (.inr (.inl rfl)) ?_
      exact qF_f (fun z => z.2.1 (bI_ne.mp (by rw [← h50]; exact h15)))
    · refine zx_go (pc1 := 19) (l1 := [some (zr 32), some (zi p), some (zi tr)]) (st1 := [zi tr]) (w1 := wr c R) g_X6_isOpen 1 _ _ _ _ rfl ?_
      refine zx_if g_X6_isOpen rfl (by omega) (fun (h19 : tr ≠ 0) => ?_) (fun (h19 : ¬ tr ≠ 0) => ?_)
      · refine zx_go (pc1 := 36) (l1 := [some (zr 32), some (zi p), some (zi tr)]) (st1 := [zi 1]) (w1 := wr c R) g_X6_isOpen 2 _ _ _ _ rfl ?_
        refine zx_iret g_X6_isOpen rfl (.inr (.inr rfl)) ?_
        exact qF_t ⟨by omega, fun z => h15 (by rw [h50]; exact bI_ne.mpr z), .inl h19⟩
      · refine zx_go (pc1 := 27) (l1 := [some (zr 32), some (zi p), some (zi tr)]) (st1 := [zi p, zr 51]) (w1 := wr c R) g_X6_isOpen 3 _ _ _ _ rfl ?_
        refine gz_bald g_X6_isOpen rfl (n := 1728) rfl (by decide) rfl (by decide) (by omega) (by omega) ?_
        refine zx_if g_X6_isOpen rfl (by omega) (fun (h28 : (R 51 p) ≠ 0) => ?_) (fun (h28 : ¬ (R 51 p) ≠ 0) => ?_)
        · refine zx_go (pc1 := 36) (l1 := [some (zr 32), some (zi p), some (zi tr)]) (st1 := [zi 0]) (w1 := wr c R) g_X6_isOpen 1 _ _ _ _ rfl ?_
          refine zx_iret g_X6_isOpen rfl (.inr (.inl rfl)) ?_
          exact qF_f (fun z => z.2.2.elim h19 (fun y => y (bI_ne.mp (by rw [← h51]; exact h28))))
        · refine zx_go (pc1 := 36) (l1 := [some (zr 32), some (zi p), some (zi tr)]) (st1 := [zi 1]) (w1 := wr c R) g_X6_isOpen 2 _ _ _ _ rfl ?_
          refine zx_iret g_X6_isOpen rfl (.inr (.inr rfl)) ?_
          exact qF_t ⟨by omega, fun z => h15 (by rw [h50]; exact bI_ne.mpr z), .inr (fun z => h28 (by rw [h51]; exact bI_ne.mpr z))⟩

set_option maxHeartbeats 1000000 in
theorem m_extra {c : zC} {R : zI} {p : Int} {Y : Prop} (hg : Geo c) (hp : pls c p) (h51 : R 51 p = bI Y) : MZ m_X6_extra [zr 32, zi p] (wr c R) (qF (zi (R 45 p + pI Y 20 0)) (wr c R)) := by
  refine MZ.of g_X6_extra ?_
  show ZX m_X6_extra 0 [some (zr 32), some (zi p)] [] (wr c R) _
  have g3_v := hg.S
  obtain ⟨hp0, hp1⟩ := hp
  have by1 := bI_01 Y
  refine zx_go (pc1 := 5) (l1 := [some (zr 32), some (zi p)]) (st1 := [zi p, zr 45]) (w1 := wr c R) g_X6_extra 3 _ _ _ _ rfl ?_
  refine gz_iald g_X6_extra rfl (n := 1728) rfl (by decide) rfl (by decide) (by omega) (by omega) ?_
  refine zx_go (pc1 := 11) (l1 := [some (zr 32), some (zi p)]) (st1 := [zi p, zr 51, zi (R 45 p)]) (w1 := wr c R) g_X6_extra 3 _ _ _ _ rfl ?_
  refine gz_bald g_X6_extra rfl (n := 1728) rfl (by decide) rfl (by decide) (by omega) (by omega) ?_
  refine zx_if g_X6_extra rfl (by omega) (fun (h12 : (R 51 p) = 0) => ?_) (fun (h12 : ¬ (R 51 p) = 0) => ?_)
  · refine zx_go (pc1 := 22) (l1 := [some (zr 32), some (zi p)]) (st1 := [zi ((R 45 p) + 0)]) (w1 := wr c R) g_X6_extra 2 _ _ _ _ rfl ?_
    refine zx_iret g_X6_extra rfl (.inl rfl) ?_
    refine qF_i ?_
    rw [pI_f (fun z => bI_ne.mpr z (by rw [← h51]; exact h12))]
  · refine zx_go (pc1 := 22) (l1 := [some (zr 32), some (zi p)]) (st1 := [zi ((R 45 p) + 20)]) (w1 := wr c R) g_X6_extra 3 _ _ _ _ rfl ?_
    refine zx_iret g_X6_extra rfl (.inl rfl) ?_
    refine qF_i ?_
    rw [pI_t (bI_ne.mp (by rw [← h51]; exact h12))]

set_option maxHeartbeats 1000000 in
theorem m_dropRoute {c : zC} {R : zI} {n : Int} (hg : Geo c) (n0 : 0 ≤ n) (n1 : n < 16) : MZ m_X6_dropRoute [zr 32, zi n] (wr c R) (gU (fun R2 => R2 = ch R (fun b j => (b = 46 ∨ b = 47) ∧ 1728 * n ≤ j ∧ j < 1728 * n + (cS c : Int)) (fun _ _ => 0)) c) := by
  refine MZ.of g_X6_dropRoute ?_
  show ZX m_X6_dropRoute 0 [some (zr 32), some (zi n), none] [] (wr c R) _
  have g3_v := hg.S
  refine zx_go (pc1 := 2) (l1 := [some (zr 32), some (zi n), some (zi 0)]) (st1 := []) (w1 := wr c R) g_X6_dropRoute 2 _ _ _ _ rfl ?_
  have lp2 : ∀ (it : Nat) (i : Int) (R1 : zI), (it : Int) = (cS c : Int) - i → (0 ≤ i ∧ i ≤ (cS c : Int) ∧ R1 = ch R (fun b j => (b = 46 ∨ b = 47) ∧ 1728 * n ≤ j ∧ j < 1728 * n + i) (fun _ _ => 0)) → ZX m_X6_dropRoute 2 [some (zr 32), some (zi n), some (zi i)] [] (wr c R1) (gU (fun R2 => R2 = ch R (fun b j => (b = 46 ∨ b = 47) ∧ 1728 * n ≤ j ∧ j < 1728 * n + (cS c : Int)) (fun _ _ => 0)) c) := by
    refine fun it => Nat.strongRecOn it (fun it ih2 => ?_)
    intro i R1 hn2 hi2
    obtain ⟨i0_v, i1_v, i2_v⟩ := hi2
    refine zx_go (pc1 := 4) (l1 := [some (zr 32), some (zi n), some (zi i)]) (st1 := [zr 32, zi i]) (w1 := wr c R1) g_X6_dropRoute 2 _ _ _ _ rfl ?_
    refine zx_cvF (As := []) (rest := [zi i]) g_X6_dropRoute rfl g_X6_all rfl rfl (Nat.le_of_ble_eq_true rfl) (Nat.le_of_ble_eq_true rfl) rfl (by decide) (m_all hg) ?_
    refine zx_cmp g_X6_dropRoute rfl (by omega) (by omega) (fun (h7 : (cS c : Int) ≤ i) => ?_) (fun (h7 : ¬ ((cS c : Int) ≤ i)) => ?_)
    · refine zx_vret g_X6_dropRoute rfl ?_
      have ei : i = (cS c : Int) := by omega
      subst ei
      exact gU_i i2_v
    · refine zx_go (pc1 := 22) (l1 := [some (zr 32), some (zi n), some (zi i)]) (st1 := [zi 0, zi ((1728 * n) + i), zr 46]) (w1 := wr c R1) g_X6_dropRoute 8 _ _ _ _ rfl ?_
      refine gz_bast g_X6_dropRoute rfl (n := 27648) rfl (by decide) (by refine ⟨?_, ?_, ?_, ?_, ?_⟩ <;> simp) (by decide) (by omega) (by omega) (.inl rfl) ?_
      refine zx_go (pc1 := 35) (l1 := [some (zr 32), some (zi n), some (zi i)]) (st1 := [zi 0, zi ((1728 * n) + i), zr 47]) (w1 := wr c (zU R1 46 ((1728 * n) + i) 0)) g_X6_dropRoute 8 _ _ _ _ rfl ?_
      refine gz_bast g_X6_dropRoute rfl (n := 27648) rfl (by decide) (by refine ⟨?_, ?_, ?_, ?_, ?_⟩ <;> simp) (by decide) (by omega) (by omega) (.inl rfl) ?_
      refine zx_go (pc1 := 2) (l1 := [some (zr 32), some (zi n), some (zi (i + 1))]) (st1 := []) (w1 := wr c (zU (zU R1 46 ((1728 * n) + i) 0) 47 ((1728 * n) + i) 0)) g_X6_dropRoute 2 _ _ _ _ rfl ?_
      refine ih2 (Int.toNat ((cS c : Int) - (i + 1))) (by omega) (i + 1) (zU (zU R1 46 ((1728 * n) + i) 0) 47 ((1728 * n) + i) 0) (by omega) ?_
      refine ⟨by omega, by omega, ?_⟩
      rw [i2_v, ch_step (P1 := fun b j => ((b = 46 ∨ b = 47) ∧ 1728 * n ≤ j ∧ j < 1728 * n + i) ∨ (b = 46 ∧ j = 1728 * n + i)) rfl (fun b j => Iff.rfl)]
      refine ch_step rfl fun b j => ?_
      constructor
      · rintro ⟨z1, z2, z3⟩
        by_cases e : j = 1728 * n + i
        · rcases z1 with z1 | z1
          · exact .inl (.inr ⟨z1, e⟩)
          · exact .inr ⟨z1, e⟩
        · exact .inl (.inl ⟨z1, z2, by omega⟩)
      · rintro ((⟨z1, z2, z3⟩ | ⟨z1, z2⟩) | ⟨z1, z2⟩)
        · exact ⟨z1, z2, by omega⟩
        · exact ⟨.inl z1, by omega, by omega⟩
        · exact ⟨.inr z1, by omega, by omega⟩
  refine lp2 (Int.toNat ((cS c : Int) - 0)) 0 R (by omega) ?_
  refine ⟨by omega, by omega, (ch_none fun b j z => ?_).symm⟩
  omega

