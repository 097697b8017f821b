/-! ===== contracts of the reference (9): a run ===== -/
theorem aN_L {c : zC} {D : zI} {n : Int} : ∀ (k : Nat) (x : aX), aN (aL c D n k x) = aN x.2.2
  | 0, x => rfl
  | k + 1, x => by
    unfold aL
    by_cases q1_v : dne c D n x.1
    · rw [cI_t q1_v]; rfl
    · rw [cI_f q1_v]
      by_cases q2_v : gE c D x.2.2 n False x.1 ≠ -1
      · rw [cI_t q2_v, aN_L k]; rfl
      · rw [cI_f q2_v]
        by_cases q3_v : gE c D x.2.2 n True x.1 ≠ -1
        · rw [cI_t q3_v, aN_L k]; rfl
        · rw [cI_f q3_v]; rfl
theorem aN_Ns {c : zC} {D : zI} {s : aS} : ∀ n : Nat, aN (aNs c D n s) = aN s
  | 0 => rfl
  | n + 1 => by
    unfold aNs
    by_cases q : clo c D n ∨ aJ (aNs c D n s) n
    · rw [cI_t q]; exact aN_Ns n
    · rw [cI_f q]
      unfold aRt
      rw [aN_L]
      exact aN_Ns n
def lft (c : zC) (D : zI) (s : aS) (i : Int) : Prop := ∃ n, 0 ≤ n ∧ n < i ∧ ¬ clo c D n ∧ ¬ aJ s n

set_option maxHeartbeats 1000000 in
theorem m_isLeft {c : zC} {R : zI} {D : zI} {s : aS} (hD : DOK c D) (hs : MS0 c D s R) : MZ m_X6_isLeft [zr 32] (wr c R) (qF (zi (bI (wai c D s))) (wr c R)) := by
  refine MZ.of g_X6_isLeft ?_
  show ZX m_X6_isLeft 0 [some (zr 32), none, none] [] (wr c R) _
  have n16 := hD.2.1
  have e8 := hs.1.2.2.2.2.2.1
  refine zx_go (pc1 := 4) (l1 := [some (zr 32), some (zi 0), some (zi 0)]) (st1 := []) (w1 := wr c R) g_X6_isLeft 4 _ _ _ _ rfl ?_
  have lp4 : ∀ (it : Nat) (lv : Int) (i : Int), (it : Int) = D 10 0 - i → (0 ≤ i ∧ i ≤ D 10 0 ∧ lv = bI (lft c D s i)) → ZX m_X6_isLeft 4 [some (zr 32), some (zi lv), some (zi i)] [] (wr c R) (qF (zi (bI (wai c D s))) (wr c R)) := by
    refine fun it => Nat.strongRecOn it (fun it ih4 => ?_)
    intro lv i hn4 hi4
    obtain ⟨i0_v, i1_v, el⟩ := hi4
    have l01 : lv = 0 ∨ lv = 1 := by rw [el]; exact bI_01 _
    refine zx_go (pc1 := 9) (l1 := [some (zr 32), some (zi lv), some (zi i)]) (st1 := [zi (R 32 8), zi i]) (w1 := wr c R) g_X6_isLeft 3 _ _ _ _ rfl ?_
    refine zx_cmp g_X6_isLeft rfl (by omega) (by omega) (fun (h9 : (R 32 8) ≤ i) => ?_) (fun (h9 : ¬ ((R 32 8) ≤ i)) => ?_)
    · refine zx_go (pc1 := 47) (l1 := [some (zr 32), some (zi lv), some (zi i)]) (st1 := [zi lv]) (w1 := wr c R) g_X6_isLeft 1 _ _ _ _ rfl ?_
      refine zx_iret g_X6_isLeft rfl (by omega) ?_
      refine qF_i ?_
      rw [el, show i = D 10 0 by omega]
      rfl
    · refine zx_go (pc1 := 13) (l1 := [some (zr 32), some (zi lv), some (zi i)]) (st1 := [zi lv]) (w1 := wr c R) g_X6_isLeft 1 _ _ _ _ rfl ?_
      refine zx_if g_X6_isLeft rfl (by omega) (fun (h13 : lv ≠ 0) => ?_) (fun (h13 : ¬ lv ≠ 0) => ?_)
      · refine zx_go (pc1 := 4) (l1 := [some (zr 32), some (zi 1), some (zi (i + 1))]) (st1 := []) (w1 := wr c R) g_X6_isLeft 5 _ _ _ _ rfl ?_
        refine ih4 (Int.toNat (D 10 0 - (i + 1))) (by omega) 1 (i + 1) (by omega) ?_
        refine ⟨by omega, by omega, ?_⟩
        obtain ⟨n, a, b, d⟩ := bI_ne.mp (show bI (lft c D s i) ≠ 0 by rw [← el]; exact h13)
        exact (bI_t ⟨n, a, by omega, d⟩).symm
      · have e42_v := hs.2.2.1 i i0_v (by omega)
        have c01 := bI_01 (clo c D i)
        refine zx_go (pc1 := 21) (l1 := [some (zr 32), some (zi lv), some (zi i)]) (st1 := [zi i, zr 42]) (w1 := wr c R) g_X6_isLeft 3 _ _ _ _ rfl ?_
        refine gz_bald g_X6_isLeft rfl (n := 16) rfl (by decide) rfl (by decide) (by omega) (by omega) ?_
        refine zx_if g_X6_isLeft rfl (by omega) (fun (h22 : (R 42 i) ≠ 0) => ?_) (fun (h22 : ¬ (R 42 i) ≠ 0) => ?_)
        · refine zx_go (pc1 := 4) (l1 := [some (zr 32), some (zi 0), some (zi (i + 1))]) (st1 := []) (w1 := wr c R) g_X6_isLeft 4 _ _ _ _ rfl ?_
          refine ih4 (Int.toNat (D 10 0 - (i + 1))) (by omega) 0 (i + 1) (by omega) ?_
          refine ⟨by omega, by omega, ?_⟩
          refine (bI_f ?_).symm
          rintro ⟨n, a, b, d1_v, d2_v⟩
          by_cases y : n = i
          · subst y
            exact d1_v (bI_ne.mp (by rw [← e42_v]; exact h22))
          · exact absurd (show bI (lft c D s i) = 0 by rw [← el]; exact Classical.not_not.mp h13) (bI_ne.mpr ⟨n, a, by omega, d1_v, d2_v⟩)
        · have e43 := hs.2.2.2.2.2.1 i i0_v (by omega)
          have j01 := bI_01 (aJ s i)
          refine zx_go (pc1 := 30) (l1 := [some (zr 32), some (zi lv), some (zi i)]) (st1 := [zi i, zr 43]) (w1 := wr c R) g_X6_isLeft 3 _ _ _ _ rfl ?_
          refine gz_bald g_X6_isLeft rfl (n := 16) rfl (by decide) rfl (by decide) (by omega) (by omega) ?_
          refine zx_if g_X6_isLeft rfl (by omega) (fun (h31 : (R 43 i) ≠ 0) => ?_) (fun (h31 : ¬ (R 43 i) ≠ 0) => ?_)
          · refine zx_go (pc1 := 4) (l1 := [some (zr 32), some (zi 0), some (zi (i + 1))]) (st1 := []) (w1 := wr c R) g_X6_isLeft 4 _ _ _ _ rfl ?_
            refine ih4 (Int.toNat (D 10 0 - (i + 1))) (by omega) 0 (i + 1) (by omega) ?_
            refine ⟨by omega, by omega, ?_⟩
            refine (bI_f ?_).symm
            rintro ⟨n, a, b, d1_v, d2_v⟩
            by_cases y : n = i
            · subst y
              exact d2_v (bI_ne.mp (by rw [← e43]; exact h31))
            · exact absurd (show bI (lft c D s i) = 0 by rw [← el]; exact Classical.not_not.mp h13) (bI_ne.mpr ⟨n, a, by omega, d1_v, d2_v⟩)
          · refine zx_go (pc1 := 4) (l1 := [some (zr 32), some (zi 1), some (zi (i + 1))]) (st1 := []) (w1 := wr c R) g_X6_isLeft 5 _ _ _ _ rfl ?_
            refine ih4 (Int.toNat (D 10 0 - (i + 1))) (by omega) 1 (i + 1) (by omega) ?_
            refine ⟨by omega, by omega, ?_⟩
            exact (bI_t ⟨i, i0_v, by omega, fun z => h22 (by rw [e42_v]; exact bI_ne.mpr z), fun z => h31 (by rw [e43]; exact bI_ne.mpr z)⟩).symm
  refine lp4 (Int.toNat (D 10 0 - 0)) 0 0 (by omega) ?_
  refine ⟨by omega, by omega, (bI_f ?_).symm⟩
  rintro ⟨n, a, b, _⟩
  omega

set_option maxHeartbeats 1000000 in
theorem m_run {c : zC} {R : zI} {D : zI} {k : Int} (hD : DOK c D) (hm : MDn c D R) (k0 : 0 ≤ k) (k8 : k ≤ 8) : MZ m_X6_run [zr 32, zi k] (wr c R) (gR (fun v R2 => v = D 10 0 - cnt (aJ (aRun c D k)) (D 10 0).toNat ∧ (∀ a, a ≤ 40 → a ≠ 32 → R2 a = R a) ∧ (∀ j, j ≠ 0 → j ≠ 14 → j ≠ 22 → j ≠ 23 → j ≠ 24 → R2 32 j = R 32 j) ∧ R2 32 0 = 0 ∧ R2 32 14 = 1 ∧ MS0 c D (aRun c D k) R2 ∧ MC (aRun c D k) R2) c) := by
  refine MZ.of g_X6_run ?_
  show ZX m_X6_run 0 [some (zr 32), some (zi k), none, none, none] [] (wr c R) _
  have hg := hD.1
  have g3_v := hg.S
  have n16 := hD.2.1
  have p40 := hD.2.2.1
  have e8 := hm.2.2.2.2.2.1
  have e10_v := hm.2.2.2.2.2.2
  refine zx_go (pc1 := 2) (l1 := [some (zr 32), some (zi k), none, none, none]) (st1 := [zi k, zr 32]) (w1 := wr c R) g_X6_run 2 _ _ _ _ rfl ?_
  refine zx_i2l g_X6_run rfl (by omega) ?_
  refine zx_go (pc1 := 7) (l1 := [some (zr 32), some (zi k), none, none, none]) (st1 := [zl 8, zl 0, zl k, zr 32]) (w1 := wr c R) g_X6_run 2 _ _ _ _ rfl ?_
  refine zx_csF (As := [zl k, zl 0, zl 8]) (rest := [zr 32]) g_X6_run rfl g_X6_isIn rfl rfl (Nat.le_of_ble_eq_true rfl) (Nat.le_of_ble_eq_true rfl) (m_isIn (by omega) (by omega) (by omega)) ?_
  refine zx_ifeq g_X6_run rfl (fun (h10 : ¬ (0 ≤ k ∧ k ≤ 8)) => ?_) (fun (h10 : (0 ≤ k ∧ k ≤ 8)) => ?_)
  · exact absurd (show 0 ≤ k ∧ k ≤ 8 from ⟨k0, k8⟩) h10
  · refine zx_go (pc1 := 18) (l1 := [some (zr 32), some (zi k), none, none, none]) (st1 := [zi 0, zr 32]) (w1 := wr c R) g_X6_run 2 _ _ _ _ rfl ?_
    refine gx_cvG (As := [zi 0]) (rest := []) g_X6_run rfl g_X6_refuses rfl rfl (Nat.le_of_ble_eq_true rfl) (Nat.le_of_ble_eq_true rfl) rfl (by decide) (m_ref (v := 0) (by decide) (bI_f (by decide))) ?_
    refine zx_ifT g_X6_run rfl (by decide) (show ((0 : Int) = 0) by decide) ?_
    generalize hR9 : zU R 32 0 0 = R9
    have f9_v : ∀ a, a ≠ 32 → R9 a = R a := fun a ha_v => by rw [← hR9, zU_cell ha_v]
    have f9j : ∀ j, j ≠ 0 → R9 32 j = R 32 j := fun j hj => by rw [← hR9, zU_at hj]
    have f90 : R9 32 0 = 0 := by rw [← hR9, zU_same]
    have hm9 : MDn c D R9 := hm.of2 (fun a _ hb_v => f9_v a hb_v) (f9j 8 (by decide)) (f9j 10 (by decide))
    refine zx_go (pc1 := 27) (l1 := [some (zr 32), some (zi k), none, none, none]) (st1 := [zr 32]) (w1 := wr c R9) g_X6_run 1 _ _ _ _ rfl ?_
    refine gx_cvU (As := []) (rest := []) g_X6_run rfl g_X6_pick rfl rfl (Nat.le_of_ble_eq_true rfl) (Nat.le_of_ble_eq_true rfl) rfl (by decide) (m_pick hD hm9) (fun R27 hR27 => ?_)
    refine zx_go (pc1 := 32) (l1 := [some (zr 32), some (zi k), some (zi 0), none, none]) (st1 := []) (w1 := wr c R27) g_X6_run 2 _ _ _ _ rfl ?_
    have lp32 : ∀ (it : Nat) (i : Int) (R2 : zI), (it : Int) = (cS c : Int) - i → (0 ≤ i ∧ i ≤ (cS c : Int) ∧ (∀ a, a ≠ 45 → R2 a = R27 a) ∧ ∀ p, 0 ≤ p → p < i → R2 45 p = 0) → ZX m_X6_run 32 [some (zr 32), some (zi k), some (zi i), none, none] [] (wr c R2) (gR (fun v R2 => v = D 10 0 - cnt (aJ (aRun c D k)) (D 10 0).toNat ∧ (∀ a, a ≤ 40 → a ≠ 32 → R2 a = R a) ∧ (∀ j, j ≠ 0 → j ≠ 14 → j ≠ 22 → j ≠ 23 → j ≠ 24 → R2 32 j = R 32 j) ∧ R2 32 0 = 0 ∧ R2 32 14 = 1 ∧ MS0 c D (aRun c D k) R2 ∧ MC (aRun c D k) R2) c) := by
      refine fun it => Nat.strongRecOn it (fun it ih32 => ?_)
      intro i R2 hn32 hi32_v
      obtain ⟨i0_v, i1_v, fr2, z2⟩ := hi32_v
      have e82 : R2 32 8 = D 10 0 := by rw [fr2 32 (by decide), hR27.1 32 (by decide) (by decide)]; exact hm9.2.2.2.2.2.1
      have e102_v : R2 32 10 = D 10 2 := by rw [fr2 32 (by decide), hR27.1 32 (by decide) (by decide)]; exact hm9.2.2.2.2.2.2
      refine zx_go (pc1 := 34) (l1 := [some (zr 32), some (zi k), some (zi i), none, none]) (st1 := [zr 32, zi i]) (w1 := wr c R2) g_X6_run 2 _ _ _ _ rfl ?_
      refine zx_cvF (As := []) (rest := [zi i]) g_X6_run rfl g_X6_all rfl rfl (Nat.le_of_ble_eq_true rfl) (Nat.le_of_ble_eq_true rfl) rfl (by decide) (m_all hg) ?_
      refine zx_cmp g_X6_run rfl (by omega) (by omega) (fun (h37 : (cS c : Int) ≤ i) => ?_) (fun (h37 : ¬ ((cS c : Int) ≤ i)) => ?_)
      · refine zx_go (pc1 := 55) (l1 := [some (zr 32), some (zi k), some (zi 0), none, none]) (st1 := []) (w1 := wr c R2) g_X6_run 2 _ _ _ _ rfl ?_
        have lp55 : ∀ (it : Nat) (n : Int) (R3 : zI) (o3_v : Option zV) (o4_v : Option zV), (it : Int) = D 10 0 - n → (0 ≤ n ∧ n ≤ D 10 0 ∧ (∀ a, a ≠ 43 → a ≠ 44 → a ≠ 46 → a ≠ 47 → R3 a = R2 a) ∧ ∀ b, 0 ≤ b → b < n → (∀ q, pls c q → R3 46 (1728 * b + q) = 0 ∧ R3 47 (1728 * b + q) = 0) ∧ R3 43 b = bI (aJ (s0 c D) b) ∧ R3 44 b = pI (clo c D b) 1 3) → ZX m_X6_run 55 [some (zr 32), some (zi k), some (zi n), o3_v, o4_v] [] (wr c R3) (gR (fun v R2 => v = D 10 0 - cnt (aJ (aRun c D k)) (D 10 0).toNat ∧ (∀ a, a ≤ 40 → a ≠ 32 → R2 a = R a) ∧ (∀ j, j ≠ 0 → j ≠ 14 → j ≠ 22 → j ≠ 23 → j ≠ 24 → R2 32 j = R 32 j) ∧ R2 32 0 = 0 ∧ R2 32 14 = 1 ∧ MS0 c D (aRun c D k) R2 ∧ MC (aRun c D k) R2) c) := by
          refine fun it => Nat.strongRecOn it (fun it ih55 => ?_)
          intro n R3 o3_v o4_v hn55 hi55
          obtain ⟨n0_v, n1_v, fr3, z3⟩ := hi55
          have e83 : R3 32 8 = D 10 0 := by rw [fr3 32 (by decide) (by decide) (by decide) (by decide)]; exact e82
          have e103_v : R3 32 10 = D 10 2 := by rw [fr3 32 (by decide) (by decide) (by decide) (by decide)]; exact e102_v
          refine zx_go (pc1 := 60) (l1 := [some (zr 32), some (zi k), some (zi n), o3_v, o4_v]) (st1 := [zi (R3 32 8), zi n]) (w1 := wr c R3) g_X6_run 3 _ _ _ _ rfl ?_
          refine zx_cmp g_X6_run rfl (by omega) (by omega) (fun (h60 : (R3 32 8) ≤ n) => ?_) (fun (h60 : ¬ ((R3 32 8) ≤ n)) => ?_)
          · refine zx_go (pc1 := 160) (l1 := [some (zr 32), some (zi k), some (zi n), o3_v, o4_v]) (st1 := [zi 0, zr 32]) (w1 := wr c R3) g_X6_run 2 _ _ _ _ rfl ?_
            refine gz_put 22 g_X6_run rfl rfl rfl (by decide) rfl (by refine ⟨?_, ?_, ?_, ?_, ?_⟩ <;> simp) ?_
            refine zx_go (pc1 := 165) (l1 := [some (zr 32), some (zi k), some (zi n), o3_v, o4_v]) (st1 := [zi 0, zr 32]) (w1 := wr c (zU R3 32 22 0)) g_X6_run 2 _ _ _ _ rfl ?_
            refine gz_put 23 g_X6_run rfl rfl rfl (by decide) rfl (by refine ⟨?_, ?_, ?_, ?_, ?_⟩ <;> simp) ?_
            refine zx_go (pc1 := 170) (l1 := [some (zr 32), some (zi k), some (zi n), o3_v, o4_v]) (st1 := [zi 0, zr 32]) (w1 := wr c (zU (zU R3 32 22 0) 32 23 0)) g_X6_run 2 _ _ _ _ rfl ?_
            refine gz_put 24 g_X6_run rfl rfl rfl (by decide) rfl (by refine ⟨?_, ?_, ?_, ?_, ?_⟩ <;> simp) ?_
            generalize hR6 : zU (zU (zU R3 32 22 0) 32 23 0) 32 24 0 = R6
            have f6_v : ∀ a, a ≠ 32 → R6 a = R3 a := fun a ha_v => by rw [← hR6, zU_cell ha_v, zU_cell ha_v, zU_cell ha_v]
            have f6j : ∀ j, j ≠ 22 → j ≠ 23 → j ≠ 24 → R6 32 j = R3 32 j := fun j a b d => by rw [← hR6, zU_at d, zU_at b, zU_at a]
            have mc6 : MC (s0 c D) R6 := by
              rw [← hR6]
              refine ⟨?_, ?_, ?_⟩ <;> simp [zU, aN, aA, aT, s0]
            have e622 : R6 32 22 = 0 := mc6.1
            have en : n = D 10 0 := by omega
            have r6 : ∀ a, a ≤ 40 → a ≠ 32 → R6 a = R a := fun a h1 h2 => by rw [f6_v a h2, fr3 a (by omega) (by omega) (by omega) (by omega), fr2 a (by omega), hR27.1 a (by omega) (by omega), f9_v a h2]
            have r6j : ∀ j, j ≠ 0 → j ≠ 22 → j ≠ 23 → j ≠ 24 → R6 32 j = R 32 j := fun j a b d e => by rw [f6j j b d e, fr3 32 (by decide) (by decide) (by decide) (by decide), fr2 32 (by decide), hR27.1 32 (by decide) (by decide), f9j j a]
            have r60 : R6 32 0 = 0 := by rw [f6j 0 (by decide) (by decide) (by decide), fr3 32 (by decide) (by decide) (by decide) (by decide), fr2 32 (by decide), hR27.1 32 (by decide) (by decide)]; exact f90
            have ms6 : MS0 c D (s0 c D) R6 := by
              refine ⟨hm.of2 r6 (r6j 8 (by decide) (by decide) (by decide) (by decide)) (r6j 10 (by decide) (by decide) (by decide) (by decide)), fun k k0 k1_v => ?_, fun b b0 b1 => ?_, fun b q b0 b1 hq => ?_, fun p hp => ?_, fun b b0 b1 => ?_, fun b b0 b1 nj => ?_⟩
              · rw [f6_v 41 (by decide), fr3 41 (by decide) (by decide) (by decide) (by decide), fr2 41 (by decide)]; exact hR27.2.1 k k0 k1_v
              · rw [f6_v 42 (by decide), fr3 42 (by decide) (by decide) (by decide) (by decide), fr2 42 (by decide)]; exact hR27.2.2 b b0 b1
              · rw [f6_v 46 (by decide), f6_v 47 (by decide)]
                obtain ⟨y1, y2⟩ := (z3 b b0 (by omega)).1 q hq
                rw [y1, y2]
                exact ⟨(bI_f id).symm, (bI_f id).symm⟩
              · rw [f6_v 45 (by decide), fr3 45 (by decide) (by decide) (by decide) (by decide), z2 p hp.1 (by have := hp.2; omega)]; rfl
              · rw [f6_v 43 (by decide)]; exact (z3 b b0 (by omega)).2.1
              · rw [f6_v 44 (by decide), (z3 b b0 (by omega)).2.2]
                show _ = pI (clo c D b) 1 (pI False 2 3)
                rw [pI_f (P := False) id]
            have lp173 : ∀ (it : Nat) (R4 : zI) (o2 : Option zV) (o3_v : Option zV) (o4_v : Option zV), (it : Int) = k - R4 32 22 → (∃ s1_v : aS, MS0 c D s1_v R4 ∧ MC s1_v R4 ∧ MF R6 R4 ∧ AI c D s1_v (640 * aN s1_v) ∧ 0 ≤ aN s1_v ∧ aN s1_v ≤ k ∧ aRs c D (k - aN s1_v).toNat s1_v = aRs c D k.toNat (s0 c D)) → ZX m_X6_run 173 [some (zr 32), some (zi k), o2, o3_v, o4_v] [] (wr c R4) (gR (fun v R2 => v = D 10 0 - cnt (aJ (aRun c D k)) (D 10 0).toNat ∧ (∀ a, a ≤ 40 → a ≠ 32 → R2 a = R a) ∧ (∀ j, j ≠ 0 → j ≠ 14 → j ≠ 22 → j ≠ 23 → j ≠ 24 → R2 32 j = R 32 j) ∧ R2 32 0 = 0 ∧ R2 32 14 = 1 ∧ MS0 c D (aRun c D k) R2 ∧ MC (aRun c D k) R2) c) := by
              refine fun it => Nat.strongRecOn it (fun it ih173 => ?_)
              intro R4 o2 o3_v o4_v hn173 hi173
              obtain ⟨s1_v, ms4, mc4, mf4, ai4, aN0, aN1, al4⟩ := hi173
              have e22_v : R4 32 22 = aN s1_v := mc4.1
              have e84 : R4 32 8 = D 10 0 := ms4.1.2.2.2.2.2.1
              skip
              refine zx_go (pc1 := 178) (l1 := [some (zr 32), some (zi k), o2, o3_v, o4_v]) (st1 := [zi k, zi (R4 32 22)]) (w1 := wr c R4) g_X6_run 3 _ _ _ _ rfl ?_
              refine zx_cmp g_X6_run rfl (by omega) (by omega) (fun (h178 : k ≤ (R4 32 22)) => ?_) (fun (h178 : ¬ (k ≤ (R4 32 22))) => ?_)
              · refine zx_go (pc1 := 242) (l1 := [some (zr 32), some (zi k), o2, o3_v, o4_v]) (st1 := [zi 1, zr 32]) (w1 := wr c R4) g_X6_run 2 _ _ _ _ rfl ?_
                refine gz_putb 14 g_X6_run rfl rfl rfl (by decide) rfl (by refine ⟨?_, ?_, ?_, ?_, ?_⟩ <;> simp) (.inr rfl) ?_
                generalize hR7 : zU R4 32 14 1 = R7
                have f7_v : ∀ a, a ≠ 32 → R7 a = R4 a := fun a ha_v => by rw [← hR7, zU_cell ha_v]
                have f7j : ∀ j, j ≠ 14 → R7 32 j = R4 32 j := fun j hj => by rw [← hR7, zU_at hj]
                have f714 : R7 32 14 = 1 := by rw [← hR7, zU_same]
                have e87 : R7 32 8 = D 10 0 := by rw [f7j 8 (by decide)]; exact ms4.1.2.2.2.2.2.1
                have hsf : s1_v = aRun c D k := by
                  unfold aRun
                  rw [← al4]
                  rw [show (k - aN s1_v).toNat = 0 by omega]
                  rfl
                refine zx_go (pc1 := 249) (l1 := [some (zr 32), some (zi k), some (zi 0), some (zi 0), o4_v]) (st1 := []) (w1 := wr c R7) g_X6_run 4 _ _ _ _ rfl ?_
                have lp249 : ∀ (it : Nat) (op_v : Int) (i : Int) (o4_v : Option zV), (it : Int) = D 10 0 - i → (0 ≤ i ∧ i ≤ D 10 0 ∧ op_v = i - cnt (aJ s1_v) i.toNat) → ZX m_X6_run 249 [some (zr 32), some (zi k), some (zi op_v), some (zi i), o4_v] [] (wr c R7) (gR (fun v R2 => v = D 10 0 - cnt (aJ (aRun c D k)) (D 10 0).toNat ∧ (∀ a, a ≤ 40 → a ≠ 32 → R2 a = R a) ∧ (∀ j, j ≠ 0 → j ≠ 14 → j ≠ 22 → j ≠ 23 → j ≠ 24 → R2 32 j = R 32 j) ∧ R2 32 0 = 0 ∧ R2 32 14 = 1 ∧ MS0 c D (aRun c D k) R2 ∧ MC (aRun c D k) R2) c) := by
                  refine fun it => Nat.strongRecOn it (fun it ih249 => ?_)
                  intro op_v i o4_v hn249 hi249
                  obtain ⟨i0_v, i1_v, eo⟩ := hi249
                  have cR0 := cnt_R (aJ s1_v) i.toNat
                  refine zx_go (pc1 := 254) (l1 := [some (zr 32), some (zi k), some (zi op_v), some (zi i), o4_v]) (st1 := [zi (R7 32 8), zi i]) (w1 := wr c R7) g_X6_run 3 _ _ _ _ rfl ?_
                  refine zx_cmp g_X6_run rfl (by omega) (by omega) (fun (h254 : (R7 32 8) ≤ i) => ?_) (fun (h254 : ¬ ((R7 32 8) ≤ i)) => ?_)
                  · refine zx_go (pc1 := 281) (l1 := [some (zr 32), some (zi k), some (zi op_v), some (zi i), o4_v]) (st1 := [zi op_v]) (w1 := wr c R7) g_X6_run 1 _ _ _ _ rfl ?_
                    refine zx_iret g_X6_run rfl (.inl rfl) ?_
                    have ei : i = D 10 0 := by omega
                    subst hsf
                    refine gR_i ⟨by rw [eo, ei], fun a h1 h2 => ?_, fun j a b d e f => ?_, ?_, f714, ?_, ?_⟩
                    · rw [f7_v a h2, mf4.1 a h1 h2]; exact r6 a h1 h2
                    · rw [f7j j b, mf4.2 j d e f]; exact r6j j a d e f
                    · rw [f7j 0 (by decide), mf4.2 0 (by decide) (by decide) (by decide)]; exact r60
                    · exact ms4.of (ms4.1.of2 (fun a _ hb_v => f7_v a hb_v) (f7j 8 (by decide)) (f7j 10 (by decide))) (fun a h1 h2 => f7_v a (by omega))
                    · exact ⟨by rw [f7j 22 (by decide)]; exact mc4.1, by rw [f7j 23 (by decide)]; exact mc4.2.1, by rw [f7j 24 (by decide)]; exact mc4.2.2⟩
                  · have e43b : R7 43 i = bI (aJ s1_v i) := by rw [f7_v 43 (by decide)]; exact ms4.2.2.2.2.2.1 i i0_v (by omega)
                    have j01b := bI_01 (aJ s1_v i)
                    have cg := cnt_go (P := aJ s1_v) i0_v
                    have cR1 := cnt_R (aJ s1_v) i.toNat
                    refine zx_go (pc1 := 263) (l1 := [some (zr 32), some (zi k), some (zi op_v), some (zi i), o4_v]) (st1 := [zi i, zr 43, zi op_v]) (w1 := wr c R7) g_X6_run 4 _ _ _ _ rfl ?_
                    refine gz_bald g_X6_run rfl (n := 16) rfl (by decide) rfl (by decide) (by omega) (by omega) ?_
                    refine zx_if g_X6_run rfl (by omega) (fun (h264 : (R7 43 i) = 0) => ?_) (fun (h264 : ¬ (R7 43 i) = 0) => ?_)
                    · refine zx_go (pc1 := 249) (l1 := [some (zr 32), some (zi k), some (zi (op_v + 1)), some (zi (i + 1)), o4_v]) (st1 := []) (w1 := wr c R7) g_X6_run 5 _ _ _ _ rfl ?_
                      refine ih249 (Int.toNat (D 10 0 - (i + 1))) (by omega) (op_v + 1) (i + 1) o4_v (by omega) ?_
                      refine ⟨by omega, by omega, ?_⟩
                      rw [cg]
                      rw [bI_f (fun z => bI_ne.mpr z (by rw [← e43b]; exact h264))]
                      omega
                    · refine zx_go (pc1 := 249) (l1 := [some (zr 32), some (zi k), some (zi (op_v + 0)), some (zi (i + 1)), o4_v]) (st1 := []) (w1 := wr c R7) g_X6_run 6 _ _ _ _ rfl ?_
                      refine ih249 (Int.toNat (D 10 0 - (i + 1))) (by omega) (op_v + 0) (i + 1) o4_v (by omega) ?_
                      refine ⟨by omega, by omega, ?_⟩
                      rw [cg]
                      rw [bI_t (bI_ne.mp (by rw [← e43b]; exact h264))]
                      omega
                refine lp249 (Int.toNat (D 10 0 - 0)) 0 0 o4_v (by omega) ?_
                exact ⟨by omega, by omega, rfl⟩
              · refine zx_go (pc1 := 182) (l1 := [some (zr 32), some (zi k), o2, o3_v, o4_v]) (st1 := [zr 32]) (w1 := wr c R4) g_X6_run 1 _ _ _ _ rfl ?_
                refine zx_cvF (As := []) (rest := []) g_X6_run rfl g_X6_isLeft rfl rfl (Nat.le_of_ble_eq_true rfl) (Nat.le_of_ble_eq_true rfl) rfl (by decide) (m_isLeft hD ms4) ?_
                refine zx_ifeq g_X6_run rfl (fun (h185 : ¬ (wai c D s1_v)) => ?_) (fun (h185 : (wai c D s1_v)) => ?_)
                · refine zx_go (pc1 := 242) (l1 := [some (zr 32), some (zi k), o2, o3_v, o4_v]) (st1 := [zi 1, zr 32]) (w1 := wr c R4) g_X6_run 2 _ _ _ _ rfl ?_
                  refine gz_putb 14 g_X6_run rfl rfl rfl (by decide) rfl (by refine ⟨?_, ?_, ?_, ?_, ?_⟩ <;> simp) (.inr rfl) ?_
                  generalize hR7 : zU R4 32 14 1 = R7
                  have f7_v : ∀ a, a ≠ 32 → R7 a = R4 a := fun a ha_v => by rw [← hR7, zU_cell ha_v]
                  have f7j : ∀ j, j ≠ 14 → R7 32 j = R4 32 j := fun j hj => by rw [← hR7, zU_at hj]
                  have f714 : R7 32 14 = 1 := by rw [← hR7, zU_same]
                  have e87 : R7 32 8 = D 10 0 := by rw [f7j 8 (by decide)]; exact ms4.1.2.2.2.2.2.1
                  have hsf : s1_v = aRun c D k := by
                    unfold aRun
                    rw [← al4]
                    rw [aRs_go (c := c) (D := D) (s := s1_v) (k := k) (r := aN s1_v) (by omega), cI_f h185]
                  refine zx_go (pc1 := 249) (l1 := [some (zr 32), some (zi k), some (zi 0), some (zi 0), o4_v]) (st1 := []) (w1 := wr c R7) g_X6_run 4 _ _ _ _ rfl ?_
                  have lp249 : ∀ (it : Nat) (op_v : Int) (i : Int) (o4_v : Option zV), (it : Int) = D 10 0 - i → (0 ≤ i ∧ i ≤ D 10 0 ∧ op_v = i - cnt (aJ s1_v) i.toNat) → ZX m_X6_run 249 [some (zr 32), some (zi k), some (zi op_v), some (zi i), o4_v] [] (wr c R7) (gR (fun v R2 => v = D 10 0 - cnt (aJ (aRun c D k)) (D 10 0).toNat ∧ (∀ a, a ≤ 40 → a ≠ 32 → R2 a = R a) ∧ (∀ j, j ≠ 0 → j ≠ 14 → j ≠ 22 → j ≠ 23 → j ≠ 24 → R2 32 j = R 32 j) ∧ R2 32 0 = 0 ∧ R2 32 14 = 1 ∧ MS0 c D (aRun c D k) R2 ∧ MC (aRun c D k) R2) c) := by
                    refine fun it => Nat.strongRecOn it (fun it ih249 => ?_)
                    intro op_v i o4_v hn249 hi249
                    obtain ⟨i0_v, i1_v, eo⟩ := hi249
                    have cR0 := cnt_R (aJ s1_v) i.toNat
                    refine zx_go (pc1 := 254) (l1 := [some (zr 32), some (zi k), some (zi op_v), some (zi i), o4_v]) (st1 := [zi (R7 32 8), zi i]) (w1 := wr c R7) g_X6_run 3 _ _ _ _ rfl ?_
                    refine zx_cmp g_X6_run rfl (by omega) (by omega) (fun (h254 : (R7 32 8) ≤ i) => ?_) (fun (h254 : ¬ ((R7 32 8) ≤ i)) => ?_)
                    · refine zx_go (pc1 := 281) (l1 := [some (zr 32), some (zi k), some (zi op_v), some (zi i), o4_v]) (st1 := [zi op_v]) (w1 := wr c R7) g_X6_run 1 _ _ _ _ rfl ?_
                      refine zx_iret g_X6_run rfl (.inl rfl) ?_
                      have ei : i = D 10 0 := by omega
                      subst hsf
                      refine gR_i ⟨by rw [eo, ei], fun a h1 h2 => ?_, fun j a b d e f => ?_, ?_, f714, ?_, ?_⟩
                      · rw [f7_v a h2, mf4.1 a h1 h2]; exact r6 a h1 h2
                      · rw [f7j j b, mf4.2 j d e f]; exact r6j j a d e f
                      · rw [f7j 0 (by decide), mf4.2 0 (by decide) (by decide) (by decide)]; exact r60
                      · exact ms4.of (ms4.1.of2 (fun a _ hb_v => f7_v a hb_v) (f7j 8 (by decide)) (f7j 10 (by decide))) (fun a h1 h2 => f7_v a (by omega))
                      · exact ⟨by rw [f7j 22 (by decide)]; exact mc4.1, by rw [f7j 23 (by decide)]; exact mc4.2.1, by rw [f7j 24 (by decide)]; exact mc4.2.2⟩
                    · have e43b : R7 43 i = bI (aJ s1_v i) := by rw [f7_v 43 (by decide)]; exact ms4.2.2.2.2.2.1 i i0_v (by omega)
                      have j01b := bI_01 (aJ s1_v i)
                      have cg := cnt_go (P := aJ s1_v) i0_v
                      have cR1 := cnt_R (aJ s1_v) i.toNat
                      refine zx_go (pc1 := 263) (l1 := [some (zr 32), some (zi k), some (zi op_v), some (zi i), o4_v]) (st1 := [zi i, zr 43, zi op_v]) (w1 := wr c R7) g_X6_run 4 _ _ _ _ rfl ?_
                      refine gz_bald g_X6_run rfl (n := 16) rfl (by decide) rfl (by decide) (by omega) (by omega) ?_
                      refine zx_if g_X6_run rfl (by omega) (fun (h264 : (R7 43 i) = 0) => ?_) (fun (h264 : ¬ (R7 43 i) = 0) => ?_)
                      · refine zx_go (pc1 := 249) (l1 := [some (zr 32), some (zi k), some (zi (op_v + 1)), some (zi (i + 1)), o4_v]) (st1 := []) (w1 := wr c R7) g_X6_run 5 _ _ _ _ rfl ?_
                        refine ih249 (Int.toNat (D 10 0 - (i + 1))) (by omega) (op_v + 1) (i + 1) o4_v (by omega) ?_
                        refine ⟨by omega, by omega, ?_⟩
                        rw [cg]
                        rw [bI_f (fun z => bI_ne.mpr z (by rw [← e43b]; exact h264))]
                        omega
                      · refine zx_go (pc1 := 249) (l1 := [some (zr 32), some (zi k), some (zi (op_v + 0)), some (zi (i + 1)), o4_v]) (st1 := []) (w1 := wr c R7) g_X6_run 6 _ _ _ _ rfl ?_
                        refine ih249 (Int.toNat (D 10 0 - (i + 1))) (by omega) (op_v + 0) (i + 1) o4_v (by omega) ?_
                        refine ⟨by omega, by omega, ?_⟩
                        rw [cg]
                        rw [bI_t (bI_ne.mp (by rw [← e43b]; exact h264))]
                        omega
                  refine lp249 (Int.toNat (D 10 0 - 0)) 0 0 o4_v (by omega) ?_
                  exact ⟨by omega, by omega, rfl⟩
                · have aG := aRs_go (c := c) (D := D) (s := s1_v) (k := k) (r := aN s1_v) (by omega)
                  rw [cI_t h185] at aG
                  refine zx_go (pc1 := 195) (l1 := [some (zr 32), some (zi k), o2, o3_v, o4_v]) (st1 := [zi ((R4 32 22) + 1), zr 32]) (w1 := wr c R4) g_X6_run 5 _ _ _ _ rfl ?_
                  refine gz_put 22 g_X6_run rfl rfl rfl (by decide) rfl (by refine ⟨?_, ?_, ?_, ?_, ?_⟩ <;> simp) ?_
                  refine zx_go (pc1 := 200) (l1 := [some (zr 32), some (zi k), some (zi 0), o3_v, o4_v]) (st1 := []) (w1 := wr c (zU R4 32 22 ((R4 32 22) + 1))) g_X6_run 2 _ _ _ _ rfl ?_
                  have lp200 : ∀ (it : Nat) (i : Int) (R5 : zI) (o3_v : Option zV) (o4_v : Option zV), (it : Int) = D 10 0 - i → (0 ≤ i ∧ i ≤ D 10 0 ∧ MF R6 R5 ∧ MS0 c D (aNs c D i.toNat (bump s1_v)) R5 ∧ MC (aNs c D i.toNat (bump s1_v)) R5) → ZX m_X6_run 200 [some (zr 32), some (zi k), some (zi i), o3_v, o4_v] [] (wr c R5) (gR (fun v R2 => v = D 10 0 - cnt (aJ (aRun c D k)) (D 10 0).toNat ∧ (∀ a, a ≤ 40 → a ≠ 32 → R2 a = R a) ∧ (∀ j, j ≠ 0 → j ≠ 14 → j ≠ 22 → j ≠ 23 → j ≠ 24 → R2 32 j = R 32 j) ∧ R2 32 0 = 0 ∧ R2 32 14 = 1 ∧ MS0 c D (aRun c D k) R2 ∧ MC (aRun c D k) R2) c) := by
                    refine fun it => Nat.strongRecOn it (fun it ih200 => ?_)
                    intro i R5 o3_v o4_v hn200 hi200
                    obtain ⟨i0_v, i1_v, mf5, ms5, mc5⟩ := hi200
                    have e85 : R5 32 8 = D 10 0 := ms5.1.2.2.2.2.2.1
                    refine zx_go (pc1 := 205) (l1 := [some (zr 32), some (zi k), some (zi i), o3_v, o4_v]) (st1 := [zi (R5 32 8), zi i]) (w1 := wr c R5) g_X6_run 3 _ _ _ _ rfl ?_
                    refine zx_cmp g_X6_run rfl (by omega) (by omega) (fun (h205 : (R5 32 8) ≤ i) => ?_) (fun (h205 : ¬ ((R5 32 8) ≤ i)) => ?_)
                    · refine zx_go (pc1 := 173) (l1 := [some (zr 32), some (zi k), some (zi i), o3_v, o4_v]) (st1 := []) (w1 := wr c R5) g_X6_run 1 _ _ _ _ rfl ?_
                      have e225 : R5 32 22 = aN s1_v + 1 := by rw [mc5.1, aN_Ns]; rfl
                      refine ih173 (Int.toNat (k - R5 32 22)) (by omega) R5 (some (zi i)) o3_v o4_v (by omega) ?_
                      have ei : i = D 10 0 := by omega
                      rw [ei] at ms5 mc5
                      have ai6 := aNs_AI hD (bump_AI ai4) (D 10 0).toNat (by omega)
                      have an6 : aN (aNs c D (D 10 0).toNat (bump s1_v)) = aN s1_v + 1 := by rw [aN_Ns]; rfl
                      refine ⟨aNs c D (D 10 0).toNat (bump s1_v), ms5, mc5, mf5, ?_, by omega, by omega, ?_⟩
                      · exact AI.le (x := (fun _ => True, fun _ => True, aNs c D (D 10 0).toNat (bump s1_v))) ai6 (by omega)
                      · rw [an6, ← al4, aG]
                    · have e42_v := ms5.2.2.1 i i0_v (by omega)
                      have e43 := ms5.2.2.2.2.2.1 i i0_v (by omega)
                      have c01 := bI_01 (clo c D i)
                      have j01 := bI_01 (aJ (aNs c D i.toNat (bump s1_v)) i)
                      have ai5 := aNs_AI hD (bump_AI ai4) i.toNat (by omega)
                      refine zx_go (pc1 := 213) (l1 := [some (zr 32), some (zi k), some (zi i), o3_v, o4_v]) (st1 := [zi i, zr 42]) (w1 := wr c R5) g_X6_run 3 _ _ _ _ rfl ?_
                      refine gz_bald g_X6_run rfl (n := 16) rfl (by decide) rfl (by decide) (by omega) (by omega) ?_
                      refine zx_if g_X6_run rfl (by omega) (fun (h214 : (R5 42 i) ≠ 0) => ?_) (fun (h214 : ¬ (R5 42 i) ≠ 0) => ?_)
                      · refine zx_go (pc1 := 200) (l1 := [some (zr 32), some (zi k), some (zi (i + 1)), o3_v, o4_v]) (st1 := []) (w1 := wr c R5) g_X6_run 2 _ _ _ _ rfl ?_
                        refine ih200 (Int.toNat (D 10 0 - (i + 1))) (by omega) (i + 1) R5 o3_v o4_v (by omega) ?_
                        refine ⟨by omega, by omega, mf5, ?_⟩
                        rw [aNs_go i0_v, cI_t (.inl (bI_ne.mp (by rw [← e42_v]; exact h214)))]
                        exact ⟨ms5, mc5⟩
                      · refine zx_go (pc1 := 222) (l1 := [some (zr 32), some (zi k), some (zi i), o3_v, o4_v]) (st1 := [zi i, zr 43]) (w1 := wr c R5) g_X6_run 3 _ _ _ _ rfl ?_
                        refine gz_bald g_X6_run rfl (n := 16) rfl (by decide) rfl (by decide) (by omega) (by omega) ?_
                        refine zx_if g_X6_run rfl (by omega) (fun (h223 : (R5 43 i) ≠ 0) => ?_) (fun (h223 : ¬ (R5 43 i) ≠ 0) => ?_)
                        · refine zx_go (pc1 := 200) (l1 := [some (zr 32), some (zi k), some (zi (i + 1)), o3_v, o4_v]) (st1 := []) (w1 := wr c R5) g_X6_run 2 _ _ _ _ rfl ?_
                          refine ih200 (Int.toNat (D 10 0 - (i + 1))) (by omega) (i + 1) R5 o3_v o4_v (by omega) ?_
                          refine ⟨by omega, by omega, mf5, ?_⟩
                          rw [aNs_go i0_v, cI_t (.inr (bI_ne.mp (by rw [← e43]; exact h223)))]
                          exact ⟨ms5, mc5⟩
                        · have nw1 : ¬ clo c D i := fun z => h214 (by rw [e42_v]; exact bI_ne.mpr z)
                          have nw2 : ¬ aJ (aNs c D i.toNat (bump s1_v)) i := fun z => h223 (by rw [e43]; exact bI_ne.mpr z)
                          refine zx_go (pc1 := 228) (l1 := [some (zr 32), some (zi k), some (zi i), o3_v, o4_v]) (st1 := [zi i, zr 32]) (w1 := wr c R5) g_X6_run 2 _ _ _ _ rfl ?_
                          refine gx_cvU (As := [zi i]) (rest := []) g_X6_run rfl g_X6_routeNet rfl rfl (Nat.le_of_ble_eq_true rfl) (Nat.le_of_ble_eq_true rfl) rfl (by decide) (m_routeNet hD ai5 (by omega) i0_v (by omega) nw1 nw2 ms5 mc5) (fun R228 hR228 => ?_)
                          refine zx_go (pc1 := 200) (l1 := [some (zr 32), some (zi k), some (zi (i + 1)), o3_v, o4_v]) (st1 := []) (w1 := wr c R228) g_X6_run 2 _ _ _ _ rfl ?_
                          refine ih200 (Int.toNat (D 10 0 - (i + 1))) (by omega) (i + 1) R228 o3_v o4_v (by omega) ?_
                          refine ⟨by omega, by omega, mf5.trans hR228.1, ?_⟩
                          rw [aNs_go i0_v, cI_f (fun z => z.elim nw1 nw2)]
                          exact hR228.2
                  refine lp200 (Int.toNat (D 10 0 - 0)) 0 (zU R4 32 22 ((R4 32 22) + 1)) o3_v o4_v (by omega) ?_
                  have mfb : MF R4 (zU R4 32 22 (R4 32 22 + 1)) := ⟨fun a _ hb_v => zU_cell hb_v, fun j a _ _ => zU_at a⟩
                  refine ⟨by omega, by omega, mf4.trans mfb, ms4.of (ms4.1.mf mfb) (fun a h1 h2 => zU_cell (by omega)), ?_, ?_, ?_⟩
                  · rw [zU_same, mc4.1]; rfl
                  · rw [zU_at (by decide)]; exact mc4.2.1
                  · rw [zU_at (by decide)]; exact mc4.2.2
            refine lp173 (Int.toNat (k - R6 32 22)) R6 (some (zi n)) o3_v o4_v (by omega) ?_
            exact ⟨s0 c D, ms6, mc6, MF.rf, s0_AI hD, Int.le_refl 0, k0, by rw [show aN (s0 c D) = 0 from rfl, Int.sub_zero]⟩
          · refine zx_go (pc1 := 68) (l1 := [some (zr 32), some (zi k), some (zi n), some (zi 0), some (zi 0)]) (st1 := []) (w1 := wr c R3) g_X6_run 4 _ _ _ _ rfl ?_
            have lp68 : ∀ (it : Nat) (mn_v : Int) (j : Int), (it : Int) = D 10 2 - j → (0 ≤ j ∧ j ≤ D 10 2 ∧ mn_v = cnt (fun k => D 11 k = n) j.toNat) → ZX m_X6_run 68 [some (zr 32), some (zi k), some (zi n), some (zi mn_v), some (zi j)] [] (wr c R3) (gR (fun v R2 => v = D 10 0 - cnt (aJ (aRun c D k)) (D 10 0).toNat ∧ (∀ a, a ≤ 40 → a ≠ 32 → R2 a = R a) ∧ (∀ j, j ≠ 0 → j ≠ 14 → j ≠ 22 → j ≠ 23 → j ≠ 24 → R2 32 j = R 32 j) ∧ R2 32 0 = 0 ∧ R2 32 14 = 1 ∧ MS0 c D (aRun c D k) R2 ∧ MC (aRun c D k) R2) c) := by
              refine fun it => Nat.strongRecOn it (fun it ih68 => ?_)
              intro mn_v j hn68 hi68
              obtain ⟨j0, j1, emn⟩ := hi68
              have cRn := cnt_R (fun k => D 11 k = n) j.toNat
              have cgn := cnt_go (P := fun k => D 11 k = n) j0
              refine zx_go (pc1 := 74) (l1 := [some (zr 32), some (zi k), some (zi n), some (zi mn_v), some (zi j)]) (st1 := [zi (R3 32 10), zi j]) (w1 := wr c R3) g_X6_run 3 _ _ _ _ rfl ?_
              refine zx_cmp g_X6_run rfl (by omega) (by omega) (fun (h74 : (R3 32 10) ≤ j) => ?_) (fun (h74 : ¬ ((R3 32 10) ≤ j)) => ?_)
              · have ej : j = D 10 2 := by omega
                rw [ej] at emn cRn
                refine zx_go (pc1 := 104) (l1 := [some (zr 32), some (zi k), some (zi n), some (zi mn_v), some (zi j)]) (st1 := [zi n, zr 32]) (w1 := wr c R3) g_X6_run 2 _ _ _ _ rfl ?_
                refine gx_cvU (As := [zi n]) (rest := []) g_X6_run rfl g_X6_dropRoute rfl rfl (Nat.le_of_ble_eq_true rfl) (Nat.le_of_ble_eq_true rfl) rfl (by decide) (m_dropRoute hg n0_v (by omega)) (fun R104 hR104 => ?_)
                have c42 : R104 42 n = bI (clo c D n) := by rw [hR104, ch_f (fun z => absurd z.1 (by decide)), fr3 42 (by decide) (by decide) (by decide) (by decide), fr2 42 (by decide)]; exact hR27.2.2 n n0_v (by omega)
                have c01 := bI_01 (clo c D n)
                refine zx_go (pc1 := 117) (l1 := [some (zr 32), some (zi k), some (zi n), some (zi mn_v), some (zi j)]) (st1 := [zi n, zr 42, zi n, zr 43]) (w1 := wr c R104) g_X6_run 6 _ _ _ _ rfl ?_
                refine gz_bald g_X6_run rfl (n := 16) rfl (by decide) rfl (by decide) (by omega) (by omega) ?_
                refine zx_if g_X6_run rfl (by omega) (fun (h118 : (R104 42 n) ≠ 0) => ?_) (fun (h118 : ¬ (R104 42 n) ≠ 0) => ?_)
                · refine zx_go (pc1 := 131) (l1 := [some (zr 32), some (zi k), some (zi n), some (zi mn_v), some (zi j)]) (st1 := [zi 0, zi n, zr 43]) (w1 := wr c R104) g_X6_run 1 _ _ _ _ rfl ?_
                  refine gz_bast g_X6_run rfl (n := 16) rfl (by decide) (by refine ⟨?_, ?_, ?_, ?_, ?_⟩ <;> simp) (by decide) (by omega) (by omega) (.inl rfl) ?_
                  have z42_v : (zU R104 43 n 0) 42 n = R104 42 n := zU_cell' (by decide)
                  refine zx_go (pc1 := 142) (l1 := [some (zr 32), some (zi k), some (zi n), some (zi mn_v), some (zi j)]) (st1 := [zi n, zr 42, zi n, zr 44]) (w1 := wr c (zU R104 43 n 0)) g_X6_run 6 _ _ _ _ rfl ?_
                  refine gz_bald g_X6_run rfl (n := 16) rfl (by decide) rfl (by decide) (by omega) (by omega) ?_
                  refine zx_if g_X6_run rfl (by omega) (fun (h143 : ((zU R104 43 n 0) 42 n) = 0) => ?_) (fun (h143 : ¬ ((zU R104 43 n 0) 42 n) = 0) => ?_)
                  · exact absurd h143 (by omega)
                  · refine zx_go (pc1 := 151) (l1 := [some (zr 32), some (zi k), some (zi n), some (zi mn_v), some (zi j)]) (st1 := [zi 1, zi n, zr 44]) (w1 := wr c (zU R104 43 n 0)) g_X6_run 2 _ _ _ _ rfl ?_
                    refine gz_iast g_X6_run rfl (n := 16) rfl (by decide) (by refine ⟨?_, ?_, ?_, ?_, ?_⟩ <;> simp) (by decide) (by omega) (by omega) ?_
                    refine zx_go (pc1 := 55) (l1 := [some (zr 32), some (zi k), some (zi (n + 1)), some (zi mn_v), some (zi j)]) (st1 := []) (w1 := wr c (zU (zU R104 43 n 0) 44 n 1)) g_X6_run 2 _ _ _ _ rfl ?_
                    refine ih55 (Int.toNat (D 10 0 - (n + 1))) (by omega) (n + 1) (zU (zU R104 43 n 0) 44 n 1) (some (zi mn_v)) (some (zi j)) (by omega) ?_
                    subst hR104
                    refine ⟨by omega, by omega, fun a h1 h2 h3 h4 => ?_, fun b b0 b1 => ⟨fun q hq => ?_, ?_, ?_⟩⟩
                    · rw [zU_cell h2, zU_cell h1]
                      funext j
                      rw [ch_f (fun z => z.1.elim h3 h4), fr3 a h1 h2 h3 h4]
                    · have q0 := hq.1
                      have q1_v := hq.2
                      rw [zU_cell (by decide), zU_cell (by decide), zU_cell (by decide), zU_cell (by decide)]
                      by_cases y : b = n
                      · rw [y, ch_t ⟨.inl rfl, by omega, by omega⟩, ch_t ⟨.inr rfl, by omega, by omega⟩]
                        exact ⟨rfl, rfl⟩
                      · rw [ch_f (fun z => by omega), ch_f (fun z => by omega)]
                        exact (z3 b b0 (by omega)).1 q hq
                    · rw [zU_cell (by decide), zU_row]
                      by_cases y : b = n
                      · rw [y, up1_s]
                        exact (bI_f (fun z => z.2.2.1 (bI_ne.mp (by rw [← c42]; exact h118)))).symm
                      · rw [up1_n y, ch_f (fun z => absurd z.1 (by decide))]
                        exact (z3 b b0 (by omega)).2.1
                    · rw [zU_row, zU_cell (by decide)]
                      by_cases y : b = n
                      · rw [y, up1_s]
                        rw [pI_t (bI_ne.mp (by rw [← c42, ← z42_v]; exact h143))]
                      · rw [up1_n y, ch_f (fun z => absurd z.1 (by decide))]
                        exact (z3 b b0 (by omega)).2.2
                · refine zx_go (pc1 := 123) (l1 := [some (zr 32), some (zi k), some (zi n), some (zi mn_v), some (zi j)]) (st1 := [zi 2, zi mn_v, zi n, zr 43]) (w1 := wr c R104) g_X6_run 2 _ _ _ _ rfl ?_
                  refine zx_cmp g_X6_run rfl (by omega) (by decide) (fun (h123 : 2 ≤ mn_v) => ?_) (fun (h123 : ¬ (2 ≤ mn_v)) => ?_)
                  · refine zx_go (pc1 := 131) (l1 := [some (zr 32), some (zi k), some (zi n), some (zi mn_v), some (zi j)]) (st1 := [zi 0, zi n, zr 43]) (w1 := wr c R104) g_X6_run 1 _ _ _ _ rfl ?_
                    refine gz_bast g_X6_run rfl (n := 16) rfl (by decide) (by refine ⟨?_, ?_, ?_, ?_, ?_⟩ <;> simp) (by decide) (by omega) (by omega) (.inl rfl) ?_
                    have z42_v : (zU R104 43 n 0) 42 n = R104 42 n := zU_cell' (by decide)
                    refine zx_go (pc1 := 142) (l1 := [some (zr 32), some (zi k), some (zi n), some (zi mn_v), some (zi j)]) (st1 := [zi n, zr 42, zi n, zr 44]) (w1 := wr c (zU R104 43 n 0)) g_X6_run 6 _ _ _ _ rfl ?_
                    refine gz_bald g_X6_run rfl (n := 16) rfl (by decide) rfl (by decide) (by omega) (by omega) ?_
                    refine zx_if g_X6_run rfl (by omega) (fun (h143 : ((zU R104 43 n 0) 42 n) = 0) => ?_) (fun (h143 : ¬ ((zU R104 43 n 0) 42 n) = 0) => ?_)
                    · refine zx_go (pc1 := 151) (l1 := [some (zr 32), some (zi k), some (zi n), some (zi mn_v), some (zi j)]) (st1 := [zi 3, zi n, zr 44]) (w1 := wr c (zU R104 43 n 0)) g_X6_run 1 _ _ _ _ rfl ?_
                      refine gz_iast g_X6_run rfl (n := 16) rfl (by decide) (by refine ⟨?_, ?_, ?_, ?_, ?_⟩ <;> simp) (by decide) (by omega) (by omega) ?_
                      refine zx_go (pc1 := 55) (l1 := [some (zr 32), some (zi k), some (zi (n + 1)), some (zi mn_v), some (zi j)]) (st1 := []) (w1 := wr c (zU (zU R104 43 n 0) 44 n 3)) g_X6_run 2 _ _ _ _ rfl ?_
                      refine ih55 (Int.toNat (D 10 0 - (n + 1))) (by omega) (n + 1) (zU (zU R104 43 n 0) 44 n 3) (some (zi mn_v)) (some (zi j)) (by omega) ?_
                      subst hR104
                      refine ⟨by omega, by omega, fun a h1 h2 h3 h4 => ?_, fun b b0 b1 => ⟨fun q hq => ?_, ?_, ?_⟩⟩
                      · rw [zU_cell h2, zU_cell h1]
                        funext j
                        rw [ch_f (fun z => z.1.elim h3 h4), fr3 a h1 h2 h3 h4]
                      · have q0 := hq.1
                        have q1_v := hq.2
                        rw [zU_cell (by decide), zU_cell (by decide), zU_cell (by decide), zU_cell (by decide)]
                        by_cases y : b = n
                        · rw [y, ch_t ⟨.inl rfl, by omega, by omega⟩, ch_t ⟨.inr rfl, by omega, by omega⟩]
                          exact ⟨rfl, rfl⟩
                        · rw [ch_f (fun z => by omega), ch_f (fun z => by omega)]
                          exact (z3 b b0 (by omega)).1 q hq
                      · rw [zU_cell (by decide), zU_row]
                        by_cases y : b = n
                        · rw [y, up1_s]
                          refine (bI_f (fun z => ?_)).symm
                          have z4 := z.2.2.2
                          omega
                        · rw [up1_n y, ch_f (fun z => absurd z.1 (by decide))]
                          exact (z3 b b0 (by omega)).2.1
                      · rw [zU_row, zU_cell (by decide)]
                        by_cases y : b = n
                        · rw [y, up1_s]
                          rw [pI_f (fun z => bI_ne.mpr z (by rw [← c42, ← z42_v]; exact h143))]
                        · rw [up1_n y, ch_f (fun z => absurd z.1 (by decide))]
                          exact (z3 b b0 (by omega)).2.2
                    · exact absurd h143 (by omega)
                  · refine zx_go (pc1 := 131) (l1 := [some (zr 32), some (zi k), some (zi n), some (zi mn_v), some (zi j)]) (st1 := [zi 1, zi n, zr 43]) (w1 := wr c R104) g_X6_run 2 _ _ _ _ rfl ?_
                    refine gz_bast g_X6_run rfl (n := 16) rfl (by decide) (by refine ⟨?_, ?_, ?_, ?_, ?_⟩ <;> simp) (by decide) (by omega) (by omega) (.inr rfl) ?_
                    have z42_v : (zU R104 43 n 1) 42 n = R104 42 n := zU_cell' (by decide)
                    refine zx_go (pc1 := 142) (l1 := [some (zr 32), some (zi k), some (zi n), some (zi mn_v), some (zi j)]) (st1 := [zi n, zr 42, zi n, zr 44]) (w1 := wr c (zU R104 43 n 1)) g_X6_run 6 _ _ _ _ rfl ?_
                    refine gz_bald g_X6_run rfl (n := 16) rfl (by decide) rfl (by decide) (by omega) (by omega) ?_
                    refine zx_if g_X6_run rfl (by omega) (fun (h143 : ((zU R104 43 n 1) 42 n) = 0) => ?_) (fun (h143 : ¬ ((zU R104 43 n 1) 42 n) = 0) => ?_)
                    · refine zx_go (pc1 := 151) (l1 := [some (zr 32), some (zi k), some (zi n), some (zi mn_v), some (zi j)]) (st1 := [zi 3, zi n, zr 44]) (w1 := wr c (zU R104 43 n 1)) g_X6_run 1 _ _ _ _ rfl ?_
                      refine gz_iast g_X6_run rfl (n := 16) rfl (by decide) (by refine ⟨?_, ?_, ?_, ?_, ?_⟩ <;> simp) (by decide) (by omega) (by omega) ?_
                      refine zx_go (pc1 := 55) (l1 := [some (zr 32), some (zi k), some (zi (n + 1)), some (zi mn_v), some (zi j)]) (st1 := []) (w1 := wr c (zU (zU R104 43 n 1) 44 n 3)) g_X6_run 2 _ _ _ _ rfl ?_
                      refine ih55 (Int.toNat (D 10 0 - (n + 1))) (by omega) (n + 1) (zU (zU R104 43 n 1) 44 n 3) (some (zi mn_v)) (some (zi j)) (by omega) ?_
                      subst hR104
                      refine ⟨by omega, by omega, fun a h1 h2 h3 h4 => ?_, fun b b0 b1 => ⟨fun q hq => ?_, ?_, ?_⟩⟩
                      · rw [zU_cell h2, zU_cell h1]
                        funext j
                        rw [ch_f (fun z => z.1.elim h3 h4), fr3 a h1 h2 h3 h4]
                      · have q0 := hq.1
                        have q1_v := hq.2
                        rw [zU_cell (by decide), zU_cell (by decide), zU_cell (by decide), zU_cell (by decide)]
                        by_cases y : b = n
                        · rw [y, ch_t ⟨.inl rfl, by omega, by omega⟩, ch_t ⟨.inr rfl, by omega, by omega⟩]
                          exact ⟨rfl, rfl⟩
                        · rw [ch_f (fun z => by omega), ch_f (fun z => by omega)]
                          exact (z3 b b0 (by omega)).1 q hq
                      · rw [zU_cell (by decide), zU_row]
                        by_cases y : b = n
                        · rw [y, up1_s]
                          exact (bI_t ⟨n0_v, by omega, fun z => h118 (by rw [c42]; exact bI_ne.mpr z), by omega⟩).symm
                        · rw [up1_n y, ch_f (fun z => absurd z.1 (by decide))]
                          exact (z3 b b0 (by omega)).2.1
                      · rw [zU_row, zU_cell (by decide)]
                        by_cases y : b = n
                        · rw [y, up1_s]
                          rw [pI_f (fun z => bI_ne.mpr z (by rw [← c42, ← z42_v]; exact h143))]
                        · rw [up1_n y, ch_f (fun z => absurd z.1 (by decide))]
                          exact (z3 b b0 (by omega)).2.2
                    · exact absurd h143 (by omega)
              · have e38 : R3 38 j = D 11 j := by rw [fr3 38 (by decide) (by decide) (by decide) (by decide), fr2 38 (by decide), hR27.1 38 (by decide) (by decide), f9_v 38 (by decide)]; exact (hm.2.2.2.1 j j0 (by omega)).1
                have nnj := hD.2.2.2.2.2.2.1 j j0 (by omega)
                refine zx_go (pc1 := 84) (l1 := [some (zr 32), some (zi k), some (zi n), some (zi mn_v), some (zi j)]) (st1 := [zi j, zr 38, zi mn_v]) (w1 := wr c R3) g_X6_run 4 _ _ _ _ rfl ?_
                refine gz_iald g_X6_run rfl (n := 40) rfl (by decide) rfl (by decide) (by omega) (by omega) ?_
                refine zx_go (pc1 := 86) (l1 := [some (zr 32), some (zi k), some (zi n), some (zi mn_v), some (zi j)]) (st1 := [zi n, zi (R3 38 j), zi mn_v]) (w1 := wr c R3) g_X6_run 1 _ _ _ _ rfl ?_
                refine zx_cmp g_X6_run rfl (by omega) (by omega) (fun (h86 : (R3 38 j) ≠ n) => ?_) (fun (h86 : ¬ ((R3 38 j) ≠ n)) => ?_)
                · refine zx_go (pc1 := 68) (l1 := [some (zr 32), some (zi k), some (zi n), some (zi (mn_v + 0)), some (zi (j + 1))]) (st1 := []) (w1 := wr c R3) g_X6_run 5 _ _ _ _ rfl ?_
                  refine ih68 (Int.toNat (D 10 2 - (j + 1))) (by omega) (mn_v + 0) (j + 1) (by omega) ?_
                  refine ⟨by omega, by omega, ?_⟩
                  rw [cgn, emn]
                  rw [bI_f (show ¬ D 11 j = n by rw [← e38]; exact h86)]
                · refine zx_go (pc1 := 68) (l1 := [some (zr 32), some (zi k), some (zi n), some (zi (mn_v + 1)), some (zi (j + 1))]) (st1 := []) (w1 := wr c R3) g_X6_run 6 _ _ _ _ rfl ?_
                  refine ih68 (Int.toNat (D 10 2 - (j + 1))) (by omega) (mn_v + 1) (j + 1) (by omega) ?_
                  refine ⟨by omega, by omega, ?_⟩
                  rw [cgn, emn]
                  rw [bI_t (show D 11 j = n by rw [← e38]; exact Classical.not_not.mp h86)]
            refine lp68 (Int.toNat (D 10 2 - 0)) 0 0 (by omega) ?_
            exact ⟨by omega, by omega, rfl⟩
        refine lp55 (Int.toNat (D 10 0 - 0)) 0 R2 none none (by omega) ?_
        exact ⟨by omega, by omega, fun _ _ _ _ _ => rfl, fun b a d => by omega⟩
      · refine zx_go (pc1 := 46) (l1 := [some (zr 32), some (zi k), some (zi i), none, none]) (st1 := [zi 0, zi i, zr 45]) (w1 := wr c R2) g_X6_run 4 _ _ _ _ rfl ?_
        refine gz_iast g_X6_run rfl (n := 1728) rfl (by decide) (by refine ⟨?_, ?_, ?_, ?_, ?_⟩ <;> simp) (by decide) (by omega) (by omega) ?_
        refine zx_go (pc1 := 32) (l1 := [some (zr 32), some (zi k), some (zi (i + 1)), none, none]) (st1 := []) (w1 := wr c (zU R2 45 i 0)) g_X6_run 2 _ _ _ _ rfl ?_
        refine ih32 (Int.toNat ((cS c : Int) - (i + 1))) (by omega) (i + 1) (zU R2 45 i 0) (by omega) ?_
        refine ⟨by omega, by omega, fun a ha_v => by rw [zU_cell ha_v]; exact fr2 a ha_v, fun p a b => ?_⟩
        rw [zU_row]
        by_cases y : p = i
        · rw [y, up1_s]
        · rw [up1_n y]; exact z2 p a (by omega)
    refine lp32 (Int.toNat ((cS c : Int) - 0)) 0 R27 (by omega) ?_
    exact ⟨by omega, by omega, fun _ _ => rfl, fun p a b => by omega⟩

set_option maxHeartbeats 1000000 in
theorem m_runF {c : zC} {R : zI} {k : Int} (kr : inR k) (hk : ¬ (0 ≤ k ∧ k ≤ 8)) : MZ m_X6_run [zr 32, zi k] (wr c R) (gR (fun v R2 => v = 0 ∧ R2 = zU R 32 0 1) c) := by
  refine MZ.of g_X6_run ?_
  show ZX m_X6_run 0 [some (zr 32), some (zi k), none, none, none] [] (wr c R) _
  refine zx_go (pc1 := 2) (l1 := [some (zr 32), some (zi k), none, none, none]) (st1 := [zi k, zr 32]) (w1 := wr c R) g_X6_run 2 _ _ _ _ rfl ?_
  refine zx_i2l g_X6_run rfl (by omega) ?_
  refine zx_go (pc1 := 7) (l1 := [some (zr 32), some (zi k), none, none, none]) (st1 := [zl 8, zl 0, zl k, zr 32]) (w1 := wr c R) g_X6_run 2 _ _ _ _ rfl ?_
  refine zx_csF (As := [zl k, zl 0, zl 8]) (rest := [zr 32]) g_X6_run rfl g_X6_isIn rfl rfl (Nat.le_of_ble_eq_true rfl) (Nat.le_of_ble_eq_true rfl) (m_isIn (by omega) (by omega) (by omega)) ?_
  refine zx_ifeq g_X6_run rfl (fun (h10 : ¬ (0 ≤ k ∧ k ≤ 8)) => ?_) (fun (h10 : (0 ≤ k ∧ k ≤ 8)) => ?_)
  · refine zx_go (pc1 := 18) (l1 := [some (zr 32), some (zi k), none, none, none]) (st1 := [zi 1, zr 32]) (w1 := wr c R) g_X6_run 1 _ _ _ _ rfl ?_
    refine gx_cvG (As := [zi 1]) (rest := []) g_X6_run rfl g_X6_refuses rfl rfl (Nat.le_of_ble_eq_true rfl) (Nat.le_of_ble_eq_true rfl) rfl (by decide) (m_ref (v := 1) (by decide) (bI_t (by decide))) ?_
    refine zx_ifF g_X6_run rfl (by decide) (show ¬ ((1 : Int) = 0) by decide) ?_
    refine zx_go (pc1 := 25) (l1 := [some (zr 32), some (zi k), none, none, none]) (st1 := [zi 0]) (w1 := wr c (zU R 32 0 1)) g_X6_run 1 _ _ _ _ rfl ?_
    refine zx_iret g_X6_run rfl (.inl rfl) ?_
    exact gR_i ⟨rfl, rfl⟩
  · exact absurd h10 hk

