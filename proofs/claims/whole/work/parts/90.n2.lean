/-! ===== the class's calls that change the input, and the run ===== -/
theorem aRs_AI {c : zC} {D : zI} (hD : DOK c D) : ∀ (k : Nat) (s : aS) (B : Int), AI c D s B → AI c D (aRs c D k s) (B + 640 * k)
  | 0, s, B, h => by
    rw [show B + 640 * ((0 : Nat) : Int) = B by omega]
    exact h
  | k + 1, s, B, h => by
    have n16 := hD.2.1
    unfold aRs
    by_cases q : wai c D s
    · rw [cI_t q]
      have a := aNs_AI hD (bump_AI h) (D 10 0).toNat (by omega)
      have b := AI.le (x := (fun _ => True, fun _ => True, aNs c D (D 10 0).toNat (bump s))) (B1 := B + 640) a (by omega)
      have d := aRs_AI hD k _ _ b
      rw [show B + 640 + 640 * (k : Int) = B + 640 * ((k + 1 : Nat) : Int) by omega] at d
      exact d
    · rw [cI_f q]
      exact AI.le (x := (fun _ => True, fun _ => True, s)) h (by omega)
theorem aRun_AI {c : zC} {D : zI} (hD : DOK c D) {k : Int} (k0 : 0 ≤ k) (k8 : k ≤ 8) : AI c D (aRun c D k) 5120 := by
  have a := aRs_AI hD k.toNat _ _ (s0_AI hD)
  exact AI.le (x := (fun _ => True, fun _ => True, aRun c D k)) a (by omega)
theorem zor_b {X Y : Prop} : zor (bI X) (bI Y) = bI (X ∨ Y) := by
  by_cases x : X
  · rw [bI_t (show X ∨ Y from .inl x), bI_t x]
    by_cases y : Y
    · rw [bI_t y]; decide
    · rw [bI_f y]; decide
  · by_cases y : Y
    · rw [bI_t (show X ∨ Y from .inr y), bI_f x, bI_t y]; decide
    · rw [bI_f (show ¬ (X ∨ Y) from fun z => z.elim x y), bI_f x, bI_f y]; decide

noncomputable def pI1 (P : Prop) (a b : Int → Int) : Int → Int := @ite (Int → Int) P (Classical.propDecidable P) a b
theorem pI1_t {P : Prop} {a b : Int → Int} (h : P) : pI1 P a b = a := @if_pos P (Classical.propDecidable P) h (Int → Int) a b
theorem pI1_f {P : Prop} {a b : Int → Int} (h : ¬ P) : pI1 P a b = b := @if_neg P (Classical.propDecidable P) h (Int → Int) a b

set_option maxHeartbeats 1000000 in
theorem s_needLayer {c : zC} {R : zI} {z : Int} (hg : Geo c) (zr1 : inR z) : MZ m_X5_needLayer [zr 1, zi z] (wr c R) (qN (0 ≤ z ∧ z < cLa c) 0 (wr c R)) := by
  refine MZ.of g_X5_needLayer ?_
  show ZX m_X5_needLayer 0 [some (zr 1), some (zi z)] [] (wr c R) _
  have g2 := hg
  unfold Geo at g2
  refine zx_go (pc1 := 1) (l1 := [some (zr 1), some (zi z)]) (st1 := [zi z]) (w1 := wr c R) g_X5_needLayer 1 _ _ _ _ rfl ?_
  refine zx_if g_X5_needLayer rfl (by omega) (fun (h1 : z < 0) => ?_) (fun (h1 : ¬ z < 0) => ?_)
  · refine zx_throw g_X5_needLayer rfl rfl (Nat.le_of_ble_eq_true rfl) ?_
    exact .inr ⟨by omega, rfl, rfl⟩
  · refine zx_go (pc1 := 12) (l1 := [some (zr 1), some (zi z)]) (st1 := [zi (cLa c), zi z]) (w1 := wr c R) g_X5_needLayer 4 _ _ _ _ rfl ?_
    refine zx_cmp g_X5_needLayer rfl (by omega) (by omega) (fun (h12 : z < (cLa c)) => ?_) (fun (h12 : ¬ (z < (cLa c))) => ?_)
    · refine zx_vret g_X5_needLayer rfl ?_
      exact .inl ⟨by omega, rfl, rfl⟩
    · refine zx_throw g_X5_needLayer rfl rfl (Nat.le_of_ble_eq_true rfl) ?_
      exact .inr ⟨by omega, rfl, rfl⟩

set_option maxHeartbeats 1000000 in
theorem s_needPlace {c : zC} {R : zI} {z x y : Int} (hg : Geo c) (zr1 : inR z) (xr : inR64 x) (yr : inR64 y) : MZ m_X5_needPlace [zr 1, zi z, zl x, zl y] (wr c R) (qN ((0 ≤ z ∧ z < cLa c) ∧ (0 ≤ x ∧ x < cW c) ∧ (0 ≤ y ∧ y < cH c)) 0 (wr c R)) := by
  refine MZ.of g_X5_needPlace ?_
  show ZX m_X5_needPlace 0 [some (zr 1), some (zi z), some (zl x), none, some (zl y), none] [] (wr c R) _
  have g2 := hg
  unfold Geo at g2
  refine zx_go (pc1 := 2) (l1 := [some (zr 1), some (zi z), some (zl x), none, some (zl y), none]) (st1 := [zi z, zr 1]) (w1 := wr c R) g_X5_needPlace 2 _ _ _ _ rfl ?_
  refine zx_cvN (As := [zi z]) (rest := []) g_X5_needPlace rfl g_X5_needLayer rfl rfl (Nat.le_of_ble_eq_true rfl) (Nat.le_of_ble_eq_true rfl) rfl (by decide) (s_needLayer hg (by omega)) rfl (fun hN2 => ?_) (fun hY2 => ?_)
  · exact .inr ⟨by omega, rfl, rfl⟩
  · refine zx_go (pc1 := 7) (l1 := [some (zr 1), some (zi z), some (zl x), none, some (zl y), none]) (st1 := [zl 0, zl x]) (w1 := wr c R) g_X5_needPlace 2 _ _ _ _ rfl ?_
    refine zx_lcif g_X5_needPlace rfl rfl (by omega) (by decide) (fun (h7 : x < 0) => ?_) (fun (h7 : ¬ (x < 0)) => ?_)
    · refine zx_throw g_X5_needPlace rfl rfl (Nat.le_of_ble_eq_true rfl) ?_
      exact .inr ⟨by omega, rfl, rfl⟩
    · refine zx_go (pc1 := 19) (l1 := [some (zr 1), some (zi z), some (zl x), none, some (zl y), none]) (st1 := [zi (cW c), zl x]) (w1 := wr c R) g_X5_needPlace 4 _ _ _ _ rfl ?_
      refine zx_i2l g_X5_needPlace rfl (by omega) ?_
      refine zx_lcif g_X5_needPlace rfl rfl (by omega) (by omega) (fun (h20 : (cW c) ≤ x) => ?_) (fun (h20 : ¬ ((cW c) ≤ x)) => ?_)
      · refine zx_throw g_X5_needPlace rfl rfl (Nat.le_of_ble_eq_true rfl) ?_
        exact .inr ⟨by omega, rfl, rfl⟩
      · refine zx_go (pc1 := 27) (l1 := [some (zr 1), some (zi z), some (zl x), none, some (zl y), none]) (st1 := [zl 0, zl y]) (w1 := wr c R) g_X5_needPlace 2 _ _ _ _ rfl ?_
        refine zx_lcif g_X5_needPlace rfl rfl (by omega) (by decide) (fun (h27 : y < 0) => ?_) (fun (h27 : ¬ (y < 0)) => ?_)
        · refine zx_throw g_X5_needPlace rfl rfl (Nat.le_of_ble_eq_true rfl) ?_
          exact .inr ⟨by omega, rfl, rfl⟩
        · refine zx_go (pc1 := 40) (l1 := [some (zr 1), some (zi z), some (zl x), none, some (zl y), none]) (st1 := [zi (cH c), zl y]) (w1 := wr c R) g_X5_needPlace 4 _ _ _ _ rfl ?_
          refine zx_i2l g_X5_needPlace rfl (by omega) ?_
          refine zx_lcif g_X5_needPlace rfl rfl (by omega) (by omega) (fun (h41 : y < (cH c)) => ?_) (fun (h41 : ¬ (y < (cH c))) => ?_)
          · refine zx_vret g_X5_needPlace rfl ?_
            exact .inl ⟨by omega, rfl, rfl⟩
          · refine zx_throw g_X5_needPlace rfl rfl (Nat.le_of_ble_eq_true rfl) ?_
            exact .inr ⟨by omega, rfl, rfl⟩

set_option maxHeartbeats 1000000 in
theorem s_needNet {c : zC} {R : zI} {n : Int} (nr1 : inR n) (h0 : inR (R 10 0)) : MZ m_X5_needNet [zr 1, zi n] (wr c R) (qN (0 ≤ n ∧ n < R 10 0) 0 (wr c R)) := by
  refine MZ.of g_X5_needNet ?_
  show ZX m_X5_needNet 0 [some (zr 1), some (zi n)] [] (wr c R) _
  refine zx_go (pc1 := 1) (l1 := [some (zr 1), some (zi n)]) (st1 := [zi n]) (w1 := wr c R) g_X5_needNet 1 _ _ _ _ rfl ?_
  refine zx_if g_X5_needNet rfl (by omega) (fun (h1 : n < 0) => ?_) (fun (h1 : ¬ n < 0) => ?_)
  · refine zx_throw g_X5_needNet rfl rfl (Nat.le_of_ble_eq_true rfl) ?_
    exact .inr ⟨by omega, rfl, rfl⟩
  · refine zx_go (pc1 := 12) (l1 := [some (zr 1), some (zi n)]) (st1 := [zi (R 10 0), zi n]) (w1 := wr c R) g_X5_needNet 4 _ _ _ _ rfl ?_
    refine zx_cmp g_X5_needNet rfl (by omega) (by omega) (fun (h12 : n < (R 10 0)) => ?_) (fun (h12 : ¬ (n < (R 10 0))) => ?_)
    · refine zx_vret g_X5_needNet rfl ?_
      exact .inl ⟨by omega, rfl, rfl⟩
    · refine zx_throw g_X5_needNet rfl rfl (Nat.le_of_ble_eq_true rfl) ?_
      exact .inr ⟨by omega, rfl, rfl⟩

set_option maxHeartbeats 1000000 in
theorem s_needPin {c : zC} {R : zI} {n : Int} (nr1 : inR n) (h0 : inR (R 10 2)) : MZ m_X5_needPin [zr 1, zi n] (wr c R) (qN (0 ≤ n ∧ n < R 10 2) 0 (wr c R)) := by
  refine MZ.of g_X5_needPin ?_
  show ZX m_X5_needPin 0 [some (zr 1), some (zi n)] [] (wr c R) _
  refine zx_go (pc1 := 1) (l1 := [some (zr 1), some (zi n)]) (st1 := [zi n]) (w1 := wr c R) g_X5_needPin 1 _ _ _ _ rfl ?_
  refine zx_if g_X5_needPin rfl (by omega) (fun (h1 : n < 0) => ?_) (fun (h1 : ¬ n < 0) => ?_)
  · refine zx_throw g_X5_needPin rfl rfl (Nat.le_of_ble_eq_true rfl) ?_
    exact .inr ⟨by omega, rfl, rfl⟩
  · refine zx_go (pc1 := 12) (l1 := [some (zr 1), some (zi n)]) (st1 := [zi (R 10 2), zi n]) (w1 := wr c R) g_X5_needPin 4 _ _ _ _ rfl ?_
    refine zx_cmp g_X5_needPin rfl (by omega) (by omega) (fun (h12 : n < (R 10 2)) => ?_) (fun (h12 : ¬ (n < (R 10 2))) => ?_)
    · refine zx_vret g_X5_needPin rfl ?_
      exact .inl ⟨by omega, rfl, rfl⟩
    · refine zx_throw g_X5_needPin rfl rfl (Nat.le_of_ble_eq_true rfl) ?_
      exact .inr ⟨by omega, rfl, rfl⟩

set_option maxHeartbeats 1000000 in
theorem s_needWhat {c : zC} {R : zI} {n k : Int} (nr1 : inR n) (h0 : inR k) : MZ m_X5_needWhat [zr 1, zi n, zi k] (wr c R) (qN (0 ≤ n ∧ n < k) 0 (wr c R)) := by
  refine MZ.of g_X5_needWhat ?_
  show ZX m_X5_needWhat 0 [some (zr 1), some (zi n), some (zi k)] [] (wr c R) _
  refine zx_go (pc1 := 1) (l1 := [some (zr 1), some (zi n), some (zi k)]) (st1 := [zi n]) (w1 := wr c R) g_X5_needWhat 1 _ _ _ _ rfl ?_
  refine zx_if g_X5_needWhat rfl (by omega) (fun (h1 : n < 0) => ?_) (fun (h1 : ¬ n < 0) => ?_)
  · refine zx_throw g_X5_needWhat rfl rfl (Nat.le_of_ble_eq_true rfl) ?_
    exact .inr ⟨by omega, rfl, rfl⟩
  · refine zx_go (pc1 := 6) (l1 := [some (zr 1), some (zi n), some (zi k)]) (st1 := [zi k, zi n]) (w1 := wr c R) g_X5_needWhat 2 _ _ _ _ rfl ?_
    refine zx_cmp g_X5_needWhat rfl (by omega) (by omega) (fun (h6 : n < k) => ?_) (fun (h6 : ¬ (n < k)) => ?_)
    · refine zx_vret g_X5_needWhat rfl ?_
      exact .inl ⟨by omega, rfl, rfl⟩
    · refine zx_throw g_X5_needWhat rfl rfl (Nat.le_of_ble_eq_true rfl) ?_
      exact .inr ⟨by omega, rfl, rfl⟩

set_option maxHeartbeats 1000000 in
theorem s_needNotBelowZero {c : zC} {R : zI} {n : Int} (nr1 : inR n) : MZ m_X5_needNotBelowZero [zr 1, zi n] (wr c R) (qN (0 ≤ n) 0 (wr c R)) := by
  refine MZ.of g_X5_needNotBelowZero ?_
  show ZX m_X5_needNotBelowZero 0 [some (zr 1), some (zi n)] [] (wr c R) _
  refine zx_go (pc1 := 1) (l1 := [some (zr 1), some (zi n)]) (st1 := [zi n]) (w1 := wr c R) g_X5_needNotBelowZero 1 _ _ _ _ rfl ?_
  refine zx_if g_X5_needNotBelowZero rfl (by omega) (fun (h1 : 0 ≤ n) => ?_) (fun (h1 : ¬ 0 ≤ n) => ?_)
  · refine zx_vret g_X5_needNotBelowZero rfl ?_
    exact .inl ⟨by omega, rfl, rfl⟩
  · refine zx_throw g_X5_needNotBelowZero rfl rfl (Nat.le_of_ble_eq_true rfl) ?_
    exact .inr ⟨by omega, rfl, rfl⟩

set_option maxHeartbeats 1000000 in
theorem s_needRun {c : zC} {R : zI} (h0 : inR (R 1 3)) : MZ m_X5_needRun [zr 1] (wr c R) (qN (R 1 3 ≠ 0) 2 (wr c R)) := by
  refine MZ.of g_X5_needRun ?_
  show ZX m_X5_needRun 0 [some (zr 1)] [] (wr c R) _
  refine zx_go (pc1 := 4) (l1 := [some (zr 1)]) (st1 := [zi (R 1 3)]) (w1 := wr c R) g_X5_needRun 2 _ _ _ _ rfl ?_
  refine zx_if g_X5_needRun rfl (by omega) (fun (h4 : (R 1 3) ≠ 0) => ?_) (fun (h4 : ¬ (R 1 3) ≠ 0) => ?_)
  · refine zx_vret g_X5_needRun rfl ?_
    exact .inl ⟨h4, rfl, rfl⟩
  · refine zx_throw g_X5_needRun rfl rfl (Nat.le_of_ble_eq_true rfl) ?_
    exact .inr ⟨h4, rfl, rfl⟩

set_option maxHeartbeats 1000000 in
theorem s_rulesOf0 {c : zC} {R : zI}  : MZ m_X5_rulesOf [zr 1, zi 0] (wr c R) (qF (zr 3) (wr c R)) := by
  refine MZ.of g_X5_rulesOf ?_
  show ZX m_X5_rulesOf 0 [some (zr 1), some (zi 0)] [] (wr c R) _
  refine zx_go (pc1 := 1) (l1 := [some (zr 1), some (zi 0)]) (st1 := [zi 0]) (w1 := wr c R) g_X5_rulesOf 1 _ _ _ _ rfl ?_
  refine zx_swE g_X5_rulesOf rfl rfl (by decide) (t := 28) rfl ?_
  refine zx_go (pc1 := 35) (l1 := [some (zr 1), some (zi 0)]) (st1 := [zr 3]) (w1 := wr c R) g_X5_rulesOf 3 _ _ _ _ rfl ?_
  refine zx_aret g_X5_rulesOf rfl ?_
  exact ⟨rfl, rfl⟩

set_option maxHeartbeats 1000000 in
theorem s_rulesOf1 {c : zC} {R : zI}  : MZ m_X5_rulesOf [zr 1, zi 1] (wr c R) (qF (zr 4) (wr c R)) := by
  refine MZ.of g_X5_rulesOf ?_
  show ZX m_X5_rulesOf 0 [some (zr 1), some (zi 1)] [] (wr c R) _
  refine zx_go (pc1 := 1) (l1 := [some (zr 1), some (zi 1)]) (st1 := [zi 1]) (w1 := wr c R) g_X5_rulesOf 1 _ _ _ _ rfl ?_
  refine zx_swE g_X5_rulesOf rfl rfl (by decide) (t := 36) rfl ?_
  refine zx_go (pc1 := 43) (l1 := [some (zr 1), some (zi 1)]) (st1 := [zr 4]) (w1 := wr c R) g_X5_rulesOf 3 _ _ _ _ rfl ?_
  refine zx_aret g_X5_rulesOf rfl ?_
  exact ⟨rfl, rfl⟩

set_option maxHeartbeats 1000000 in
theorem s_rulesOf2 {c : zC} {R : zI}  : MZ m_X5_rulesOf [zr 1, zi 2] (wr c R) (qF (zr 5) (wr c R)) := by
  refine MZ.of g_X5_rulesOf ?_
  show ZX m_X5_rulesOf 0 [some (zr 1), some (zi 2)] [] (wr c R) _
  refine zx_go (pc1 := 1) (l1 := [some (zr 1), some (zi 2)]) (st1 := [zi 2]) (w1 := wr c R) g_X5_rulesOf 1 _ _ _ _ rfl ?_
  refine zx_swE g_X5_rulesOf rfl rfl (by decide) (t := 44) rfl ?_
  refine zx_go (pc1 := 51) (l1 := [some (zr 1), some (zi 2)]) (st1 := [zr 5]) (w1 := wr c R) g_X5_rulesOf 3 _ _ _ _ rfl ?_
  refine zx_aret g_X5_rulesOf rfl ?_
  exact ⟨rfl, rfl⟩

set_option maxHeartbeats 1000000 in
theorem s_rulesOfX {c : zC} {R : zI} {k : Int} (kr : inR k) (k0 : k ≠ 0) (k1 : k ≠ 1) (k2 : k ≠ 2) : MZ m_X5_rulesOf [zr 1, zi k] (wr c R) (qN False 1 (wr c R)) := by
  refine MZ.of g_X5_rulesOf ?_
  show ZX m_X5_rulesOf 0 [some (zr 1), some (zi k)] [] (wr c R) _
  refine zx_go (pc1 := 1) (l1 := [some (zr 1), some (zi k)]) (st1 := [zi k]) (w1 := wr c R) g_X5_rulesOf 1 _ _ _ _ rfl ?_
  by_cases h1_0 : k = 0
  · refine zx_swE g_X5_rulesOf rfl h1_0 (by decide) (t := 28) rfl ?_
    refine zx_go (pc1 := 35) (l1 := [some (zr 1), some (zi k)]) (st1 := [zr 3]) (w1 := wr c R) g_X5_rulesOf 3 _ _ _ _ rfl ?_
    refine zx_aret g_X5_rulesOf rfl ?_
    omega
  · skip
    by_cases h1_1 : k = 1
    · refine zx_swE g_X5_rulesOf rfl h1_1 (by decide) (t := 36) rfl ?_
      refine zx_go (pc1 := 43) (l1 := [some (zr 1), some (zi k)]) (st1 := [zr 4]) (w1 := wr c R) g_X5_rulesOf 3 _ _ _ _ rfl ?_
      refine zx_aret g_X5_rulesOf rfl ?_
      omega
    · skip
      by_cases h1_2 : k = 2
      · refine zx_swE g_X5_rulesOf rfl h1_2 (by decide) (t := 44) rfl ?_
        refine zx_go (pc1 := 51) (l1 := [some (zr 1), some (zi k)]) (st1 := [zr 5]) (w1 := wr c R) g_X5_rulesOf 3 _ _ _ _ rfl ?_
        refine zx_aret g_X5_rulesOf rfl ?_
        omega
      · skip
        refine zx_swD g_X5_rulesOf rfl (by omega) (by omega) (t := 52) rfl ?_
        refine zx_throw g_X5_rulesOf rfl rfl (Nat.le_of_ble_eq_true rfl) ?_
        exact .inr ⟨id, rfl, rfl⟩

set_option maxHeartbeats 1000000 in
theorem s_rule0 {c : zC} {R : zI} {z v : Int} (hg : Geo c) (zr1 : inR z) (vr : inR64 v) (hA : ∀ z, 0 ≤ z → z < 3 → inR (R 3 z)) : MZ m_X5_rule [zr 1, zi 0, zi z, zl v] (wr c R) (cP (cdv (¬ (0 ≤ z ∧ z < cLa c)) (¬ (0 ≤ v ∧ v ≤ 2))) exA (fun b R1 => b = bI (¬ R 3 z = v) ∧ R1 = pIR (R 3 z = v) R (zU (zU R 3 z v) 1 3 0)) c R) := by
  refine MZ.of g_X5_rule ?_
  show ZX m_X5_rule 0 [some (zr 1), some (zi 0), some (zi z), some (zl v), none, none, none, none, none, none] [] (wr c R) _
  have g2 := hg
  unfold Geo at g2
  refine zx_go (pc1 := 2) (l1 := [some (zr 1), some (zi 0), some (zi z), some (zl v), none, none, none, none, none, none]) (st1 := [zi z, zr 1]) (w1 := wr c R) g_X5_rule 2 _ _ _ _ rfl ?_
  refine zx_cvN (As := [zi z]) (rest := []) g_X5_rule rfl g_X5_needLayer rfl rfl (Nat.le_of_ble_eq_true rfl) (Nat.le_of_ble_eq_true rfl) rfl (by decide) (s_needLayer hg (by omega)) rfl (fun hN2 => ?_) (fun hY2 => ?_)
  · exact cP_1 (cdv1 (by omega)) rfl
  · refine zx_go (pc1 := 7) (l1 := [some (zr 1), some (zi 0), some (zi z), some (zl v), none, none, none, none, none, none]) (st1 := [zi 0, zr 1]) (w1 := wr c R) g_X5_rule 2 _ _ _ _ rfl ?_
    refine zx_cvF (As := [zi 0]) (rest := []) g_X5_rule rfl g_X5_rulesOf rfl rfl (Nat.le_of_ble_eq_true rfl) (Nat.le_of_ble_eq_true rfl) rfl (by decide) s_rulesOf0 ?_
    refine zx_go (pc1 := 14) (l1 := [some (zr 1), some (zi 0), some (zi z), some (zl v), none, some (zr 3), none, none, none, none]) (st1 := [zi 2, zi 0]) (w1 := wr c R) g_X5_rule 3 _ _ _ _ rfl ?_
    refine zx_cmp g_X5_rule rfl (by decide) (by decide) (fun _ => ?_) (fun (h14 : ¬ ((0 : Int) ≠ (2 : Int))) => absurd (show (0 : Int) ≠ (2 : Int) by decide) h14)
    refine zx_go (pc1 := 25) (l1 := [some (zr 1), some (zi 0), some (zi z), some (zl v), none, some (zr 3), some (zl 0), none, none, none]) (st1 := [zi 0]) (w1 := wr c R) g_X5_rule 3 _ _ _ _ rfl ?_
    refine zx_ifF g_X5_rule rfl (by decide) (show ¬ ((0 : Int) ≠ 0) by decide) ?_
    refine zx_go (pc1 := 42) (l1 := [some (zr 1), some (zi 0), some (zi z), some (zl v), none, some (zr 3), some (zl 0), none, some (zl 2), none]) (st1 := [zl 0, zl v]) (w1 := wr c R) g_X5_rule 5 _ _ _ _ rfl ?_
    refine zx_lcif g_X5_rule rfl rfl (by omega) (by decide) (fun (h42 : v < 0) => ?_) (fun (h42 : ¬ (v < 0)) => ?_)
    · refine zx_throw g_X5_rule rfl rfl (Nat.le_of_ble_eq_true rfl) ?_
      exact cP_2 (cdv2 (by omega) (by omega)) rfl
    · refine zx_go (pc1 := 49) (l1 := [some (zr 1), some (zi 0), some (zi z), some (zl v), none, some (zr 3), some (zl 0), none, some (zl 2), none]) (st1 := [zl 2, zl v]) (w1 := wr c R) g_X5_rule 2 _ _ _ _ rfl ?_
      refine zx_lcif g_X5_rule rfl rfl (by omega) (by decide) (fun (h49 : v ≤ 2) => ?_) (fun (h49 : ¬ (v ≤ 2)) => ?_)
      · have hA1 := hA z (by omega) (by omega)
        refine zx_go (pc1 := 66) (l1 := [some (zr 1), some (zi 0), some (zi z), some (zl v), none, some (zr 3), some (zl 0), none, some (zl 2), none]) (st1 := [zi z, zr 3]) (w1 := wr c R) g_X5_rule 2 _ _ _ _ rfl ?_
        refine gz_iald g_X5_rule rfl (n := 3) rfl (by decide) rfl (by decide) (by omega) (by omega) ?_
        refine zx_go (pc1 := 69) (l1 := [some (zr 1), some (zi 0), some (zi z), some (zl v), none, some (zr 3), some (zl 0), none, some (zl 2), none]) (st1 := [zi v, zi (R 3 z)]) (w1 := wr c R) g_X5_rule 2 _ _ _ _ rfl ?_
        refine zx_cmp g_X5_rule rfl (by omega) (by omega) (fun (h69 : (R 3 z) ≠ v) => ?_) (fun (h69 : ¬ ((R 3 z) ≠ v)) => ?_)
        · refine zx_go (pc1 := 79) (l1 := [some (zr 1), some (zi 0), some (zi z), some (zl v), none, some (zr 3), some (zl 0), none, some (zl 2), none]) (st1 := [zi v, zi z, zr 3]) (w1 := wr c R) g_X5_rule 4 _ _ _ _ rfl ?_
          refine gz_iast g_X5_rule rfl (n := 3) rfl (by decide) (by refine ⟨?_, ?_, ?_, ?_, ?_⟩ <;> simp) (by decide) (by omega) (by omega) ?_
          refine zx_go (pc1 := 82) (l1 := [some (zr 1), some (zi 0), some (zi z), some (zl v), none, some (zr 3), some (zl 0), none, some (zl 2), none]) (st1 := [zi 0, zr 1]) (w1 := wr c (zU R 3 z v)) g_X5_rule 2 _ _ _ _ rfl ?_
          refine gz_putb 3 g_X5_rule rfl rfl rfl (by decide) rfl (by refine ⟨?_, ?_, ?_, ?_, ?_⟩ <;> simp) (.inl rfl) ?_
          refine zx_go (pc1 := 86) (l1 := [some (zr 1), some (zi 0), some (zi z), some (zl v), none, some (zr 3), some (zl 0), none, some (zl 2), none]) (st1 := [zi 1]) (w1 := wr c (zU (zU R 3 z v) 1 3 0)) g_X5_rule 1 _ _ _ _ rfl ?_
          refine zx_iret g_X5_rule rfl (.inr (.inr rfl)) ?_
          refine cP_0 (cdv0 (by omega) (by omega)) ⟨(bI_t (by omega)).symm, ?_⟩
          rw [pIR_f (by omega)]
        · refine zx_go (pc1 := 73) (l1 := [some (zr 1), some (zi 0), some (zi z), some (zl v), none, some (zr 3), some (zl 0), none, some (zl 2), none]) (st1 := [zi 0]) (w1 := wr c R) g_X5_rule 1 _ _ _ _ rfl ?_
          refine zx_iret g_X5_rule rfl (.inr (.inl rfl)) ?_
          refine cP_0 (cdv0 (by omega) (by omega)) ⟨(bI_f (fun z => z (by omega))).symm, ?_⟩
          rw [pIR_t (by omega)]
      · refine zx_throw g_X5_rule rfl rfl (Nat.le_of_ble_eq_true rfl) ?_
        exact cP_2 (cdv2 (by omega) (by omega)) rfl

set_option maxHeartbeats 1000000 in
theorem s_rule1 {c : zC} {R : zI} {z v : Int} (hg : Geo c) (zr1 : inR z) (vr : inR64 v) (hA : ∀ z, 0 ≤ z → z < 3 → inR (R 4 z)) : MZ m_X5_rule [zr 1, zi 1, zi z, zl v] (wr c R) (cP (cdv (¬ (0 ≤ z ∧ z < cLa c)) (¬ (0 ≤ v ∧ v ≤ 50))) exA (fun b R1 => b = bI (¬ R 4 z = v) ∧ R1 = pIR (R 4 z = v) R (zU (zU R 4 z v) 1 3 0)) c R) := by
  refine MZ.of g_X5_rule ?_
  show ZX m_X5_rule 0 [some (zr 1), some (zi 1), some (zi z), some (zl v), none, none, none, none, none, none] [] (wr c R) _
  have g2 := hg
  unfold Geo at g2
  refine zx_go (pc1 := 2) (l1 := [some (zr 1), some (zi 1), some (zi z), some (zl v), none, none, none, none, none, none]) (st1 := [zi z, zr 1]) (w1 := wr c R) g_X5_rule 2 _ _ _ _ rfl ?_
  refine zx_cvN (As := [zi z]) (rest := []) g_X5_rule rfl g_X5_needLayer rfl rfl (Nat.le_of_ble_eq_true rfl) (Nat.le_of_ble_eq_true rfl) rfl (by decide) (s_needLayer hg (by omega)) rfl (fun hN2 => ?_) (fun hY2 => ?_)
  · exact cP_1 (cdv1 (by omega)) rfl
  · refine zx_go (pc1 := 7) (l1 := [some (zr 1), some (zi 1), some (zi z), some (zl v), none, none, none, none, none, none]) (st1 := [zi 1, zr 1]) (w1 := wr c R) g_X5_rule 2 _ _ _ _ rfl ?_
    refine zx_cvF (As := [zi 1]) (rest := []) g_X5_rule rfl g_X5_rulesOf rfl rfl (Nat.le_of_ble_eq_true rfl) (Nat.le_of_ble_eq_true rfl) rfl (by decide) s_rulesOf1 ?_
    refine zx_go (pc1 := 14) (l1 := [some (zr 1), some (zi 1), some (zi z), some (zl v), none, some (zr 4), none, none, none, none]) (st1 := [zi 2, zi 1]) (w1 := wr c R) g_X5_rule 3 _ _ _ _ rfl ?_
    refine zx_cmp g_X5_rule rfl (by decide) (by decide) (fun _ => ?_) (fun (h14 : ¬ ((1 : Int) ≠ (2 : Int))) => absurd (show (1 : Int) ≠ (2 : Int) by decide) h14)
    refine zx_go (pc1 := 25) (l1 := [some (zr 1), some (zi 1), some (zi z), some (zl v), none, some (zr 4), some (zl 0), none, none, none]) (st1 := [zi 1]) (w1 := wr c R) g_X5_rule 3 _ _ _ _ rfl ?_
    refine zx_ifT g_X5_rule rfl (by decide) (show ((1 : Int) ≠ 0) by decide) ?_
    refine zx_go (pc1 := 42) (l1 := [some (zr 1), some (zi 1), some (zi z), some (zl v), none, some (zr 4), some (zl 0), none, some (zl 50), none]) (st1 := [zl 0, zl v]) (w1 := wr c R) g_X5_rule 4 _ _ _ _ rfl ?_
    refine zx_lcif g_X5_rule rfl rfl (by omega) (by decide) (fun (h42 : v < 0) => ?_) (fun (h42 : ¬ (v < 0)) => ?_)
    · refine zx_throw g_X5_rule rfl rfl (Nat.le_of_ble_eq_true rfl) ?_
      exact cP_2 (cdv2 (by omega) (by omega)) rfl
    · refine zx_go (pc1 := 49) (l1 := [some (zr 1), some (zi 1), some (zi z), some (zl v), none, some (zr 4), some (zl 0), none, some (zl 50), none]) (st1 := [zl 50, zl v]) (w1 := wr c R) g_X5_rule 2 _ _ _ _ rfl ?_
      refine zx_lcif g_X5_rule rfl rfl (by omega) (by decide) (fun (h49 : v ≤ 50) => ?_) (fun (h49 : ¬ (v ≤ 50)) => ?_)
      · have hA1 := hA z (by omega) (by omega)
        refine zx_go (pc1 := 66) (l1 := [some (zr 1), some (zi 1), some (zi z), some (zl v), none, some (zr 4), some (zl 0), none, some (zl 50), none]) (st1 := [zi z, zr 4]) (w1 := wr c R) g_X5_rule 2 _ _ _ _ rfl ?_
        refine gz_iald g_X5_rule rfl (n := 3) rfl (by decide) rfl (by decide) (by omega) (by omega) ?_
        refine zx_go (pc1 := 69) (l1 := [some (zr 1), some (zi 1), some (zi z), some (zl v), none, some (zr 4), some (zl 0), none, some (zl 50), none]) (st1 := [zi v, zi (R 4 z)]) (w1 := wr c R) g_X5_rule 2 _ _ _ _ rfl ?_
        refine zx_cmp g_X5_rule rfl (by omega) (by omega) (fun (h69 : (R 4 z) ≠ v) => ?_) (fun (h69 : ¬ ((R 4 z) ≠ v)) => ?_)
        · refine zx_go (pc1 := 79) (l1 := [some (zr 1), some (zi 1), some (zi z), some (zl v), none, some (zr 4), some (zl 0), none, some (zl 50), none]) (st1 := [zi v, zi z, zr 4]) (w1 := wr c R) g_X5_rule 4 _ _ _ _ rfl ?_
          refine gz_iast g_X5_rule rfl (n := 3) rfl (by decide) (by refine ⟨?_, ?_, ?_, ?_, ?_⟩ <;> simp) (by decide) (by omega) (by omega) ?_
          refine zx_go (pc1 := 82) (l1 := [some (zr 1), some (zi 1), some (zi z), some (zl v), none, some (zr 4), some (zl 0), none, some (zl 50), none]) (st1 := [zi 0, zr 1]) (w1 := wr c (zU R 4 z v)) g_X5_rule 2 _ _ _ _ rfl ?_
          refine gz_putb 3 g_X5_rule rfl rfl rfl (by decide) rfl (by refine ⟨?_, ?_, ?_, ?_, ?_⟩ <;> simp) (.inl rfl) ?_
          refine zx_go (pc1 := 86) (l1 := [some (zr 1), some (zi 1), some (zi z), some (zl v), none, some (zr 4), some (zl 0), none, some (zl 50), none]) (st1 := [zi 1]) (w1 := wr c (zU (zU R 4 z v) 1 3 0)) g_X5_rule 1 _ _ _ _ rfl ?_
          refine zx_iret g_X5_rule rfl (.inr (.inr rfl)) ?_
          refine cP_0 (cdv0 (by omega) (by omega)) ⟨(bI_t (by omega)).symm, ?_⟩
          rw [pIR_f (by omega)]
        · refine zx_go (pc1 := 73) (l1 := [some (zr 1), some (zi 1), some (zi z), some (zl v), none, some (zr 4), some (zl 0), none, some (zl 50), none]) (st1 := [zi 0]) (w1 := wr c R) g_X5_rule 1 _ _ _ _ rfl ?_
          refine zx_iret g_X5_rule rfl (.inr (.inl rfl)) ?_
          refine cP_0 (cdv0 (by omega) (by omega)) ⟨(bI_f (fun z => z (by omega))).symm, ?_⟩
          rw [pIR_t (by omega)]
      · refine zx_throw g_X5_rule rfl rfl (Nat.le_of_ble_eq_true rfl) ?_
        exact cP_2 (cdv2 (by omega) (by omega)) rfl

set_option maxHeartbeats 1000000 in
theorem s_rule2 {c : zC} {R : zI} {z v : Int} (hg : Geo c) (zr1 : inR z) (vr : inR64 v) (hA : ∀ z, 0 ≤ z → z < 3 → inR (R 5 z)) : MZ m_X5_rule [zr 1, zi 2, zi z, zl v] (wr c R) (cP (cdv (¬ (0 ≤ z ∧ z < cLa c)) (¬ (1 ≤ v ∧ v ≤ 50))) exA (fun b R1 => b = bI (¬ R 5 z = v) ∧ R1 = pIR (R 5 z = v) R (zU (zU R 5 z v) 1 3 0)) c R) := by
  refine MZ.of g_X5_rule ?_
  show ZX m_X5_rule 0 [some (zr 1), some (zi 2), some (zi z), some (zl v), none, none, none, none, none, none] [] (wr c R) _
  have g2 := hg
  unfold Geo at g2
  refine zx_go (pc1 := 2) (l1 := [some (zr 1), some (zi 2), some (zi z), some (zl v), none, none, none, none, none, none]) (st1 := [zi z, zr 1]) (w1 := wr c R) g_X5_rule 2 _ _ _ _ rfl ?_
  refine zx_cvN (As := [zi z]) (rest := []) g_X5_rule rfl g_X5_needLayer rfl rfl (Nat.le_of_ble_eq_true rfl) (Nat.le_of_ble_eq_true rfl) rfl (by decide) (s_needLayer hg (by omega)) rfl (fun hN2 => ?_) (fun hY2 => ?_)
  · exact cP_1 (cdv1 (by omega)) rfl
  · refine zx_go (pc1 := 7) (l1 := [some (zr 1), some (zi 2), some (zi z), some (zl v), none, none, none, none, none, none]) (st1 := [zi 2, zr 1]) (w1 := wr c R) g_X5_rule 2 _ _ _ _ rfl ?_
    refine zx_cvF (As := [zi 2]) (rest := []) g_X5_rule rfl g_X5_rulesOf rfl rfl (Nat.le_of_ble_eq_true rfl) (Nat.le_of_ble_eq_true rfl) rfl (by decide) s_rulesOf2 ?_
    refine zx_go (pc1 := 14) (l1 := [some (zr 1), some (zi 2), some (zi z), some (zl v), none, some (zr 5), none, none, none, none]) (st1 := [zi 2, zi 2]) (w1 := wr c R) g_X5_rule 3 _ _ _ _ rfl ?_
    refine zx_cmp g_X5_rule rfl (by decide) (by decide) (fun (h14 : (2 : Int) ≠ (2 : Int)) => absurd h14 (by decide)) (fun _ => ?_)
    refine zx_go (pc1 := 25) (l1 := [some (zr 1), some (zi 2), some (zi z), some (zl v), none, some (zr 5), some (zl 1), none, none, none]) (st1 := [zi 2]) (w1 := wr c R) g_X5_rule 4 _ _ _ _ rfl ?_
    refine zx_ifT g_X5_rule rfl (by decide) (show ((2 : Int) ≠ 0) by decide) ?_
    refine zx_go (pc1 := 42) (l1 := [some (zr 1), some (zi 2), some (zi z), some (zl v), none, some (zr 5), some (zl 1), none, some (zl 50), none]) (st1 := [zl 1, zl v]) (w1 := wr c R) g_X5_rule 4 _ _ _ _ rfl ?_
    refine zx_lcif g_X5_rule rfl rfl (by omega) (by decide) (fun (h42 : v < 1) => ?_) (fun (h42 : ¬ (v < 1)) => ?_)
    · refine zx_throw g_X5_rule rfl rfl (Nat.le_of_ble_eq_true rfl) ?_
      exact cP_2 (cdv2 (by omega) (by omega)) rfl
    · refine zx_go (pc1 := 49) (l1 := [some (zr 1), some (zi 2), some (zi z), some (zl v), none, some (zr 5), some (zl 1), none, some (zl 50), none]) (st1 := [zl 50, zl v]) (w1 := wr c R) g_X5_rule 2 _ _ _ _ rfl ?_
      refine zx_lcif g_X5_rule rfl rfl (by omega) (by decide) (fun (h49 : v ≤ 50) => ?_) (fun (h49 : ¬ (v ≤ 50)) => ?_)
      · have hA1 := hA z (by omega) (by omega)
        refine zx_go (pc1 := 66) (l1 := [some (zr 1), some (zi 2), some (zi z), some (zl v), none, some (zr 5), some (zl 1), none, some (zl 50), none]) (st1 := [zi z, zr 5]) (w1 := wr c R) g_X5_rule 2 _ _ _ _ rfl ?_
        refine gz_iald g_X5_rule rfl (n := 3) rfl (by decide) rfl (by decide) (by omega) (by omega) ?_
        refine zx_go (pc1 := 69) (l1 := [some (zr 1), some (zi 2), some (zi z), some (zl v), none, some (zr 5), some (zl 1), none, some (zl 50), none]) (st1 := [zi v, zi (R 5 z)]) (w1 := wr c R) g_X5_rule 2 _ _ _ _ rfl ?_
        refine zx_cmp g_X5_rule rfl (by omega) (by omega) (fun (h69 : (R 5 z) ≠ v) => ?_) (fun (h69 : ¬ ((R 5 z) ≠ v)) => ?_)
        · refine zx_go (pc1 := 79) (l1 := [some (zr 1), some (zi 2), some (zi z), some (zl v), none, some (zr 5), some (zl 1), none, some (zl 50), none]) (st1 := [zi v, zi z, zr 5]) (w1 := wr c R) g_X5_rule 4 _ _ _ _ rfl ?_
          refine gz_iast g_X5_rule rfl (n := 3) rfl (by decide) (by refine ⟨?_, ?_, ?_, ?_, ?_⟩ <;> simp) (by decide) (by omega) (by omega) ?_
          refine zx_go (pc1 := 82) (l1 := [some (zr 1), some (zi 2), some (zi z), some (zl v), none, some (zr 5), some (zl 1), none, some (zl 50), none]) (st1 := [zi 0, zr 1]) (w1 := wr c (zU R 5 z v)) g_X5_rule 2 _ _ _ _ rfl ?_
          refine gz_putb 3 g_X5_rule rfl rfl rfl (by decide) rfl (by refine ⟨?_, ?_, ?_, ?_, ?_⟩ <;> simp) (.inl rfl) ?_
          refine zx_go (pc1 := 86) (l1 := [some (zr 1), some (zi 2), some (zi z), some (zl v), none, some (zr 5), some (zl 1), none, some (zl 50), none]) (st1 := [zi 1]) (w1 := wr c (zU (zU R 5 z v) 1 3 0)) g_X5_rule 1 _ _ _ _ rfl ?_
          refine zx_iret g_X5_rule rfl (.inr (.inr rfl)) ?_
          refine cP_0 (cdv0 (by omega) (by omega)) ⟨(bI_t (by omega)).symm, ?_⟩
          rw [pIR_f (by omega)]
        · refine zx_go (pc1 := 73) (l1 := [some (zr 1), some (zi 2), some (zi z), some (zl v), none, some (zr 5), some (zl 1), none, some (zl 50), none]) (st1 := [zi 0]) (w1 := wr c R) g_X5_rule 1 _ _ _ _ rfl ?_
          refine zx_iret g_X5_rule rfl (.inr (.inl rfl)) ?_
          refine cP_0 (cdv0 (by omega) (by omega)) ⟨(bI_f (fun z => z (by omega))).symm, ?_⟩
          rw [pIR_t (by omega)]
      · refine zx_throw g_X5_rule rfl rfl (Nat.le_of_ble_eq_true rfl) ?_
        exact cP_2 (cdv2 (by omega) (by omega)) rfl

set_option maxHeartbeats 1000000 in
theorem s_ruleX {c : zC} {R : zI} {k z v : Int} (hg : Geo c) (kr : inR k) (zr1 : inR z) (vr : inR64 v) (k0 : k ≠ 0) (k1 : k ≠ 1) (k2 : k ≠ 2) : MZ m_X5_rule [zr 1, zi k, zi z, zl v] (wr c R) (cP (cdv (¬ (0 ≤ z ∧ z < cLa c)) True) exA (fun b R2 => False) c R) := by
  refine MZ.of g_X5_rule ?_
  show ZX m_X5_rule 0 [some (zr 1), some (zi k), some (zi z), some (zl v), none, none, none, none, none, none] [] (wr c R) _
  have g2 := hg
  unfold Geo at g2
  refine zx_go (pc1 := 2) (l1 := [some (zr 1), some (zi k), some (zi z), some (zl v), none, none, none, none, none, none]) (st1 := [zi z, zr 1]) (w1 := wr c R) g_X5_rule 2 _ _ _ _ rfl ?_
  refine zx_cvN (As := [zi z]) (rest := []) g_X5_rule rfl g_X5_needLayer rfl rfl (Nat.le_of_ble_eq_true rfl) (Nat.le_of_ble_eq_true rfl) rfl (by decide) (s_needLayer hg (by omega)) rfl (fun hN2 => ?_) (fun hY2 => ?_)
  · exact cP_1 (cdv1 (by omega)) rfl
  · refine zx_go (pc1 := 7) (l1 := [some (zr 1), some (zi k), some (zi z), some (zl v), none, none, none, none, none, none]) (st1 := [zi k, zr 1]) (w1 := wr c R) g_X5_rule 2 _ _ _ _ rfl ?_
    refine zx_cvN (As := [zi k]) (rest := []) g_X5_rule rfl g_X5_rulesOf rfl rfl (Nat.le_of_ble_eq_true rfl) (Nat.le_of_ble_eq_true rfl) rfl (by decide) (s_rulesOfX kr k0 k1 k2) rfl (fun hN7 => ?_) (fun hY7 => ?_)
    · exact cP_2 (cdv2 (by omega) trivial) rfl
    · exact hY7.elim

set_option maxHeartbeats 1000000 in
theorem s_net {c : zC} {R : zI} (h0 : 0 ≤ R 10 0) (h1 : R 10 0 ≤ 16) : MZ m_X5_net [zr 1] (wr c R) (cP (cdv (R 10 0 = 16) False) exC (fun b R1 => b = R 10 0 ∧ R1 = zU (zU R 1 3 0) 10 0 (R 10 0 + 1)) c R) := by
  refine MZ.of g_X5_net ?_
  show ZX m_X5_net 0 [some (zr 1)] [] (wr c R) _
  refine zx_go (pc1 := 9) (l1 := [some (zr 1)]) (st1 := [zi 16, zi (R 10 0)]) (w1 := wr c R) g_X5_net 4 _ _ _ _ rfl ?_
  refine zx_cmp g_X5_net rfl (by omega) (by decide) (fun (h9 : (R 10 0) < 16) => ?_) (fun (h9 : ¬ ((R 10 0) < 16)) => ?_)
  · refine zx_go (pc1 := 24) (l1 := [some (zr 1)]) (st1 := [zi 0, zr 1]) (w1 := wr c R) g_X5_net 2 _ _ _ _ rfl ?_
    refine gz_putb 3 g_X5_net rfl rfl rfl (by decide) rfl (by refine ⟨?_, ?_, ?_, ?_, ?_⟩ <;> simp) (.inl rfl) ?_
    refine zx_go (pc1 := 31) (l1 := [some (zr 1)]) (st1 := [zr 10]) (w1 := wr c (zU R 1 3 0)) g_X5_net 2 _ _ _ _ rfl ?_
    refine gx_cvG (As := []) (rest := []) g_X5_net rfl g_X0_addNet rfl rfl (Nat.le_of_ble_eq_true rfl) (Nat.le_of_ble_eq_true rfl) rfl (by decide) s_addNet ?_
    refine zx_iret g_X5_net rfl (.inl rfl) ?_
    refine cP_0 (cdv0 (by omega) id) ⟨?_, ?_⟩
    · rw [zU_cell' (by decide)]
    · rw [zU_cell' (by decide)]
  · refine zx_throw g_X5_net rfl rfl (Nat.le_of_ble_eq_true rfl) ?_
    exact cP_1 (cdv1 (by omega)) rfl

set_option maxHeartbeats 1000000 in
theorem s_pin {c : zC} {R : zI} {n : Int} (nr1 : inR n) (h0 : 0 ≤ R 10 0) (h1 : R 10 0 ≤ 16) (h2 : 0 ≤ R 10 2) (h3 : R 10 2 ≤ 40) : MZ m_X5_pin [zr 1, zi n] (wr c R) (cP (cdv (¬ (0 ≤ n ∧ n < R 10 0)) (R 10 2 = 40)) exB (fun b R1 => b = R 10 2 ∧ R1 = zU (zU (zU (zU R 1 3 0) 11 (R 10 2) n) 12 n (R 12 n + 1)) 10 2 (R 10 2 + 1)) c R) := by
  refine MZ.of g_X5_pin ?_
  show ZX m_X5_pin 0 [some (zr 1), some (zi n)] [] (wr c R) _
  refine zx_go (pc1 := 2) (l1 := [some (zr 1), some (zi n)]) (st1 := [zi n, zr 1]) (w1 := wr c R) g_X5_pin 2 _ _ _ _ rfl ?_
  refine zx_cvN (As := [zi n]) (rest := []) g_X5_pin rfl g_X5_needNet rfl rfl (Nat.le_of_ble_eq_true rfl) (Nat.le_of_ble_eq_true rfl) rfl (by decide) (s_needNet (by omega) (by omega)) rfl (fun hN2 => ?_) (fun hY2 => ?_)
  · exact cP_1 (cdv1 hN2) rfl
  · refine zx_go (pc1 := 14) (l1 := [some (zr 1), some (zi n)]) (st1 := [zi 40, zi (R 10 2)]) (w1 := wr c R) g_X5_pin 4 _ _ _ _ rfl ?_
    refine zx_cmp g_X5_pin rfl (by omega) (by decide) (fun (h14 : (R 10 2) < 40) => ?_) (fun (h14 : ¬ ((R 10 2) < 40)) => ?_)
    · refine zx_go (pc1 := 29) (l1 := [some (zr 1), some (zi n)]) (st1 := [zi 0, zr 1]) (w1 := wr c R) g_X5_pin 2 _ _ _ _ rfl ?_
      refine gz_putb 3 g_X5_pin rfl rfl rfl (by decide) rfl (by refine ⟨?_, ?_, ?_, ?_, ?_⟩ <;> simp) (.inl rfl) ?_
      refine zx_go (pc1 := 37) (l1 := [some (zr 1), some (zi n)]) (st1 := [zi n, zr 10]) (w1 := wr c (zU R 1 3 0)) g_X5_pin 3 _ _ _ _ rfl ?_
      refine gx_cvG (As := [zi n]) (rest := []) g_X5_pin rfl g_X0_addPin rfl rfl (Nat.le_of_ble_eq_true rfl) (Nat.le_of_ble_eq_true rfl) rfl (by decide) (s_addPin (by rw [zU_cell' (by decide)]; omega) (by rw [zU_cell' (by decide)]; omega) (by omega) (by omega)) ?_
      refine zx_iret g_X5_pin rfl (.inl rfl) ?_
      have e1_v : zU R 1 3 0 10 2 = R 10 2 := zU_cell' (by decide)
      have e2_v : zU R 1 3 0 12 n = R 12 n := zU_cell' (by decide)
      rw [e1_v, e2_v]
      exact cP_0 (cdv0 (fun z => z hY2) (by omega)) ⟨rfl, rfl⟩
    · refine zx_throw g_X5_pin rfl rfl (Nat.le_of_ble_eq_true rfl) ?_
      exact cP_2 (cdv2 (fun z => z hY2) (by omega)) rfl

set_option maxHeartbeats 1000000 in
theorem s_access {c : zC} {R : zI} {k z x y : Int} (hg : Geo c) (kr : inR k) (zr1 : inR z) (xr : inR64 x) (yr : inR64 y) (h2 : 0 ≤ R 10 2) (h3 : R 10 2 ≤ 40) (h4 : ∀ k, 0 ≤ k → k < 40 → 0 ≤ R 13 k ∧ R 13 k ≤ 4 ∧ ∀ i, 0 ≤ i → i < R 13 k → pls c (R 14 (k * 4 + i))) : MZ m_X5_access [zr 1, zi k, zi z, zl x, zl y] (wr c R) (cP (cdv (¬ (0 ≤ k ∧ k < R 10 2) ∨ ¬ ((0 ≤ z ∧ z < cLa c) ∧ (0 ≤ x ∧ x < cW c) ∧ (0 ≤ y ∧ y < cH c))) (R 13 k = 4)) exB (fun b R1 => b = bI (¬ (∃ i, 0 ≤ i ∧ i < R 13 k ∧ R 14 (k * 4 + i) = pl c z x y)) ∧ R1 = pIR (∃ i, 0 ≤ i ∧ i < R 13 k ∧ R 14 (k * 4 + i) = pl c z x y) R (zU (zU (zU R 14 (k * 4 + R 13 k) (pl c z x y)) 13 k (R 13 k + 1)) 1 3 0)) c R) := by
  refine MZ.of g_X5_access ?_
  show ZX m_X5_access 0 [some (zr 1), some (zi k), some (zi z), some (zl x), none, some (zl y), none, none] [] (wr c R) _
  have g2 := hg
  unfold Geo at g2
  refine zx_go (pc1 := 2) (l1 := [some (zr 1), some (zi k), some (zi z), some (zl x), none, some (zl y), none, none]) (st1 := [zi k, zr 1]) (w1 := wr c R) g_X5_access 2 _ _ _ _ rfl ?_
  refine zx_cvN (As := [zi k]) (rest := []) g_X5_access rfl g_X5_needPin rfl rfl (Nat.le_of_ble_eq_true rfl) (Nat.le_of_ble_eq_true rfl) rfl (by decide) (s_needPin (by omega) (by omega)) rfl (fun hN2 => ?_) (fun hY2 => ?_)
  · exact cP_1 (cdv1 (.inl hN2)) rfl
  · refine zx_go (pc1 := 10) (l1 := [some (zr 1), some (zi k), some (zi z), some (zl x), none, some (zl y), none, none]) (st1 := [zl y, zl x, zi z, zr 1]) (w1 := wr c R) g_X5_access 4 _ _ _ _ rfl ?_
    refine zx_cvN (As := [zi z, zl x, zl y]) (rest := []) g_X5_access rfl g_X5_needPlace rfl rfl (Nat.le_of_ble_eq_true rfl) (Nat.le_of_ble_eq_true rfl) rfl (by decide) (s_needPlace hg (by omega) (by omega) (by omega)) rfl (fun hN10 => ?_) (fun hY10 => ?_)
    · exact cP_1 (cdv1 (.inr hN10)) rfl
    · have h4k := h4 k (by omega) (by omega)
      have g3_v := hg.S
      refine zx_go (pc1 := 21) (l1 := [some (zr 1), some (zi k), some (zi z), some (zl x), none, some (zl y), none, none]) (st1 := [zi k, zr 13]) (w1 := wr c R) g_X5_access 4 _ _ _ _ rfl ?_
      refine gz_iald g_X5_access rfl (n := 40) rfl (by decide) rfl (by decide) (by omega) (by omega) ?_
      refine zx_go (pc1 := 23) (l1 := [some (zr 1), some (zi k), some (zi z), some (zl x), none, some (zl y), none, none]) (st1 := [zi 4, zi (R 13 k)]) (w1 := wr c R) g_X5_access 1 _ _ _ _ rfl ?_
      refine zx_cmp g_X5_access rfl (by omega) (by decide) (fun (h23 : (R 13 k) < 4) => ?_) (fun (h23 : ¬ ((R 13 k) < 4)) => ?_)
      · refine zx_go (pc1 := 46) (l1 := [some (zr 1), some (zi k), some (zi z), some (zl x), none, some (zl y), none, none]) (st1 := [zi y, zi x, zi z, zr 2]) (w1 := wr c R) g_X5_access 7 _ _ _ _ rfl ?_
        skip
        refine zx_cvF (As := [zi z, zi x, zi y]) (rest := []) g_X5_access rfl g_X2_placeAt rfl rfl (Nat.le_of_ble_eq_true rfl) (Nat.le_of_ble_eq_true rfl) rfl (by decide) (s_placeAt z x y) ?_
        have gpl := pl_geo hg (z := z) (x := x) (y := y) (by omega) (by omega) (by omega) (by omega) (by omega) (by omega)
        refine zx_go (pc1 := 58) (l1 := [some (zr 1), some (zi k), some (zi z), some (zl x), none, some (zl y), none, some (zi (pl c z x y))]) (st1 := [zi (pl c z x y), zi k, zr 10]) (w1 := wr c R) g_X5_access 5 _ _ _ _ rfl ?_
        refine zx_cvF (As := [zi k, zi (pl c z x y)]) (rest := []) g_X5_access rfl g_X0_hasAccess rfl rfl (Nat.le_of_ble_eq_true rfl) (Nat.le_of_ble_eq_true rfl) rfl (by decide) (s_hasAccess (by omega) (by omega) (by omega) (by omega) (by omega) (fun j j0 j1 => by have w := h4k.2.2 j j0 j1; have w0_v := w.1; have w1 := w.2; omega)) ?_
        refine zx_ifeq g_X5_access rfl (fun (h61 : ¬ (∃ i, 0 ≤ i ∧ i < R 13 k ∧ R 14 (k * 4 + i) = pl c z x y)) => ?_) (fun (h61 : (∃ i, 0 ≤ i ∧ i < R 13 k ∧ R 14 (k * 4 + i) = pl c z x y)) => ?_)
        · refine zx_go (pc1 := 73) (l1 := [some (zr 1), some (zi k), some (zi z), some (zl x), none, some (zl y), none, some (zi (pl c z x y))]) (st1 := [zi (pl c z x y), zi k, zr 10]) (w1 := wr c R) g_X5_access 4 _ _ _ _ rfl ?_
          refine gx_cvU (As := [zi k, zi (pl c z x y)]) (rest := []) g_X5_access rfl g_X0_addAccess rfl rfl (Nat.le_of_ble_eq_true rfl) (Nat.le_of_ble_eq_true rfl) rfl (by decide) (s_addAccess (by omega) (by omega) (by omega) (by omega)) (fun R73 hR73 => ?_)
          refine zx_go (pc1 := 78) (l1 := [some (zr 1), some (zi k), some (zi z), some (zl x), none, some (zl y), none, some (zi (pl c z x y))]) (st1 := [zi 0, zr 1]) (w1 := wr c R73) g_X5_access 2 _ _ _ _ rfl ?_
          refine gz_putb 3 g_X5_access rfl rfl rfl (by decide) rfl (by refine ⟨?_, ?_, ?_, ?_, ?_⟩ <;> simp) (.inl rfl) ?_
          refine zx_go (pc1 := 82) (l1 := [some (zr 1), some (zi k), some (zi z), some (zl x), none, some (zl y), none, some (zi (pl c z x y))]) (st1 := [zi 1]) (w1 := wr c (zU R73 1 3 0)) g_X5_access 1 _ _ _ _ rfl ?_
          refine zx_iret g_X5_access rfl (.inr (.inr rfl)) ?_
          refine cP_0 (cdv0 (fun z => z.elim (fun w => w hY2) (fun w => w hY10)) (by omega)) ⟨(bI_t h61).symm, ?_⟩
          rw [pIR_f h61, hR73]
        · refine zx_go (pc1 := 65) (l1 := [some (zr 1), some (zi k), some (zi z), some (zl x), none, some (zl y), none, some (zi (pl c z x y))]) (st1 := [zi 0]) (w1 := wr c R) g_X5_access 1 _ _ _ _ rfl ?_
          refine zx_iret g_X5_access rfl (.inr (.inl rfl)) ?_
          refine cP_0 (cdv0 (fun z => z.elim (fun w => w hY2) (fun w => w hY10)) (by omega)) ⟨(bI_f (fun z => z h61)).symm, ?_⟩
          rw [pIR_t h61]
      · refine zx_throw g_X5_access rfl rfl (Nat.le_of_ble_eq_true rfl) ?_
        exact cP_2 (cdv2 (fun z => z.elim (fun w => w hY2) (fun w => w hY10)) (by omega)) rfl

set_option maxHeartbeats 1000000 in
theorem s_bar {c : zC} {R : zI} {z x0 y0 x1 y1 : Int} (hg : Geo c) (zr1 : inR z) (x0r : inR64 x0) (y0r : inR64 y0) (x1r : inR64 x1) (y1r : inR64 y1) (h9 : ∀ p, R 9 p = 0 ∨ R 9 p = 1) (hbc : R 2 12 = cnt (fun p => R 9 p ≠ 0) (cS c)) : MZ m_X5_bar [zr 1, zi z, zl x0, zl y0, zl x1, zl y1] (wr c R) (cP (cdv (¬ (0 ≤ z ∧ z < cLa c)) (¬ (0 ≤ x0 ∧ x0 ≤ x1 ∧ x1 < cW c ∧ 0 ≤ y0 ∧ y0 ≤ y1 ∧ y1 < cH c))) exA (fun b R1 => b = bI (∃ p, pls c p ∧ inB c z x0 y0 x1 y1 p ∧ R 9 p = 0) ∧ (∀ a, a ≠ 1 → a ≠ 2 → a ≠ 9 → R1 a = R a) ∧ (∀ j, j ≠ 12 → R1 2 j = R 2 j) ∧ (∀ p, R1 9 p = pI (pls c p ∧ inB c z x0 y0 x1 y1 p) 1 (R 9 p)) ∧ R1 2 12 = cnt (fun p => R1 9 p ≠ 0) (cS c) ∧ R1 1 = pI1 (∃ p, pls c p ∧ inB c z x0 y0 x1 y1 p ∧ R 9 p = 0) (up1 (R 1) 3 0) (R 1)) c R) := by
  refine MZ.of g_X5_bar ?_
  show ZX m_X5_bar 0 [some (zr 1), some (zi z), some (zl x0), none, some (zl y0), none, some (zl x1), none, some (zl y1), none, none, none, none] [] (wr c R) _
  have g2 := hg
  unfold Geo at g2
  have g3_v := hg.S
  refine zx_go (pc1 := 2) (l1 := [some (zr 1), some (zi z), some (zl x0), none, some (zl y0), none, some (zl x1), none, some (zl y1), none, none, none, none]) (st1 := [zi z, zr 1]) (w1 := wr c R) g_X5_bar 2 _ _ _ _ rfl ?_
  refine zx_cvN (As := [zi z]) (rest := []) g_X5_bar rfl g_X5_needLayer rfl rfl (Nat.le_of_ble_eq_true rfl) (Nat.le_of_ble_eq_true rfl) rfl (by decide) (s_needLayer hg (by omega)) rfl (fun hN2 => ?_) (fun hY2 => ?_)
  · exact cP_1 (cdv1 (by omega)) rfl
  · refine zx_go (pc1 := 7) (l1 := [some (zr 1), some (zi z), some (zl x0), none, some (zl y0), none, some (zl x1), none, some (zl y1), none, none, none, none]) (st1 := [zl 0, zl x0]) (w1 := wr c R) g_X5_bar 2 _ _ _ _ rfl ?_
    refine zx_lcif g_X5_bar rfl rfl (by omega) (by decide) (fun (h7 : x0 < 0) => ?_) (fun (h7 : ¬ (x0 < 0)) => ?_)
    · refine zx_throw g_X5_bar rfl rfl (Nat.le_of_ble_eq_true rfl) ?_
      exact cP_2 (cdv2 (by omega) (by omega)) rfl
    · refine zx_go (pc1 := 14) (l1 := [some (zr 1), some (zi z), some (zl x0), none, some (zl y0), none, some (zl x1), none, some (zl y1), none, none, none, none]) (st1 := [zl x1, zl x0]) (w1 := wr c R) g_X5_bar 2 _ _ _ _ rfl ?_
      refine zx_lcif g_X5_bar rfl rfl (by omega) (by omega) (fun (h14 : x1 < x0) => ?_) (fun (h14 : ¬ (x1 < x0)) => ?_)
      · refine zx_throw g_X5_bar rfl rfl (Nat.le_of_ble_eq_true rfl) ?_
        exact cP_2 (cdv2 (by omega) (by omega)) rfl
      · refine zx_go (pc1 := 27) (l1 := [some (zr 1), some (zi z), some (zl x0), none, some (zl y0), none, some (zl x1), none, some (zl y1), none, none, none, none]) (st1 := [zi (cW c), zl x1]) (w1 := wr c R) g_X5_bar 4 _ _ _ _ rfl ?_
        refine zx_i2l g_X5_bar rfl (by omega) ?_
        refine zx_lcif g_X5_bar rfl rfl (by omega) (by omega) (fun (h28 : (cW c) ≤ x1) => ?_) (fun (h28 : ¬ ((cW c) ≤ x1)) => ?_)
        · refine zx_throw g_X5_bar rfl rfl (Nat.le_of_ble_eq_true rfl) ?_
          exact cP_2 (cdv2 (by omega) (by omega)) rfl
        · refine zx_go (pc1 := 35) (l1 := [some (zr 1), some (zi z), some (zl x0), none, some (zl y0), none, some (zl x1), none, some (zl y1), none, none, none, none]) (st1 := [zl 0, zl y0]) (w1 := wr c R) g_X5_bar 2 _ _ _ _ rfl ?_
          refine zx_lcif g_X5_bar rfl rfl (by omega) (by decide) (fun (h35 : y0 < 0) => ?_) (fun (h35 : ¬ (y0 < 0)) => ?_)
          · refine zx_throw g_X5_bar rfl rfl (Nat.le_of_ble_eq_true rfl) ?_
            exact cP_2 (cdv2 (by omega) (by omega)) rfl
          · refine zx_go (pc1 := 43) (l1 := [some (zr 1), some (zi z), some (zl x0), none, some (zl y0), none, some (zl x1), none, some (zl y1), none, none, none, none]) (st1 := [zl y1, zl y0]) (w1 := wr c R) g_X5_bar 2 _ _ _ _ rfl ?_
            refine zx_lcif g_X5_bar rfl rfl (by omega) (by omega) (fun (h43 : y1 < y0) => ?_) (fun (h43 : ¬ (y1 < y0)) => ?_)
            · refine zx_throw g_X5_bar rfl rfl (Nat.le_of_ble_eq_true rfl) ?_
              exact cP_2 (cdv2 (by omega) (by omega)) rfl
            · refine zx_go (pc1 := 56) (l1 := [some (zr 1), some (zi z), some (zl x0), none, some (zl y0), none, some (zl x1), none, some (zl y1), none, none, none, none]) (st1 := [zi (cH c), zl y1]) (w1 := wr c R) g_X5_bar 4 _ _ _ _ rfl ?_
              refine zx_i2l g_X5_bar rfl (by omega) ?_
              refine zx_lcif g_X5_bar rfl rfl (by omega) (by omega) (fun (h57 : y1 < (cH c)) => ?_) (fun (h57 : ¬ (y1 < (cH c))) => ?_)
              · refine zx_go (pc1 := 79) (l1 := [some (zr 1), some (zi z), some (zl x0), none, some (zl y0), none, some (zl x1), none, some (zl y1), none, some (zi 0), some (zi y0), none]) (st1 := []) (w1 := wr c R) g_X5_bar 5 _ _ _ _ rfl ?_
                have lp79 : ∀ (it : Nat) (so : Int) (y : Int) (R1 : zI) (o12 : Option zV), (it : Int) = y1 + 1 - y → (y0 ≤ y ∧ y ≤ y1 + 1 ∧ (∀ a, a ≠ 2 → a ≠ 9 → R1 a = R a) ∧ (∀ j, j ≠ 12 → R1 2 j = R 2 j) ∧ (∀ p, R1 9 p = pI (pls c p ∧ inB c z x0 y0 x1 y1 p ∧ yo c p < y) 1 (R 9 p)) ∧ R1 2 12 = cnt (fun p => R1 9 p ≠ 0) (cS c) ∧ so = bI (∃ p, pls c p ∧ inB c z x0 y0 x1 y1 p ∧ yo c p < y ∧ R 9 p = 0)) → ZX m_X5_bar 79 [some (zr 1), some (zi z), some (zl x0), none, some (zl y0), none, some (zl x1), none, some (zl y1), none, some (zi so), some (zi y), o12] [] (wr c R1) (cP (cdv (¬ (0 ≤ z ∧ z < cLa c)) (¬ (0 ≤ x0 ∧ x0 ≤ x1 ∧ x1 < cW c ∧ 0 ≤ y0 ∧ y0 ≤ y1 ∧ y1 < cH c))) exA (fun b R1 => b = bI (∃ p, pls c p ∧ inB c z x0 y0 x1 y1 p ∧ R 9 p = 0) ∧ (∀ a, a ≠ 1 → a ≠ 2 → a ≠ 9 → R1 a = R a) ∧ (∀ j, j ≠ 12 → R1 2 j = R 2 j) ∧ (∀ p, R1 9 p = pI (pls c p ∧ inB c z x0 y0 x1 y1 p) 1 (R 9 p)) ∧ R1 2 12 = cnt (fun p => R1 9 p ≠ 0) (cS c) ∧ R1 1 = pI1 (∃ p, pls c p ∧ inB c z x0 y0 x1 y1 p ∧ R 9 p = 0) (up1 (R 1) 3 0) (R 1)) c R) := by
                  refine fun it => Nat.strongRecOn it (fun it ih79 => ?_)
                  intro so y R1 o12 hn79 hi79
                  obtain ⟨ya, yb, by1, by2, by3, by4, by5⟩ := hi79
                  have so01 : so = 0 ∨ so = 1 := by rw [by5]; exact bI_01 _
                  refine zx_go (pc1 := 84) (l1 := [some (zr 1), some (zi z), some (zl x0), none, some (zl y0), none, some (zl x1), none, some (zl y1), none, some (zi so), some (zi y), o12]) (st1 := [zi y1, zi y]) (w1 := wr c R1) g_X5_bar 3 _ _ _ _ rfl ?_
                  refine zx_cmp g_X5_bar rfl (by omega) (by omega) (fun (h84 : y1 < y) => ?_) (fun (h84 : ¬ (y1 < y)) => ?_)
                  · refine zx_go (pc1 := 137) (l1 := [some (zr 1), some (zi z), some (zl x0), none, some (zl y0), none, some (zl x1), none, some (zl y1), none, some (zi so), some (zi y), o12]) (st1 := [zi so]) (w1 := wr c R1) g_X5_bar 1 _ _ _ _ rfl ?_
                    refine zx_if g_X5_bar rfl (by omega) (fun (h137 : so = 0) => ?_) (fun (h137 : ¬ so = 0) => ?_)
                    · refine zx_go (pc1 := 147) (l1 := [some (zr 1), some (zi z), some (zl x0), none, some (zl y0), none, some (zl x1), none, some (zl y1), none, some (zi so), some (zi y), o12]) (st1 := [zi so]) (w1 := wr c R1) g_X5_bar 1 _ _ _ _ rfl ?_
                      refine zx_iret g_X5_bar rfl (.inr so01) ?_
                      have ky : ∀ p, inB c z x0 y0 x1 y1 p → yo c p < y := fun p w => by have w2_v := w.2.2.2; omega
                      have kb : (∃ p, pls c p ∧ inB c z x0 y0 x1 y1 p ∧ yo c p < y ∧ R 9 p = 0) ↔ (∃ p, pls c p ∧ inB c z x0 y0 x1 y1 p ∧ R 9 p = 0) := ⟨fun ⟨p, w1, w2_v, w3_v, w4_v⟩ => ⟨p, w1, w2_v, w4_v⟩, fun ⟨p, w1, w2_v, w4_v⟩ => ⟨p, w1, w2_v, ky p w2_v, w4_v⟩⟩
                      have k9 : ∀ p, R1 9 p = pI (pls c p ∧ inB c z x0 y0 x1 y1 p) 1 (R 9 p) := fun p => by
                        rw [by3 p]
                        exact pI_congr ⟨fun w => ⟨w.1, w.2.1⟩, fun w => ⟨w.1, w.2, ky p w.2⟩⟩
                      refine cP_0 (cdv0 (by omega) (by omega)) ⟨by rw [by5]; exact bI_congr kb, fun a h1 h2 h3 => by1 a h2 h3, by2, k9, by4, ?_⟩
                      rw [pI1_f (fun w => bI_ne.mpr (kb.mpr w) (by rw [← by5]; exact h137))]
                      exact by1 1 (by decide) (by decide)
                    · refine zx_go (pc1 := 142) (l1 := [some (zr 1), some (zi z), some (zl x0), none, some (zl y0), none, some (zl x1), none, some (zl y1), none, some (zi so), some (zi y), o12]) (st1 := [zi 0, zr 1]) (w1 := wr c R1) g_X5_bar 2 _ _ _ _ rfl ?_
                      refine gz_putb 3 g_X5_bar rfl rfl rfl (by decide) rfl (by refine ⟨?_, ?_, ?_, ?_, ?_⟩ <;> simp) (.inl rfl) ?_
                      refine zx_go (pc1 := 147) (l1 := [some (zr 1), some (zi z), some (zl x0), none, some (zl y0), none, some (zl x1), none, some (zl y1), none, some (zi so), some (zi y), o12]) (st1 := [zi so]) (w1 := wr c (zU R1 1 3 0)) g_X5_bar 1 _ _ _ _ rfl ?_
                      refine zx_iret g_X5_bar rfl (.inr so01) ?_
                      have ky : ∀ p, inB c z x0 y0 x1 y1 p → yo c p < y := fun p w => by have w2_v := w.2.2.2; omega
                      have kb : (∃ p, pls c p ∧ inB c z x0 y0 x1 y1 p ∧ yo c p < y ∧ R 9 p = 0) ↔ (∃ p, pls c p ∧ inB c z x0 y0 x1 y1 p ∧ R 9 p = 0) := ⟨fun ⟨p, w1, w2_v, w3_v, w4_v⟩ => ⟨p, w1, w2_v, w4_v⟩, fun ⟨p, w1, w2_v, w4_v⟩ => ⟨p, w1, w2_v, ky p w2_v, w4_v⟩⟩
                      have k9 : ∀ p, R1 9 p = pI (pls c p ∧ inB c z x0 y0 x1 y1 p) 1 (R 9 p) := fun p => by
                        rw [by3 p]
                        exact pI_congr ⟨fun w => ⟨w.1, w.2.1⟩, fun w => ⟨w.1, w.2, ky p w.2⟩⟩
                      refine cP_0 (cdv0 (by omega) (by omega)) ⟨by rw [by5]; exact bI_congr kb, fun a h1 h2 h3 => by rw [zU_cell h1]; exact by1 a h2 h3, by rw [zU_cell (by decide)]; exact by2, by rw [zU_cell (by decide)]; exact k9, by rw [zU_cell (by decide), zU_cell (by decide)]; exact by4, ?_⟩
                      rw [pI1_t (kb.mp (bI_ne.mp (by rw [← by5]; exact h137))), zU_row, by1 1 (by decide) (by decide)]
                  · refine zx_go (pc1 := 91) (l1 := [some (zr 1), some (zi z), some (zl x0), none, some (zl y0), none, some (zl x1), none, some (zl y1), none, some (zi so), some (zi y), some (zi x0)]) (st1 := []) (w1 := wr c R1) g_X5_bar 3 _ _ _ _ rfl ?_
                    have lp91 : ∀ (it : Nat) (so : Int) (x : Int) (R2 : zI), (it : Int) = x1 + 1 - x → (x0 ≤ x ∧ x ≤ x1 + 1 ∧ (∀ a, a ≠ 2 → a ≠ 9 → R2 a = R a) ∧ (∀ j, j ≠ 12 → R2 2 j = R 2 j) ∧ (∀ p, R2 9 p = pI (pls c p ∧ inB c z x0 y0 x1 y1 p ∧ (yo c p < y ∨ (yo c p = y ∧ xo c p < x))) 1 (R 9 p)) ∧ R2 2 12 = cnt (fun p => R2 9 p ≠ 0) (cS c) ∧ so = bI (∃ p, pls c p ∧ inB c z x0 y0 x1 y1 p ∧ (yo c p < y ∨ (yo c p = y ∧ xo c p < x)) ∧ R 9 p = 0)) → ZX m_X5_bar 91 [some (zr 1), some (zi z), some (zl x0), none, some (zl y0), none, some (zl x1), none, some (zl y1), none, some (zi so), some (zi y), some (zi x)] [] (wr c R2) (cP (cdv (¬ (0 ≤ z ∧ z < cLa c)) (¬ (0 ≤ x0 ∧ x0 ≤ x1 ∧ x1 < cW c ∧ 0 ≤ y0 ∧ y0 ≤ y1 ∧ y1 < cH c))) exA (fun b R1 => b = bI (∃ p, pls c p ∧ inB c z x0 y0 x1 y1 p ∧ R 9 p = 0) ∧ (∀ a, a ≠ 1 → a ≠ 2 → a ≠ 9 → R1 a = R a) ∧ (∀ j, j ≠ 12 → R1 2 j = R 2 j) ∧ (∀ p, R1 9 p = pI (pls c p ∧ inB c z x0 y0 x1 y1 p) 1 (R 9 p)) ∧ R1 2 12 = cnt (fun p => R1 9 p ≠ 0) (cS c) ∧ R1 1 = pI1 (∃ p, pls c p ∧ inB c z x0 y0 x1 y1 p ∧ R 9 p = 0) (up1 (R 1) 3 0) (R 1)) c R) := by
                      refine fun it => Nat.strongRecOn it (fun it ih91 => ?_)
                      intro so x R2 hn91 hi91
                      obtain ⟨xa, xb, bx1, bx2, bx3, bx4, bx5⟩ := hi91
                      refine zx_go (pc1 := 96) (l1 := [some (zr 1), some (zi z), some (zl x0), none, some (zl y0), none, some (zl x1), none, some (zl y1), none, some (zi so), some (zi y), some (zi x)]) (st1 := [zi x1, zi x]) (w1 := wr c R2) g_X5_bar 3 _ _ _ _ rfl ?_
                      refine zx_cmp g_X5_bar rfl (by omega) (by omega) (fun (h96 : x1 < x) => ?_) (fun (h96 : ¬ (x1 < x)) => ?_)
                      · refine zx_go (pc1 := 79) (l1 := [some (zr 1), some (zi z), some (zl x0), none, some (zl y0), none, some (zl x1), none, some (zl y1), none, some (zi so), some (zi (y + 1)), some (zi x)]) (st1 := []) (w1 := wr c R2) g_X5_bar 2 _ _ _ _ rfl ?_
                        refine ih79 (Int.toNat (y1 + 1 - (y + 1))) (by omega) so (y + 1) R2 (some (zi x)) (by omega) ?_
                        have key_v : ∀ p, inB c z x0 y0 x1 y1 p → ((yo c p < y ∨ (yo c p = y ∧ xo c p < x)) ↔ yo c p < y + 1) := fun p w => by
                          have w2_v := w.2.1.2
                          omega
                        refine ⟨by omega, by omega, bx1, bx2, fun p => ?_, bx4, ?_⟩
                        · rw [bx3 p]
                          exact pI_congr ⟨fun w => ⟨w.1, w.2.1, (key_v p w.2.1).mp w.2.2⟩, fun w => ⟨w.1, w.2.1, (key_v p w.2.1).mpr w.2.2⟩⟩
                        · rw [bx5]
                          exact bI_congr ⟨fun ⟨p, w1, w2_v, w3_v, w4_v⟩ => ⟨p, w1, w2_v, (key_v p w2_v).mp w3_v, w4_v⟩, fun ⟨p, w1, w2_v, w3_v, w4_v⟩ => ⟨p, w1, w2_v, (key_v p w2_v).mpr w3_v, w4_v⟩⟩
                      · have gpl := pl_geo hg (z := z) (x := x) (y := y) (by omega) (by omega) (by omega) (by omega) (by omega) (by omega)
                        obtain ⟨gp0, gp1, gp2, gp3, gp4⟩ := gpl
                        have b91 : R2 9 (pl c z x y) = 0 ∨ R2 9 (pl c z x y) = 1 := by
                          rw [bx3 (pl c z x y)]
                          by_cases w : pls c (pl c z x y) ∧ inB c z x0 y0 x1 y1 (pl c z x y) ∧ (yo c (pl c z x y) < y ∨ (yo c (pl c z x y) = y ∧ xo c (pl c z x y) < x))
                          · rw [pI_t w]; exact .inr rfl
                          · rw [pI_f w]; exact h9 _
                        have b92 : R2 9 (pl c z x y) = R 9 (pl c z x y) := by
                          rw [bx3 (pl c z x y), pI_f (fun w => by omega)]
                        have ipl : inB c z x0 y0 x1 y1 (pl c z x y) := ⟨gp2, by omega, by omega⟩
                        refine zx_go (pc1 := 114) (l1 := [some (zr 1), some (zi z), some (zl x0), none, some (zl y0), none, some (zl x1), none, some (zl y1), none, some (zi so), some (zi y), some (zi x)]) (st1 := [zi y, zi x, zi z, zr 2, zr 2, zi so]) (w1 := wr c R2) g_X5_bar 8 _ _ _ _ rfl ?_
                        refine zx_cvF (As := [zi z, zi x, zi y]) (rest := [zr 2, zi so]) g_X5_bar rfl g_X2_placeAt rfl rfl (Nat.le_of_ble_eq_true rfl) (Nat.le_of_ble_eq_true rfl) rfl (by decide) (s_placeAt z x y) ?_
                        refine gx_cvR (As := [zi (pl c z x y)]) (rest := [zi so]) g_X5_bar rfl g_X2_close rfl rfl (Nat.le_of_ble_eq_true rfl) (Nat.le_of_ble_eq_true rfl) rfl (by decide) (s_close hg gp0 gp1 b91) (fun r117 Rr117 hr117 => ?_)
                        refine zx_go (pc1 := 121) (l1 := [some (zr 1), some (zi z), some (zl x0), none, some (zl y0), none, some (zl x1), none, some (zl y1), none, some (zi so), some (zi y), some (zi x)]) (st1 := [zi (zor so r117)]) (w1 := wr c Rr117) g_X5_bar 1 _ _ _ _ rfl ?_
                        refine zx_go (pc1 := 91) (l1 := [some (zr 1), some (zi z), some (zl x0), none, some (zl y0), none, some (zl x1), none, some (zl y1), none, some (zi (zor so r117)), some (zi y), some (zi (x + 1))]) (st1 := []) (w1 := wr c Rr117) g_X5_bar 3 _ _ _ _ rfl ?_
                        refine ih91 (Int.toNat (x1 + 1 - (x + 1))) (by omega) (zor so r117) (x + 1) Rr117 (by omega) ?_
                        obtain ⟨q1_v, q2_v⟩ := hr117
                        have key_v : ∀ p, pls c p → inB c z x0 y0 x1 y1 p → ((yo c p < y ∨ (yo c p = y ∧ xo c p < x + 1)) ↔ ((yo c p < y ∨ (yo c p = y ∧ xo c p < x)) ∨ p = pl c z x y)) := fun p hp w => by
                          constructor
                          · intro u
                            by_cases e : yo c p = y ∧ xo c p = x
                            · right
                              rw [← (place_geo hg hp.1 hp.2).2.2.2.2.2.2, w.1, e.1, e.2]
                            · left; omega
                          · rintro (u | u)
                            · omega
                            · rw [u]; omega
                        refine ⟨by omega, by omega, ?_, ?_, ?_, ?_, ?_⟩
                        · intro a h1 h2
                          rw [q2_v]
                          by_cases e : R2 9 (pl c z x y) = 0
                          · rw [pIR_t e, zU_cell h1, zU_cell h2]; exact bx1 a h1 h2
                          · rw [pIR_f e]; exact bx1 a h1 h2
                        · intro j hj
                          rw [q2_v]
                          by_cases e : R2 9 (pl c z x y) = 0
                          · rw [pIR_t e, zU_at hj, zU_cell (by decide)]; exact bx2 j hj
                          · rw [pIR_f e]; exact bx2 j hj
                        · intro p
                          have old_v := bx3 p
                          by_cases e : R2 9 (pl c z x y) = 0
                          · rw [q2_v, pIR_t e, zU_cell (by decide), zU_row]
                            by_cases f : p = pl c z x y
                            · rw [f, up1_s, pI_t ⟨⟨gp0, gp1⟩, ipl, by omega⟩]
                            · rw [up1_n f, old_v]
                              exact pI_congr ⟨fun w => ⟨w.1, w.2.1, by have := w.2.2; omega⟩, fun w => ⟨w.1, w.2.1, ((key_v p w.1 w.2.1).mp w.2.2).resolve_right f⟩⟩
                          · rw [q2_v, pIR_f e]
                            by_cases f : p = pl c z x y
                            · rw [f, pI_t ⟨⟨gp0, gp1⟩, ipl, by omega⟩]; omega
                            · rw [old_v]
                              exact pI_congr ⟨fun w => ⟨w.1, w.2.1, by have := w.2.2; omega⟩, fun w => ⟨w.1, w.2.1, ((key_v p w.1 w.2.1).mp w.2.2).resolve_right f⟩⟩
                        · by_cases e : R2 9 (pl c z x y) = 0
                          · rw [q2_v, pIR_t e, zU_same, bx4]
                            refine (cnt_ins gp0 (fun w => w e) (cS c) gp1 (fun i i0_v i1_v => ?_)).symm
                            rw [zU_cell (by decide), zU_row]
                            by_cases f : i = pl c z x y
                            · rw [f, up1_s]; exact ⟨fun _ => .inr rfl, fun _ => by decide⟩
                            · rw [up1_n f]; exact ⟨.inl, fun w => w.resolve_right f⟩
                          · rw [q2_v, pIR_f e]; exact bx4
                        · rw [q1_v, bx5, zor_b]
                          refine bI_congr ⟨fun w => ?_, fun ⟨p, w1, w2_v, w3_v, w4_v⟩ => ?_⟩
                          · rcases w with ⟨p, w1, w2_v, w3_v, w4_v⟩ | w
                            · exact ⟨p, w1, w2_v, by omega, w4_v⟩
                            · exact ⟨pl c z x y, ⟨gp0, gp1⟩, ipl, by omega, by rw [← b92]; exact w⟩
                          · rcases (key_v p w1 w2_v).mp w3_v with u | u
                            · exact .inl ⟨p, w1, w2_v, u, w4_v⟩
                            · right; rw [b92, ← u]; exact w4_v
                    refine lp91 (Int.toNat (x1 + 1 - x0)) so x0 R1 (by omega) ?_
                    have key_v : ∀ p, inB c z x0 y0 x1 y1 p → ((yo c p < y ∨ (yo c p = y ∧ xo c p < x0)) ↔ yo c p < y) := fun p w => by
                      have w2_v := w.2.1.1
                      omega
                    refine ⟨by omega, by omega, by1, by2, fun p => ?_, by4, ?_⟩
                    · rw [by3 p]
                      exact pI_congr ⟨fun w => ⟨w.1, w.2.1, (key_v p w.2.1).mpr w.2.2⟩, fun w => ⟨w.1, w.2.1, (key_v p w.2.1).mp w.2.2⟩⟩
                    · rw [by5]
                      exact bI_congr ⟨fun ⟨p, w1, w2_v, w3_v, w4_v⟩ => ⟨p, w1, w2_v, (key_v p w2_v).mpr w3_v, w4_v⟩, fun ⟨p, w1, w2_v, w3_v, w4_v⟩ => ⟨p, w1, w2_v, (key_v p w2_v).mp w3_v, w4_v⟩⟩
                refine lp79 (Int.toNat (y1 + 1 - y0)) 0 y0 R none (by omega) ?_
                refine ⟨by omega, by omega, fun _ _ _ => rfl, fun _ _ => rfl, fun p => ?_, hbc, ?_⟩
                · rw [pI_f]
                  rintro ⟨-, w, w1⟩
                  have w2_v := w.2.2.1
                  omega
                · refine (bI_f ?_).symm
                  rintro ⟨p, -, w, w1, -⟩
                  have w2_v := w.2.2.1
                  omega
              · refine zx_throw g_X5_bar rfl rfl (Nat.le_of_ble_eq_true rfl) ?_
                exact cP_2 (cdv2 (by omega) (by omega)) rfl

set_option maxHeartbeats 1000000 in
theorem s_shield {c : zC} {R : zI} {n : Int} (nr1 : inR n) (h0 : 0 ≤ R 10 0) (h1 : R 10 0 ≤ 16) : MZ m_X5_shield [zr 1, zi n] (wr c R) (cP (cdv (¬ (0 ≤ n ∧ n < R 10 0)) False) exB (fun b R1 => b = bI (¬ tb (R 10 1) n) ∧ R1 = zU (zU R 1 3 0) 10 1 (zxor (R 10 1) (zshl 1 n))) c R) := by
  refine MZ.of g_X5_shield ?_
  show ZX m_X5_shield 0 [some (zr 1), some (zi n)] [] (wr c R) _
  refine zx_go (pc1 := 2) (l1 := [some (zr 1), some (zi n)]) (st1 := [zi n, zr 1]) (w1 := wr c R) g_X5_shield 2 _ _ _ _ rfl ?_
  refine zx_cvN (As := [zi n]) (rest := []) g_X5_shield rfl g_X5_needNet rfl rfl (Nat.le_of_ble_eq_true rfl) (Nat.le_of_ble_eq_true rfl) rfl (by decide) (s_needNet (by omega) (by omega)) rfl (fun hN2 => ?_) (fun hY2 => ?_)
  · exact cP_1 (cdv1 hN2) rfl
  · refine zx_go (pc1 := 7) (l1 := [some (zr 1), some (zi n)]) (st1 := [zi 0, zr 1]) (w1 := wr c R) g_X5_shield 2 _ _ _ _ rfl ?_
    refine gz_putb 3 g_X5_shield rfl rfl rfl (by decide) rfl (by refine ⟨?_, ?_, ?_, ?_, ?_⟩ <;> simp) (.inl rfl) ?_
    refine zx_go (pc1 := 20) (l1 := [some (zr 1), some (zi n)]) (st1 := [zi n, zi 1, zi ((zU R 1 3 0) 10 1), zr 10]) (w1 := wr c (zU R 1 3 0)) g_X5_shield 6 _ _ _ _ rfl ?_
    refine zx_go (pc1 := 21) (l1 := [some (zr 1), some (zi n)]) (st1 := [zi (zshl 1 n), zi ((zU R 1 3 0) 10 1), zr 10]) (w1 := wr c (zU R 1 3 0)) g_X5_shield 1 _ _ _ _ rfl ?_
    refine zx_go (pc1 := 22) (l1 := [some (zr 1), some (zi n)]) (st1 := [zi (zxor ((zU R 1 3 0) 10 1) (zshl 1 n)), zr 10]) (w1 := wr c (zU R 1 3 0)) g_X5_shield 1 _ _ _ _ rfl ?_
    refine gz_put 1 g_X5_shield rfl rfl rfl (by decide) rfl (by refine ⟨?_, ?_, ?_, ?_, ?_⟩ <;> simp) ?_
    refine zx_go (pc1 := 33) (l1 := [some (zr 1), some (zi n)]) (st1 := [zi n, zi ((zU (zU R 1 3 0) 10 1 (zxor ((zU R 1 3 0) 10 1) (zshl 1 n))) 10 1)]) (w1 := wr c (zU (zU R 1 3 0) 10 1 (zxor ((zU R 1 3 0) 10 1) (zshl 1 n)))) g_X5_shield 4 _ _ _ _ rfl ?_
    refine zx_csF (As := [zi ((zU (zU R 1 3 0) 10 1 (zxor ((zU R 1 3 0) 10 1) (zshl 1 n))) 10 1), zi n]) (rest := []) g_X5_shield rfl g_X5_isIn rfl rfl (Nat.le_of_ble_eq_true rfl) (Nat.le_of_ble_eq_true rfl) (s_isIn ((zU (zU R 1 3 0) 10 1 (zxor ((zU R 1 3 0) 10 1) (zshl 1 n))) 10 1) n) ?_
    refine zx_iret g_X5_shield rfl (.inr (bI_01 _)) ?_
    have e1_v : zU R 1 3 0 10 1 = R 10 1 := zU_cell' (by decide)
    rw [e1_v, zU_same]
    refine cP_0 (cdv0 (fun z => z hY2) id) ⟨bI_congr ?_, rfl⟩
    rw [tb_xor hY2.1 (by omega), tb_one hY2.1 (by omega) hY2.1 (by omega)]
    exact ⟨fun w u => w ⟨fun _ => rfl, fun _ => u⟩, fun w u => w (u.mpr rfl)⟩

set_option maxHeartbeats 1000000 in
theorem s_run {c : zC} {R : zI} {D : zI} {k : Int} (hD : DOK c D) (hd : Din D R) (hpc : ∀ n, 0 ≤ n → n < D 10 0 → R 12 n = cnt (fun k => D 11 k = n) (D 10 2).toNat) (kr : inR k) : MZ m_X5_run [zr 1, zi k] (wr c R) (cP (cdv (¬ (0 ≤ k ∧ k ≤ 8)) False) exD (fun b R1 => b = D 10 0 - cnt (aJ (aRun c D k)) (D 10 0).toNat ∧ (∀ a : Nat, (a ≤ 14 ∨ 32 ≤ a) → a ≠ 1 → R1 a = R a) ∧ R1 1 = up1 (R 1) 3 1 ∧ CE c D (aRun c D k) R1) c R) := by
  refine MZ.of g_X5_run ?_
  show ZX m_X5_run 0 [some (zr 1), some (zi k)] [] (wr c R) _
  refine zx_go (pc1 := 1) (l1 := [some (zr 1), some (zi k)]) (st1 := [zi k]) (w1 := wr c R) g_X5_run 1 _ _ _ _ rfl ?_
  refine zx_if g_X5_run rfl (by omega) (fun (h1 : k < 0) => ?_) (fun (h1 : ¬ k < 0) => ?_)
  · refine zx_throw g_X5_run rfl rfl (Nat.le_of_ble_eq_true rfl) ?_
    exact cP_1 (cdv1 (by omega)) rfl
  · refine zx_go (pc1 := 7) (l1 := [some (zr 1), some (zi k)]) (st1 := [zi 8, zi k]) (w1 := wr c R) g_X5_run 2 _ _ _ _ rfl ?_
    refine zx_cmp g_X5_run rfl (by omega) (by decide) (fun (h7 : k ≤ 8) => ?_) (fun (h7 : ¬ (k ≤ 8)) => ?_)
    · refine zx_go (pc1 := 24) (l1 := [some (zr 1), some (zi k)]) (st1 := [zr 15]) (w1 := wr c R) g_X5_run 2 _ _ _ _ rfl ?_
      refine gx_cvU (As := []) (rest := []) g_X5_run rfl g_X3_begin rfl rfl (Nat.le_of_ble_eq_true rfl) (Nat.le_of_ble_eq_true rfl) rfl (by decide) (s_begin hD hd hpc) (fun R24 hR24 => ?_)
      refine zx_go (pc1 := 32) (l1 := [some (zr 1), some (zi k)]) (st1 := [zi k, zr 15]) (w1 := wr c R24) g_X5_run 3 _ _ _ _ rfl ?_
      refine gx_cvU (As := [zi k]) (rest := []) g_X5_run rfl g_X3_makeRounds rfl rfl (Nat.le_of_ble_eq_true rfl) (Nat.le_of_ble_eq_true rfl) rfl (by decide) (s_makeRounds hD (s0_AI hD) (by omega) (by omega) hR24.2) (fun R32 hR32 => ?_)
      refine zx_go (pc1 := 37) (l1 := [some (zr 1), some (zi k)]) (st1 := [zi 1, zr 1]) (w1 := wr c R32) g_X5_run 2 _ _ _ _ rfl ?_
      refine gz_putb 3 g_X5_run rfl rfl rfl (by decide) rfl (by refine ⟨?_, ?_, ?_, ?_, ?_⟩ <;> simp) (.inr rfl) ?_
      refine zx_go (pc1 := 54) (l1 := [some (zr 1), some (zi k)]) (st1 := [zi ((zU R32 1 3 1) 15 11), zi ((zU R32 1 3 1) 10 0)]) (w1 := wr c (zU R32 1 3 1)) g_X5_run 6 _ _ _ _ rfl ?_
      generalize hR9 : zU R32 1 3 1 = R9
      have r9 : ∀ a, a ≠ 1 → R9 a = R32 a := fun a ha_v => by rw [← hR9, zU_cell ha_v]
      have ce9 : CE c D (aRun c D k) R9 := by
        have h := hR32.2
        unfold CE Din at h ⊢
        rw [r9 3 (by decide), r9 4 (by decide), r9 5 (by decide), r9 9 (by decide), r9 10 (by decide), r9 11 (by decide), r9 12 (by decide), r9 13 (by decide), r9 14 (by decide), r9 15 (by decide), r9 16 (by decide), r9 18 (by decide), r9 19 (by decide), r9 20 (by decide), r9 22 (by decide), r9 23 (by decide), r9 24 (by decide), r9 29 (by decide), r9 30 (by decide)]
        exact h
      have ai := aRun_AI hD (show 0 ≤ k by omega) (show k ≤ 8 by omega)
      have n16 := hD.2.1
      have mc_v := mask_cnt (m := R9 15 11) (P := aJ (aRun c D k)) n16.1 n16.2 (fun b b0 b1 => (ce9.2.2.2.2.2.2.2.2.2.1 b b0 b1).2.1) (fun b z => (ai.2.2.1 b z).2.1)
      have e10_v : R9 10 0 = D 10 0 := by rw [ce9.1.2.2.2.2.1]
      refine zx_csF (As := [zi (R9 15 11)]) (rest := [zi (R9 10 0)]) g_X5_run rfl g_J6_bitCount_0f7a4 rfl rfl (Nat.le_of_ble_eq_true rfl) (Nat.le_of_ble_eq_true rfl) (t_bits ce9.2.2.2.2.2.2.2.1) ?_
      refine zx_go (pc1 := 58) (l1 := [some (zr 1), some (zi k)]) (st1 := [zi ((R9 10 0) - (cnt (tb (R9 15 11)) 16))]) (w1 := wr c R9) g_X5_run 1 _ _ _ _ rfl ?_
      refine zx_iret g_X5_run rfl (.inl rfl) ?_
      refine cP_0 (cdv0 (by omega) id) ⟨by rw [mc_v, e10_v], fun a h1 h2 => ?_, ?_, ce9⟩
      · rw [r9 a h2, hR32.1 a h1, hR24.1 a h1]
      · rw [← hR9, zU_row, hR32.1 1 (by omega), hR24.1 1 (by omega)]
    · refine zx_throw g_X5_run rfl rfl (Nat.le_of_ble_eq_true rfl) ?_
      exact cP_1 (cdv1 (by omega)) rfl

