/-! ===== contracts of the reference (2): places for pins ===== -/
def mayN (c : zC) (D : zI) (f : Int → Int) (k p i : Int) : Prop := D 9 p = 0 ∧ ∀ j, 0 ≤ j → j < i → f j ≠ -1 → ¬ clash c D (D 11 k) p (D 11 j) (D 14 (j * 4 + f j))
theorem mayN_s {c : zC} {D : zI} {f : Int → Int} {k p i : Int} (i0 : 0 ≤ i) : mayN c D f k p (i + 1) ↔ (mayN c D f k p i ∧ (f i ≠ -1 → ¬ clash c D (D 11 k) p (D 11 i) (D 14 (i * 4 + f i)))) := by
  unfold mayN
  constructor
  · rintro ⟨a, b⟩
    exact ⟨⟨a, fun j j0 j1 => b j j0 (by omega)⟩, b i i0 (by omega)⟩
  · rintro ⟨⟨a, b⟩, d⟩
    refine ⟨a, fun j j0 j1 => ?_⟩
    by_cases e : j = i
    · rw [e]; exact d
    · exact b j j0 (by omega)
theorem mayN_0 {c : zC} {D : zI} {f : Int → Int} {k p : Int} : mayN c D f k p 0 ↔ D 9 p = 0 := ⟨fun z => z.1, fun z => ⟨z, fun j j0 j1 => by omega⟩⟩
theorem mpp_D {c : zC} {D R : zI} (hm : MDn c D R) {k : Int} (k0 : 0 ≤ k) (k1 : k < 40) (h0 : -1 ≤ R 41 k) (h1 : R 41 k < 4) : mpp R k = if R 41 k = -1 then -1 else D 14 (k * 4 + R 41 k) := by
  unfold mpp
  by_cases e : R 41 k = -1
  · rw [if_pos e, if_pos e]
  · rw [if_neg e, if_neg e, hm.2.2.2.2.1 _ (by omega) (by omega), Int.mul_comm 4 k]

set_option maxHeartbeats 1000000 in
theorem m_mayBe {c : zC} {R : zI} {D : zI} {k p : Int} (hD : DOK c D) (hm : MDn c D R) (hp : pls c p) (k0 : 0 ≤ k) (k1 : k < D 10 2) (hpk : ∀ j, 0 ≤ j → j < k → -1 ≤ R 41 j ∧ R 41 j < 4 ∧ (R 41 j ≠ -1 → pls c (D 14 (j * 4 + R 41 j)))) : MZ m_X6_mayBe [zr 32, zi k, zi p] (wr c R) (qF (zi (bI (mayb c D (R 41) k p))) (wr c R)) := by
  refine MZ.of g_X6_mayBe ?_
  show ZX m_X6_mayBe 0 [some (zr 32), some (zi k), some (zi p), none, none, none] [] (wr c R) _
  have hg := hD.1
  have g3_v := hg.S
  have p40 := hD.2.2.1
  have n16 := hD.2.1
  obtain ⟨hp0, hp1⟩ := hp
  have hp : pls c p := ⟨hp0, hp1⟩
  have e36 := hm.2.1 p hp
  have b9 := hD.2.2.2.2.2.1 p
  have nk := hD.2.2.2.2.2.2.1 k k0 k1
  have e38k := (hm.2.2.2.1 k k0 (by omega)).1
  refine zx_go (pc1 := 5) (l1 := [some (zr 32), some (zi k), some (zi p), none, none, none]) (st1 := [zi p, zr 36]) (w1 := wr c R) g_X6_mayBe 3 _ _ _ _ rfl ?_
  refine gz_bald g_X6_mayBe rfl (n := 1728) rfl (by decide) rfl (by decide) (by omega) (by omega) ?_
  refine zx_if g_X6_mayBe rfl (by omega) (fun (h6 : (R 36 p) ≠ 0) => ?_) (fun (h6 : ¬ (R 36 p) ≠ 0) => ?_)
  · refine zx_go (pc1 := 18) (l1 := [some (zr 32), some (zi k), some (zi p), some (zi 0), some (zi 0), none]) (st1 := []) (w1 := wr c R) g_X6_mayBe 4 _ _ _ _ rfl ?_
    have lp18 : ∀ (it : Nat) (mv_v : Int) (i : Int) (o5_v : Option zV), (it : Int) = k - i → (0 ≤ i ∧ i ≤ k ∧ mv_v = bI (mayN c D (R 41) k p i)) → ZX m_X6_mayBe 18 [some (zr 32), some (zi k), some (zi p), some (zi mv_v), some (zi i), o5_v] [] (wr c R) (qF (zi (bI (mayb c D (R 41) k p))) (wr c R)) := by
      refine fun it => Nat.strongRecOn it (fun it ih18 => ?_)
      intro mv_v i o5_v hn18 hi18
      obtain ⟨i0, i1_v, em⟩ := hi18
      have mv01 : mv_v = 0 ∨ mv_v = 1 := by rw [em]; exact bI_01 _
      refine zx_go (pc1 := 21) (l1 := [some (zr 32), some (zi k), some (zi p), some (zi mv_v), some (zi i), o5_v]) (st1 := [zi k, zi i]) (w1 := wr c R) g_X6_mayBe 2 _ _ _ _ rfl ?_
      refine zx_cmp g_X6_mayBe rfl (by omega) (by omega) (fun (h21 : k ≤ i) => ?_) (fun (h21 : ¬ (k ≤ i)) => ?_)
      · refine zx_go (pc1 := 78) (l1 := [some (zr 32), some (zi k), some (zi p), some (zi mv_v), some (zi i), o5_v]) (st1 := [zi mv_v]) (w1 := wr c R) g_X6_mayBe 1 _ _ _ _ rfl ?_
        refine zx_iret g_X6_mayBe rfl (by omega) ?_
        refine qF_i ?_
        rw [em, show i = k by omega]
        rfl
      · have pj := hpk i i0 (by omega)
        have ni := hD.2.2.2.2.2.2.1 i i0 (by omega)
        have e38i := (hm.2.2.2.1 i i0 (by omega)).1
        have mp_v := mpp_D hm i0 (by omega) pj.1 pj.2.1
        have mR : inR (mpp R i) := by
          rw [mp_v]
          by_cases z : R 41 i = -1
          · rw [if_pos z]; decide
          · rw [if_neg z]
            have y := pj.2.2 z
            have y0 := y.1
            have y1 := y.2
            omega
        refine zx_go (pc1 := 27) (l1 := [some (zr 32), some (zi k), some (zi p), some (zi mv_v), some (zi i), o5_v]) (st1 := [zi i, zr 32]) (w1 := wr c R) g_X6_mayBe 2 _ _ _ _ rfl ?_
        refine zx_cvF (As := [zi i]) (rest := []) g_X6_mayBe rfl g_X6_placeOfPin rfl rfl (Nat.le_of_ble_eq_true rfl) (Nat.le_of_ble_eq_true rfl) rfl (by decide) (m_placeOfPin (by omega) (by omega) (by omega) (by omega)) ?_
        refine zx_go (pc1 := 33) (l1 := [some (zr 32), some (zi k), some (zi p), some (zi mv_v), some (zi i), some (zi (mpp R i))]) (st1 := [zi mv_v]) (w1 := wr c R) g_X6_mayBe 2 _ _ _ _ rfl ?_
        refine zx_if g_X6_mayBe rfl (by omega) (fun (h33 : mv_v = 0) => ?_) (fun (h33 : ¬ mv_v = 0) => ?_)
        · refine zx_go (pc1 := 18) (l1 := [some (zr 32), some (zi k), some (zi p), some (zi 0), some (zi (i + 1)), some (zi (mpp R i))]) (st1 := []) (w1 := wr c R) g_X6_mayBe 4 _ _ _ _ rfl ?_
          refine ih18 (Int.toNat (k - (i + 1))) (by omega) 0 (i + 1) (some (zi (mpp R i))) (by omega) ?_
          refine ⟨by omega, by omega, ?_⟩
          refine (bI_f (fun z => ?_)).symm
          have z := (mayN_s i0).mp z
          first
          | exact bI_ne.mpr z.1 (by rw [← em]; exact h33)
          | (rw [e38k, e38i, mp2] at h62
             exact z.2 nz h62)
        · refine zx_go (pc1 := 39) (l1 := [some (zr 32), some (zi k), some (zi p), some (zi mv_v), some (zi i), some (zi (mpp R i))]) (st1 := [zi (-1), zi (mpp R i)]) (w1 := wr c R) g_X6_mayBe 2 _ _ _ _ rfl ?_
          refine zx_cmp g_X6_mayBe rfl (by omega) (by omega) (fun (h39 : (mpp R i) = (-1)) => ?_) (fun (h39 : ¬ ((mpp R i) = (-1))) => ?_)
          · refine zx_go (pc1 := 18) (l1 := [some (zr 32), some (zi k), some (zi p), some (zi 1), some (zi (i + 1)), some (zi (mpp R i))]) (st1 := []) (w1 := wr c R) g_X6_mayBe 5 _ _ _ _ rfl ?_
            refine ih18 (Int.toNat (k - (i + 1))) (by omega) 1 (i + 1) (some (zi (mpp R i))) (by omega) ?_
            refine ⟨by omega, by omega, ?_⟩
            refine (bI_t ((mayN_s i0).mpr ⟨bI_ne.mp (by rw [← em]; exact h33), ?_⟩)).symm
            first
            | (intro nz cl_v
               rw [e38k, e38i, mp2] at h62
               exact h62 cl_v)
            | (intro nz
               rw [mp_v, if_neg nz] at h39
               have y := (pj.2.2 nz).1
               omega)
          · have nz : R 41 i ≠ -1 := fun z => h39 (by rw [mp_v, if_pos z])
            have mp2 : mpp R i = D 14 (i * 4 + R 41 i) := by rw [mp_v, if_neg nz]
            have pq_v := pj.2.2 nz
            refine zx_go (pc1 := 48) (l1 := [some (zr 32), some (zi k), some (zi p), some (zi mv_v), some (zi i), some (zi (mpp R i))]) (st1 := [zi k, zr 38, zr 32]) (w1 := wr c R) g_X6_mayBe 4 _ _ _ _ rfl ?_
            refine gz_iald g_X6_mayBe rfl (n := 40) rfl (by decide) rfl (by decide) (by omega) (by omega) ?_
            refine zx_go (pc1 := 56) (l1 := [some (zr 32), some (zi k), some (zi p), some (zi mv_v), some (zi i), some (zi (mpp R i))]) (st1 := [zi i, zr 38, zi p, zi (R 38 k), zr 32]) (w1 := wr c R) g_X6_mayBe 4 _ _ _ _ rfl ?_
            refine gz_iald g_X6_mayBe rfl (n := 40) rfl (by decide) rfl (by decide) (by omega) (by omega) ?_
            refine zx_go (pc1 := 59) (l1 := [some (zr 32), some (zi k), some (zi p), some (zi mv_v), some (zi i), some (zi (mpp R i))]) (st1 := [zi (mpp R i), zi (R 38 i), zi p, zi (R 38 k), zr 32]) (w1 := wr c R) g_X6_mayBe 1 _ _ _ _ rfl ?_
            refine zx_cvF (As := [zi (R 38 k), zi p, zi (R 38 i), zi (mpp R i)]) (rest := []) g_X6_mayBe rfl g_X6_clashes rfl rfl (Nat.le_of_ble_eq_true rfl) (Nat.le_of_ble_eq_true rfl) rfl (by decide) (m_clashes hD hm hp (by rw [mp2]; exact pq_v) (by omega) (by omega) (by omega) (by omega)) ?_
            refine zx_ifne g_X6_mayBe rfl (fun (h62 : (clash c D (R 38 k) p (R 38 i) (mpp R i))) => ?_) (fun (h62 : ¬ (clash c D (R 38 k) p (R 38 i) (mpp R i))) => ?_)
            · refine zx_go (pc1 := 18) (l1 := [some (zr 32), some (zi k), some (zi p), some (zi 0), some (zi (i + 1)), some (zi (mpp R i))]) (st1 := []) (w1 := wr c R) g_X6_mayBe 4 _ _ _ _ rfl ?_
              refine ih18 (Int.toNat (k - (i + 1))) (by omega) 0 (i + 1) (some (zi (mpp R i))) (by omega) ?_
              refine ⟨by omega, by omega, ?_⟩
              refine (bI_f (fun z => ?_)).symm
              have z := (mayN_s i0).mp z
              first
              | exact bI_ne.mpr z.1 (by rw [← em]; exact h33)
              | (rw [e38k, e38i, mp2] at h62
                 exact z.2 nz h62)
            · refine zx_go (pc1 := 18) (l1 := [some (zr 32), some (zi k), some (zi p), some (zi 1), some (zi (i + 1)), some (zi (mpp R i))]) (st1 := []) (w1 := wr c R) g_X6_mayBe 5 _ _ _ _ rfl ?_
              refine ih18 (Int.toNat (k - (i + 1))) (by omega) 1 (i + 1) (some (zi (mpp R i))) (by omega) ?_
              refine ⟨by omega, by omega, ?_⟩
              refine (bI_t ((mayN_s i0).mpr ⟨bI_ne.mp (by rw [← em]; exact h33), ?_⟩)).symm
              first
              | (intro nz cl_v
                 rw [e38k, e38i, mp2] at h62
                 exact h62 cl_v)
              | (intro nz
                 rw [mp_v, if_neg nz] at h39
                 have y := (pj.2.2 nz).1
                 omega)
    refine lp18 (Int.toNat (k - 0)) 0 0 none (by omega) ?_
    refine ⟨by omega, by omega, ?_⟩
    exact (bI_f (fun z => absurd (mayN_0.mp z) (by omega))).symm
  · refine zx_go (pc1 := 18) (l1 := [some (zr 32), some (zi k), some (zi p), some (zi 1), some (zi 0), none]) (st1 := []) (w1 := wr c R) g_X6_mayBe 5 _ _ _ _ rfl ?_
    have lp18 : ∀ (it : Nat) (mv_v : Int) (i : Int) (o5_v : Option zV), (it : Int) = k - i → (0 ≤ i ∧ i ≤ k ∧ mv_v = bI (mayN c D (R 41) k p i)) → ZX m_X6_mayBe 18 [some (zr 32), some (zi k), some (zi p), some (zi mv_v), some (zi i), o5_v] [] (wr c R) (qF (zi (bI (mayb c D (R 41) k p))) (wr c R)) := by
      refine fun it => Nat.strongRecOn it (fun it ih18 => ?_)
      intro mv_v i o5_v hn18 hi18
      obtain ⟨i0, i1_v, em⟩ := hi18
      have mv01 : mv_v = 0 ∨ mv_v = 1 := by rw [em]; exact bI_01 _
      refine zx_go (pc1 := 21) (l1 := [some (zr 32), some (zi k), some (zi p), some (zi mv_v), some (zi i), o5_v]) (st1 := [zi k, zi i]) (w1 := wr c R) g_X6_mayBe 2 _ _ _ _ rfl ?_
      refine zx_cmp g_X6_mayBe rfl (by omega) (by omega) (fun (h21 : k ≤ i) => ?_) (fun (h21 : ¬ (k ≤ i)) => ?_)
      · refine zx_go (pc1 := 78) (l1 := [some (zr 32), some (zi k), some (zi p), some (zi mv_v), some (zi i), o5_v]) (st1 := [zi mv_v]) (w1 := wr c R) g_X6_mayBe 1 _ _ _ _ rfl ?_
        refine zx_iret g_X6_mayBe rfl (by omega) ?_
        refine qF_i ?_
        rw [em, show i = k by omega]
        rfl
      · have pj := hpk i i0 (by omega)
        have ni := hD.2.2.2.2.2.2.1 i i0 (by omega)
        have e38i := (hm.2.2.2.1 i i0 (by omega)).1
        have mp_v := mpp_D hm i0 (by omega) pj.1 pj.2.1
        have mR : inR (mpp R i) := by
          rw [mp_v]
          by_cases z : R 41 i = -1
          · rw [if_pos z]; decide
          · rw [if_neg z]
            have y := pj.2.2 z
            have y0 := y.1
            have y1 := y.2
            omega
        refine zx_go (pc1 := 27) (l1 := [some (zr 32), some (zi k), some (zi p), some (zi mv_v), some (zi i), o5_v]) (st1 := [zi i, zr 32]) (w1 := wr c R) g_X6_mayBe 2 _ _ _ _ rfl ?_
        refine zx_cvF (As := [zi i]) (rest := []) g_X6_mayBe rfl g_X6_placeOfPin rfl rfl (Nat.le_of_ble_eq_true rfl) (Nat.le_of_ble_eq_true rfl) rfl (by decide) (m_placeOfPin (by omega) (by omega) (by omega) (by omega)) ?_
        refine zx_go (pc1 := 33) (l1 := [some (zr 32), some (zi k), some (zi p), some (zi mv_v), some (zi i), some (zi (mpp R i))]) (st1 := [zi mv_v]) (w1 := wr c R) g_X6_mayBe 2 _ _ _ _ rfl ?_
        refine zx_if g_X6_mayBe rfl (by omega) (fun (h33 : mv_v = 0) => ?_) (fun (h33 : ¬ mv_v = 0) => ?_)
        · refine zx_go (pc1 := 18) (l1 := [some (zr 32), some (zi k), some (zi p), some (zi 0), some (zi (i + 1)), some (zi (mpp R i))]) (st1 := []) (w1 := wr c R) g_X6_mayBe 4 _ _ _ _ rfl ?_
          refine ih18 (Int.toNat (k - (i + 1))) (by omega) 0 (i + 1) (some (zi (mpp R i))) (by omega) ?_
          refine ⟨by omega, by omega, ?_⟩
          refine (bI_f (fun z => ?_)).symm
          have z := (mayN_s i0).mp z
          first
          | exact bI_ne.mpr z.1 (by rw [← em]; exact h33)
          | (rw [e38k, e38i, mp2] at h62
             exact z.2 nz h62)
        · refine zx_go (pc1 := 39) (l1 := [some (zr 32), some (zi k), some (zi p), some (zi mv_v), some (zi i), some (zi (mpp R i))]) (st1 := [zi (-1), zi (mpp R i)]) (w1 := wr c R) g_X6_mayBe 2 _ _ _ _ rfl ?_
          refine zx_cmp g_X6_mayBe rfl (by omega) (by omega) (fun (h39 : (mpp R i) = (-1)) => ?_) (fun (h39 : ¬ ((mpp R i) = (-1))) => ?_)
          · refine zx_go (pc1 := 18) (l1 := [some (zr 32), some (zi k), some (zi p), some (zi 1), some (zi (i + 1)), some (zi (mpp R i))]) (st1 := []) (w1 := wr c R) g_X6_mayBe 5 _ _ _ _ rfl ?_
            refine ih18 (Int.toNat (k - (i + 1))) (by omega) 1 (i + 1) (some (zi (mpp R i))) (by omega) ?_
            refine ⟨by omega, by omega, ?_⟩
            refine (bI_t ((mayN_s i0).mpr ⟨bI_ne.mp (by rw [← em]; exact h33), ?_⟩)).symm
            first
            | (intro nz cl_v
               rw [e38k, e38i, mp2] at h62
               exact h62 cl_v)
            | (intro nz
               rw [mp_v, if_neg nz] at h39
               have y := (pj.2.2 nz).1
               omega)
          · have nz : R 41 i ≠ -1 := fun z => h39 (by rw [mp_v, if_pos z])
            have mp2 : mpp R i = D 14 (i * 4 + R 41 i) := by rw [mp_v, if_neg nz]
            have pq_v := pj.2.2 nz
            refine zx_go (pc1 := 48) (l1 := [some (zr 32), some (zi k), some (zi p), some (zi mv_v), some (zi i), some (zi (mpp R i))]) (st1 := [zi k, zr 38, zr 32]) (w1 := wr c R) g_X6_mayBe 4 _ _ _ _ rfl ?_
            refine gz_iald g_X6_mayBe rfl (n := 40) rfl (by decide) rfl (by decide) (by omega) (by omega) ?_
            refine zx_go (pc1 := 56) (l1 := [some (zr 32), some (zi k), some (zi p), some (zi mv_v), some (zi i), some (zi (mpp R i))]) (st1 := [zi i, zr 38, zi p, zi (R 38 k), zr 32]) (w1 := wr c R) g_X6_mayBe 4 _ _ _ _ rfl ?_
            refine gz_iald g_X6_mayBe rfl (n := 40) rfl (by decide) rfl (by decide) (by omega) (by omega) ?_
            refine zx_go (pc1 := 59) (l1 := [some (zr 32), some (zi k), some (zi p), some (zi mv_v), some (zi i), some (zi (mpp R i))]) (st1 := [zi (mpp R i), zi (R 38 i), zi p, zi (R 38 k), zr 32]) (w1 := wr c R) g_X6_mayBe 1 _ _ _ _ rfl ?_
            refine zx_cvF (As := [zi (R 38 k), zi p, zi (R 38 i), zi (mpp R i)]) (rest := []) g_X6_mayBe rfl g_X6_clashes rfl rfl (Nat.le_of_ble_eq_true rfl) (Nat.le_of_ble_eq_true rfl) rfl (by decide) (m_clashes hD hm hp (by rw [mp2]; exact pq_v) (by omega) (by omega) (by omega) (by omega)) ?_
            refine zx_ifne g_X6_mayBe rfl (fun (h62 : (clash c D (R 38 k) p (R 38 i) (mpp R i))) => ?_) (fun (h62 : ¬ (clash c D (R 38 k) p (R 38 i) (mpp R i))) => ?_)
            · refine zx_go (pc1 := 18) (l1 := [some (zr 32), some (zi k), some (zi p), some (zi 0), some (zi (i + 1)), some (zi (mpp R i))]) (st1 := []) (w1 := wr c R) g_X6_mayBe 4 _ _ _ _ rfl ?_
              refine ih18 (Int.toNat (k - (i + 1))) (by omega) 0 (i + 1) (some (zi (mpp R i))) (by omega) ?_
              refine ⟨by omega, by omega, ?_⟩
              refine (bI_f (fun z => ?_)).symm
              have z := (mayN_s i0).mp z
              first
              | exact bI_ne.mpr z.1 (by rw [← em]; exact h33)
              | (rw [e38k, e38i, mp2] at h62
                 exact z.2 nz h62)
            · refine zx_go (pc1 := 18) (l1 := [some (zr 32), some (zi k), some (zi p), some (zi 1), some (zi (i + 1)), some (zi (mpp R i))]) (st1 := []) (w1 := wr c R) g_X6_mayBe 5 _ _ _ _ rfl ?_
              refine ih18 (Int.toNat (k - (i + 1))) (by omega) 1 (i + 1) (some (zi (mpp R i))) (by omega) ?_
              refine ⟨by omega, by omega, ?_⟩
              refine (bI_t ((mayN_s i0).mpr ⟨bI_ne.mp (by rw [← em]; exact h33), ?_⟩)).symm
              first
              | (intro nz cl_v
                 rw [e38k, e38i, mp2] at h62
                 exact h62 cl_v)
              | (intro nz
                 rw [mp_v, if_neg nz] at h39
                 have y := (pj.2.2 nz).1
                 omega)
    refine lp18 (Int.toNat (k - 0)) 1 0 none (by omega) ?_
    refine ⟨by omega, by omega, ?_⟩
    exact (bI_t (mayN_0.mpr (by omega))).symm

set_option maxHeartbeats 1000000 in
theorem m_pick {c : zC} {R : zI} {D : zI} (hD : DOK c D) (hm : MDn c D R) : MZ m_X6_pick [zr 32] (wr c R) (gU (fun R2 => (∀ a, a ≠ 41 → a ≠ 42 → R2 a = R a) ∧ (∀ k, 0 ≤ k → k < D 10 2 → R2 41 k = pk c D k) ∧ ∀ n, 0 ≤ n → n < D 10 0 → R2 42 n = bI (clo c D n)) c) := by
  refine MZ.of g_X6_pick ?_
  show ZX m_X6_pick 0 [some (zr 32), none, none] [] (wr c R) _
  have hg := hD.1
  have g3_v := hg.S
  have p40 := hD.2.2.1
  have n16 := hD.2.1
  have e8 := hm.2.2.2.2.2.1
  have e10_v := hm.2.2.2.2.2.2
  refine zx_go (pc1 := 2) (l1 := [some (zr 32), some (zi 0), none]) (st1 := []) (w1 := wr c R) g_X6_pick 2 _ _ _ _ rfl ?_
  have lp2 : ∀ (it : Nat) (i : Int) (R0 : zI), (it : Int) = D 10 0 - i → (0 ≤ i ∧ i ≤ D 10 0 ∧ (∀ a, a ≠ 42 → R0 a = R a) ∧ ∀ n, 0 ≤ n → n < i → R0 42 n = 0) → ZX m_X6_pick 2 [some (zr 32), some (zi i), none] [] (wr c R0) (gU (fun R2 => (∀ a, a ≠ 41 → a ≠ 42 → R2 a = R a) ∧ (∀ k, 0 ≤ k → k < D 10 2 → R2 41 k = pk c D k) ∧ ∀ n, 0 ≤ n → n < D 10 0 → R2 42 n = bI (clo c D n)) c) := by
    refine fun it => Nat.strongRecOn it (fun it ih2 => ?_)
    intro i R0 hn2 hi2
    obtain ⟨i0, i1_v, fr0, z0⟩ := hi2
    have e80 : R0 32 8 = D 10 0 := by rw [fr0 32 (by decide)]; exact e8
    have e100_v : R0 32 10 = D 10 2 := by rw [fr0 32 (by decide)]; exact e10_v
    refine zx_go (pc1 := 7) (l1 := [some (zr 32), some (zi i), none]) (st1 := [zi (R0 32 8), zi i]) (w1 := wr c R0) g_X6_pick 3 _ _ _ _ rfl ?_
    refine zx_cmp g_X6_pick rfl (by omega) (by omega) (fun (h7 : (R0 32 8) ≤ i) => ?_) (fun (h7 : ¬ ((R0 32 8) ≤ i)) => ?_)
    · refine zx_go (pc1 := 25) (l1 := [some (zr 32), some (zi 0), none]) (st1 := []) (w1 := wr c R0) g_X6_pick 2 _ _ _ _ rfl ?_
      have lp25 : ∀ (it : Nat) (k : Int) (R1 : zI) (o2 : Option zV), (it : Int) = D 10 2 - k → (0 ≤ k ∧ k ≤ D 10 2 ∧ (∀ a, a ≠ 41 → a ≠ 42 → R1 a = R a) ∧ (∀ j, 0 ≤ j → j < k → R1 41 j = pk c D j) ∧ ∀ n, 0 ≤ n → n < D 10 0 → R1 42 n = bI (cloS c D k n)) → ZX m_X6_pick 25 [some (zr 32), some (zi k), o2] [] (wr c R1) (gU (fun R2 => (∀ a, a ≠ 41 → a ≠ 42 → R2 a = R a) ∧ (∀ k, 0 ≤ k → k < D 10 2 → R2 41 k = pk c D k) ∧ ∀ n, 0 ≤ n → n < D 10 0 → R2 42 n = bI (clo c D n)) c) := by
        refine fun it => Nat.strongRecOn it (fun it ih25 => ?_)
        intro k R1 o2 hn25 hi25
        obtain ⟨k0, k1, fr1, pk1, cl1⟩ := hi25
        have e101 : R1 32 10 = D 10 2 := by rw [fr1 32 (by decide) (by decide)]; exact e10_v
        have e401 : ∀ k, 0 ≤ k → k < 40 → R1 40 k = D 13 k := fun k a b => by rw [fr1 40 (by decide) (by decide)]; exact (hm.2.2.2.1 k a b).2
        refine zx_go (pc1 := 30) (l1 := [some (zr 32), some (zi k), o2]) (st1 := [zi (R1 32 10), zi k]) (w1 := wr c R1) g_X6_pick 3 _ _ _ _ rfl ?_
        refine zx_cmp g_X6_pick rfl (by omega) (by omega) (fun (h30 : (R1 32 10) ≤ k) => ?_) (fun (h30 : ¬ ((R1 32 10) ≤ k)) => ?_)
        · refine zx_vret g_X6_pick rfl ?_
          have ek : k = D 10 2 := by omega
          subst ek
          exact gU_i ⟨fr1, pk1, cl1⟩
        · have nk := hD.2.2.2.2.2.2.1 k k0 (by omega)
          have ac := hD.2.2.2.2.2.2.2 k k0 (by omega)
          refine zx_go (pc1 := 39) (l1 := [some (zr 32), some (zi k), o2]) (st1 := [zi (-1), zi k, zr 41]) (w1 := wr c R1) g_X6_pick 4 _ _ _ _ rfl ?_
          refine gz_iast g_X6_pick rfl (n := 40) rfl (by decide) (by refine ⟨?_, ?_, ?_, ?_, ?_⟩ <;> simp) (by decide) (by omega) (by omega) ?_
          refine zx_go (pc1 := 45) (l1 := [some (zr 32), some (zi k), o2]) (st1 := [zi k, zr 40]) (w1 := wr c (zU R1 41 k (-1))) g_X6_pick 3 _ _ _ _ rfl ?_
          refine gz_iald g_X6_pick rfl (n := 40) rfl (by decide) rfl (by decide) (by omega) (by omega) ?_
          refine zx_go (pc1 := 49) (l1 := [some (zr 32), some (zi k), some (zi (((zU R1 41 k (-1)) 40 k) - 1))]) (st1 := []) (w1 := wr c (zU R1 41 k (-1))) g_X6_pick 3 _ _ _ _ rfl ?_
          generalize hR4 : zU R1 41 k (-1) = R4
          have f4_v : ∀ a, a ≠ 41 → R4 a = R1 a := fun a ha_v => by rw [← hR4, zU_cell ha_v]
          have r41 : R4 41 = up1 (R1 41) k (-1) := by rw [← hR4, zU_row]
          have e40 : R4 40 k = D 13 k := by rw [f4_v 40 (by decide), fr1 40 (by decide) (by decide)]; exact (hm.2.2.2.1 k k0 (by omega)).2
          have lp49 : ∀ (it : Nat) (j : Int) (R5 : zI), (it : Int) = j + 1 → (-1 ≤ j ∧ j < D 13 k ∧ (∀ a, a ≠ 41 → R5 a = R1 a) ∧ (∀ i, 0 ≤ i → i < k → R5 41 i = pk c D i) ∧ R5 41 k = kth (fun i => mayb c D (pk c D) k (D 14 (k * 4 + i))) (D 13 k - (j + 1)).toNat (j + 1) 0) → ZX m_X6_pick 49 [some (zr 32), some (zi k), some (zi j)] [] (wr c R5) (gU (fun R2 => (∀ a, a ≠ 41 → a ≠ 42 → R2 a = R a) ∧ (∀ k, 0 ≤ k → k < D 10 2 → R2 41 k = pk c D k) ∧ ∀ n, 0 ≤ n → n < D 10 0 → R2 42 n = bI (clo c D n)) c) := by
            refine fun it => Nat.strongRecOn it (fun it ih49 => ?_)
            intro j R5 hn49 hi49
            obtain ⟨j0, j1, fr5, pk5, pj5⟩ := hi49
            skip
            refine zx_go (pc1 := 50) (l1 := [some (zr 32), some (zi k), some (zi j)]) (st1 := [zi j]) (w1 := wr c R5) g_X6_pick 1 _ _ _ _ rfl ?_
            refine zx_if g_X6_pick rfl (by omega) (fun (h50 : j < 0) => ?_) (fun (h50 : ¬ j < 0) => ?_)
            · have ej : j + 1 = 0 := by omega
              rw [ej] at pj5
              have pk6 : R5 41 k = pk c D k := by rw [pj5, pk_PK (c := c) p40.1 k k0 (by omega), Int.sub_zero]
              have e38 : R5 38 k = D 11 k := by rw [fr5 38 (by decide), fr1 38 (by decide) (by decide)]; exact (hm.2.2.2.1 k k0 (by omega)).1
              have c42 := cl1 (D 11 k) nk.1 nk.2
              have e42_v : R5 42 = R1 42 := fr5 42 (by decide)
              have b42 := bI_01 (cloS c D k (D 11 k))
              have pR := pk_R hD k0 (show k < D 10 2 by omega)
              have c43_v : R5 42 (R5 38 k) = bI (cloS c D k (D 11 k)) := by rw [e42_v, e38]; exact c42
              refine zx_go (pc1 := 102) (l1 := [some (zr 32), some (zi k), some (zi j)]) (st1 := [zi k, zr 38, zr 42]) (w1 := wr c R5) g_X6_pick 5 _ _ _ _ rfl ?_
              refine gz_iald g_X6_pick rfl (n := 40) rfl (by decide) rfl (by decide) (by omega) (by omega) ?_
              refine zx_go (pc1 := 112) (l1 := [some (zr 32), some (zi k), some (zi j)]) (st1 := [zi k, zr 38, zr 42, zi (R5 38 k), zr 42]) (w1 := wr c R5) g_X6_pick 5 _ _ _ _ rfl ?_
              refine gz_iald g_X6_pick rfl (n := 40) rfl (by decide) rfl (by decide) (by omega) (by omega) ?_
              refine gz_bald g_X6_pick rfl (n := 16) rfl (by decide) rfl (by decide) (by omega) (by omega) ?_
              refine zx_if g_X6_pick rfl (by omega) (fun (h114 : (R5 42 (R5 38 k)) ≠ 0) => ?_) (fun (h114 : ¬ (R5 42 (R5 38 k)) ≠ 0) => ?_)
              · refine zx_go (pc1 := 132) (l1 := [some (zr 32), some (zi k), some (zi j)]) (st1 := [zi 1, zi (R5 38 k), zr 42]) (w1 := wr c R5) g_X6_pick 2 _ _ _ _ rfl ?_
                refine gz_bast g_X6_pick rfl (n := 16) rfl (by decide) (by refine ⟨?_, ?_, ?_, ?_, ?_⟩ <;> simp) (by decide) (by omega) (by omega) (.inr rfl) ?_
                refine zx_go (pc1 := 25) (l1 := [some (zr 32), some (zi (k + 1)), some (zi j)]) (st1 := []) (w1 := wr c (zU R5 42 (R5 38 k) 1)) g_X6_pick 2 _ _ _ _ rfl ?_
                refine ih25 (Int.toNat (D 10 2 - (k + 1))) (by omega) (k + 1) (zU R5 42 (R5 38 k) 1) (some (zi j)) (by omega) ?_
                refine ⟨by omega, by omega, fun a h1 h2 => by rw [zU_cell h2, fr5 a h1]; exact fr1 a h1 h2, fun j j0 j1 => ?_, fun n a b => ?_⟩
                · rw [zU_cell (by decide)]
                  by_cases e : j = k
                  · rw [e]; exact pk6
                  · rw [pk5 j j0 (by omega)]
                · rw [zU_row, e38, e42_v]
                  by_cases e : n = D 11 k
                  · rw [e, up1_s]
                    refine (bI_t ?_).symm
                    obtain ⟨j, j0, j1, j2_v⟩ := bI_ne.mp (show bI (cloS c D k (D 11 k)) ≠ 0 by rw [← c43_v]; exact h114)
                    exact ⟨j, j0, by omega, j2_v⟩
                  · rw [up1_n e, cl1 n a b]
                    refine bI_congr ⟨fun ⟨j, j0, j1, j2_v⟩ => ⟨j, j0, by omega, j2_v⟩, fun ⟨j, j0, j1, j2_v, j3_v⟩ => ⟨j, j0, ?_, j2_v, j3_v⟩⟩
                    by_cases y : j = k
                    · rw [y] at j2_v; exact absurd j2_v.symm e
                    · omega
              · refine zx_go (pc1 := 122) (l1 := [some (zr 32), some (zi k), some (zi j)]) (st1 := [zi k, zr 41, zi (R5 38 k), zr 42]) (w1 := wr c R5) g_X6_pick 3 _ _ _ _ rfl ?_
                refine gz_iald g_X6_pick rfl (n := 40) rfl (by decide) rfl (by decide) (by omega) (by omega) ?_
                refine zx_go (pc1 := 124) (l1 := [some (zr 32), some (zi k), some (zi j)]) (st1 := [zi (-1), zi (R5 41 k), zi (R5 38 k), zr 42]) (w1 := wr c R5) g_X6_pick 1 _ _ _ _ rfl ?_
                refine zx_cmp g_X6_pick rfl (by omega) (by decide) (fun (h124 : (R5 41 k) ≠ (-1)) => ?_) (fun (h124 : ¬ ((R5 41 k) ≠ (-1))) => ?_)
                · refine zx_go (pc1 := 132) (l1 := [some (zr 32), some (zi k), some (zi j)]) (st1 := [zi 0, zi (R5 38 k), zr 42]) (w1 := wr c R5) g_X6_pick 1 _ _ _ _ rfl ?_
                  refine gz_bast g_X6_pick rfl (n := 16) rfl (by decide) (by refine ⟨?_, ?_, ?_, ?_, ?_⟩ <;> simp) (by decide) (by omega) (by omega) (.inl rfl) ?_
                  refine zx_go (pc1 := 25) (l1 := [some (zr 32), some (zi (k + 1)), some (zi j)]) (st1 := []) (w1 := wr c (zU R5 42 (R5 38 k) 0)) g_X6_pick 2 _ _ _ _ rfl ?_
                  refine ih25 (Int.toNat (D 10 2 - (k + 1))) (by omega) (k + 1) (zU R5 42 (R5 38 k) 0) (some (zi j)) (by omega) ?_
                  refine ⟨by omega, by omega, fun a h1 h2 => by rw [zU_cell h2, fr5 a h1]; exact fr1 a h1 h2, fun j j0 j1 => ?_, fun n a b => ?_⟩
                  · rw [zU_cell (by decide)]
                    by_cases e : j = k
                    · rw [e]; exact pk6
                    · rw [pk5 j j0 (by omega)]
                  · rw [zU_row, e38, e42_v]
                    by_cases e : n = D 11 k
                    · rw [e, up1_s]
                      refine (bI_f ?_).symm
                      rintro ⟨j, j0, j1, j2_v, j3_v⟩
                      by_cases y : j = k
                      · rw [y, ← pk6] at j3_v; exact h124 j3_v
                      · exact absurd (show bI (cloS c D k (D 11 k)) = 0 by rw [← c43_v]; exact Classical.not_not.mp h114) (bI_ne.mpr ⟨j, j0, by omega, j2_v, j3_v⟩)
                    · rw [up1_n e, cl1 n a b]
                      refine bI_congr ⟨fun ⟨j, j0, j1, j2_v⟩ => ⟨j, j0, by omega, j2_v⟩, fun ⟨j, j0, j1, j2_v, j3_v⟩ => ⟨j, j0, ?_, j2_v, j3_v⟩⟩
                      by_cases y : j = k
                      · rw [y] at j2_v; exact absurd j2_v.symm e
                      · omega
                · refine zx_go (pc1 := 132) (l1 := [some (zr 32), some (zi k), some (zi j)]) (st1 := [zi 1, zi (R5 38 k), zr 42]) (w1 := wr c R5) g_X6_pick 2 _ _ _ _ rfl ?_
                  refine gz_bast g_X6_pick rfl (n := 16) rfl (by decide) (by refine ⟨?_, ?_, ?_, ?_, ?_⟩ <;> simp) (by decide) (by omega) (by omega) (.inr rfl) ?_
                  refine zx_go (pc1 := 25) (l1 := [some (zr 32), some (zi (k + 1)), some (zi j)]) (st1 := []) (w1 := wr c (zU R5 42 (R5 38 k) 1)) g_X6_pick 2 _ _ _ _ rfl ?_
                  refine ih25 (Int.toNat (D 10 2 - (k + 1))) (by omega) (k + 1) (zU R5 42 (R5 38 k) 1) (some (zi j)) (by omega) ?_
                  refine ⟨by omega, by omega, fun a h1 h2 => by rw [zU_cell h2, fr5 a h1]; exact fr1 a h1 h2, fun j j0 j1 => ?_, fun n a b => ?_⟩
                  · rw [zU_cell (by decide)]
                    by_cases e : j = k
                    · rw [e]; exact pk6
                    · rw [pk5 j j0 (by omega)]
                  · rw [zU_row, e38, e42_v]
                    by_cases e : n = D 11 k
                    · rw [e, up1_s]
                      refine (bI_t ?_).symm
                      exact ⟨k, k0, by omega, rfl, by rw [← pk6]; exact Classical.not_not.mp h124⟩
                    · rw [up1_n e, cl1 n a b]
                      refine bI_congr ⟨fun ⟨j, j0, j1, j2_v⟩ => ⟨j, j0, by omega, j2_v⟩, fun ⟨j, j0, j1, j2_v, j3_v⟩ => ⟨j, j0, ?_, j2_v, j3_v⟩⟩
                      by_cases y : j = k
                      · rw [y] at j2_v; exact absurd j2_v.symm e
                      · omega
            · have e39 : R5 39 (4 * k + j) = D 14 (k * 4 + j) := by rw [fr5 39 (by decide), fr1 39 (by decide) (by decide), hm.2.2.2.2.1 _ (by omega) (by omega), Int.mul_comm 4 k]
              have pa := ac.2.2 j (by omega) (by omega)
              have hm5 : MDn c D R5 := hm.of (fun a h1 h2 => by rw [fr5 a (by omega)]; exact fr1 a (by omega) (by omega))
              have mq : mayb c D (R5 41) k (D 14 (k * 4 + j)) ↔ mayb c D (pk c D) k (D 14 (k * 4 + j)) := mayb_congr fun i i0 i1_v => pk5 i i0 i1_v
              have r5R : inR (R5 41 k) := by
                rw [pj5]
                have := kth_lt (P := fun i => mayb c D (pk c D) k (D 14 (k * 4 + i))) (D 13 k - (j + 1)).toNat (j + 1) 0
                omega
              refine zx_go (pc1 := 69) (l1 := [some (zr 32), some (zi k), some (zi j)]) (st1 := [zi ((4 * k) + j), zr 39, zi k, zr 32, zi k, zr 41]) (w1 := wr c R5) g_X6_pick 12 _ _ _ _ rfl ?_
              refine gz_iald g_X6_pick rfl (n := 160) rfl (by decide) rfl (by decide) (by omega) (by omega) ?_
              refine zx_cvF (As := [zi k, zi (R5 39 ((4 * k) + j))]) (rest := [zi k, zr 41]) g_X6_pick rfl g_X6_mayBe rfl rfl (Nat.le_of_ble_eq_true rfl) (Nat.le_of_ble_eq_true rfl) rfl (by decide) (m_mayBe hD hm5 (by rw [e39]; exact pa) k0 (by omega) (fun i i0 i1_v => by
                have pi := pk_R hD i0 (show i < D 10 2 by omega)
                rw [pk5 i i0 i1_v]
                exact ⟨pi.1, pi.2.1, fun z => (pi.2.2 z).1⟩)) ?_
              refine zx_ifeq g_X6_pick rfl (fun (h73 : ¬ (mayb c D (R5 41) k (R5 39 (4 * k + j)))) => ?_) (fun (h73 : (mayb c D (R5 41) k (R5 39 (4 * k + j)))) => ?_)
              · refine zx_go (pc1 := 85) (l1 := [some (zr 32), some (zi k), some (zi j)]) (st1 := [zi k, zr 41, zi k, zr 41]) (w1 := wr c R5) g_X6_pick 3 _ _ _ _ rfl ?_
                refine gz_iald g_X6_pick rfl (n := 40) rfl (by decide) rfl (by decide) (by omega) (by omega) ?_
                refine gz_iast g_X6_pick rfl (n := 40) rfl (by decide) (by refine ⟨?_, ?_, ?_, ?_, ?_⟩ <;> simp) (by decide) (by omega) (by omega) ?_
                refine zx_go (pc1 := 49) (l1 := [some (zr 32), some (zi k), some (zi (j + (-1)))]) (st1 := []) (w1 := wr c (zU R5 41 k (R5 41 k))) g_X6_pick 2 _ _ _ _ rfl ?_
                skip
                refine ih49 (Int.toNat ((j + (-1)) + 1)) (by omega) (j + (-1)) (zU R5 41 k (R5 41 k)) (by omega) ?_
                refine ⟨by omega, by omega, fun a ha_v => by rw [zU_cell ha_v]; exact fr5 a ha_v, fun i i0 i1_v => ?_, ?_⟩
                · rw [zU_row, up1_n (by omega)]; exact pk5 i i0 i1_v
                · rw [zU_row, up1_s, show j + (-1) + 1 = j by omega]
                  rw [e39, mq] at h73
                  rw [pj5]
                  exact (kth_n (P := fun i => mayb c D (pk c D) k (D 14 (k * 4 + i))) (i := j) (N := D 13 k) (by omega) h73).symm
              · refine zx_go (pc1 := 86) (l1 := [some (zr 32), some (zi k), some (zi j)]) (st1 := [zi j, zi k, zr 41]) (w1 := wr c R5) g_X6_pick 2 _ _ _ _ rfl ?_
                refine gz_iast g_X6_pick rfl (n := 40) rfl (by decide) (by refine ⟨?_, ?_, ?_, ?_, ?_⟩ <;> simp) (by decide) (by omega) (by omega) ?_
                refine zx_go (pc1 := 49) (l1 := [some (zr 32), some (zi k), some (zi (j + (-1)))]) (st1 := []) (w1 := wr c (zU R5 41 k j)) g_X6_pick 2 _ _ _ _ rfl ?_
                skip
                refine ih49 (Int.toNat ((j + (-1)) + 1)) (by omega) (j + (-1)) (zU R5 41 k j) (by omega) ?_
                refine ⟨by omega, by omega, fun a ha_v => by rw [zU_cell ha_v]; exact fr5 a ha_v, fun i i0 i1_v => ?_, ?_⟩
                · rw [zU_row, up1_n (by omega)]; exact pk5 i i0 i1_v
                · rw [zU_row, up1_s, show j + (-1) + 1 = j by omega]
                  rw [e39, mq] at h73
                  exact (kth_0 (P := fun i => mayb c D (pk c D) k (D 14 (k * 4 + i))) (i := j) (N := D 13 k) (by omega) h73 rfl).symm
          refine lp49 (Int.toNat (((R4 40 k) - 1) + 1)) ((R4 40 k) - 1) R4 (by omega) ?_
          refine ⟨by omega, by omega, f4_v, fun i i0 i1_v => ?_, ?_⟩
          · rw [r41, up1_n (by omega)]; exact pk1 i i0 i1_v
          · rw [r41, up1_s, kth_e (by omega)]
      refine lp25 (Int.toNat (D 10 2 - 0)) 0 R0 none (by omega) ?_
      refine ⟨by omega, by omega, fun a _ h2 => fr0 a h2, fun j a b => by omega, fun n a b => ?_⟩
      rw [z0 n a (by omega), bI_f]
      rintro ⟨j, j0, j1, _⟩
      omega
    · refine zx_go (pc1 := 16) (l1 := [some (zr 32), some (zi i), none]) (st1 := [zi 0, zi i, zr 42]) (w1 := wr c R0) g_X6_pick 4 _ _ _ _ rfl ?_
      refine gz_bast g_X6_pick rfl (n := 16) rfl (by decide) (by refine ⟨?_, ?_, ?_, ?_, ?_⟩ <;> simp) (by decide) (by omega) (by omega) (.inl rfl) ?_
      refine zx_go (pc1 := 2) (l1 := [some (zr 32), some (zi (i + 1)), none]) (st1 := []) (w1 := wr c (zU R0 42 i 0)) g_X6_pick 2 _ _ _ _ rfl ?_
      refine ih2 (Int.toNat (D 10 0 - (i + 1))) (by omega) (i + 1) (zU R0 42 i 0) (by omega) ?_
      refine ⟨by omega, by omega, fun a ha_v => by rw [zU_cell ha_v]; exact fr0 a ha_v, fun n a b => ?_⟩
      rw [zU_row]
      by_cases e : n = i
      · rw [e, up1_s]
      · rw [up1_n e]; exact z0 n a (by omega)
  refine lp2 (Int.toNat (D 10 0 - 0)) 0 R (by omega) ?_
  exact ⟨by omega, by omega, fun _ _ => rfl, fun n a b => by omega⟩

