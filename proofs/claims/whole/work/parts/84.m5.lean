/-! ===== contracts of the reference (5): ends and ways back ===== -/
theorem mpp_ok {c : zC} {D R : zI} (hD : DOK c D) (hm : MDn c D R) {k : Int} (k0 : 0 ≤ k) (k1 : k < D 10 2) (e : R 41 k = pk c D k) : (pk c D k = -1 ∧ mpp R k = -1) ∨ (pk c D k ≠ -1 ∧ mpp R k = pp c D k ∧ pls c (mpp R k)) := by
  have pR := pk_R hD k0 k1
  have p40 := hD.2.2.1
  have m := mpp_D hm k0 (by omega) (by omega) (by omega)
  rw [e] at m
  by_cases z : pk c D k = -1
  · rw [if_pos z] at m
    exact .inl ⟨z, m⟩
  · rw [if_neg z] at m
    have m2_v : mpp R k = pp c D k := m
    exact .inr ⟨z, m2_v, by rw [m2_v]; exact (pR.2.2 z).1⟩
theorem mpp_I {c : zC} {D R : zI} (hD : DOK c D) (hm : MDn c D R) {k : Int} (k0 : 0 ≤ k) (k1 : k < D 10 2) (e : R 41 k = pk c D k) : -1 ≤ mpp R k ∧ mpp R k < (cS c : Int) := by
  have g3_v := hD.1.S
  rcases mpp_ok hD hm k0 k1 e with ⟨-, z⟩ | ⟨-, -, z⟩
  · omega
  · have z0 := z.1
    have z1 := z.2
    omega
theorem dne_iff {c : zC} {D : zI} {n : Int} {t : Int → Prop} (nc : ¬ clo c D n) : dne c D n t ↔ ∀ j, 0 ≤ j → j < D 10 2 → D 11 j = n → t (pp c D j) := by
  constructor
  · intro h_v j j0 j1 j2_v
    exact h_v _ ⟨j, j0, j1, j2_v, fun z => nc ⟨j, j0, j1, j2_v, z⟩, rfl⟩
  · rintro h_v p ⟨j, j0, j1, j2_v, j3_v, j4_v⟩
    rw [← j4_v]
    exact h_v j j0 j1 j2_v

set_option maxHeartbeats 1000000 in
theorem m_isDone {c : zC} {R : zI} {D : zI} {n : Int} {t : Int → Prop} (hD : DOK c D) (hm : MDn c D R) (nc : ¬ clo c D n) (n0 : 0 ≤ n) (n1 : n < D 10 0) (hpk : ∀ k, 0 ≤ k → k < D 10 2 → R 41 k = pk c D k) (ht : ∀ p, pls c p → R 48 p = bI (t p)) : MZ m_X6_isDone [zr 32, zi n] (wr c R) (qF (zi (bI (dne c D n t))) (wr c R)) := by
  refine MZ.of g_X6_isDone ?_
  show ZX m_X6_isDone 0 [some (zr 32), some (zi n), none, none] [] (wr c R) _
  have hg := hD.1
  have g3_v := hg.S
  have p40 := hD.2.2.1
  have n16 := hD.2.1
  have e10_v := hm.2.2.2.2.2.2
  refine zx_go (pc1 := 4) (l1 := [some (zr 32), some (zi n), some (zi 1), some (zi 0)]) (st1 := []) (w1 := wr c R) g_X6_isDone 4 _ _ _ _ rfl ?_
  have lp4 : ∀ (it : Nat) (av : Int) (k : Int), (it : Int) = D 10 2 - k → (0 ≤ k ∧ k ≤ D 10 2 ∧ av = bI (∀ j, 0 ≤ j → j < k → D 11 j = n → t (pp c D j))) → ZX m_X6_isDone 4 [some (zr 32), some (zi n), some (zi av), some (zi k)] [] (wr c R) (qF (zi (bI (dne c D n t))) (wr c R)) := by
    refine fun it => Nat.strongRecOn it (fun it ih4 => ?_)
    intro av k hn4 hi4
    obtain ⟨k0, k1, ev_v⟩ := hi4
    have a01 : av = 0 ∨ av = 1 := by rw [ev_v]; exact bI_01 _
    refine zx_go (pc1 := 9) (l1 := [some (zr 32), some (zi n), some (zi av), some (zi k)]) (st1 := [zi (R 32 10), zi k]) (w1 := wr c R) g_X6_isDone 3 _ _ _ _ rfl ?_
    refine zx_cmp g_X6_isDone rfl (by omega) (by omega) (fun (h9 : (R 32 10) ≤ k) => ?_) (fun (h9 : ¬ ((R 32 10) ≤ k)) => ?_)
    · refine zx_go (pc1 := 52) (l1 := [some (zr 32), some (zi n), some (zi av), some (zi k)]) (st1 := [zi av]) (w1 := wr c R) g_X6_isDone 1 _ _ _ _ rfl ?_
      refine zx_iret g_X6_isDone rfl (by omega) ?_
      refine qF_i ?_
      rw [ev_v, show k = D 10 2 by omega]
      exact (bI_congr (dne_iff nc)).symm
    · refine zx_go (pc1 := 13) (l1 := [some (zr 32), some (zi n), some (zi av), some (zi k)]) (st1 := [zi av]) (w1 := wr c R) g_X6_isDone 1 _ _ _ _ rfl ?_
      refine zx_if g_X6_isDone rfl (by omega) (fun (h13 : av = 0) => ?_) (fun (h13 : ¬ av = 0) => ?_)
      · refine zx_go (pc1 := 4) (l1 := [some (zr 32), some (zi n), some (zi 0), some (zi (k + 1))]) (st1 := []) (w1 := wr c R) g_X6_isDone 4 _ _ _ _ rfl ?_
        refine ih4 (Int.toNat (D 10 2 - (k + 1))) (by omega) 0 (k + 1) (by omega) ?_
        refine ⟨by omega, by omega, ?_⟩
        refine (bI_f (fun z => ?_)).symm
        exact bI_ne.mpr (show ∀ j, 0 ≤ j → j < k → D 11 j = n → t (pp c D j) from fun j j0 j1 j2_v => z j j0 (by omega) j2_v) (by rw [← ev_v]; exact h13)
      · have nk := hD.2.2.2.2.2.2.1 k k0 (by omega)
        have e38 := (hm.2.2.2.1 k k0 (by omega)).1
        have e41_v := hpk k k0 (by omega)
        have pR := pk_R hD k0 (show k < D 10 2 by omega)
        have mok := mpp_ok hD hm k0 (show k < D 10 2 by omega) e41_v
        have mI := mpp_I hD hm k0 (show k < D 10 2 by omega) e41_v
        refine zx_go (pc1 := 21) (l1 := [some (zr 32), some (zi n), some (zi av), some (zi k)]) (st1 := [zi k, zr 38]) (w1 := wr c R) g_X6_isDone 3 _ _ _ _ rfl ?_
        refine gz_iald g_X6_isDone rfl (n := 40) rfl (by decide) rfl (by decide) (by omega) (by omega) ?_
        refine zx_go (pc1 := 23) (l1 := [some (zr 32), some (zi n), some (zi av), some (zi k)]) (st1 := [zi n, zi (R 38 k)]) (w1 := wr c R) g_X6_isDone 1 _ _ _ _ rfl ?_
        refine zx_cmp g_X6_isDone rfl (by omega) (by omega) (fun (h23 : (R 38 k) ≠ n) => ?_) (fun (h23 : ¬ ((R 38 k) ≠ n)) => ?_)
        · refine zx_go (pc1 := 4) (l1 := [some (zr 32), some (zi n), some (zi 1), some (zi (k + 1))]) (st1 := []) (w1 := wr c R) g_X6_isDone 5 _ _ _ _ rfl ?_
          refine ih4 (Int.toNat (D 10 2 - (k + 1))) (by omega) 1 (k + 1) (by omega) ?_
          refine ⟨by omega, by omega, ?_⟩
          refine (bI_t (fun j j0 j1 j2_v => ?_)).symm
          by_cases y : j = k
          · subst y
            rw [← e38] at j2_v
            exact absurd j2_v h23
          · exact bI_ne.mp (show bI (∀ j, 0 ≤ j → j < k → D 11 j = n → t (pp c D j)) ≠ 0 by rw [← ev_v]; exact h13) j j0 (by omega) j2_v
        · have nz : pk c D k ≠ -1 := fun z => nc ⟨k, k0, by omega, by rw [← e38]; exact Classical.not_not.mp h23, z⟩
          obtain ⟨mp_v, mpl⟩ := (mok.resolve_left (fun z => nz z.1)).2
          obtain ⟨ml0, ml1⟩ := mpl
          have e48 : R 48 (mpp R k) = bI (t (pp c D k)) := by rw [ht _ ⟨ml0, ml1⟩, mp_v]
          have t01 := bI_01 (t (pp c D k))
          refine zx_go (pc1 := 32) (l1 := [some (zr 32), some (zi n), some (zi av), some (zi k)]) (st1 := [zi k, zr 32, zr 48]) (w1 := wr c R) g_X6_isDone 4 _ _ _ _ rfl ?_
          refine zx_cvF (As := [zi k]) (rest := [zr 48]) g_X6_isDone rfl g_X6_placeOfPin rfl rfl (Nat.le_of_ble_eq_true rfl) (Nat.le_of_ble_eq_true rfl) rfl (by decide) (m_placeOfPin (by omega) (by omega) (by omega) (by omega)) ?_
          refine gz_bald g_X6_isDone rfl (n := 1728) rfl (by decide) rfl (by decide) (by omega) (by omega) ?_
          refine zx_if g_X6_isDone rfl (by omega) (fun (h36 : (R 48 (mpp R k)) = 0) => ?_) (fun (h36 : ¬ (R 48 (mpp R k)) = 0) => ?_)
          · refine zx_go (pc1 := 4) (l1 := [some (zr 32), some (zi n), some (zi 0), some (zi (k + 1))]) (st1 := []) (w1 := wr c R) g_X6_isDone 4 _ _ _ _ rfl ?_
            refine ih4 (Int.toNat (D 10 2 - (k + 1))) (by omega) 0 (k + 1) (by omega) ?_
            refine ⟨by omega, by omega, ?_⟩
            refine (bI_f (fun z => ?_)).symm
            have y := z k k0 (by omega) (by rw [← e38]; exact Classical.not_not.mp h23)
            rw [e48, bI_t y] at h36
            omega
          · refine zx_go (pc1 := 4) (l1 := [some (zr 32), some (zi n), some (zi 1), some (zi (k + 1))]) (st1 := []) (w1 := wr c R) g_X6_isDone 5 _ _ _ _ rfl ?_
            refine ih4 (Int.toNat (D 10 2 - (k + 1))) (by omega) 1 (k + 1) (by omega) ?_
            refine ⟨by omega, by omega, ?_⟩
            refine (bI_t (fun j j0 j1 j2_v => ?_)).symm
            by_cases y : j = k
            · subst y
              exact bI_ne.mp (by rw [← e48]; exact h36)
            · exact bI_ne.mp (show bI (∀ j, 0 ≤ j → j < k → D 11 j = n → t (pp c D j)) ≠ 0 by rw [← ev_v]; exact h13) j j0 (by omega) j2_v
  refine lp4 (Int.toNat (D 10 2 - 0)) 1 0 (by omega) ?_
  exact ⟨by omega, by omega, (bI_t (fun j j0 j1 => by omega)).symm⟩

set_option maxHeartbeats 1000000 in
theorem m_goal {c : zC} {R : zI} {D : zI} {n : Int} {t : Int → Prop} {f : Int → Int} (hD : DOK c D) (hm : MDn c D R) (nc : ¬ clo c D n) (n0 : 0 ≤ n) (n1 : n < D 10 0) (hpk : ∀ k, 0 ≤ k → k < D 10 2 → R 41 k = pk c D k) (ht : ∀ p, pls c p → R 48 p = bI (t p)) (hc : ∀ p, pls c p → R 52 p = f p ∧ 0 ≤ f p ∧ f p ≤ FAR) : MZ m_X6_goal [zr 32, zi n] (wr c R) (qF (zi (gl (cnd c D n t f) f)) (wr c R)) := by
  refine MZ.of g_X6_goal ?_
  show ZX m_X6_goal 0 [some (zr 32), some (zi n), none, none, none, none] [] (wr c R) _
  have hg := hD.1
  have g3_v := hg.S
  have p40 := hD.2.2.1
  have n16 := hD.2.1
  have e10_v := hm.2.2.2.2.2.2
  have hFAR : FAR = 1000000000 := rfl
  refine zx_go (pc1 := 4) (l1 := [some (zr 32), some (zi n), some (zi (-1)), some (zi 0), none, none]) (st1 := []) (w1 := wr c R) g_X6_goal 4 _ _ _ _ rfl ?_
  have lp4 : ∀ (it : Nat) (fo : Int) (k : Int) (o4_v : Option zV) (o5_v : Option zV), (it : Int) = D 10 2 - k → (0 ≤ k ∧ k ≤ D 10 2 ∧ ((fo = -1 ∧ ∀ j, 0 ≤ j → j < k → ¬ (D 11 j = n ∧ cnd c D n t f (pp c D j))) ∨ (cnd c D n t f fo ∧ ∀ j, 0 ≤ j → j < k → (D 11 j = n ∧ cnd c D n t f (pp c D j)) → ¬ bef f (pp c D j) fo))) → ZX m_X6_goal 4 [some (zr 32), some (zi n), some (zi fo), some (zi k), o4_v, o5_v] [] (wr c R) (qF (zi (gl (cnd c D n t f) f)) (wr c R)) := by
    refine fun it => Nat.strongRecOn it (fun it ih4 => ?_)
    intro fo k o4_v o5_v hn4 hi4
    obtain ⟨k0, k1, iv_v⟩ := hi4
    refine zx_go (pc1 := 9) (l1 := [some (zr 32), some (zi n), some (zi fo), some (zi k), o4_v, o5_v]) (st1 := [zi (R 32 10), zi k]) (w1 := wr c R) g_X6_goal 3 _ _ _ _ rfl ?_
    refine zx_cmp g_X6_goal rfl (by omega) (by omega) (fun (h9 : (R 32 10) ≤ k) => ?_) (fun (h9 : ¬ ((R 32 10) ≤ k)) => ?_)
    · refine zx_go (pc1 := 120) (l1 := [some (zr 32), some (zi n), some (zi fo), some (zi k), o4_v, o5_v]) (st1 := [zi fo]) (w1 := wr c R) g_X6_goal 1 _ _ _ _ rfl ?_
      refine zx_iret g_X6_goal rfl (.inl rfl) ?_
      refine qF_i ?_
      have ek : k = D 10 2 := by omega
      subst ek
      rcases iv_v with ⟨w1, w2_v⟩ | ⟨w1, w2_v⟩
      · rw [w1]
        refine (gl_no fun p hp => ?_).symm
        obtain ⟨j, j0, j1, j2_v, j3_v, j4_v⟩ := hp.2.1.1
        exact w2_v j j0 j1 ⟨j2_v, by rw [j4_v]; exact hp⟩
      · refine (gl_eq w1 fun p hp => ?_).symm
        obtain ⟨j, j0, j1, j2_v, j3_v, j4_v⟩ := hp.2.1.1
        rw [← j4_v]
        exact w2_v j j0 j1 ⟨j2_v, by rw [j4_v]; exact hp⟩
    · have nk := hD.2.2.2.2.2.2.1 k k0 (by omega)
      have e38 := (hm.2.2.2.1 k k0 (by omega)).1
      have e41_v := hpk k k0 (by omega)
      have pR := pk_R hD k0 (show k < D 10 2 by omega)
      have mok := mpp_ok hD hm k0 (show k < D 10 2 by omega) e41_v
      have mI := mpp_I hD hm k0 (show k < D 10 2 by omega) e41_v
      refine zx_go (pc1 := 14) (l1 := [some (zr 32), some (zi n), some (zi fo), some (zi k), o4_v, o5_v]) (st1 := [zi k, zr 32]) (w1 := wr c R) g_X6_goal 2 _ _ _ _ rfl ?_
      refine zx_cvF (As := [zi k]) (rest := []) g_X6_goal rfl g_X6_placeOfPin rfl rfl (Nat.le_of_ble_eq_true rfl) (Nat.le_of_ble_eq_true rfl) rfl (by decide) (m_placeOfPin (by omega) (by omega) (by omega) (by omega)) ?_
      refine zx_go (pc1 := 24) (l1 := [some (zr 32), some (zi n), some (zi fo), some (zi k), some (zi (mpp R k)), o5_v]) (st1 := [zi k, zr 38]) (w1 := wr c R) g_X6_goal 4 _ _ _ _ rfl ?_
      refine gz_iald g_X6_goal rfl (n := 40) rfl (by decide) rfl (by decide) (by omega) (by omega) ?_
      refine zx_go (pc1 := 26) (l1 := [some (zr 32), some (zi n), some (zi fo), some (zi k), some (zi (mpp R k)), o5_v]) (st1 := [zi n, zi (R 38 k)]) (w1 := wr c R) g_X6_goal 1 _ _ _ _ rfl ?_
      refine zx_cmp g_X6_goal rfl (by omega) (by omega) (fun (h26 : (R 38 k) ≠ n) => ?_) (fun (h26 : ¬ ((R 38 k) ≠ n)) => ?_)
      · refine zx_go (pc1 := 4) (l1 := [some (zr 32), some (zi n), some (zi fo), some (zi (k + 1)), some (zi (mpp R k)), o5_v]) (st1 := []) (w1 := wr c R) g_X6_goal 2 _ _ _ _ rfl ?_
        refine ih4 (Int.toNat (D 10 2 - (k + 1))) (by omega) fo (k + 1) (some (zi (mpp R k))) o5_v (by omega) ?_
        refine ⟨by omega, by omega, ?_⟩
        have nc1 : ¬ (D 11 k = n ∧ cnd c D n t f (pp c D k)) := fun z => h26 (by rw [e38]; exact z.1)
        rcases iv_v with ⟨w1, w2_v⟩ | ⟨w1, w2_v⟩
        · refine .inl ⟨w1, fun j j0 j1 => ?_⟩
          by_cases y : j = k
          · rw [y]; exact nc1
          · exact w2_v j j0 (by omega)
        · refine .inr ⟨w1, fun j j0 j1 z => ?_⟩
          by_cases y : j = k
          · rw [y] at z; exact absurd z nc1
          · exact w2_v j j0 (by omega) z
      · have nz : pk c D k ≠ -1 := fun z => nc ⟨k, k0, by omega, by rw [← e38]; exact Classical.not_not.mp h26, z⟩
        obtain ⟨mp_v, mpl⟩ := (mok.resolve_left (fun z => nz z.1)).2
        obtain ⟨ml0, ml1⟩ := mpl
        have e48 : R 48 (mpp R k) = bI (t (pp c D k)) := by rw [ht _ ⟨ml0, ml1⟩, mp_v]
        have t01 := bI_01 (t (pp c D k))
        refine zx_go (pc1 := 35) (l1 := [some (zr 32), some (zi n), some (zi fo), some (zi k), some (zi (mpp R k)), o5_v]) (st1 := [zi (mpp R k), zr 48]) (w1 := wr c R) g_X6_goal 3 _ _ _ _ rfl ?_
        refine gz_bald g_X6_goal rfl (n := 1728) rfl (by decide) rfl (by decide) (by omega) (by omega) ?_
        refine zx_if g_X6_goal rfl (by omega) (fun (h36 : (R 48 (mpp R k)) ≠ 0) => ?_) (fun (h36 : ¬ (R 48 (mpp R k)) ≠ 0) => ?_)
        · refine zx_go (pc1 := 4) (l1 := [some (zr 32), some (zi n), some (zi fo), some (zi (k + 1)), some (zi (mpp R k)), o5_v]) (st1 := []) (w1 := wr c R) g_X6_goal 2 _ _ _ _ rfl ?_
          refine ih4 (Int.toNat (D 10 2 - (k + 1))) (by omega) fo (k + 1) (some (zi (mpp R k))) o5_v (by omega) ?_
          refine ⟨by omega, by omega, ?_⟩
          have nc1 : ¬ (D 11 k = n ∧ cnd c D n t f (pp c D k)) := fun z => z.2.2.1.2 (bI_ne.mp (by rw [← e48]; exact h36))
          rcases iv_v with ⟨w1, w2_v⟩ | ⟨w1, w2_v⟩
          · refine .inl ⟨w1, fun j j0 j1 => ?_⟩
            by_cases y : j = k
            · rw [y]; exact nc1
            · exact w2_v j j0 (by omega)
          · refine .inr ⟨w1, fun j j0 j1 z => ?_⟩
            by_cases y : j = k
            · rw [y] at z; exact absurd z nc1
            · exact w2_v j j0 (by omega) z
        · obtain ⟨ec, ec0, ec1⟩ := hc _ (show pls c (mpp R k) from ⟨ml0, ml1⟩)
          refine zx_go (pc1 := 45) (l1 := [some (zr 32), some (zi n), some (zi fo), some (zi k), some (zi (mpp R k)), o5_v]) (st1 := [zi (mpp R k), zr 52]) (w1 := wr c R) g_X6_goal 3 _ _ _ _ rfl ?_
          refine gz_iald g_X6_goal rfl (n := 1728) rfl (by decide) rfl (by decide) (by omega) (by omega) ?_
          refine zx_go (pc1 := 48) (l1 := [some (zr 32), some (zi n), some (zi fo), some (zi k), some (zi (mpp R k)), o5_v]) (st1 := [zi 1000000000, zi (R 52 (mpp R k))]) (w1 := wr c R) g_X6_goal 1 _ _ _ _ rfl ?_
          refine zx_cmp g_X6_goal rfl (by omega) (by decide) (fun (h48 : 1000000000 ≤ (R 52 (mpp R k))) => ?_) (fun (h48 : ¬ (1000000000 ≤ (R 52 (mpp R k)))) => ?_)
          · refine zx_go (pc1 := 4) (l1 := [some (zr 32), some (zi n), some (zi fo), some (zi (k + 1)), some (zi (mpp R k)), o5_v]) (st1 := []) (w1 := wr c R) g_X6_goal 2 _ _ _ _ rfl ?_
            refine ih4 (Int.toNat (D 10 2 - (k + 1))) (by omega) fo (k + 1) (some (zi (mpp R k))) o5_v (by omega) ?_
            refine ⟨by omega, by omega, ?_⟩
            have nc1 : ¬ (D 11 k = n ∧ cnd c D n t f (pp c D k)) := fun z => by have w := z.2.2.2; rw [← mp_v, ← ec] at w; omega
            rcases iv_v with ⟨w1, w2_v⟩ | ⟨w1, w2_v⟩
            · refine .inl ⟨w1, fun j j0 j1 => ?_⟩
              by_cases y : j = k
              · rw [y]; exact nc1
              · exact w2_v j j0 (by omega)
            · refine .inr ⟨w1, fun j j0 j1 z => ?_⟩
              by_cases y : j = k
              · rw [y] at z; exact absurd z nc1
              · exact w2_v j j0 (by omega) z
          · have cm : cnd c D n t f (mpp R k) := ⟨⟨ml0, ml1⟩, ⟨⟨k, k0, by omega, by rw [← e38]; exact Classical.not_not.mp h26, nz, mp_v.symm⟩, fun z => by rw [e48, bI_t (by rw [← mp_v]; exact z)] at h36; omega⟩, by omega⟩
            have foR : inR fo := by
              rcases iv_v with ⟨w1, w2_v⟩ | ⟨w1, w2_v⟩
              · omega
              · have w3_v := w1.1.1
                have w4_v := w1.1.2
                omega
            refine zx_go (pc1 := 53) (l1 := [some (zr 32), some (zi n), some (zi fo), some (zi k), some (zi (mpp R k)), o5_v]) (st1 := [zi (-1), zi fo]) (w1 := wr c R) g_X6_goal 2 _ _ _ _ rfl ?_
            refine zx_cmp g_X6_goal rfl (by omega) (by omega) (fun (h53 : fo = (-1)) => ?_) (fun (h53 : ¬ (fo = (-1))) => ?_)
            · refine zx_go (pc1 := 103) (l1 := [some (zr 32), some (zi n), some (zi fo), some (zi k), some (zi (mpp R k)), some (zi 1)]) (st1 := [zi 1]) (w1 := wr c R) g_X6_goal 4 _ _ _ _ rfl ?_
              refine zx_ifF g_X6_goal rfl (by decide) (show ¬ ((1 : Int) = 0) by decide) ?_
              refine zx_go (pc1 := 4) (l1 := [some (zr 32), some (zi n), some (zi (mpp R k)), some (zi (k + 1)), some (zi (mpp R k)), some (zi 1)]) (st1 := []) (w1 := wr c R) g_X6_goal 5 _ _ _ _ rfl ?_
              refine ih4 (Int.toNat (D 10 2 - (k + 1))) (by omega) (mpp R k) (k + 1) (some (zi (mpp R k))) (some (zi 1)) (by omega) ?_
              refine ⟨by omega, by omega, ?_⟩
              refine .inr ⟨cm, fun j j0 j1 z => ?_⟩
              by_cases y : j = k
              · rw [y, ← mp_v]; exact bef_irr
              · rcases iv_v with ⟨w1, w2_v⟩ | ⟨w1, w2_v⟩
                · exact absurd z (w2_v j j0 (by omega))
                · have w3_v := w1.1.1
                  omega
            · have iv2 := iv_v.resolve_left (fun z => h53 z.1)
              obtain ⟨fl0_v, fl1_v⟩ := iv2.1.1
              obtain ⟨ef, ef0, ef1⟩ := hc fo ⟨fl0_v, fl1_v⟩
              refine zx_go (pc1 := 62) (l1 := [some (zr 32), some (zi n), some (zi fo), some (zi k), some (zi (mpp R k)), o5_v]) (st1 := [zi (mpp R k), zr 52]) (w1 := wr c R) g_X6_goal 3 _ _ _ _ rfl ?_
              refine gz_iald g_X6_goal rfl (n := 1728) rfl (by decide) rfl (by decide) (by omega) (by omega) ?_
              refine zx_go (pc1 := 68) (l1 := [some (zr 32), some (zi n), some (zi fo), some (zi k), some (zi (mpp R k)), o5_v]) (st1 := [zi fo, zr 52, zi (R 52 (mpp R k))]) (w1 := wr c R) g_X6_goal 3 _ _ _ _ rfl ?_
              refine gz_iald g_X6_goal rfl (n := 1728) rfl (by decide) rfl (by decide) (by omega) (by omega) ?_
              refine zx_cmp g_X6_goal rfl (by omega) (by omega) (fun (h69 : (R 52 (mpp R k)) < (R 52 fo)) => ?_) (fun (h69 : ¬ ((R 52 (mpp R k)) < (R 52 fo))) => ?_)
              · refine zx_go (pc1 := 103) (l1 := [some (zr 32), some (zi n), some (zi fo), some (zi k), some (zi (mpp R k)), some (zi 1)]) (st1 := [zi 1]) (w1 := wr c R) g_X6_goal 4 _ _ _ _ rfl ?_
                refine zx_ifF g_X6_goal rfl (by decide) (show ¬ ((1 : Int) = 0) by decide) ?_
                refine zx_go (pc1 := 4) (l1 := [some (zr 32), some (zi n), some (zi (mpp R k)), some (zi (k + 1)), some (zi (mpp R k)), some (zi 1)]) (st1 := []) (w1 := wr c R) g_X6_goal 5 _ _ _ _ rfl ?_
                refine ih4 (Int.toNat (D 10 2 - (k + 1))) (by omega) (mpp R k) (k + 1) (some (zi (mpp R k))) (some (zi 1)) (by omega) ?_
                refine ⟨by omega, by omega, ?_⟩
                refine .inr ⟨cm, fun j j0 j1 z => ?_⟩
                by_cases y : j = k
                · rw [y, ← mp_v]; exact bef_irr
                · refine nbef_bef (iv2.2 j j0 (by omega) z) ?_
                  unfold bef
                  rw [← ec, ← ef]
                  omega
              · refine zx_go (pc1 := 78) (l1 := [some (zr 32), some (zi n), some (zi fo), some (zi k), some (zi (mpp R k)), o5_v]) (st1 := [zi (mpp R k), zr 52]) (w1 := wr c R) g_X6_goal 3 _ _ _ _ rfl ?_
                refine gz_iald g_X6_goal rfl (n := 1728) rfl (by decide) rfl (by decide) (by omega) (by omega) ?_
                refine zx_go (pc1 := 84) (l1 := [some (zr 32), some (zi n), some (zi fo), some (zi k), some (zi (mpp R k)), o5_v]) (st1 := [zi fo, zr 52, zi (R 52 (mpp R k))]) (w1 := wr c R) g_X6_goal 3 _ _ _ _ rfl ?_
                refine gz_iald g_X6_goal rfl (n := 1728) rfl (by decide) rfl (by decide) (by omega) (by omega) ?_
                refine zx_cmp g_X6_goal rfl (by omega) (by omega) (fun (h85 : (R 52 (mpp R k)) ≠ (R 52 fo)) => ?_) (fun (h85 : ¬ ((R 52 (mpp R k)) ≠ (R 52 fo))) => ?_)
                · refine zx_go (pc1 := 103) (l1 := [some (zr 32), some (zi n), some (zi fo), some (zi k), some (zi (mpp R k)), some (zi 0)]) (st1 := [zi 0]) (w1 := wr c R) g_X6_goal 3 _ _ _ _ rfl ?_
                  refine zx_ifT g_X6_goal rfl (by decide) (show ((0 : Int) = 0) by decide) ?_
                  refine zx_go (pc1 := 4) (l1 := [some (zr 32), some (zi n), some (zi fo), some (zi (k + 1)), some (zi (mpp R k)), some (zi 0)]) (st1 := []) (w1 := wr c R) g_X6_goal 4 _ _ _ _ rfl ?_
                  refine ih4 (Int.toNat (D 10 2 - (k + 1))) (by omega) fo (k + 1) (some (zi (mpp R k))) (some (zi 0)) (by omega) ?_
                  refine ⟨by omega, by omega, ?_⟩
                  refine .inr ⟨iv2.1, fun j j0 j1 z => ?_⟩
                  by_cases y : j = k
                  · rw [y, ← mp_v]
                    unfold bef
                    rw [← ec, ← ef]
                    omega
                  · exact iv2.2 j j0 (by omega) z
                · refine zx_go (pc1 := 91) (l1 := [some (zr 32), some (zi n), some (zi fo), some (zi k), some (zi (mpp R k)), o5_v]) (st1 := [zi fo, zi (mpp R k)]) (w1 := wr c R) g_X6_goal 2 _ _ _ _ rfl ?_
                  refine zx_cmp g_X6_goal rfl (by omega) (by omega) (fun (h91 : fo ≤ (mpp R k)) => ?_) (fun (h91 : ¬ (fo ≤ (mpp R k))) => ?_)
                  · refine zx_go (pc1 := 103) (l1 := [some (zr 32), some (zi n), some (zi fo), some (zi k), some (zi (mpp R k)), some (zi 0)]) (st1 := [zi 0]) (w1 := wr c R) g_X6_goal 3 _ _ _ _ rfl ?_
                    refine zx_ifT g_X6_goal rfl (by decide) (show ((0 : Int) = 0) by decide) ?_
                    refine zx_go (pc1 := 4) (l1 := [some (zr 32), some (zi n), some (zi fo), some (zi (k + 1)), some (zi (mpp R k)), some (zi 0)]) (st1 := []) (w1 := wr c R) g_X6_goal 4 _ _ _ _ rfl ?_
                    refine ih4 (Int.toNat (D 10 2 - (k + 1))) (by omega) fo (k + 1) (some (zi (mpp R k))) (some (zi 0)) (by omega) ?_
                    refine ⟨by omega, by omega, ?_⟩
                    refine .inr ⟨iv2.1, fun j j0 j1 z => ?_⟩
                    by_cases y : j = k
                    · rw [y, ← mp_v]
                      unfold bef
                      rw [← ec, ← ef]
                      omega
                    · exact iv2.2 j j0 (by omega) z
                  · refine zx_go (pc1 := 103) (l1 := [some (zr 32), some (zi n), some (zi fo), some (zi k), some (zi (mpp R k)), some (zi 1)]) (st1 := [zi 1]) (w1 := wr c R) g_X6_goal 4 _ _ _ _ rfl ?_
                    refine zx_ifF g_X6_goal rfl (by decide) (show ¬ ((1 : Int) = 0) by decide) ?_
                    refine zx_go (pc1 := 4) (l1 := [some (zr 32), some (zi n), some (zi (mpp R k)), some (zi (k + 1)), some (zi (mpp R k)), some (zi 1)]) (st1 := []) (w1 := wr c R) g_X6_goal 5 _ _ _ _ rfl ?_
                    refine ih4 (Int.toNat (D 10 2 - (k + 1))) (by omega) (mpp R k) (k + 1) (some (zi (mpp R k))) (some (zi 1)) (by omega) ?_
                    refine ⟨by omega, by omega, ?_⟩
                    refine .inr ⟨cm, fun j j0 j1 z => ?_⟩
                    by_cases y : j = k
                    · rw [y, ← mp_v]; exact bef_irr
                    · refine nbef_bef (iv2.2 j j0 (by omega) z) ?_
                      unfold bef
                      rw [← ec, ← ef]
                      omega
  refine lp4 (Int.toNat (D 10 2 - 0)) (-1) 0 none none (by omega) ?_
  exact ⟨by omega, by omega, .inl ⟨rfl, fun j j0 j1 => by omega⟩⟩

set_option maxHeartbeats 1000000 in
theorem m_backFrom {c : zC} {R : zI} {D : zI} {p : Int} {Y : Prop} {e f : Int → Int} (hD : DOK c D) (hm : MDn c D R) (hp : pls c p) (h51 : R 51 p = bI Y) (hex : R 45 p + pI Y 20 0 = e p) (he : 0 ≤ e p ∧ e p ≤ 100000000) (hc : ∀ q, pls c q → R 52 q = f q ∧ 0 ≤ f q ∧ f q ≤ FAR) : MZ m_X6_backFrom [zr 32, zi p] (wr c R) (qF (zi (bd c D e f p)) (wr c R)) := by
  refine MZ.of g_X6_backFrom ?_
  show ZX m_X6_backFrom 0 [some (zr 32), some (zi p), none, none, none, none] [] (wr c R) _
  have hg := hD.1
  have g3_v := hg.S
  have hFAR : FAR = 1000000000 := rfl
  obtain ⟨hp0, hp1⟩ := hp
  have hp : pls c p := ⟨hp0, hp1⟩
  obtain ⟨ecp, ecp0, ecp1⟩ := hc p hp
  refine zx_go (pc1 := 4) (l1 := [some (zr 32), some (zi p), some (zi (-1)), some (zi 5), none, none]) (st1 := []) (w1 := wr c R) g_X6_backFrom 4 _ _ _ _ rfl ?_
  have lp4 : ∀ (it : Nat) (fo : Int) (d : Int) (o4_v : Option zV) (o5_v : Option zV), (it : Int) = d + 1 → (-1 ≤ d ∧ d ≤ 5 ∧ fo = kth (fun d => bes c p d ≠ -1 ∧ f (bes c p d) < FAR ∧ f (bes c p d) + scost c (D 5) (D 4) (bes c p d) p + e p = f p) (6 - (d + 1)).toNat (d + 1) 0) → ZX m_X6_backFrom 4 [some (zr 32), some (zi p), some (zi fo), some (zi d), o4_v, o5_v] [] (wr c R) (qF (zi (bd c D e f p)) (wr c R)) := by
    refine fun it => Nat.strongRecOn it (fun it ih4 => ?_)
    intro fo d o4_v o5_v hn4 hi4
    obtain ⟨d0_v, d1_v, ef⟩ := hi4
    refine zx_go (pc1 := 5) (l1 := [some (zr 32), some (zi p), some (zi fo), some (zi d), o4_v, o5_v]) (st1 := [zi d]) (w1 := wr c R) g_X6_backFrom 1 _ _ _ _ rfl ?_
    refine zx_if g_X6_backFrom rfl (by omega) (fun (h5 : d < 0) => ?_) (fun (h5 : ¬ d < 0) => ?_)
    · refine zx_go (pc1 := 88) (l1 := [some (zr 32), some (zi p), some (zi fo), some (zi d), o4_v, o5_v]) (st1 := [zi fo]) (w1 := wr c R) g_X6_backFrom 1 _ _ _ _ rfl ?_
      refine zx_iret g_X6_backFrom rfl (.inl rfl) ?_
      refine qF_i ?_
      rw [ef, show d + 1 = 0 by omega]
      rfl
    · refine zx_go (pc1 := 11) (l1 := [some (zr 32), some (zi p), some (zi fo), some (zi d), o4_v, o5_v]) (st1 := [zi d, zi p, zr 32]) (w1 := wr c R) g_X6_backFrom 3 _ _ _ _ rfl ?_
      refine zx_cvF (As := [zi p, zi d]) (rest := []) g_X6_backFrom rfl g_X6_beside rfl rfl (Nat.le_of_ble_eq_true rfl) (Nat.le_of_ble_eq_true rfl) rfl (by decide) (m_beside hg (show pls c _ from ⟨by omega, by omega⟩) (by omega) (by omega)) ?_
      refine zx_go (pc1 := 16) (l1 := [some (zr 32), some (zi p), some (zi fo), some (zi d), some (zi (bes c p d)), o5_v]) (st1 := []) (w1 := wr c R) g_X6_backFrom 1 _ _ _ _ rfl ?_
      have bR : bes c p d = -1 ∨ (0 ≤ bes c p d ∧ bes c p d < (cS c : Int)) := bes_R hg (d := d) hp
      refine zx_go (pc1 := 19) (l1 := [some (zr 32), some (zi p), some (zi fo), some (zi d), some (zi (bes c p d)), o5_v]) (st1 := [zi (-1), zi (bes c p d)]) (w1 := wr c R) g_X6_backFrom 2 _ _ _ _ rfl ?_
      refine zx_cmp g_X6_backFrom rfl (by omega) (by omega) (fun (h19 : (bes c p d) = (-1)) => ?_) (fun (h19 : ¬ ((bes c p d) = (-1))) => ?_)
      · refine zx_go (pc1 := 72) (l1 := [some (zr 32), some (zi p), some (zi fo), some (zi d), some (zi (bes c p d)), some (zi 0)]) (st1 := [zi 0]) (w1 := wr c R) g_X6_backFrom 3 _ _ _ _ rfl ?_
        refine zx_ifT g_X6_backFrom rfl (by decide) (show ((0 : Int) = 0) by decide) ?_
        refine zx_go (pc1 := 4) (l1 := [some (zr 32), some (zi p), some (zi fo), some (zi (d + (-1))), some (zi (bes c p d)), some (zi 0)]) (st1 := []) (w1 := wr c R) g_X6_backFrom 4 _ _ _ _ rfl ?_
        refine ih4 (Int.toNat ((d + (-1)) + 1)) (by omega) fo (d + (-1)) (some (zi (bes c p d))) (some (zi 0)) (by omega) ?_
        refine ⟨by omega, by omega, ?_⟩
        rw [show d + (-1) + 1 = d by omega]
        rw [ef]
        refine (kth_n (P := fun d => bes c p d ≠ -1 ∧ f (bes c p d) < FAR ∧ f (bes c p d) + scost c (D 5) (D 4) (bes c p d) p + e p = f p) (i := d) (N := 6) (by omega) (fun z => ?_)).symm
        obtain ⟨z1, z2, z3⟩ := z
        first | exact z1 h19 | omega
      · have hbn : bes c p d ≠ -1 := h19
        obtain ⟨b0, b1⟩ := bR.resolve_left h19
        obtain ⟨ecq, ecq0, ecq1⟩ := hc _ (show pls c (bes c p d) from ⟨b0, b1⟩)
        have sc_v := scost_R hD (show pls c (bes c p d) from ⟨b0, b1⟩) hp
        have hm1 := hm
        refine zx_go (pc1 := 28) (l1 := [some (zr 32), some (zi p), some (zi fo), some (zi d), some (zi (bes c p d)), o5_v]) (st1 := [zi (bes c p d), zr 52]) (w1 := wr c R) g_X6_backFrom 3 _ _ _ _ rfl ?_
        refine gz_iald g_X6_backFrom rfl (n := 1728) rfl (by decide) rfl (by decide) (by omega) (by omega) ?_
        refine zx_go (pc1 := 31) (l1 := [some (zr 32), some (zi p), some (zi fo), some (zi d), some (zi (bes c p d)), o5_v]) (st1 := [zi 1000000000, zi (R 52 (bes c p d))]) (w1 := wr c R) g_X6_backFrom 1 _ _ _ _ rfl ?_
        refine zx_cmp g_X6_backFrom rfl (by omega) (by decide) (fun (h31 : 1000000000 ≤ (R 52 (bes c p d))) => ?_) (fun (h31 : ¬ (1000000000 ≤ (R 52 (bes c p d)))) => ?_)
        · refine zx_go (pc1 := 72) (l1 := [some (zr 32), some (zi p), some (zi fo), some (zi d), some (zi (bes c p d)), some (zi 0)]) (st1 := [zi 0]) (w1 := wr c R) g_X6_backFrom 3 _ _ _ _ rfl ?_
          refine zx_ifT g_X6_backFrom rfl (by decide) (show ((0 : Int) = 0) by decide) ?_
          refine zx_go (pc1 := 4) (l1 := [some (zr 32), some (zi p), some (zi fo), some (zi (d + (-1))), some (zi (bes c p d)), some (zi 0)]) (st1 := []) (w1 := wr c R) g_X6_backFrom 4 _ _ _ _ rfl ?_
          refine ih4 (Int.toNat ((d + (-1)) + 1)) (by omega) fo (d + (-1)) (some (zi (bes c p d))) (some (zi 0)) (by omega) ?_
          refine ⟨by omega, by omega, ?_⟩
          rw [show d + (-1) + 1 = d by omega]
          rw [ef]
          refine (kth_n (P := fun d => bes c p d ≠ -1 ∧ f (bes c p d) < FAR ∧ f (bes c p d) + scost c (D 5) (D 4) (bes c p d) p + e p = f p) (i := d) (N := 6) (by omega) (fun z => ?_)).symm
          obtain ⟨z1, z2, z3⟩ := z
          first | exact z1 h19 | omega
        · refine zx_go (pc1 := 40) (l1 := [some (zr 32), some (zi p), some (zi fo), some (zi d), some (zi (bes c p d)), o5_v]) (st1 := [zi (bes c p d), zr 52]) (w1 := wr c R) g_X6_backFrom 3 _ _ _ _ rfl ?_
          refine gz_iald g_X6_backFrom rfl (n := 1728) rfl (by decide) rfl (by decide) (by omega) (by omega) ?_
          refine zx_go (pc1 := 44) (l1 := [some (zr 32), some (zi p), some (zi fo), some (zi d), some (zi (bes c p d)), o5_v]) (st1 := [zi d, zi p, zr 32, zi (R 52 (bes c p d))]) (w1 := wr c R) g_X6_backFrom 3 _ _ _ _ rfl ?_
          refine zx_cvF (As := [zi p, zi d]) (rest := [zi (R 52 (bes c p d))]) g_X6_backFrom rfl g_X6_stepCost rfl rfl (Nat.le_of_ble_eq_true rfl) (Nat.le_of_ble_eq_true rfl) rfl (by decide) (m_stepCost hD hm1 (show pls c _ from ⟨by omega, by omega⟩) (by omega) (by omega) hbn) ?_
          refine zx_go (pc1 := 50) (l1 := [some (zr 32), some (zi p), some (zi fo), some (zi d), some (zi (bes c p d)), o5_v]) (st1 := [zi p, zr 32, zi ((R 52 (bes c p d)) + (scost c (D 5) (D 4) (bes c p d) p))]) (w1 := wr c R) g_X6_backFrom 3 _ _ _ _ rfl ?_
          refine zx_cvF (As := [zi p]) (rest := [zi ((R 52 (bes c p d)) + (scost c (D 5) (D 4) (bes c p d) p))]) g_X6_backFrom rfl g_X6_extra rfl rfl (Nat.le_of_ble_eq_true rfl) (Nat.le_of_ble_eq_true rfl) rfl (by decide) (m_extra hg hp h51) ?_
          refine zx_go (pc1 := 59) (l1 := [some (zr 32), some (zi p), some (zi fo), some (zi d), some (zi (bes c p d)), o5_v]) (st1 := [zi p, zr 52, zi (((R 52 (bes c p d)) + (scost c (D 5) (D 4) (bes c p d) p)) + (R 45 p + pI Y 20 0))]) (w1 := wr c R) g_X6_backFrom 4 _ _ _ _ rfl ?_
          refine gz_iald g_X6_backFrom rfl (n := 1728) rfl (by decide) rfl (by decide) (by omega) (by omega) ?_
          refine zx_cmp g_X6_backFrom rfl (by omega) (by omega) (fun (h60 : (((R 52 (bes c p d)) + (scost c (D 5) (D 4) (bes c p d) p)) + (R 45 p + pI Y 20 0)) ≠ (R 52 p)) => ?_) (fun (h60 : ¬ ((((R 52 (bes c p d)) + (scost c (D 5) (D 4) (bes c p d) p)) + (R 45 p + pI Y 20 0)) ≠ (R 52 p))) => ?_)
          · refine zx_go (pc1 := 72) (l1 := [some (zr 32), some (zi p), some (zi fo), some (zi d), some (zi (bes c p d)), some (zi 0)]) (st1 := [zi 0]) (w1 := wr c R) g_X6_backFrom 3 _ _ _ _ rfl ?_
            refine zx_ifT g_X6_backFrom rfl (by decide) (show ((0 : Int) = 0) by decide) ?_
            refine zx_go (pc1 := 4) (l1 := [some (zr 32), some (zi p), some (zi fo), some (zi (d + (-1))), some (zi (bes c p d)), some (zi 0)]) (st1 := []) (w1 := wr c R) g_X6_backFrom 4 _ _ _ _ rfl ?_
            refine ih4 (Int.toNat ((d + (-1)) + 1)) (by omega) fo (d + (-1)) (some (zi (bes c p d))) (some (zi 0)) (by omega) ?_
            refine ⟨by omega, by omega, ?_⟩
            rw [show d + (-1) + 1 = d by omega]
            rw [ef]
            refine (kth_n (P := fun d => bes c p d ≠ -1 ∧ f (bes c p d) < FAR ∧ f (bes c p d) + scost c (D 5) (D 4) (bes c p d) p + e p = f p) (i := d) (N := 6) (by omega) (fun z => ?_)).symm
            obtain ⟨z1, z2, z3⟩ := z
            first | exact z1 h19 | omega
          · refine zx_go (pc1 := 72) (l1 := [some (zr 32), some (zi p), some (zi fo), some (zi d), some (zi (bes c p d)), some (zi 1)]) (st1 := [zi 1]) (w1 := wr c R) g_X6_backFrom 4 _ _ _ _ rfl ?_
            refine zx_ifF g_X6_backFrom rfl (by decide) (show ¬ ((1 : Int) = 0) by decide) ?_
            refine zx_go (pc1 := 4) (l1 := [some (zr 32), some (zi p), some (zi d), some (zi (d + (-1))), some (zi (bes c p d)), some (zi 1)]) (st1 := []) (w1 := wr c R) g_X6_backFrom 5 _ _ _ _ rfl ?_
            refine ih4 (Int.toNat ((d + (-1)) + 1)) (by omega) d (d + (-1)) (some (zi (bes c p d))) (some (zi 1)) (by omega) ?_
            refine ⟨by omega, by omega, ?_⟩
            rw [show d + (-1) + 1 = d by omega]
            exact (kth_0 (P := fun d => bes c p d ≠ -1 ∧ f (bes c p d) < FAR ∧ f (bes c p d) + scost c (D 5) (D 4) (bes c p d) p + e p = f p) (i := d) (N := 6) (by omega) ⟨h19, by omega, by omega⟩ rfl).symm
  refine lp4 (Int.toNat (5 + 1)) (-1) 5 none none (by omega) ?_
  exact ⟨by omega, by omega, rfl⟩

