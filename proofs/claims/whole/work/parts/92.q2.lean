/-! ===== broken places ===== -/
theorem brk_q {c : zC} {D : zI} (hD : DOK c D) {a b p q : Int} (hp : pls c p) (h : clash c D a p b q) : lay c q = lay c p ∧ -3 ≤ xo c q - xo c p ∧ xo c q - xo c p ≤ 3 ∧ -3 ≤ yo c q - yo c p ∧ yo c q - yo c p ≤ 3 := by
  have r1_v := rch_R (a := a) (b := b) hD hp
  obtain ⟨-, h1⟩ := h
  unfold nr at h1
  omega

set_option maxHeartbeats 1000000 in
theorem m_findStanding {c : zC} {R : zI} {D : zI} {s : aS} (hD : DOK c D) (hs : MS0 c D s R) : MZ m_X6_findStanding [zr 32] (wr c R) (gU (fun R2 => (∀ a, a ≠ 54 → R2 a = R a) ∧ ∀ b q, 0 ≤ b → b < D 10 0 → pls c q → R2 54 (1728 * b + q) = bI (std c D s b q)) c) := by
  refine MZ.of g_X6_findStanding ?_
  show ZX m_X6_findStanding 0 [some (zr 32), none] [] (wr c R) _
  have hg := hD.1
  have g3_v := hg.S
  have n16 := hD.2.1
  have p40 := hD.2.2.1
  have e8 := hs.1.2.2.2.2.2.1
  have e10_v := hs.1.2.2.2.2.2.2
  refine zx_go (pc1 := 2) (l1 := [some (zr 32), some (zi 0)]) (st1 := []) (w1 := wr c R) g_X6_findStanding 2 _ _ _ _ rfl ?_
  have lp2 : ∀ (it : Nat) (j : Int) (R0 : zI), (it : Int) = 1728 * D 10 0 - j → (0 ≤ j ∧ j ≤ 1728 * D 10 0 ∧ (∀ a, a ≠ 54 → R0 a = R a) ∧ ∀ i, 0 ≤ i → i < j → R0 54 i = znar (R 46 i)) → ZX m_X6_findStanding 2 [some (zr 32), some (zi j)] [] (wr c R0) (gU (fun R2 => (∀ a, a ≠ 54 → R2 a = R a) ∧ ∀ b q, 0 ≤ b → b < D 10 0 → pls c q → R2 54 (1728 * b + q) = bI (std c D s b q)) c) := by
    refine fun it => Nat.strongRecOn it (fun it ih2 => ?_)
    intro j R0 hn2 hi2
    obtain ⟨j0, j1, fr0, z0⟩ := hi2
    have e80 : R0 32 8 = D 10 0 := by rw [fr0 32 (by decide)]; exact e8
    refine zx_go (pc1 := 11) (l1 := [some (zr 32), some (zi j)]) (st1 := [zi (1728 * (R0 32 8)), zi j]) (w1 := wr c R0) g_X6_findStanding 5 _ _ _ _ rfl ?_
    refine zx_cmp g_X6_findStanding rfl (by omega) (by omega) (fun (h11 : (1728 * (R0 32 8)) ≤ j) => ?_) (fun (h11 : ¬ ((1728 * (R0 32 8)) ≤ j)) => ?_)
    · refine zx_go (pc1 := 34) (l1 := [some (zr 32), some (zi 0)]) (st1 := []) (w1 := wr c R0) g_X6_findStanding 2 _ _ _ _ rfl ?_
      have lp34 : ∀ (it : Nat) (k : Int) (R1 : zI), (it : Int) = D 10 2 - k → (0 ≤ k ∧ k ≤ D 10 2 ∧ (∀ a, a ≠ 54 → R1 a = R a) ∧ ∀ b q, 0 ≤ b → b < D 10 0 → pls c q → R1 54 (1728 * b + q) = bI (aR s b q ∨ pinS c D k b q)) → ZX m_X6_findStanding 34 [some (zr 32), some (zi k)] [] (wr c R1) (gU (fun R2 => (∀ a, a ≠ 54 → R2 a = R a) ∧ ∀ b q, 0 ≤ b → b < D 10 0 → pls c q → R2 54 (1728 * b + q) = bI (std c D s b q)) c) := by
        refine fun it => Nat.strongRecOn it (fun it ih34 => ?_)
        intro k R1 hn34 hi34
        obtain ⟨k0_v, k1_v, fr1, z1⟩ := hi34
        have e101 : R1 32 10 = D 10 2 := by rw [fr1 32 (by decide)]; exact e10_v
        refine zx_go (pc1 := 39) (l1 := [some (zr 32), some (zi k)]) (st1 := [zi (R1 32 10), zi k]) (w1 := wr c R1) g_X6_findStanding 3 _ _ _ _ rfl ?_
        refine zx_cmp g_X6_findStanding rfl (by omega) (by omega) (fun (h39 : (R1 32 10) ≤ k) => ?_) (fun (h39 : ¬ ((R1 32 10) ≤ k)) => ?_)
        · refine zx_vret g_X6_findStanding rfl ?_
          have ek : k = D 10 2 := by omega
          subst ek
          exact gU_i ⟨fr1, z1⟩
        · have nk := hD.2.2.2.2.2.2.1 k k0_v (by omega)
          have hm1 : MDn c D R1 := hs.1.of (fun a _ _ => fr1 a (by omega))
          have e38 : R1 38 k = D 11 k := (hm1.2.2.2.1 k k0_v (by omega)).1
          have e41_v : R1 41 k = pk c D k := by rw [fr1 41 (by decide)]; exact hs.2.1 k k0_v (by omega)
          have pR := pk_R hD k0_v (show k < D 10 2 by omega)
          have mok := mpp_ok hD hm1 k0_v (show k < D 10 2 by omega) e41_v
          have mI := mpp_I hD hm1 k0_v (show k < D 10 2 by omega) e41_v
          refine zx_go (pc1 := 47) (l1 := [some (zr 32), some (zi k)]) (st1 := [zi k, zr 41]) (w1 := wr c R1) g_X6_findStanding 3 _ _ _ _ rfl ?_
          refine gz_iald g_X6_findStanding rfl (n := 40) rfl (by decide) rfl (by decide) (by omega) (by omega) ?_
          refine zx_go (pc1 := 49) (l1 := [some (zr 32), some (zi k)]) (st1 := [zi (-1), zi (R1 41 k)]) (w1 := wr c R1) g_X6_findStanding 1 _ _ _ _ rfl ?_
          refine zx_cmp g_X6_findStanding rfl (by omega) (by omega) (fun (h49 : (R1 41 k) = (-1)) => ?_) (fun (h49 : ¬ ((R1 41 k) = (-1))) => ?_)
          · refine zx_go (pc1 := 34) (l1 := [some (zr 32), some (zi (k + 1))]) (st1 := []) (w1 := wr c R1) g_X6_findStanding 2 _ _ _ _ rfl ?_
            refine ih34 (Int.toNat (D 10 2 - (k + 1))) (by omega) (k + 1) R1 (by omega) ?_
            refine ⟨by omega, by omega, fr1, fun b q b0 b1 hq => (z1 b q b0 b1 hq).trans (bI_congr ⟨fun z => z.imp id (fun ⟨j, j0, j1, j2_v⟩ => ⟨j, j0, by omega, j2_v⟩), fun z => z.imp id (fun ⟨j, j0, j1, j2_v, j3_v, j4_v⟩ => ⟨j, j0, ?_, j2_v, j3_v, j4_v⟩)⟩)⟩
            by_cases y : j = k
            · subst y; exact absurd (by rw [← e41_v]; exact h49) j3_v
            · omega
          · have mk_v := mok.resolve_left (fun z => h49 (by rw [e41_v]; exact z.1))
            obtain ⟨mk1, mk2, mk3, mk4⟩ := mk_v
            refine zx_go (pc1 := 64) (l1 := [some (zr 32), some (zi k)]) (st1 := [zi k, zr 38, zi 1728, zr 54]) (w1 := wr c R1) g_X6_findStanding 6 _ _ _ _ rfl ?_
            refine gz_iald g_X6_findStanding rfl (n := 40) rfl (by decide) rfl (by decide) (by omega) (by omega) ?_
            refine zx_go (pc1 := 68) (l1 := [some (zr 32), some (zi k)]) (st1 := [zi k, zr 32, zi (1728 * (R1 38 k)), zr 54]) (w1 := wr c R1) g_X6_findStanding 3 _ _ _ _ rfl ?_
            refine zx_cvF (As := [zi k]) (rest := [zi (1728 * (R1 38 k)), zr 54]) g_X6_findStanding rfl g_X6_placeOfPin rfl rfl (Nat.le_of_ble_eq_true rfl) (Nat.le_of_ble_eq_true rfl) rfl (by decide) (m_placeOfPin (by omega) (by omega) (by omega) (by omega)) ?_
            refine zx_go (pc1 := 73) (l1 := [some (zr 32), some (zi k)]) (st1 := [zi 1, zi ((1728 * (R1 38 k)) + (mpp R1 k)), zr 54]) (w1 := wr c R1) g_X6_findStanding 2 _ _ _ _ rfl ?_
            refine gz_bast g_X6_findStanding rfl (n := 27648) rfl (by decide) (by refine ⟨?_, ?_, ?_, ?_, ?_⟩ <;> simp) (by decide) (by omega) (by omega) (.inr rfl) ?_
            refine zx_go (pc1 := 34) (l1 := [some (zr 32), some (zi (k + 1))]) (st1 := []) (w1 := wr c (zU R1 54 ((1728 * (R1 38 k)) + (mpp R1 k)) 1)) g_X6_findStanding 2 _ _ _ _ rfl ?_
            refine ih34 (Int.toNat (D 10 2 - (k + 1))) (by omega) (k + 1) (zU R1 54 ((1728 * (R1 38 k)) + (mpp R1 k)) 1) (by omega) ?_
            refine ⟨by omega, by omega, fun a ha_v => by rw [zU_cell ha_v]; exact fr1 a ha_v, fun b q b0 b1 hq => ?_⟩
            have q0 := hq.1
            have q1_v := hq.2
            rw [zU_row]
            by_cases y : b = D 11 k ∧ q = pp c D k
            · rw [show 1728 * b + q = 1728 * R1 38 k + mpp R1 k by rw [e38, mk2, y.1, y.2], up1_s]
              exact (bI_t (.inr ⟨k, k0_v, by omega, y.1.symm, mk1, y.2.symm⟩)).symm
            · rw [up1_n (fun z => y ⟨by omega, by omega⟩), z1 b q b0 b1 hq]
              refine bI_congr ⟨fun z => z.imp id (fun ⟨j, j0, j1, j2_v⟩ => ⟨j, j0, by omega, j2_v⟩), fun z => z.imp id (fun ⟨j, j0, j1, j2_v, j3_v, j4_v⟩ => ⟨j, j0, ?_, j2_v, j3_v, j4_v⟩)⟩
              by_cases y2 : j = k
              · subst y2; exact absurd ⟨j2_v.symm, j4_v.symm⟩ y
              · omega
      refine lp34 (Int.toNat (D 10 2 - 0)) 0 R0 (by omega) ?_
      refine ⟨by omega, by omega, fr0, fun b q b0 b1 hq => ?_⟩
      have q0 := hq.1
      have q1_v := hq.2
      rw [z0 _ (by omega) (by omega), (hs.2.2.2.1 b q b0 b1 hq).1, znar_b]
      exact bI_congr ⟨.inl, fun z => z.elim id (fun ⟨j, j0, j1, _⟩ => by omega)⟩
    · refine zx_go (pc1 := 24) (l1 := [some (zr 32), some (zi j)]) (st1 := [zi j, zr 46, zi j, zr 54]) (w1 := wr c R0) g_X6_findStanding 6 _ _ _ _ rfl ?_
      refine gz_bald g_X6_findStanding rfl (n := 27648) rfl (by decide) rfl (by decide) (by omega) (by omega) ?_
      refine gz_bastN g_X6_findStanding rfl (n := 27648) rfl (by decide) (by refine ⟨?_, ?_, ?_, ?_, ?_⟩ <;> simp) (by decide) (by omega) (by omega) ?_
      refine zx_go (pc1 := 2) (l1 := [some (zr 32), some (zi (j + 1))]) (st1 := []) (w1 := wr c (zU R0 54 j (znar (R0 46 j)))) g_X6_findStanding 2 _ _ _ _ rfl ?_
      refine ih2 (Int.toNat (1728 * D 10 0 - (j + 1))) (by omega) (j + 1) (zU R0 54 j (znar (R0 46 j))) (by omega) ?_
      refine ⟨by omega, by omega, fun a ha_v => by rw [zU_cell ha_v]; exact fr0 a ha_v, fun i a b => ?_⟩
      rw [zU_row]
      by_cases y : i = j
      · rw [y, up1_s, fr0 46 (by decide)]
      · rw [up1_n y]; exact z0 i a (by omega)
  refine lp2 (Int.toNat (1728 * D 10 0 - 0)) 0 R (by omega) ?_
  exact ⟨by omega, by omega, fun _ _ => rfl, fun i a b => by omega⟩

set_option maxHeartbeats 1000000 in
theorem m_isBroken {c : zC} {R : zI} {D : zI} {s : aS} {p : Int} (hD : DOK c D) (hm : MDn c D R) (hst : ∀ b q, 0 ≤ b → b < D 10 0 → pls c q → R 54 (1728 * b + q) = bI (std c D s b q)) (hp : pls c p) : MZ m_X6_isBroken [zr 32, zi p] (wr c R) (qF (zi (bI (brk c D s p))) (wr c R)) := by
  refine MZ.of g_X6_isBroken ?_
  show ZX m_X6_isBroken 0 [some (zr 32), some (zi p), none, none, none, none, none] [] (wr c R) _
  have hg := hD.1
  have g2 := hg
  unfold Geo at g2
  have g3_v := hg.S
  have n16 := hD.2.1
  have e8 := hm.2.2.2.2.2.1
  obtain ⟨hp0, hp1⟩ := hp
  have hp : pls c p := ⟨hp0, hp1⟩
  have gp := place_geo hg hp0 hp1
  refine zx_go (pc1 := 2) (l1 := [some (zr 32), some (zi p), some (zi 0), none, none, none, none]) (st1 := []) (w1 := wr c R) g_X6_isBroken 2 _ _ _ _ rfl ?_
  have lp2 : ∀ (it : Nat) (a : Int) (o3_v : Option zV) (o4_v : Option zV) (o5_v : Option zV) (o6 : Option zV), (it : Int) = D 10 0 - a → (0 ≤ a ∧ a ≤ D 10 0 ∧ (∀ a1_v, 0 ≤ a1_v → a1_v < a → std c D s a1_v p → ∀ b1 q, 0 ≤ b1 → b1 < D 10 0 → pls c q → ¬ (std c D s b1 q ∧ clash c D a1_v p b1 q))) → ZX m_X6_isBroken 2 [some (zr 32), some (zi p), some (zi a), o3_v, o4_v, o5_v, o6] [] (wr c R) (qF (zi (bI (brk c D s p))) (wr c R)) := by
    refine fun it => Nat.strongRecOn it (fun it ih2 => ?_)
    intro a o3_v o4_v o5_v o6 hn2 hi2
    obtain ⟨a0_v, a1_, na⟩ := hi2
    refine zx_go (pc1 := 7) (l1 := [some (zr 32), some (zi p), some (zi a), o3_v, o4_v, o5_v, o6]) (st1 := [zi (R 32 8), zi a]) (w1 := wr c R) g_X6_isBroken 3 _ _ _ _ rfl ?_
    refine zx_cmp g_X6_isBroken rfl (by omega) (by omega) (fun (h7 : (R 32 8) ≤ a) => ?_) (fun (h7 : ¬ ((R 32 8) ≤ a)) => ?_)
    · refine zx_go (pc1 := 146) (l1 := [some (zr 32), some (zi p), some (zi a), o3_v, o4_v, o5_v, o6]) (st1 := [zi 0]) (w1 := wr c R) g_X6_isBroken 1 _ _ _ _ rfl ?_
      refine zx_iret g_X6_isBroken rfl (.inr (.inl rfl)) ?_
      refine qF_f ?_
      rintro ⟨a1_v, b1, q, x0_v, x1_v, c0_v, c1_v, hq, sa_v, sb_v, cl_v⟩
      exact na a1_v x0_v (by omega) sa_v b1 q c0_v c1_v hq ⟨sb_v, cl_v⟩
    · refine zx_go (pc1 := 13) (l1 := [some (zr 32), some (zi p), some (zi a), some (zi (-3)), o4_v, o5_v, o6]) (st1 := []) (w1 := wr c R) g_X6_isBroken 2 _ _ _ _ rfl ?_
      have lp13 : ∀ (it : Nat) (dy : Int) (o4_v : Option zV) (o5_v : Option zV) (o6 : Option zV), (it : Int) = 4 - dy → (-3 ≤ dy ∧ dy ≤ 4 ∧ (∀ b1 q, 0 ≤ b1 → b1 < D 10 0 → pls c q → yo c q - yo c p < dy → ¬ (std c D s b1 q ∧ clash c D a p b1 q))) → ZX m_X6_isBroken 13 [some (zr 32), some (zi p), some (zi a), some (zi dy), o4_v, o5_v, o6] [] (wr c R) (qF (zi (bI (brk c D s p))) (wr c R)) := by
        refine fun it => Nat.strongRecOn it (fun it ih13 => ?_)
        intro dy o4_v o5_v o6 hn13 hi13
        obtain ⟨y0, y1, ny⟩ := hi13
        refine zx_go (pc1 := 15) (l1 := [some (zr 32), some (zi p), some (zi a), some (zi dy), o4_v, o5_v, o6]) (st1 := [zi 4, zi dy]) (w1 := wr c R) g_X6_isBroken 2 _ _ _ _ rfl ?_
        refine zx_cmp g_X6_isBroken rfl (by omega) (by decide) (fun (h15 : 4 ≤ dy) => ?_) (fun (h15 : ¬ (4 ≤ dy)) => ?_)
        · refine zx_go (pc1 := 2) (l1 := [some (zr 32), some (zi p), some (zi (a + 1)), some (zi dy), o4_v, o5_v, o6]) (st1 := []) (w1 := wr c R) g_X6_isBroken 2 _ _ _ _ rfl ?_
          refine ih2 (Int.toNat (D 10 0 - (a + 1))) (by omega) (a + 1) (some (zi dy)) o4_v o5_v o6 (by omega) ?_
          refine ⟨by omega, by omega, fun a1_v x0_v x1_v sa_v b1 q c0_v c1_v hq z => ?_⟩
          by_cases y : a1_v = a
          · subst y
            have bq := brk_q hD hp z.2
            exact ny b1 q c0_v c1_v hq (by omega) z
          · exact na a1_v x0_v (by omega) sa_v b1 q c0_v c1_v hq z
        · have e54 := hst a p a0_v (by omega) hp
          have t01 := bI_01 (std c D s a p)
          refine zx_go (pc1 := 29) (l1 := [some (zr 32), some (zi p), some (zi a), some (zi dy), o4_v, o5_v, o6]) (st1 := [zi ((1728 * a) + p), zr 54]) (w1 := wr c R) g_X6_isBroken 7 _ _ _ _ rfl ?_
          refine gz_bald g_X6_isBroken rfl (n := 27648) rfl (by decide) rfl (by decide) (by omega) (by omega) ?_
          refine zx_if g_X6_isBroken rfl (by omega) (fun (h30 : (R 54 ((1728 * a) + p)) = 0) => ?_) (fun (h30 : ¬ (R 54 ((1728 * a) + p)) = 0) => ?_)
          · refine zx_go (pc1 := 2) (l1 := [some (zr 32), some (zi p), some (zi (a + 1)), some (zi dy), o4_v, o5_v, o6]) (st1 := []) (w1 := wr c R) g_X6_isBroken 2 _ _ _ _ rfl ?_
            refine ih2 (Int.toNat (D 10 0 - (a + 1))) (by omega) (a + 1) (some (zi dy)) o4_v o5_v o6 (by omega) ?_
            refine ⟨by omega, by omega, fun a1_v x0_v x1_v sa_v b1 q c0_v c1_v hq z => ?_⟩
            by_cases y : a1_v = a
            · subst y
              exact bI_ne.mpr sa_v (by rw [← e54]; exact h30)
            · exact na a1_v x0_v (by omega) sa_v b1 q c0_v c1_v hq z
          · refine zx_go (pc1 := 37) (l1 := [some (zr 32), some (zi p), some (zi a), some (zi dy), some (zi (-3)), o5_v, o6]) (st1 := []) (w1 := wr c R) g_X6_isBroken 2 _ _ _ _ rfl ?_
            have lp37 : ∀ (it : Nat) (dx : Int) (o5_v : Option zV) (o6 : Option zV), (it : Int) = 4 - dx → (-3 ≤ dx ∧ dx ≤ 4 ∧ (∀ b1 q, 0 ≤ b1 → b1 < D 10 0 → pls c q → (yo c q - yo c p < dy ∨ (yo c q - yo c p = dy ∧ xo c q - xo c p < dx)) → ¬ (std c D s b1 q ∧ clash c D a p b1 q))) → ZX m_X6_isBroken 37 [some (zr 32), some (zi p), some (zi a), some (zi dy), some (zi dx), o5_v, o6] [] (wr c R) (qF (zi (bI (brk c D s p))) (wr c R)) := by
              refine fun it => Nat.strongRecOn it (fun it ih37 => ?_)
              intro dx o5_v o6 hn37 hi37
              obtain ⟨x0_, x1_, nx⟩ := hi37
              refine zx_go (pc1 := 40) (l1 := [some (zr 32), some (zi p), some (zi a), some (zi dy), some (zi dx), o5_v, o6]) (st1 := [zi 4, zi dx]) (w1 := wr c R) g_X6_isBroken 2 _ _ _ _ rfl ?_
              refine zx_cmp g_X6_isBroken rfl (by omega) (by decide) (fun (h40 : 4 ≤ dx) => ?_) (fun (h40 : ¬ (4 ≤ dx)) => ?_)
              · refine zx_go (pc1 := 13) (l1 := [some (zr 32), some (zi p), some (zi a), some (zi (dy + 1)), some (zi dx), o5_v, o6]) (st1 := []) (w1 := wr c R) g_X6_isBroken 2 _ _ _ _ rfl ?_
                refine ih13 (Int.toNat (4 - (dy + 1))) (by omega) (dy + 1) (some (zi dx)) o5_v o6 (by omega) ?_
                refine ⟨by omega, by omega, fun b1 q c0_v c1_v hq w z => ?_⟩
                have bq := brk_q hD hp z.2
                exact nx b1 q c0_v c1_v hq (by omega) z
              · refine zx_go (pc1 := 46) (l1 := [some (zr 32), some (zi p), some (zi a), some (zi dy), some (zi dx), o5_v, o6]) (st1 := [zi p, zr 32, zr 32]) (w1 := wr c R) g_X6_isBroken 3 _ _ _ _ rfl ?_
                refine zx_cvF (As := [zi p]) (rest := [zr 32]) g_X6_isBroken rfl g_X6_layerOf rfl rfl (Nat.le_of_ble_eq_true rfl) (Nat.le_of_ble_eq_true rfl) rfl (by decide) (m_layerOf hg (by omega) (by omega)) ?_
                refine zx_go (pc1 := 51) (l1 := [some (zr 32), some (zi p), some (zi a), some (zi dy), some (zi dx), o5_v, o6]) (st1 := [zi p, zr 32, zi (lay c p), zr 32]) (w1 := wr c R) g_X6_isBroken 2 _ _ _ _ rfl ?_
                refine zx_cvF (As := [zi p]) (rest := [zi (lay c p), zr 32]) g_X6_isBroken rfl g_X6_xOf rfl rfl (Nat.le_of_ble_eq_true rfl) (Nat.le_of_ble_eq_true rfl) rfl (by decide) (m_xOf hg (by omega) (by omega)) ?_
                refine zx_go (pc1 := 57) (l1 := [some (zr 32), some (zi p), some (zi a), some (zi dy), some (zi dx), o5_v, o6]) (st1 := [zi ((xo c p) + dx), zi (lay c p), zr 32]) (w1 := wr c R) g_X6_isBroken 2 _ _ _ _ rfl ?_
                refine zx_i2l g_X6_isBroken rfl (by omega) ?_
                refine zx_go (pc1 := 60) (l1 := [some (zr 32), some (zi p), some (zi a), some (zi dy), some (zi dx), o5_v, o6]) (st1 := [zi p, zr 32, zl ((xo c p) + dx), zi (lay c p), zr 32]) (w1 := wr c R) g_X6_isBroken 2 _ _ _ _ rfl ?_
                refine zx_cvF (As := [zi p]) (rest := [zl ((xo c p) + dx), zi (lay c p), zr 32]) g_X6_isBroken rfl g_X6_yOf rfl rfl (Nat.le_of_ble_eq_true rfl) (Nat.le_of_ble_eq_true rfl) rfl (by decide) (m_yOf hg (by omega) (by omega)) ?_
                refine zx_go (pc1 := 65) (l1 := [some (zr 32), some (zi p), some (zi a), some (zi dy), some (zi dx), o5_v, o6]) (st1 := [zi ((yo c p) + dy), zl ((xo c p) + dx), zi (lay c p), zr 32]) (w1 := wr c R) g_X6_isBroken 2 _ _ _ _ rfl ?_
                refine zx_i2l g_X6_isBroken rfl (by omega) ?_
                refine zx_cvF (As := [zi (lay c p), zl ((xo c p) + dx), zl ((yo c p) + dy)]) (rest := []) g_X6_isBroken rfl g_X6_placeOf rfl rfl (Nat.le_of_ble_eq_true rfl) (Nat.le_of_ble_eq_true rfl) rfl (by decide) (m_placeOf hg (by omega) (by omega) (by omega)) ?_
                have pR := plo_R hg (lay c p) (xo c p + dx) (yo c p + dy)
                have pI1 := plo_I hg (lay c p) (xo c p + dx) (yo c p + dy)
                refine zx_go (pc1 := 74) (l1 := [some (zr 32), some (zi p), some (zi a), some (zi dy), some (zi dx), some (zi (plo c (lay c p) ((xo c p) + dx) ((yo c p) + dy))), some (zi 0)]) (st1 := []) (w1 := wr c R) g_X6_isBroken 3 _ _ _ _ rfl ?_
                have lp74 : ∀ (it : Nat) (b : Int), (it : Int) = D 10 0 - b → (0 ≤ b ∧ b ≤ D 10 0 ∧ (∀ b1, 0 ≤ b1 → b1 < b → ¬ (std c D s b1 (plo c (lay c p) (xo c p + dx) (yo c p + dy)) ∧ clash c D a p b1 (plo c (lay c p) (xo c p + dx) (yo c p + dy))))) → ZX m_X6_isBroken 74 [some (zr 32), some (zi p), some (zi a), some (zi dy), some (zi dx), some (zi (plo c (lay c p) ((xo c p) + dx) ((yo c p) + dy))), some (zi b)] [] (wr c R) (qF (zi (bI (brk c D s p))) (wr c R)) := by
                  refine fun it => Nat.strongRecOn it (fun it ih74 => ?_)
                  intro b hn74 hi74
                  obtain ⟨b0, b1_, nb⟩ := hi74
                  refine zx_go (pc1 := 80) (l1 := [some (zr 32), some (zi p), some (zi a), some (zi dy), some (zi dx), some (zi (plo c (lay c p) ((xo c p) + dx) ((yo c p) + dy))), some (zi b)]) (st1 := [zi (R 32 8), zi b]) (w1 := wr c R) g_X6_isBroken 3 _ _ _ _ rfl ?_
                  refine zx_cmp g_X6_isBroken rfl (by omega) (by omega) (fun (h80 : (R 32 8) ≤ b) => ?_) (fun (h80 : ¬ ((R 32 8) ≤ b)) => ?_)
                  · refine zx_go (pc1 := 37) (l1 := [some (zr 32), some (zi p), some (zi a), some (zi dy), some (zi (dx + 1)), some (zi (plo c (lay c p) ((xo c p) + dx) ((yo c p) + dy))), some (zi b)]) (st1 := []) (w1 := wr c R) g_X6_isBroken 2 _ _ _ _ rfl ?_
                    refine ih37 (Int.toNat (4 - (dx + 1))) (by omega) (dx + 1) (some (zi (plo c (lay c p) ((xo c p) + dx) ((yo c p) + dy)))) (some (zi b)) (by omega) ?_
                    refine ⟨by omega, by omega, fun b1 q c0_v c1_v hq w z => ?_⟩
                    have bq := brk_q hD hp z.2
                    by_cases y : yo c q - yo c p = dy ∧ xo c q - xo c p = dx
                    · have pa := plo_at hg hq
                      rw [bq.1, show xo c q = xo c p + dx by omega, show yo c q = yo c p + dy by omega] at pa
                      rw [← pa] at z
                      exact nb b1 c0_v (by omega) z
                    · exact nx b1 q c0_v c1_v hq (by omega) z
                  · refine zx_go (pc1 := 86) (l1 := [some (zr 32), some (zi p), some (zi a), some (zi dy), some (zi dx), some (zi (plo c (lay c p) ((xo c p) + dx) ((yo c p) + dy))), some (zi b)]) (st1 := [zi (-1), zi (plo c (lay c p) ((xo c p) + dx) ((yo c p) + dy))]) (w1 := wr c R) g_X6_isBroken 2 _ _ _ _ rfl ?_
                    refine zx_cmp g_X6_isBroken rfl (by omega) (by omega) (fun (h86 : (plo c (lay c p) ((xo c p) + dx) ((yo c p) + dy)) = (-1)) => ?_) (fun (h86 : ¬ ((plo c (lay c p) ((xo c p) + dx) ((yo c p) + dy)) = (-1))) => ?_)
                    · refine zx_go (pc1 := 37) (l1 := [some (zr 32), some (zi p), some (zi a), some (zi dy), some (zi (dx + 1)), some (zi (plo c (lay c p) ((xo c p) + dx) ((yo c p) + dy))), some (zi b)]) (st1 := []) (w1 := wr c R) g_X6_isBroken 2 _ _ _ _ rfl ?_
                      refine ih37 (Int.toNat (4 - (dx + 1))) (by omega) (dx + 1) (some (zi (plo c (lay c p) ((xo c p) + dx) ((yo c p) + dy)))) (some (zi b)) (by omega) ?_
                      refine ⟨by omega, by omega, fun b1 q c0_v c1_v hq w z => ?_⟩
                      have bq := brk_q hD hp z.2
                      by_cases y : yo c q - yo c p = dy ∧ xo c q - xo c p = dx
                      · have pa := plo_at hg hq
                        rw [bq.1, show xo c q = xo c p + dx by omega, show yo c q = yo c p + dy by omega] at pa
                        have := hq.1
                        omega
                      · exact nx b1 q c0_v c1_v hq (by omega) z
                    · have hq : pls c (plo c (lay c p) (xo c p + dx) (yo c p + dy)) := (pR.resolve_left h86).1
                      obtain ⟨hq0, hq1⟩ := hq
                      have hq : pls c (plo c (lay c p) (xo c p + dx) (yo c p + dy)) := ⟨hq0, hq1⟩
                      have e54b := hst b _ b0 (by omega) hq
                      have u01 := bI_01 (std c D s b (plo c (lay c p) (xo c p + dx) (yo c p + dy)))
                      refine zx_go (pc1 := 102) (l1 := [some (zr 32), some (zi p), some (zi a), some (zi dy), some (zi dx), some (zi (plo c (lay c p) ((xo c p) + dx) ((yo c p) + dy))), some (zi b)]) (st1 := [zi ((1728 * b) + (plo c (lay c p) ((xo c p) + dx) ((yo c p) + dy))), zr 54]) (w1 := wr c R) g_X6_isBroken 7 _ _ _ _ rfl ?_
                      refine gz_bald g_X6_isBroken rfl (n := 27648) rfl (by decide) rfl (by decide) (by omega) (by omega) ?_
                      refine zx_if g_X6_isBroken rfl (by omega) (fun (h103 : (R 54 ((1728 * b) + (plo c (lay c p) ((xo c p) + dx) ((yo c p) + dy)))) = 0) => ?_) (fun (h103 : ¬ (R 54 ((1728 * b) + (plo c (lay c p) ((xo c p) + dx) ((yo c p) + dy)))) = 0) => ?_)
                      · refine zx_go (pc1 := 74) (l1 := [some (zr 32), some (zi p), some (zi a), some (zi dy), some (zi dx), some (zi (plo c (lay c p) ((xo c p) + dx) ((yo c p) + dy))), some (zi (b + 1))]) (st1 := []) (w1 := wr c R) g_X6_isBroken 2 _ _ _ _ rfl ?_
                        refine ih74 (Int.toNat (D 10 0 - (b + 1))) (by omega) (b + 1) (by omega) ?_
                        refine ⟨by omega, by omega, fun b1 c0_v c1_v z => ?_⟩
                        by_cases y : b1 = b
                        · subst y
                          exact bI_ne.mpr z.1 (by rw [← e54b]; exact h103)
                        · exact nb b1 c0_v (by omega) z
                      · refine zx_go (pc1 := 113) (l1 := [some (zr 32), some (zi p), some (zi a), some (zi dy), some (zi dx), some (zi (plo c (lay c p) ((xo c p) + dx) ((yo c p) + dy))), some (zi b)]) (st1 := [zi (plo c (lay c p) ((xo c p) + dx) ((yo c p) + dy)), zi b, zi p, zi a, zr 32]) (w1 := wr c R) g_X6_isBroken 5 _ _ _ _ rfl ?_
                        refine zx_cvF (As := [zi a, zi p, zi b, zi (plo c (lay c p) ((xo c p) + dx) ((yo c p) + dy))]) (rest := []) g_X6_isBroken rfl g_X6_clashes rfl rfl (Nat.le_of_ble_eq_true rfl) (Nat.le_of_ble_eq_true rfl) rfl (by decide) (m_clashes hD hm hp hq a0_v (by omega) b0 (by omega)) ?_
                        refine zx_ifeq g_X6_isBroken rfl (fun (h116 : ¬ (clash c D a p b (plo c (lay c p) (xo c p + dx) (yo c p + dy)))) => ?_) (fun (h116 : (clash c D a p b (plo c (lay c p) (xo c p + dx) (yo c p + dy)))) => ?_)
                        · refine zx_go (pc1 := 74) (l1 := [some (zr 32), some (zi p), some (zi a), some (zi dy), some (zi dx), some (zi (plo c (lay c p) ((xo c p) + dx) ((yo c p) + dy))), some (zi (b + 1))]) (st1 := []) (w1 := wr c R) g_X6_isBroken 2 _ _ _ _ rfl ?_
                          refine ih74 (Int.toNat (D 10 0 - (b + 1))) (by omega) (b + 1) (by omega) ?_
                          refine ⟨by omega, by omega, fun b1 c0_v c1_v z => ?_⟩
                          by_cases y : b1 = b
                          · subst y
                            exact h116 z.2
                          · exact nb b1 c0_v (by omega) z
                        · refine zx_go (pc1 := 120) (l1 := [some (zr 32), some (zi p), some (zi a), some (zi dy), some (zi dx), some (zi (plo c (lay c p) ((xo c p) + dx) ((yo c p) + dy))), some (zi b)]) (st1 := [zi 1]) (w1 := wr c R) g_X6_isBroken 1 _ _ _ _ rfl ?_
                          refine zx_iret g_X6_isBroken rfl (.inr (.inr rfl)) ?_
                          exact qF_t ⟨a, b, _, a0_v, by omega, b0, by omega, hq, bI_ne.mp (by rw [← e54]; exact h30), bI_ne.mp (by rw [← e54b]; exact h103), h116⟩
                refine lp74 (Int.toNat (D 10 0 - 0)) 0 (by omega) ?_
                exact ⟨by omega, by omega, fun b1 c0_v c1_v => by omega⟩
            refine lp37 (Int.toNat (4 - (-3))) (-3) o5_v o6 (by omega) ?_
            refine ⟨by omega, by omega, fun b1 q c0_v c1_v hq w z => ?_⟩
            have bq := brk_q hD hp z.2
            exact ny b1 q c0_v c1_v hq (by omega) z
      refine lp13 (Int.toNat (4 - (-3))) (-3) o4_v o5_v o6 (by omega) ?_
      exact ⟨by omega, by omega, fun b1 q c0_v c1_v hq w z => by have bq := brk_q hD hp z.2; omega⟩
  refine lp2 (Int.toNat (D 10 0 - 0)) 0 none none none none (by omega) ?_
  exact ⟨by omega, by omega, fun a1_v x0_v x1_v => by omega⟩

set_option maxHeartbeats 1000000 in
theorem m_broken {c : zC} {R : zI} {D : zI} {s : aS} {k : Int} (hD : DOK c D) (hm : MDn c D R) (h14 : R 32 14 = 0 ∨ R 32 14 = 1) (hs : R 32 14 ≠ 0 → MS0 c D s R) (kr : inR k) : MZ m_X6_broken [zr 32, zi k] (wr c R) (mP (cdv (k < 0) (R 32 14 = 0)) (fun b R2 => b = (kth (brk c D s) (cS c : Int).toNat 0 k) ∧ (∀ a, a ≠ 32 → a ≠ 54 → R2 a = R a) ∧ R2 32 = up1 (R 32) 0 0) c R) := by
  refine MZ.of g_X6_broken ?_
  show ZX m_X6_broken 0 [some (zr 32), some (zi k), none, none] [] (wr c R) _
  have hg := hD.1
  have g3_v := hg.S
  have n16 := hD.2.1
  have p40 := hD.2.2.1
  have e8 := hm.2.2.2.2.2.1
  have e10_v := hm.2.2.2.2.2.2
  refine zx_go (pc1 := 2) (l1 := [some (zr 32), some (zi k), none, none]) (st1 := [zi k, zr 32]) (w1 := wr c R) g_X6_broken 2 _ _ _ _ rfl ?_
  refine zx_if g_X6_broken rfl (by omega) (fun (h2 : 0 ≤ k) => ?_) (fun (h2 : ¬ 0 ≤ k) => ?_)
  · refine zx_go (pc1 := 13) (l1 := [some (zr 32), some (zi k), none, none]) (st1 := [zi (R 32 14), zr 32]) (w1 := wr c R) g_X6_broken 2 _ _ _ _ rfl ?_
    refine zx_if g_X6_broken rfl (by omega) (fun (h13 : (R 32 14) ≠ 0) => ?_) (fun (h13 : ¬ (R 32 14) ≠ 0) => ?_)
    · refine zx_go (pc1 := 21) (l1 := [some (zr 32), some (zi k), none, none]) (st1 := [zi 0, zr 32]) (w1 := wr c R) g_X6_broken 1 _ _ _ _ rfl ?_
      refine gx_cvG (As := [zi 0]) (rest := []) g_X6_broken rfl g_X6_refuses rfl rfl (Nat.le_of_ble_eq_true rfl) (Nat.le_of_ble_eq_true rfl) rfl (by decide) (m_ref (v := 0) (by decide) (bI_f (by decide))) ?_
      refine zx_ifT g_X6_broken rfl (by decide) (show ((0 : Int) = 0) by decide) ?_
      generalize hR9 : zU R 32 0 0 = R9
      have f9_v : ∀ a, a ≠ 32 → R9 a = R a := fun a ha_v => by rw [← hR9, zU_cell ha_v]
      have f9j : ∀ j, j ≠ 0 → R9 32 j = R 32 j := fun j hj => by rw [← hR9, zU_at hj]
      have hm9 : MDn c D R9 := hm.of2 (fun a _ hb_v => f9_v a hb_v) (f9j 8 (by decide)) (f9j 10 (by decide))
      have hs0 := hs (by omega)
      have hs9 : MS0 c D s R9 := hs0.of hm9 (fun a h1 h2 => f9_v a (by omega))
      refine zx_go (pc1 := 30) (l1 := [some (zr 32), some (zi k), none, none]) (st1 := [zr 32]) (w1 := wr c R9) g_X6_broken 1 _ _ _ _ rfl ?_
      refine gx_cvU (As := []) (rest := []) g_X6_broken rfl g_X6_findStanding rfl rfl (Nat.le_of_ble_eq_true rfl) (Nat.le_of_ble_eq_true rfl) rfl (by decide) (m_findStanding hD hs9) (fun R30 hR30 => ?_)
      have e540 : ∀ b q, 0 ≤ b → b < D 10 0 → pls c q → R30 54 (1728 * b + q) = bI (std c D s b q) := hR30.2
      have hm30 : MDn c D R30 := hm9.of (fun a _ _ => hR30.1 a (by omega))
      refine zx_go (pc1 := 37) (l1 := [some (zr 32), some (zi k), some (zi k), some (zi 0)]) (st1 := []) (w1 := wr c R30) g_X6_broken 4 _ _ _ _ rfl ?_
      have lp37 : ∀ (it : Nat) (lf_v : Int) (i : Int), (it : Int) = (cS c : Int) - i → (0 ≤ i ∧ i ≤ (cS c : Int) ∧ 0 ≤ lf_v ∧ lf_v ≤ k ∧ (kth (brk c D s) (cS c : Int).toNat 0 k) = kth (brk c D s) ((cS c : Int) - i).toNat i lf_v) → ZX m_X6_broken 37 [some (zr 32), some (zi k), some (zi lf_v), some (zi i)] [] (wr c R30) (mP (cdv (k < 0) (R 32 14 = 0)) (fun b R2 => b = (kth (brk c D s) (cS c : Int).toNat 0 k) ∧ (∀ a, a ≠ 32 → a ≠ 54 → R2 a = R a) ∧ R2 32 = up1 (R 32) 0 0) c R) := by
        refine fun it => Nat.strongRecOn it (fun it ih37 => ?_)
        intro lf_v i hn37 hi37
        obtain ⟨i0_v, i1_v, l0, l1, e⟩ := hi37
        refine zx_go (pc1 := 39) (l1 := [some (zr 32), some (zi k), some (zi lf_v), some (zi i)]) (st1 := [zr 32, zi i]) (w1 := wr c R30) g_X6_broken 2 _ _ _ _ rfl ?_
        refine zx_cvF (As := []) (rest := [zi i]) g_X6_broken rfl g_X6_all rfl rfl (Nat.le_of_ble_eq_true rfl) (Nat.le_of_ble_eq_true rfl) rfl (by decide) (m_all hg) ?_
        refine zx_cmp g_X6_broken rfl (by omega) (by omega) (fun (h42 : (cS c : Int) ≤ i) => ?_) (fun (h42 : ¬ ((cS c : Int) ≤ i)) => ?_)
        · refine zx_go (pc1 := 69) (l1 := [some (zr 32), some (zi k), some (zi lf_v), some (zi i)]) (st1 := [zi (-1)]) (w1 := wr c R30) g_X6_broken 1 _ _ _ _ rfl ?_
          refine zx_iret g_X6_broken rfl (.inl rfl) ?_
          refine mP_0 (cdv0 (by omega) (by omega)) ⟨?_, fun a h1 h2 => by rw [hR30.1 a h2, f9_v a h1], by rw [hR30.1 32 (by decide), ← hR9, zU_row]⟩
          rw [e.trans (kth_e (by omega))]
        · refine zx_go (pc1 := 47) (l1 := [some (zr 32), some (zi k), some (zi lf_v), some (zi i)]) (st1 := [zi i, zr 32]) (w1 := wr c R30) g_X6_broken 2 _ _ _ _ rfl ?_
          refine zx_cvF (As := [zi i]) (rest := []) g_X6_broken rfl g_X6_isBroken rfl rfl (Nat.le_of_ble_eq_true rfl) (Nat.le_of_ble_eq_true rfl) rfl (by decide) (m_isBroken hD hm30 e540 (show pls c i from ⟨by omega, by omega⟩)) ?_
          refine zx_ifeq g_X6_broken rfl (fun (h50 : ¬ (brk c D s i)) => ?_) (fun (h50 : (brk c D s i)) => ?_)
          · refine zx_go (pc1 := 37) (l1 := [some (zr 32), some (zi k), some (zi lf_v), some (zi (i + 1))]) (st1 := []) (w1 := wr c R30) g_X6_broken 2 _ _ _ _ rfl ?_
            refine ih37 (Int.toNat ((cS c : Int) - (i + 1))) (by omega) lf_v (i + 1) (by omega) ?_
            refine ⟨by omega, by omega, by omega, by omega, ?_⟩
            exact e.trans (kth_n (by omega) h50)
          · refine zx_go (pc1 := 54) (l1 := [some (zr 32), some (zi k), some (zi lf_v), some (zi i)]) (st1 := [zi lf_v]) (w1 := wr c R30) g_X6_broken 1 _ _ _ _ rfl ?_
            refine zx_if g_X6_broken rfl (by omega) (fun (h54 : lf_v ≠ 0) => ?_) (fun (h54 : ¬ lf_v ≠ 0) => ?_)
            · refine zx_go (pc1 := 37) (l1 := [some (zr 32), some (zi k), some (zi (lf_v + (-1))), some (zi (i + 1))]) (st1 := []) (w1 := wr c R30) g_X6_broken 3 _ _ _ _ rfl ?_
              refine ih37 (Int.toNat ((cS c : Int) - (i + 1))) (by omega) (lf_v + (-1)) (i + 1) (by omega) ?_
              refine ⟨by omega, by omega, by omega, by omega, ?_⟩
              exact e.trans (kth_y (by omega) h50 (by omega))
            · refine zx_go (pc1 := 58) (l1 := [some (zr 32), some (zi k), some (zi lf_v), some (zi i)]) (st1 := [zi i]) (w1 := wr c R30) g_X6_broken 1 _ _ _ _ rfl ?_
              refine zx_iret g_X6_broken rfl (.inl rfl) ?_
              refine mP_0 (cdv0 (by omega) (by omega)) ⟨?_, fun a h1 h2 => by rw [hR30.1 a h2, f9_v a h1], by rw [hR30.1 32 (by decide), ← hR9, zU_row]⟩
              rw [e.trans (kth_0 (by omega) h50 (by omega))]
      refine lp37 (Int.toNat ((cS c : Int) - 0)) k 0 (by omega) ?_
      exact ⟨by omega, by omega, by omega, by omega, by rw [Int.sub_zero]⟩
    · refine zx_go (pc1 := 21) (l1 := [some (zr 32), some (zi k), none, none]) (st1 := [zi 2, zr 32]) (w1 := wr c R) g_X6_broken 2 _ _ _ _ rfl ?_
      refine gx_cvG (As := [zi 2]) (rest := []) g_X6_broken rfl g_X6_refuses rfl rfl (Nat.le_of_ble_eq_true rfl) (Nat.le_of_ble_eq_true rfl) rfl (by decide) (m_ref (v := 1) (by decide) (bI_t (by decide))) ?_
      refine zx_ifF g_X6_broken rfl (by decide) (show ¬ ((1 : Int) = 0) by decide) ?_
      refine zx_go (pc1 := 28) (l1 := [some (zr 32), some (zi k), none, none]) (st1 := [zi 0]) (w1 := wr c (zU R 32 0 2)) g_X6_broken 1 _ _ _ _ rfl ?_
      refine zx_iret g_X6_broken rfl (.inl rfl) ?_
      exact mP_2 (cdv2 (by omega) (by omega))
  · refine zx_go (pc1 := 21) (l1 := [some (zr 32), some (zi k), none, none]) (st1 := [zi 1, zr 32]) (w1 := wr c R) g_X6_broken 2 _ _ _ _ rfl ?_
    refine gx_cvG (As := [zi 1]) (rest := []) g_X6_broken rfl g_X6_refuses rfl rfl (Nat.le_of_ble_eq_true rfl) (Nat.le_of_ble_eq_true rfl) rfl (by decide) (m_ref (v := 1) (by decide) (bI_t (by decide))) ?_
    refine zx_ifF g_X6_broken rfl (by decide) (show ¬ ((1 : Int) = 0) by decide) ?_
    refine zx_go (pc1 := 28) (l1 := [some (zr 32), some (zi k), none, none]) (st1 := [zi 0]) (w1 := wr c (zU R 32 0 1)) g_X6_broken 1 _ _ _ _ rfl ?_
    refine zx_iret g_X6_broken rfl (.inl rfl) ?_
    exact mP_1 (cdv1 (by omega))

