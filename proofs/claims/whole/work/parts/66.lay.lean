/-! ===== contracts (8): tearing up and laying ===== -/
def hitP (c : zC) (D : zI) (st : Int → Int → Prop) (n b p : Int) : Prop := ∃ q, pls c q ∧ st b q ∧ clash c D n p b q
def lose (c : zC) (D : zI) (st : Int → Int → Prop) (n : Int) (w : Nat → Int) (m : Nat) (b : Int) : Prop := ∃ j : Nat, j ≤ m ∧ hitP c D st n b (w j)
theorem xor_all {m b : Int} (hm : M16 m) : ∀ a, M16 a → M16 (zand a (zxor m (-1))) := fun a ha_v => M16_andl ha_v

set_option maxHeartbeats 1000000 in
theorem s_tearUp {c : zC} {R : zI} {D : zI} {st up : Int → Int → Prop} {w : Nat → Int} {m : Nat} {n : Int} (hD : DOK c D) (n0 : 0 ≤ n) (n1 : n < 16) (h10 : R 10 = D 10) (hES : ES c D (R 22) (R 23) (R 24) st) (hst : ∀ b q, st b q → 0 ≤ b ∧ b < D 10 0) (hEB : EB c (R 30) up) (hl : R 15 9 = (m : Int) + 1) (hw : ∀ j : Nat, j ≤ m → R 31 j = w j ∧ pls c (w j)) (hm : (m : Int) < (cS c : Int)) (inj : ∀ i j : Nat, i ≤ m → j ≤ m → w i = w j → i = j) (h29 : ∀ p, pls c p → 0 ≤ R 29 p ∧ R 29 p ≤ 100000000) (h11 : M16 (R 15 11)) : MZ m_X3_tearUp [zr 15, zi n] (wr c R) (gU (fun R2 => (∀ a, a ≠ 15 → a ≠ 22 → a ≠ 23 → a ≠ 24 → a ≠ 29 → a ≠ 30 → R2 a = R a) ∧ (∀ j, j ≠ 11 → R2 15 j = R 15 j) ∧ ES c D (R2 22) (R2 23) (R2 24) (fun b q => st b q ∧ ¬ lose c D st n w m b) ∧ EB c (R2 30) (fun b q => up b q ∧ ¬ lose c D st n w m b) ∧ (∀ p, pls c p → R2 29 p = R 29 p + pI (∃ j : Nat, j ≤ m ∧ w j = p ∧ ∃ b, hitP c D st n b p) 5 0) ∧ M16 (R2 15 11) ∧ ∀ b, 0 ≤ b → b < 16 → (tb (R2 15 11) b ↔ (tb (R 15 11) b ∧ ¬ lose c D st n w m b))) c) := by
  refine MZ.of g_X3_tearUp ?_
  show ZX m_X3_tearUp 0 [some (zr 15), some (zi n), none, none, none] [] (wr c R) _
  have hg := hD.1
  have g3_v := hg.S
  have nn := hD.2.1
  have hst2 : ∀ b q, st b q → 0 ≤ b ∧ b < 16 := fun b q z => ⟨(hst b q z).1, by have := (hst b q z).2; omega⟩
  refine zx_go (pc1 := 4) (l1 := [some (zr 15), some (zi n), some (zi 0), some (zi 0), none]) (st1 := []) (w1 := wr c R) g_X3_tearUp 4 _ _ _ _ rfl ?_
  have lp4 : ∀ (it : Nat) (torn_v : Int) (i : Int) (R1 : zI) (o4_v : Option zV), (it : Int) = (m : Int) + 1 - i → (0 ≤ i ∧ i ≤ (m : Int) + 1 ∧ (∀ a, a ≠ 29 → R1 a = R a) ∧ M16 torn_v ∧ (∀ b, 0 ≤ b → b < 16 → (tb torn_v b ↔ ∃ j : Nat, (j : Int) < i ∧ hitP c D st n b (w j))) ∧ ∀ p, pls c p → R1 29 p = R 29 p + pI (∃ j : Nat, (j : Int) < i ∧ w j = p ∧ ∃ b, hitP c D st n b p) 5 0) → ZX m_X3_tearUp 4 [some (zr 15), some (zi n), some (zi torn_v), some (zi i), o4_v] [] (wr c R1) (gU (fun R2 => (∀ a, a ≠ 15 → a ≠ 22 → a ≠ 23 → a ≠ 24 → a ≠ 29 → a ≠ 30 → R2 a = R a) ∧ (∀ j, j ≠ 11 → R2 15 j = R 15 j) ∧ ES c D (R2 22) (R2 23) (R2 24) (fun b q => st b q ∧ ¬ lose c D st n w m b) ∧ EB c (R2 30) (fun b q => up b q ∧ ¬ lose c D st n w m b) ∧ (∀ p, pls c p → R2 29 p = R 29 p + pI (∃ j : Nat, j ≤ m ∧ w j = p ∧ ∃ b, hitP c D st n b p) 5 0) ∧ M16 (R2 15 11) ∧ ∀ b, 0 ≤ b → b < 16 → (tb (R2 15 11) b ↔ (tb (R 15 11) b ∧ ¬ lose c D st n w m b))) c) := by
    refine fun it => Nat.strongRecOn it (fun it ih4 => ?_)
    intro torn_v i R1 o4_v hn4 hi4
    obtain ⟨i0_v, i1_v, fr_v, tM, tB_v, f29⟩ := hi4
    have e9_v : R1 15 9 = (m : Int) + 1 := by rw [fr_v 15 (by decide)]; exact hl
    refine zx_go (pc1 := 9) (l1 := [some (zr 15), some (zi n), some (zi torn_v), some (zi i), o4_v]) (st1 := [zi (R1 15 9), zi i]) (w1 := wr c R1) g_X3_tearUp 3 _ _ _ _ rfl ?_
    refine zx_cmp g_X3_tearUp rfl (by omega) (by omega) (fun (h9 : (R1 15 9) ≤ i) => ?_) (fun (h9 : ¬ ((R1 15 9) ≤ i)) => ?_)
    · refine zx_go (pc1 := 68) (l1 := [some (zr 15), some (zi n), some (zi torn_v), some (zi 0), o4_v]) (st1 := []) (w1 := wr c R1) g_X3_tearUp 2 _ _ _ _ rfl ?_
      have lp68 : ∀ (it : Nat) (i2_v : Int) (R3 : zI) (o4_v : Option zV), (it : Int) = D 10 0 - i2_v → (0 ≤ i2_v ∧ i2_v ≤ D 10 0 ∧ (∀ a, a ≠ 22 → a ≠ 23 → a ≠ 24 → a ≠ 30 → R3 a = R1 a) ∧ ES c D (R3 22) (R3 23) (R3 24) (fun b q => st b q ∧ ¬ (b < i2_v ∧ tb torn_v b)) ∧ EB c (R3 30) (fun b q => up b q ∧ ¬ (b < i2_v ∧ tb torn_v b))) → ZX m_X3_tearUp 68 [some (zr 15), some (zi n), some (zi torn_v), some (zi i2_v), o4_v] [] (wr c R3) (gU (fun R2 => (∀ a, a ≠ 15 → a ≠ 22 → a ≠ 23 → a ≠ 24 → a ≠ 29 → a ≠ 30 → R2 a = R a) ∧ (∀ j, j ≠ 11 → R2 15 j = R 15 j) ∧ ES c D (R2 22) (R2 23) (R2 24) (fun b q => st b q ∧ ¬ lose c D st n w m b) ∧ EB c (R2 30) (fun b q => up b q ∧ ¬ lose c D st n w m b) ∧ (∀ p, pls c p → R2 29 p = R 29 p + pI (∃ j : Nat, j ≤ m ∧ w j = p ∧ ∃ b, hitP c D st n b p) 5 0) ∧ M16 (R2 15 11) ∧ ∀ b, 0 ≤ b → b < 16 → (tb (R2 15 11) b ↔ (tb (R 15 11) b ∧ ¬ lose c D st n w m b))) c) := by
        refine fun it => Nat.strongRecOn it (fun it ih68 => ?_)
        intro i2_v R3 o4_v hn68 hi68
        obtain ⟨j0, j1, fr3, es3, eb3⟩ := hi68
        have e10_v : R3 10 = D 10 := by rw [fr3 10 (by decide) (by decide) (by decide) (by decide), fr_v 10 (by decide)]; exact h10
        have e100_v : R3 10 0 = D 10 0 := by rw [e10_v]
        refine zx_go (pc1 := 76) (l1 := [some (zr 15), some (zi n), some (zi torn_v), some (zi i2_v), o4_v]) (st1 := [zi (R3 10 0), zi i2_v]) (w1 := wr c R3) g_X3_tearUp 4 _ _ _ _ rfl ?_
        refine zx_cmp g_X3_tearUp rfl (by omega) (by omega) (fun (h76 : (R3 10 0) ≤ i2_v) => ?_) (fun (h76 : ¬ ((R3 10 0) ≤ i2_v)) => ?_)
        · refine zx_go (pc1 := 105) (l1 := [some (zr 15), some (zi n), some (zi torn_v), some (zi i2_v), o4_v]) (st1 := [zi (-1), zi torn_v, zi (R3 15 11), zr 15]) (w1 := wr c R3) g_X3_tearUp 5 _ _ _ _ rfl ?_
          refine zx_go (pc1 := 106) (l1 := [some (zr 15), some (zi n), some (zi torn_v), some (zi i2_v), o4_v]) (st1 := [zi (zxor torn_v (-1)), zi (R3 15 11), zr 15]) (w1 := wr c R3) g_X3_tearUp 1 _ _ _ _ rfl ?_
          refine zx_go (pc1 := 107) (l1 := [some (zr 15), some (zi n), some (zi torn_v), some (zi i2_v), o4_v]) (st1 := [zi (zand (R3 15 11) (zxor torn_v (-1))), zr 15]) (w1 := wr c R3) g_X3_tearUp 1 _ _ _ _ rfl ?_
          refine gz_put 11 g_X3_tearUp rfl rfl rfl (by decide) rfl (by refine ⟨?_, ?_, ?_, ?_, ?_⟩ <;> simp) ?_
          refine zx_vret g_X3_tearUp rfl ?_
          have tl : ∀ b, 0 ≤ b → b < 16 → (tb torn_v b ↔ lose c D st n w m b) := fun b b0 b1 => by
            rw [tB_v b b0 b1]
            exact ⟨fun ⟨j, k0_v, k1_v⟩ => ⟨j, by omega, k1_v⟩, fun ⟨j, k0_v, k1_v⟩ => ⟨j, by omega, k1_v⟩⟩
          have tn_v : ∀ b, lose c D st n w m b → b < D 10 0 := fun b ⟨j, k0_v, q, k1_v, k2_v, k3_v⟩ => (hst b q k2_v).2
          have key_v : ∀ b (X_v : Prop), 0 ≤ b → b < 16 → (X_v ∧ ¬ (b < i2_v ∧ tb torn_v b) ↔ X_v ∧ ¬ lose c D st n w m b) := fun b X_v b0 b1 => by
            rw [tl b b0 b1]
            exact ⟨fun z => ⟨z.1, fun y => z.2 ⟨by have := tn_v b y; omega, y⟩⟩, fun z => ⟨z.1, fun y => z.2 y.2⟩⟩
          have e15_v : R3 15 = R 15 := by rw [fr3 15 (by decide) (by decide) (by decide) (by decide), fr_v 15 (by decide)]
          refine gU_i ⟨fun a a1_v a2 a3 a4 a5 a6 => ?_, fun j hj => ?_, ?_, ?_, fun p hp => ?_, ?_, fun b b0 b1 => ?_⟩
          · rw [zU_cell a1_v, fr3 a a2 a3 a4 a6, fr_v a a5]
          · rw [zU_at hj, e15_v]
          · rw [zU_cell (by decide), zU_cell (by decide), zU_cell (by decide)]
            exact es3.congr fun b q b0 b1 hq => key_v b _ b0 b1
          · rw [zU_cell (by decide)]
            exact fun p hp => ⟨(eb3 p hp).1, fun b b0 b1 => ((eb3 p hp).2 b b0 b1).trans (key_v b _ b0 b1)⟩
          · rw [zU_cell (by decide), fr3 29 (by decide) (by decide) (by decide) (by decide), f29 p hp]
            rw [show (∃ j : Nat, (j : Int) < i ∧ w j = p ∧ ∃ b, hitP c D st n b p) = (∃ j : Nat, j ≤ m ∧ w j = p ∧ ∃ b, hitP c D st n b p) from propext ⟨fun ⟨j, k0_v, k1_v⟩ => ⟨j, by omega, k1_v⟩, fun ⟨j, k0_v, k1_v⟩ => ⟨j, by omega, k1_v⟩⟩]
          · rw [zU_same, e15_v]
            exact M16_andl h11
          · rw [zU_same, e15_v, tb_and b0 (by omega), tb_not b0 (by omega), tl b b0 b1]
        · refine zx_go (pc1 := 81) (l1 := [some (zr 15), some (zi n), some (zi torn_v), some (zi i2_v), o4_v]) (st1 := [zi i2_v, zi torn_v]) (w1 := wr c R3) g_X3_tearUp 2 _ _ _ _ rfl ?_
          refine zx_csF (As := [zi torn_v, zi i2_v]) (rest := []) g_X3_tearUp rfl g_X5_isIn rfl rfl (Nat.le_of_ble_eq_true rfl) (Nat.le_of_ble_eq_true rfl) (s_isIn torn_v i2_v) ?_
          refine zx_ifeq g_X3_tearUp rfl (fun (h84 : ¬ (tb torn_v i2_v)) => ?_) (fun (h84 : (tb torn_v i2_v)) => ?_)
          · refine zx_go (pc1 := 68) (l1 := [some (zr 15), some (zi n), some (zi torn_v), some (zi (i2_v + 1)), o4_v]) (st1 := []) (w1 := wr c R3) g_X3_tearUp 2 _ _ _ _ rfl ?_
            refine ih68 (Int.toNat (D 10 0 - (i2_v + 1))) (by omega) (i2_v + 1) R3 o4_v (by omega) ?_
            refine ⟨by omega, by omega, fr3, es3.congr fun b q b0 b1 hq => ?_, fun p hp => ⟨(eb3 p hp).1, fun b b0 b1 => ((eb3 p hp).2 b b0 b1).trans ?_⟩⟩
            · constructor
              · rintro ⟨z1, z2⟩
                refine ⟨z1, fun y => z2 ⟨?_, y.2⟩⟩
                by_cases e : b = i2_v
                · rw [e] at y; exact absurd y.2 h84
                · omega
              · rintro ⟨z1, z2⟩
                exact ⟨z1, fun y => z2 ⟨by omega, y.2⟩⟩
            · constructor
              · rintro ⟨z1, z2⟩
                refine ⟨z1, fun y => z2 ⟨?_, y.2⟩⟩
                by_cases e : b = i2_v
                · rw [e] at y; exact absurd y.2 h84
                · omega
              · rintro ⟨z1, z2⟩
                exact ⟨z1, fun y => z2 ⟨by omega, y.2⟩⟩
          · refine zx_go (pc1 := 89) (l1 := [some (zr 15), some (zi n), some (zi torn_v), some (zi i2_v), o4_v]) (st1 := [zi i2_v, zr 15]) (w1 := wr c R3) g_X3_tearUp 2 _ _ _ _ rfl ?_
            refine gx_cvU (As := [zi i2_v]) (rest := []) g_X3_tearUp rfl g_X3_dropRoute rfl rfl (Nat.le_of_ble_eq_true rfl) (Nat.le_of_ble_eq_true rfl) rfl (by decide) (t_drop (D := D) hg (n := i2_v) (by omega) (by omega)) (fun R89 hR89 => ?_)
            refine zx_go (pc1 := 68) (l1 := [some (zr 15), some (zi n), some (zi torn_v), some (zi (i2_v + 1)), o4_v]) (st1 := []) (w1 := wr c R89) g_X3_tearUp 2 _ _ _ _ rfl ?_
            refine ih68 (Int.toNat (D 10 0 - (i2_v + 1))) (by omega) (i2_v + 1) R89 o4_v (by omega) ?_
            obtain ⟨q1_v, q2_v, q3_v⟩ := hR89
            have key_v : ∀ b (X_v : Prop), (X_v ∧ ¬ (b < i2_v ∧ tb torn_v b)) ∧ b ≠ i2_v ↔ X_v ∧ ¬ (b < i2_v + 1 ∧ tb torn_v b) := fun b X_v => by
              constructor
              · rintro ⟨⟨z1, z2⟩, z3⟩
                exact ⟨z1, fun y => z2 ⟨by omega, y.2⟩⟩
              · rintro ⟨z1, z2⟩
                exact ⟨⟨z1, fun y => z2 ⟨by omega, y.2⟩⟩, fun y => z2 ⟨by omega, by rw [y]; exact h84⟩⟩
            refine ⟨by omega, by omega, fun a a1_v a2 a3 a4 => (q1_v a a1_v a2 a3 a4).trans (fr3 a a1_v a2 a3 a4), (q2_v _ es3).congr fun b q b0 b1 hq => key_v b _, fun p hp => ⟨(q3_v _ eb3 p hp).1, fun b b0 b1 => ((q3_v _ eb3 p hp).2 b b0 b1).trans (key_v b _)⟩⟩
      refine lp68 (Int.toNat (D 10 0 - 0)) 0 R1 o4_v (by omega) ?_
      refine ⟨by omega, by omega, fun _ _ _ _ _ => rfl, ?_, ?_⟩
      · rw [fr_v 22 (by decide), fr_v 23 (by decide), fr_v 24 (by decide)]
        exact hES.congr fun b q b0 b1 hq => ⟨fun z => ⟨z, fun y => by omega⟩, fun z => z.1⟩
      · rw [fr_v 30 (by decide)]
        intro p hp
        exact ⟨(hEB p hp).1, fun b b0 b1 => ((hEB p hp).2 b b0 b1).trans ⟨fun z => ⟨z, fun y => by omega⟩, fun z => z.1⟩⟩
    · have hwi := hw i.toNat (by omega)
      have ei : ((i.toNat : Nat) : Int) = i := by omega
      have e31_v : R1 31 i = w i.toNat := by rw [fr_v 31 (by decide), ← hwi.1, ei]
      obtain ⟨wp0, wp1⟩ := hwi.2
      rw [← e31_v] at wp0 wp1
      have hwp : pls c (R1 31 i) := ⟨wp0, wp1⟩
      refine zx_go (pc1 := 22) (l1 := [some (zr 15), some (zi n), some (zi torn_v), some (zi i), o4_v]) (st1 := [zi i, zr 31, zi n, zr 21]) (w1 := wr c R1) g_X3_tearUp 6 _ _ _ _ rfl ?_
      refine gz_iald g_X3_tearUp rfl (n := cS c) rfl (by decide) rfl (by have := hg.S; omega) (by omega) (by omega) ?_
      refine zx_go (pc1 := 30) (l1 := [some (zr 15), some (zi n), some (zi torn_v), some (zi i), o4_v]) (st1 := [zi (R1 10 1), zi (R1 31 i), zi n, zr 21]) (w1 := wr c R1) g_X3_tearUp 3 _ _ _ _ rfl ?_
      refine zx_cvF (As := [zi n, zi (R1 31 i), zi (R1 10 1)]) (rest := []) g_X3_tearUp rfl g_X4_clashing rfl rfl (Nat.le_of_ble_eq_true rfl) (Nat.le_of_ble_eq_true rfl) rfl (by decide) (s_clashing21 hg (by omega) (by omega)) ?_
      refine zx_go (pc1 := 35) (l1 := [some (zr 15), some (zi n), some (zi torn_v), some (zi i), some (zi (clv (R1 23) (R1 24) n (R1 31 i) (R1 10 1)))]) (st1 := []) (w1 := wr c R1) g_X3_tearUp 1 _ _ _ _ rfl ?_
      have hcl : clv (R1 23) (R1 24) n (R1 31 i) (R1 10 1) = clv (R 23) (R 24) n (w i.toNat) (D 10 1) := by rw [fr_v 23 (by decide), fr_v 24 (by decide), fr_v 10 (by decide), h10, e31_v]
      rw [hcl]
      generalize hht : clv (R 23) (R 24) n (w i.toNat) (D 10 1) = ht
      have hR : inR ht := by rw [← hht]; exact clv_R _ _ _ _ _
      have hb_v : ∀ b, 0 ≤ b → b < 16 → (tb ht b ↔ hitP c D st n b (w i.toNat)) := fun b b0 b1 => by rw [← hht]; exact es_clv hES hwi.2 n0 n1 b0 b1
      have hz : ht ≠ 0 ↔ ∃ b, hitP c D st n b (w i.toNat) := by
        rw [← hht, es_clv0 hES hst2 hwi.2 n0 n1]
        exact Iff.rfl
      have hM_v : M16 ht := by rw [← hht]; exact clv_M (hES _ hwi.2).2.1 (hES _ hwi.2).2.2.1
      refine zx_go (pc1 := 37) (l1 := [some (zr 15), some (zi n), some (zi torn_v), some (zi i), some (zi ht)]) (st1 := [zi ht]) (w1 := wr c R1) g_X3_tearUp 1 _ _ _ _ rfl ?_
      refine zx_if g_X3_tearUp rfl (by omega) (fun (h37 : ht = 0) => ?_) (fun (h37 : ¬ ht = 0) => ?_)
      · refine zx_go (pc1 := 4) (l1 := [some (zr 15), some (zi n), some (zi torn_v), some (zi (i + 1)), some (zi ht)]) (st1 := []) (w1 := wr c R1) g_X3_tearUp 2 _ _ _ _ rfl ?_
        refine ih4 (Int.toNat ((m : Int) + 1 - (i + 1))) (by omega) torn_v (i + 1) R1 (some (zi ht)) (by omega) ?_
        refine ⟨by omega, by omega, fr_v, tM, fun b b0 b1 => ?_, fun p hp => ?_⟩
        · rw [tB_v b b0 b1]
          refine ⟨fun ⟨j, j0, j1⟩ => ⟨j, by omega, j1⟩, fun ⟨j, j0, j1⟩ => ?_⟩
          by_cases y : j = i.toNat
          · rw [y] at j1; exact absurd (hz.mpr ⟨b, j1⟩) (fun z => z h37)
          · exact ⟨j, by omega, j1⟩
        · rw [f29 p hp]
          rw [show (∃ j : Nat, (j : Int) < i ∧ w j = p ∧ ∃ b, hitP c D st n b p) = (∃ j : Nat, (j : Int) < i + 1 ∧ w j = p ∧ ∃ b, hitP c D st n b p) from propext ⟨fun ⟨j, j0, j1⟩ => ⟨j, by omega, j1⟩, fun ⟨j, j0, j1, b, j2_v⟩ => by
            by_cases y : j = i.toNat
            · rw [← j1, y] at j2_v; exact absurd (hz.mpr ⟨b, j2_v⟩) (fun z => z h37)
            · exact ⟨j, by omega, j1, b, j2_v⟩⟩]
      · have p29_v : R1 29 (R1 31 i) = R 29 (R1 31 i) := by
          rw [f29 _ hwp, pI_f (fun z => ?_), Int.add_zero]
          obtain ⟨j, j0, j1, -⟩ := z
          rw [e31_v] at j1
          have := inj j i.toNat (by omega) (by omega) j1
          omega
        have b29 := h29 _ hwp
        refine zx_go (pc1 := 49) (l1 := [some (zr 15), some (zi n), some (zi torn_v), some (zi i), some (zi ht)]) (st1 := [zi i, zr 31, zr 29]) (w1 := wr c R1) g_X3_tearUp 5 _ _ _ _ rfl ?_
        refine gz_iald g_X3_tearUp rfl (n := cS c) rfl (by decide) rfl (by have := hg.S; omega) (by omega) (by omega) ?_
        refine zx_go (pc1 := 51) (l1 := [some (zr 15), some (zi n), some (zi torn_v), some (zi i), some (zi ht)]) (st1 := [zi (R1 31 i), zr 29, zi (R1 31 i), zr 29]) (w1 := wr c R1) g_X3_tearUp 1 _ _ _ _ rfl ?_
        refine gz_iald g_X3_tearUp rfl (n := cS c) rfl (by decide) rfl (by have := hg.S; omega) (by omega) (by omega) ?_
        refine zx_go (pc1 := 54) (l1 := [some (zr 15), some (zi n), some (zi torn_v), some (zi i), some (zi ht)]) (st1 := [zi ((R1 29 (R1 31 i)) + 5), zi (R1 31 i), zr 29]) (w1 := wr c R1) g_X3_tearUp 2 _ _ _ _ rfl ?_
        refine gz_iast g_X3_tearUp rfl (n := cS c) rfl (by decide) (by refine ⟨?_, ?_, ?_, ?_, ?_⟩ <;> simp) (by have := hg.S; omega) (by omega) (by omega) ?_
        refine zx_go (pc1 := 58) (l1 := [some (zr 15), some (zi n), some (zi torn_v), some (zi i), some (zi ht)]) (st1 := [zi ht, zi torn_v]) (w1 := wr c (zU R1 29 (R1 31 i) ((R1 29 (R1 31 i)) + 5))) g_X3_tearUp 2 _ _ _ _ rfl ?_
        refine zx_go (pc1 := 59) (l1 := [some (zr 15), some (zi n), some (zi torn_v), some (zi i), some (zi ht)]) (st1 := [zi (zor torn_v ht)]) (w1 := wr c (zU R1 29 (R1 31 i) ((R1 29 (R1 31 i)) + 5))) g_X3_tearUp 1 _ _ _ _ rfl ?_
        refine zx_go (pc1 := 4) (l1 := [some (zr 15), some (zi n), some (zi (zor torn_v ht)), some (zi (i + 1)), some (zi ht)]) (st1 := []) (w1 := wr c (zU R1 29 (R1 31 i) ((R1 29 (R1 31 i)) + 5))) g_X3_tearUp 3 _ _ _ _ rfl ?_
        refine ih4 (Int.toNat ((m : Int) + 1 - (i + 1))) (by omega) (zor torn_v ht) (i + 1) (zU R1 29 (R1 31 i) ((R1 29 (R1 31 i)) + 5)) (some (zi ht)) (by omega) ?_
        refine ⟨by omega, by omega, fun a ha_v => ?_, M16_or tM hM_v, fun b b0 b1 => ?_, fun p hp => ?_⟩
        · rw [zU_cell ha_v]; exact fr_v a ha_v
        · rw [tb_or b0 (by omega), tB_v b b0 b1, hb_v b b0 b1]
          constructor
          · rintro (⟨j, j0, j1⟩ | z)
            · exact ⟨j, by omega, j1⟩
            · exact ⟨i.toNat, by omega, z⟩
          · rintro ⟨j, j0, j1⟩
            by_cases y : j = i.toNat
            · rw [y] at j1; exact .inr j1
            · exact .inl ⟨j, by omega, j1⟩
        · rw [zU_row]
          by_cases y : p = R1 31 i
          · rw [y, up1_s, p29_v, pI_t ⟨i.toNat, by omega, e31_v.symm, by rw [e31_v]; exact hz.mp h37⟩]
          · rw [up1_n y, f29 p hp]
            rw [show (∃ j : Nat, (j : Int) < i ∧ w j = p ∧ ∃ b, hitP c D st n b p) = (∃ j : Nat, (j : Int) < i + 1 ∧ w j = p ∧ ∃ b, hitP c D st n b p) from propext ⟨fun ⟨j, j0, j1⟩ => ⟨j, by omega, j1⟩, fun ⟨j, j0, j1, b, j2_v⟩ => by
              by_cases y2 : j = i.toNat
              · rw [y2, ← e31_v] at j1; exact absurd j1.symm y
              · exact ⟨j, by omega, j1, b, j2_v⟩⟩]
  refine lp4 (Int.toNat ((m : Int) + 1 - 0)) 0 0 R none (by omega) ?_
  refine ⟨by omega, by omega, fun _ _ => rfl, M16_0, fun b b0 b1 => ⟨fun z => absurd z (tb_zero b0 (by omega)), fun ⟨j, j0, _⟩ => by omega⟩, fun p hp => ?_⟩
  rw [pI_f (fun ⟨j, j0, _⟩ => by omega), Int.add_zero]

set_option maxHeartbeats 1000000 in
theorem s_layWay {c : zC} {R : zI} {D : zI} {st up : Int → Int → Prop} {w : Nat → Int} {m : Nat} {n : Int} (hD : DOK c D) (n0 : 0 ≤ n) (n1 : n < 16) (h3 : R 3 = D 3) (hES : ES c D (R 22) (R 23) (R 24) st) (hEB : EB c (R 30) up) (hl : R 15 9 = (m : Int) + 1) (hw : ∀ j : Nat, j ≤ m → R 31 j = w j ∧ pls c (w j)) (hm : (m : Int) < (cS c : Int)) : MZ m_X3_layWay [zr 15, zi n] (wr c R) (gU (fun R2 => (∀ a, a ≠ 22 → a ≠ 23 → a ≠ 24 → a ≠ 30 → R2 a = R a) ∧ ES c D (R2 22) (R2 23) (R2 24) (fun b q => st b q ∨ (b = n ∧ ∃ j : Nat, j ≤ m ∧ q = w j)) ∧ EB c (R2 30) (fun b q => up b q ∨ (b = n ∧ ∃ j : Nat, j + 1 ≤ m ∧ lay c (w j) ≠ lay c (w (j + 1)) ∧ q = min (w j) (w (j + 1))))) c) := by
  refine MZ.of g_X3_layWay ?_
  show ZX m_X3_layWay 0 [some (zr 15), some (zi n), none] [] (wr c R) _
  have hg := hD.1
  have g3_v := hg.S
  have hr3 := hD.2.2.2.2.1
  have g2 := hg
  unfold Geo at g2
  refine zx_go (pc1 := 2) (l1 := [some (zr 15), some (zi n), some (zi 0)]) (st1 := []) (w1 := wr c R) g_X3_layWay 2 _ _ _ _ rfl ?_
  have lp2 : ∀ (it : Nat) (i : Int) (R1 : zI), (it : Int) = (m : Int) + 1 - i → (0 ≤ i ∧ i ≤ (m : Int) + 1 ∧ (∀ a, a ≠ 22 → a ≠ 23 → a ≠ 24 → a ≠ 30 → R1 a = R a) ∧ ES c D (R1 22) (R1 23) (R1 24) (fun b q => st b q ∨ (b = n ∧ ∃ j : Nat, (j : Int) < i ∧ q = w j)) ∧ EB c (R1 30) (fun b q => up b q ∨ (b = n ∧ ∃ j : Nat, (j : Int) + 1 < i ∧ lay c (w j) ≠ lay c (w (j + 1)) ∧ q = min (w j) (w (j + 1))))) → ZX m_X3_layWay 2 [some (zr 15), some (zi n), some (zi i)] [] (wr c R1) (gU (fun R2 => (∀ a, a ≠ 22 → a ≠ 23 → a ≠ 24 → a ≠ 30 → R2 a = R a) ∧ ES c D (R2 22) (R2 23) (R2 24) (fun b q => st b q ∨ (b = n ∧ ∃ j : Nat, j ≤ m ∧ q = w j)) ∧ EB c (R2 30) (fun b q => up b q ∨ (b = n ∧ ∃ j : Nat, j + 1 ≤ m ∧ lay c (w j) ≠ lay c (w (j + 1)) ∧ q = min (w j) (w (j + 1))))) c) := by
    refine fun it => Nat.strongRecOn it (fun it ih2 => ?_)
    intro i R1 hn2 hi2
    obtain ⟨i0_v, i1_v, fr_v, es1, eb1⟩ := hi2
    have e9_v : R1 15 9 = (m : Int) + 1 := by rw [fr_v 15 (by decide) (by decide) (by decide) (by decide)]; exact hl
    refine zx_go (pc1 := 7) (l1 := [some (zr 15), some (zi n), some (zi i)]) (st1 := [zi (R1 15 9), zi i]) (w1 := wr c R1) g_X3_layWay 3 _ _ _ _ rfl ?_
    refine zx_cmp g_X3_layWay rfl (by omega) (by omega) (fun (h7 : (R1 15 9) ≤ i) => ?_) (fun (h7 : ¬ ((R1 15 9) ≤ i)) => ?_)
    · refine zx_vret g_X3_layWay rfl ?_
      refine gU_i ⟨fr_v, es1.congr fun b q b0 b1 hq => ⟨fun z => z.imp id (fun ⟨z1, j, z2, z3⟩ => ⟨z1, j, by omega, z3⟩), fun z => z.imp id (fun ⟨z1, j, z2, z3⟩ => ⟨z1, j, by omega, z3⟩)⟩, fun p hp => ⟨(eb1 p hp).1, fun b b0 b1 => ((eb1 p hp).2 b b0 b1).trans ⟨fun z => z.imp id (fun ⟨z1, j, z2, z3⟩ => ⟨z1, j, by omega, z3⟩), fun z => z.imp id (fun ⟨z1, j, z2, z3⟩ => ⟨z1, j, by omega, z3⟩)⟩⟩⟩
    · have hwi := hw i.toNat (by omega)
      have ei : ((i.toNat : Nat) : Int) = i := by omega
      have e31_v : R1 31 i = w i.toNat := by rw [fr_v 31 (by decide) (by decide) (by decide) (by decide), ← hwi.1, ei]
      obtain ⟨wp0, wp1⟩ := hwi.2
      rw [← e31_v] at wp0 wp1
      have hwp : pls c (R1 31 i) := ⟨wp0, wp1⟩
      have gp := place_geo hg wp0 wp1
      have sp_v := hr3 (lay c (R1 31 i)) (by omega) (by omega)
      have r3 : R1 3 = D 3 := by rw [fr_v 3 (by decide) (by decide) (by decide) (by decide)]; exact h3
      refine zx_go (pc1 := 20) (l1 := [some (zr 15), some (zi n), some (zi i)]) (st1 := [zi i, zr 31, zi n, zr 21]) (w1 := wr c R1) g_X3_layWay 6 _ _ _ _ rfl ?_
      refine gz_iald g_X3_layWay rfl (n := cS c) rfl (by decide) rfl (by have := hg.S; omega) (by omega) (by omega) ?_
      refine gx_cvU (As := [zi n, zi (R1 31 i)]) (rest := []) g_X3_layWay rfl g_X4_add rfl rfl (Nat.le_of_ble_eq_true rfl) (Nat.le_of_ble_eq_true rfl) rfl (by decide) (t_add21 (D := D) hg hwp n0 n1 (by omega) (by omega) r3) (fun R21 hR21 => ?_)
      obtain ⟨q1_v, q2_v⟩ := hR21
      have x31 : R21 31 = R1 31 := q1_v 31 (by decide) (by decide) (by decide)
      have y31 : R21 31 i = R1 31 i := by rw [x31]
      have es2 : ES c D (R21 22) (R21 23) (R21 24) (fun b q => st b q ∨ (b = n ∧ ∃ j : Nat, (j : Int) < i + 1 ∧ q = w j)) := (q2_v _ es1).congr fun b q b0 b1 hq => by
        unfold adds
        constructor
        · rintro ((z | ⟨z1, j, z2, z3⟩) | ⟨z1, z2⟩)
          · exact .inl z
          · exact .inr ⟨z1, j, by omega, z3⟩
          · exact .inr ⟨z1, i.toNat, by omega, by rw [z2, e31_v]⟩
        · rintro (z | ⟨z1, j, z2, z3⟩)
          · exact .inl (.inl z)
          · by_cases y : j = i.toNat
            · exact .inr ⟨z1, by rw [z3, y, e31_v]⟩
            · exact .inl (.inr ⟨z1, j, by omega, z3⟩)
      have eb2 : EB c (R21 30) (fun b q => up b q ∨ (b = n ∧ ∃ j : Nat, (j : Int) + 1 < i ∧ lay c (w j) ≠ lay c (w (j + 1)) ∧ q = min (w j) (w (j + 1)))) := by rw [q1_v 30 (by decide) (by decide) (by decide)]; exact eb1
      refine zx_go (pc1 := 25) (l1 := [some (zr 15), some (zi n), some (zi i)]) (st1 := [zi i]) (w1 := wr c R21) g_X3_layWay 1 _ _ _ _ rfl ?_
      refine zx_if g_X3_layWay rfl (by omega) (fun (h25 : i ≤ 0) => ?_) (fun (h25 : ¬ i ≤ 0) => ?_)
      · refine zx_go (pc1 := 2) (l1 := [some (zr 15), some (zi n), some (zi (i + 1))]) (st1 := []) (w1 := wr c R21) g_X3_layWay 2 _ _ _ _ rfl ?_
        refine ih2 (Int.toNat ((m : Int) + 1 - (i + 1))) (by omega) (i + 1) R21 (by omega) ?_
        refine ⟨by omega, by omega, fun a a1_v a2 a3 a4 => (q1_v a a1_v a2 a3).trans (fr_v a a1_v a2 a3 a4), es2, fun p hp => ⟨(eb2 p hp).1, fun b b0 b1 => ((eb2 p hp).2 b b0 b1).trans ?_⟩⟩
        refine ⟨fun z => z.imp id (fun ⟨z1, j, z2, z3⟩ => ⟨z1, j, by omega, z3⟩), fun z => z.imp id (fun ⟨z1, j, z2, z3, z4⟩ => ⟨z1, j, ?_, z3, z4⟩)⟩
        by_cases y : (j : Int) + 1 = i
        · first
          | omega
          | (have y1 : j = (i - 1).toNat := by omega
             rw [y1, ← ejj, ← e31_v, ← f31, ← y31] at z3
             exact absurd h58.symm z3)
        · omega
      · have hwj := hw (i - 1).toNat (by omega)
        have ej : (((i - 1).toNat : Nat) : Int) = i - 1 := by omega
        have f31 : R21 31 (i - 1) = w (i - 1).toNat := by rw [x31, fr_v 31 (by decide) (by decide) (by decide) (by decide), ← hwj.1, ej]
        obtain ⟨wq0, wq1⟩ := hwj.2
        rw [← f31] at wq0 wq1
        have gq := place_geo hg wq0 wq1
        rw [← y31] at wp0 wp1 gp
        have ejj : i.toNat = (i - 1).toNat + 1 := by omega
        have m31 : min (R21 31 i) (R21 31 (i - 1)) = min (w (i - 1).toNat) (w ((i - 1).toNat + 1)) := by rw [y31, e31_v, f31, ejj, Int.min_comm]
        refine zx_go (pc1 := 40) (l1 := [some (zr 15), some (zi n), some (zi i)]) (st1 := [zi i, zr 31, zr 6]) (w1 := wr c R21) g_X3_layWay 6 _ _ _ _ rfl ?_
        refine gz_iald g_X3_layWay rfl (n := cS c) rfl (by decide) rfl (by have := hg.S; omega) (by omega) (by omega) ?_
        refine gz_ld6 g_X3_layWay rfl hg (by omega) (by omega) ?_
        refine zx_go (pc1 := 56) (l1 := [some (zr 15), some (zi n), some (zi i)]) (st1 := [zi (i - 1), zr 31, zr 6, zi (lay c (R21 31 i))]) (w1 := wr c R21) g_X3_layWay 8 _ _ _ _ rfl ?_
        refine gz_iald g_X3_layWay rfl (n := cS c) rfl (by decide) rfl (by have := hg.S; omega) (by omega) (by omega) ?_
        refine gz_ld6 g_X3_layWay rfl hg (by omega) (by omega) ?_
        refine zx_cmp g_X3_layWay rfl (by omega) (by omega) (fun (h58 : (lay c (R21 31 i)) = (lay c (R21 31 (i - 1)))) => ?_) (fun (h58 : ¬ ((lay c (R21 31 i)) = (lay c (R21 31 (i - 1))))) => ?_)
        · refine zx_go (pc1 := 2) (l1 := [some (zr 15), some (zi n), some (zi (i + 1))]) (st1 := []) (w1 := wr c R21) g_X3_layWay 2 _ _ _ _ rfl ?_
          refine ih2 (Int.toNat ((m : Int) + 1 - (i + 1))) (by omega) (i + 1) R21 (by omega) ?_
          refine ⟨by omega, by omega, fun a a1_v a2 a3 a4 => (q1_v a a1_v a2 a3).trans (fr_v a a1_v a2 a3 a4), es2, fun p hp => ⟨(eb2 p hp).1, fun b b0 b1 => ((eb2 p hp).2 b b0 b1).trans ?_⟩⟩
          refine ⟨fun z => z.imp id (fun ⟨z1, j, z2, z3⟩ => ⟨z1, j, by omega, z3⟩), fun z => z.imp id (fun ⟨z1, j, z2, z3, z4⟩ => ⟨z1, j, ?_, z3, z4⟩)⟩
          by_cases y : (j : Int) + 1 = i
          · first
            | omega
            | (have y1 : j = (i - 1).toNat := by omega
               rw [y1, ← ejj, ← e31_v, ← f31, ← y31] at z3
               exact absurd h58.symm z3)
          · omega
        · refine zx_go (pc1 := 70) (l1 := [some (zr 15), some (zi n), some (zi i)]) (st1 := [zi i, zr 31, zr 30]) (w1 := wr c R21) g_X3_layWay 5 _ _ _ _ rfl ?_
          refine gz_iald g_X3_layWay rfl (n := cS c) rfl (by decide) rfl (by have := hg.S; omega) (by omega) (by omega) ?_
          refine zx_go (pc1 := 78) (l1 := [some (zr 15), some (zi n), some (zi i)]) (st1 := [zi (i - 1), zr 31, zi (R21 31 i), zr 30]) (w1 := wr c R21) g_X3_layWay 5 _ _ _ _ rfl ?_
          refine gz_iald g_X3_layWay rfl (n := cS c) rfl (by decide) rfl (by have := hg.S; omega) (by omega) (by omega) ?_
          refine zx_imin g_X3_layWay rfl (Nat.le_of_ble_eq_true rfl) (by omega) (by omega) ?_
          refine zx_go (pc1 := 83) (l1 := [some (zr 15), some (zi n), some (zi i)]) (st1 := [zi (min (R21 31 i) (R21 31 (i - 1))), zr 30, zi (min (R21 31 i) (R21 31 (i - 1))), zr 30]) (w1 := wr c R21) g_X3_layWay 1 _ _ _ _ rfl ?_
          refine gz_iald g_X3_layWay rfl (n := cS c) rfl (by decide) rfl (by have := hg.S; omega) (by omega) (by omega) ?_
          refine zx_go (pc1 := 86) (l1 := [some (zr 15), some (zi n), some (zi i)]) (st1 := [zi n, zi 1, zi (R21 30 (min (R21 31 i) (R21 31 (i - 1)))), zi (min (R21 31 i) (R21 31 (i - 1))), zr 30]) (w1 := wr c R21) g_X3_layWay 2 _ _ _ _ rfl ?_
          refine zx_go (pc1 := 87) (l1 := [some (zr 15), some (zi n), some (zi i)]) (st1 := [zi (zshl 1 n), zi (R21 30 (min (R21 31 i) (R21 31 (i - 1)))), zi (min (R21 31 i) (R21 31 (i - 1))), zr 30]) (w1 := wr c R21) g_X3_layWay 1 _ _ _ _ rfl ?_
          refine zx_go (pc1 := 88) (l1 := [some (zr 15), some (zi n), some (zi i)]) (st1 := [zi (zor (R21 30 (min (R21 31 i) (R21 31 (i - 1)))) (zshl 1 n)), zi (min (R21 31 i) (R21 31 (i - 1))), zr 30]) (w1 := wr c R21) g_X3_layWay 1 _ _ _ _ rfl ?_
          refine gz_iast g_X3_layWay rfl (n := cS c) rfl (by decide) (by refine ⟨?_, ?_, ?_, ?_, ?_⟩ <;> simp) (by have := hg.S; omega) (by omega) (by omega) ?_
          refine zx_go (pc1 := 2) (l1 := [some (zr 15), some (zi n), some (zi (i + 1))]) (st1 := []) (w1 := wr c (zU R21 30 (min (R21 31 i) (R21 31 (i - 1))) (zor (R21 30 (min (R21 31 i) (R21 31 (i - 1)))) (zshl 1 n)))) g_X3_layWay 2 _ _ _ _ rfl ?_
          refine ih2 (Int.toNat ((m : Int) + 1 - (i + 1))) (by omega) (i + 1) (zU R21 30 (min (R21 31 i) (R21 31 (i - 1))) (zor (R21 30 (min (R21 31 i) (R21 31 (i - 1)))) (zshl 1 n))) (by omega) ?_
          refine ⟨by omega, by omega, fun a a1_v a2 a3 a4 => by rw [zU_cell a4]; exact (q1_v a a1_v a2 a3).trans (fr_v a a1_v a2 a3 a4), ?_, ?_⟩
          · rw [zU_cell (by decide), zU_cell (by decide), zU_cell (by decide)]; exact es2
          · intro p hp
            rw [zU_row]
            have old_v := eb2 p hp
            have hmm : pls c (min (R21 31 i) (R21 31 (i - 1))) := ⟨by omega, by omega⟩
            by_cases y : p = min (R21 31 i) (R21 31 (i - 1))
            · rw [y, up1_s]
              have old_v := eb2 _ hmm
              refine ⟨M16_or old_v.1 (M16_one n0 n1), fun b b0 b1 => ?_⟩
              rw [tb_or b0 (by omega), old_v.2 b b0 b1, tb_one b0 (by omega) n0 (by omega)]
              constructor
              · rintro ((z | ⟨z1, j, z2, z3⟩) | z)
                · exact .inl z
                · exact .inr ⟨z1, j, by omega, z3⟩
                · refine .inr ⟨z, (i - 1).toNat, by omega, ?_, m31⟩
                  rw [← ejj, ← e31_v, ← f31, ← y31]
                  exact fun x => h58 x.symm
              · rintro (z | ⟨z1, j, z2, z3⟩)
                · exact .inl (.inl z)
                · exact .inr z1
            · rw [up1_n y]
              refine ⟨old_v.1, fun b b0 b1 => (old_v.2 b b0 b1).trans ⟨fun z => z.imp id (fun ⟨z1, j, z2, z3⟩ => ⟨z1, j, by omega, z3⟩), fun z => z.imp id (fun ⟨z1, j, z2, z3, z4⟩ => ⟨z1, j, ?_, z3, z4⟩)⟩⟩
              by_cases x : (j : Int) + 1 = i
              · have y1 : j = (i - 1).toNat := by omega
                rw [y1, ← m31] at z4
                exact absurd z4 y
              · omega
  refine lp2 (Int.toNat ((m : Int) + 1 - 0)) 0 R (by omega) ?_
  refine ⟨by omega, by omega, fun _ _ _ _ _ => rfl, hES.congr fun b q b0 b1 hq => ⟨.inl, fun z => z.elim id (fun ⟨_, j, y, _⟩ => by omega)⟩, fun p hp => ⟨(hEB p hp).1, fun b b0 b1 => ((hEB p hp).2 b b0 b1).trans ⟨.inl, fun z => z.elim id (fun ⟨_, j, y, _⟩ => by omega)⟩⟩⟩

