theorem aN_Rs {c : zC} {D : zI} : ∀ (k : Nat) (s : aS), aN (aRs c D k s) ≤ aN s + k
  | 0, s => by unfold aRs; omega
  | k + 1, s => by
    unfold aRs
    by_cases q : wai c D s
    · rw [cI_t q]
      have a := aN_Rs (c := c) (D := D) k (aNs c D (D 10 0).toNat (bump s))
      rw [aN_Ns] at a
      have b : aN (bump s) = aN s + 1 := rfl
      omega
    · rw [cI_f q]; omega
theorem Dst_cw {c : zC} {a b : Nat} {J D : zI} {O : Int → Prop} {e : Int → Int} {t : Int → Prop} : Dst (cw c a b J) D O e t = Dst c D O e t := rfl
theorem dst_cw {c : zC} {a b : Nat} {J : zI} : dst (cw c a b J) = dst c := by
  funext D O e t
  unfold dst
  have h : Dst (cw c a b J) D O e t = Dst c D O e t := rfl
  rw [h]
theorem nearC_cw {c : zC} {a b : Nat} {J : zI} : nearC (cw c a b J) = nearC c := by
  funext D n p
  unfold nearC
  rw [pin_cw]
  rfl
theorem opn_cw {c : zC} {a b : Nat} {J : zI} : opn (cw c a b J) = opn c := by
  funext D s n tr p
  unfold opn
  rw [nearC_cw]
  rfl
theorem fd_cw {c : zC} {a b : Nat} {J : zI} : fd (cw c a b J) = fd c := by
  funext D s n tr t
  unfold fd
  rw [dst_cw, opn_cw]
  rfl
theorem cnd_cw {c : zC} {a b : Nat} {J : zI} : cnd (cw c a b J) = cnd c := by
  funext D n t f p
  unfold cnd
  rw [pin_cw]
  rfl
theorem gE_cw {c : zC} {a b : Nat} {J : zI} : gE (cw c a b J) = gE c := by
  funext D s n tr t
  unfold gE
  rw [cnd_cw, fd_cw]
theorem wy_cw {c : zC} {a b : Nat} {J D : zI} {e f : Int → Int} {r : Int} : ∀ k : Nat, wy (cw c a b J) D e f r k = wy c D e f r k
  | 0 => rfl
  | k + 1 => by
    show bes (cw c a b J) (wy (cw c a b J) D e f r k) (bd (cw c a b J) D e f (wy (cw c a b J) D e f r k)) = _
    rw [wy_cw k]
    rfl
theorem wE_cw {c : zC} {a b : Nat} {J : zI} : wE (cw c a b J) = wE c := by
  funext D s n tr t k
  unfold wE
  rw [gE_cw, fd_cw, wy_cw]
  rfl
theorem aW_cw {c : zC} {a b : Nat} {J : zI} : aW (cw c a b J) = aW c := by
  funext D n tr x
  unfold aW
  rw [wE_cw]
  rfl
theorem dne_cw {c : zC} {a b : Nat} {J : zI} : dne (cw c a b J) = dne c := by
  funext D n t
  unfold dne
  rw [pin_cw]
theorem aL_cw {c : zC} {a b : Nat} {J D : zI} {n : Int} : ∀ (k : Nat) (x : aX), aL (cw c a b J) D n k x = aL c D n k x
  | 0, x => rfl
  | k + 1, x => by
    unfold aL
    rw [dne_cw, gE_cw, aW_cw, aL_cw k, aL_cw k]
theorem aNs_cw {c : zC} {a b : Nat} {J D : zI} {s : aS} : ∀ n : Nat, aNs (cw c a b J) D n s = aNs c D n s
  | 0 => rfl
  | n + 1 => by
    unfold aNs aRt strt
    rw [clo_cw, pp_cw, aNs_cw n, aL_cw]
theorem aRs_cw {c : zC} {a b : Nat} {J D : zI} : ∀ (k : Nat) (s : aS), aRs (cw c a b J) D k s = aRs c D k s
  | 0, s => rfl
  | k + 1, s => by
    unfold aRs wai
    rw [clo_cw, aNs_cw, aRs_cw k]
theorem aRun_cw {c : zC} {a b : Nat} {J D : zI} {k : Int} : aRun (cw c a b J) D k = aRun c D k := by
  unfold aRun s0
  rw [aRs_cw, clo_cw]

/-! ===== both sides: access, bar, shield, run ===== -/
section BOTH3
variable {c : zC} {R : zI}
theorem b_access {k z x y : Int} (h : INV c R) (kr : inR k) (zr1 : inR z) (xr : inR64 x) (yr : inR64 y) : both m_X5_access m_X6_access [zr 1, zi k, zi z, zl x, zl y] [zr 32, zi k, zi z, zl x, zl y] exB 2 pb c R := by
  have h0 := h
  obtain ⟨i1_v, i2_v, i3_v, i4_v, i5_v, i6_v, i7_v, s, i8_v⟩ := h
  obtain ⟨hg, nn, pp40, mm, ru, ba_v, pn, ac⟩ := i1_v
  have pp1 : 0 ≤ R 10 2 ∧ R 10 2 ≤ 40 := pp40
  have acR : ∀ k, 0 ≤ k → k < 40 → 0 ≤ R 13 k ∧ R 13 k ≤ 4 ∧ ∀ i, 0 ≤ i → i < R 13 k → pls c (R 14 (k * 4 + i)) := ac
  refine ⟨_, _, fun R1 => R1 = pIR (∃ i, 0 ≤ i ∧ i < R 13 k ∧ R 14 (k * 4 + i) = pl c z x y) R (zU (zU (zU R 14 (k * 4 + R 13 k) (pl c z x y)) 13 k (R 13 k + 1)) 1 3 0), cdv_R, fun _ => bI_01 _, fun R1 h1 => (by
    rw [h1]
    by_cases e : ∃ i, 0 ≤ i ∧ i < R 13 k ∧ R 14 (k * 4 + i) = pl c z x y
    · rw [pIR_t e]
    · rw [pIR_f e, zU_cell (by decide), zU_cell (by decide), zU_cell (by decide)]), s_access hg kr zr1 xr yr pp1.1 pp1.2 acR, fun a b J R1 hr => ?_⟩
  have g3_v := hg.S
  have rf : ∀ a1_v : Nat, 32 ≤ a1_v → R1 a1_v = R a1_v := fun a1_v ha_v => by
    rcases hr with ⟨-, z2⟩ | ⟨-, z2⟩
    · rw [z2]
      by_cases e : ∃ i, 0 ≤ i ∧ i < R 13 k ∧ R 14 (k * 4 + i) = pl c z x y
      · rw [pIR_t e]
      · rw [pIR_f e, zU_cell (by omega), zU_cell (by omega), zU_cell (by omega)]
    · rw [z2]
  have e10_v : R1 32 10 = R 10 2 := by rw [rf 32 (by decide)]; exact i2_v.2.2.2.2.2.2
  have e40 : ∀ k, 0 ≤ k → k < 40 → R1 40 k = R 13 k := fun k1_v a1_v b1 => by rw [rf 40 (by decide)]; exact (i2_v.2.2.2.1 k1_v a1_v b1).2
  have e39 : ∀ i, 0 ≤ i → i < 160 → R1 39 i = R 14 i := fun i a1_v b1 => by rw [rf 39 (by decide)]; exact i2_v.2.2.2.2.1 i a1_v b1
  have m := m_access (c := cw c a b J) (R := R1) (k := k) (z := z) (x := x) (y := y) hg kr zr1 xr yr (by omega) (by omega) (fun k1_v a1_v b1 => by
    have q := acR k1_v a1_v b1
    rw [e40 k1_v a1_v b1]
    refine ⟨q.1, q.2.1, fun i i0_v j1 => ?_⟩
    rw [e39 _ (by omega) (by omega), Int.mul_comm 4 k1_v]
    have w := q.2.2 i i0_v j1
    have w0_v := w.1
    have w1_v := w.2
    omega)
  rw [e10_v, plo_ok (c := cw c a b J) hg] at m
  have cE : (cdv (¬ (0 ≤ k ∧ k < R 10 2) ∨ ¬ ((0 ≤ z ∧ z < cLa (cw c a b J)) ∧ (0 ≤ x ∧ x < cW (cw c a b J)) ∧ (0 ≤ y ∧ y < cH (cw c a b J)))) (R1 40 k = 4)) = cdv (¬ (0 ≤ k ∧ k < R 10 2) ∨ ¬ ((0 ≤ z ∧ z < cLa c) ∧ (0 ≤ x ∧ x < cW c) ∧ (0 ≤ y ∧ y < cH c))) (R 13 k = 4) := by
    by_cases q : ¬ (0 ≤ k ∧ k < R 10 2) ∨ ¬ ((0 ≤ z ∧ z < cLa c) ∧ (0 ≤ x ∧ x < cW c) ∧ (0 ≤ y ∧ y < cH c))
    · rw [cdv1 q]; exact cdv1 q
    · have kk : 0 ≤ k ∧ k < R 10 2 := Classical.byContradiction fun w => q (.inl w)
      rw [e40 k kk.1 (by omega)]
      rfl
  rw [cE] at m
  refine MZ.mono m ?_
  rintro o w ⟨x1, R2, rfl, rfl, h2⟩
  refine ⟨x1, R2, rfl, rfl, ?_⟩
  dsimp only
  rw [INV_cw]
  rcases h2 with ⟨z1, z2⟩ | ⟨z1, z2, z3⟩
  · have e : R1 = R := (hr.resolve_left (fun y => z1 y.1)).2
    subst e
    subst z2
    exact ⟨zU_same _ _ _ _, fun y => absurd y z1, INV_code h0⟩
  · have e1_v := (hr.resolve_right (fun y => y.1 z1)).2
    have e1_v : R1 = pIR (∃ i, 0 ≤ i ∧ i < R 13 k ∧ R 14 (k * 4 + i) = pl c z x y) R (zU (zU (zU R 14 (k * 4 + R 13 k) (pl c z x y)) 13 k (R 13 k + 1)) 1 3 0) := e1_v
    have nP : ¬ (¬ (0 ≤ k ∧ k < R 10 2) ∨ ¬ ((0 ≤ z ∧ z < cLa c) ∧ (0 ≤ x ∧ x < cW c) ∧ (0 ≤ y ∧ y < cH c))) := fun q => by rw [cdv1 q] at z1; omega
    have n4_v : R 13 k ≠ 4 := fun q => by rw [cdv2 nP q] at z1; omega
    have kk : 0 ≤ k ∧ k < R 10 2 := Classical.byContradiction fun w => nP (.inl w)
    have pok : (0 ≤ z ∧ z < cLa c) ∧ (0 ≤ x ∧ x < cW c) ∧ (0 ≤ y ∧ y < cH c) := Classical.byContradiction fun w => nP (.inr w)
    have pe : plo (cw c a b J) z x y = pl c z x y := plo_pl (c := cw c a b J) pok
    have gpl := pl_geo hg pok.1.1 pok.1.2 pok.2.1.1 pok.2.1.2 pok.2.2.1 pok.2.2.2
    have ek := acR k kk.1 (by omega)
    have xe : (∃ i, 0 ≤ i ∧ i < R1 40 k ∧ R1 39 (4 * k + i) = plo (cw c a b J) z x y) = (∃ i, 0 ≤ i ∧ i < R 13 k ∧ R 14 (k * 4 + i) = pl c z x y) := by
      rw [pe, e40 k kk.1 (by omega)]
      refine propext ⟨fun ⟨i, q1_v, q2_v, q3_v⟩ => ⟨i, q1_v, q2_v, ?_⟩, fun ⟨i, q1_v, q2_v, q3_v⟩ => ⟨i, q1_v, q2_v, ?_⟩⟩
      · rw [e39 _ (by omega) (by omega), Int.mul_comm 4 k] at q3_v; exact q3_v
      · rw [e39 _ (by omega) (by omega), Int.mul_comm 4 k]; exact q3_v
    rw [xe] at z2 z3
    by_cases e : ∃ i, 0 ≤ i ∧ i < R 13 k ∧ R 14 (k * 4 + i) = pl c z x y
    · rw [pIR_t e] at z3 e1_v
      subst e1_v
      refine ⟨?_, fun _ => z2, ?_⟩
      · rw [z3]
        exact (zU_same _ _ _ _).trans z1.symm
      · rw [z3]
        exact INV_code h0
    · rw [pIR_f e] at z3 e1_v
      have z3 : R2 = zU (zU (zU (zU R1 32 0 0) 32 14 0) 39 (4 * k + R1 40 k) (plo (cw c a b J) z x y)) 40 k (R1 40 k + 1) := z3
      rw [e40 k kk.1 (by omega), pe] at z3
      refine ⟨?_, fun _ => z2, ?_⟩
      · rw [z3, zU_cell (by decide), zU_cell (by decide), zU_at (by decide), zU_same]; exact z1.symm
      · have f : ∀ a1_v, a1_v ≠ 13 → a1_v ≠ 14 → a1_v ≠ 1 → a1_v ≠ 32 → a1_v ≠ 39 → a1_v ≠ 40 → R2 a1_v = R a1_v := fun a1_v b1 b2 b3 b4 b5 b6 => by rw [z3, zU_cell b6, zU_cell b5, zU_cell b4, zU_cell b4, e1_v, zU_cell b3, zU_cell b1, zU_cell b2]
        have f13 : R2 13 = up1 (R 13) k (R 13 k + 1) := by rw [z3, zU_cell (by decide), zU_cell (by decide), zU_cell (by decide), zU_cell (by decide), e1_v, zU_cell (by decide), zU_row, zU_cell (by decide)]
        have f14_v : R2 14 = up1 (R 14) (k * 4 + R 13 k) (pl c z x y) := by rw [z3, zU_cell (by decide), zU_cell (by decide), zU_cell (by decide), zU_cell (by decide), e1_v, zU_cell (by decide), zU_cell (by decide), zU_row]
        have f40 : R2 40 = up1 (R 40) k (R 13 k + 1) := by rw [z3, zU_row, zU_cell (by decide), zU_cell (by decide), zU_cell (by decide), rf 40 (by decide)]
        have f39 : R2 39 = up1 (R 39) (4 * k + R 13 k) (pl c z x y) := by rw [z3, zU_cell (by decide), zU_row, zU_cell (by decide), zU_cell (by decide), rf 39 (by decide)]
        have f1_v : R2 1 3 = 0 := by rw [z3, zU_cell (by decide), zU_cell (by decide), zU_cell (by decide), zU_cell (by decide), e1_v, zU_same]
        have f314 : R2 32 14 = 0 := by rw [z3, zU_cell (by decide), zU_cell (by decide), zU_same]
        have f32 : ∀ j, j ≠ 0 → j ≠ 14 → R2 32 j = R 32 j := fun j b1 b2 => by rw [z3, zU_cell (by decide), zU_cell (by decide), zU_at b2, zU_at b1, rf 32 (by decide)]
        have d13_v : dz R2 13 = up1 (R 13) k (R 13 k + 1) := f13
        have d14_v : dz R2 14 = up1 (R 14) (k * 4 + R 13 k) (pl c z x y) := f14_v
        have d : ∀ a1_v, a1_v = 3 ∨ a1_v = 4 ∨ a1_v = 5 ∨ a1_v = 9 ∨ a1_v = 10 ∨ a1_v = 11 → dz R2 a1_v = dz R a1_v := fun a1_v ha_v => by
          rcases ha_v with rfl | rfl | rfl | rfl | rfl | rfl
          · exact f 3 (by decide) (by decide) (by decide) (by decide) (by decide) (by decide)
          · exact f 4 (by decide) (by decide) (by decide) (by decide) (by decide) (by decide)
          · exact f 5 (by decide) (by decide) (by decide) (by decide) (by decide) (by decide)
          · exact f 9 (by decide) (by decide) (by decide) (by decide) (by decide) (by decide)
          · exact f 10 (by decide) (by decide) (by decide) (by decide) (by decide) (by decide)
          · exact f 11 (by decide) (by decide) (by decide) (by decide) (by decide) (by decide)
        refine INV_mk h0 ⟨hg, ?_, ?_, ?_, ?_, ?_, ?_, fun k1_v a1_v b1 => ?_⟩ ⟨?_, ?_, ?_, fun k1_v a1_v b1 => ?_, fun i a1_v b1 => ?_, ?_, ?_⟩ ?_ ?_ f1_v f314 (f 0 (by decide) (by decide) (by decide) (by decide) (by decide) (by decide))
        · rw [d 10 (by omega)]; exact nn
        · rw [d 10 (by omega)]; exact pp40
        · rw [d 10 (by omega)]; exact mm
        · rw [d 3 (by omega), d 4 (by omega), d 5 (by omega)]; exact ru
        · rw [d 9 (by omega)]; exact ba_v
        · rw [d 10 (by omega), d 11 (by omega)]; exact pn
        · have q := acR k1_v a1_v b1
          rw [d13_v, d14_v]
          by_cases y1 : k1_v = k
          · rw [y1, up1_s]
            refine ⟨by omega, by omega, fun i i0_v j1 => ?_⟩
            by_cases y2 : i = R 13 k
            · rw [y2, up1_s]; exact ⟨gpl.1, gpl.2.1⟩
            · rw [up1_n (by omega)]; exact ek.2.2 i i0_v (by omega)
          · rw [up1_n y1]
            refine ⟨q.1, q.2.1, fun i i0_v j1 => ?_⟩
            rw [up1_n (by omega)]
            exact q.2.2 i i0_v j1
        · rw [d 3 (by omega), d 4 (by omega), d 5 (by omega), f 33 (by decide) (by decide) (by decide) (by decide) (by decide) (by decide), f 34 (by decide) (by decide) (by decide) (by decide) (by decide) (by decide), f 35 (by decide) (by decide) (by decide) (by decide) (by decide) (by decide)]; exact i2_v.1
        · rw [d 9 (by omega), f 36 (by decide) (by decide) (by decide) (by decide) (by decide) (by decide)]; exact i2_v.2.1
        · rw [f 37 (by decide) (by decide) (by decide) (by decide) (by decide) (by decide)]
          unfold shd
          rw [d 10 (by omega)]; exact i2_v.2.2.1
        · have q := i2_v.2.2.2.1 k1_v a1_v b1
          rw [d 11 (by omega), d13_v, f 38 (by decide) (by decide) (by decide) (by decide) (by decide) (by decide), f40]
          refine ⟨q.1, ?_⟩
          by_cases y1 : k1_v = k
          · rw [y1, up1_s, up1_s]
          · rw [up1_n y1, up1_n y1]; exact q.2
        · have q := i2_v.2.2.2.2.1 i a1_v b1
          rw [d14_v, f39, Int.mul_comm 4 k]
          by_cases y1 : i = k * 4 + R 13 k
          · rw [y1, up1_s, up1_s]
          · rw [up1_n y1, up1_n y1]; exact q
        · rw [d 10 (by omega), f32 8 (by decide) (by decide)]; exact i2_v.2.2.2.2.2.1
        · rw [d 10 (by omega), f32 10 (by decide) (by decide)]; exact i2_v.2.2.2.2.2.2
        · rw [f 10 (by decide) (by decide) (by decide) (by decide) (by decide) (by decide), f 11 (by decide) (by decide) (by decide) (by decide) (by decide) (by decide), f 12 (by decide) (by decide) (by decide) (by decide) (by decide) (by decide)]; exact i3_v
        · rw [f 2 (by decide) (by decide) (by decide) (by decide) (by decide) (by decide), f 9 (by decide) (by decide) (by decide) (by decide) (by decide) (by decide)]; exact i4_v
theorem b_shield {n : Int} (h : INV c R) (nr1 : inR n) : both m_X5_shield m_X6_shield [zr 1, zi n] [zr 32, zi n] exB 1 pb c R := by
  have h0 := h
  obtain ⟨i1_v, i2_v, i3_v, i4_v, i5_v, i6_v, i7_v, s, i8_v⟩ := h
  obtain ⟨hg, nn, pp40, mm, ru, ba_v, pn, ac⟩ := i1_v
  have nn1 : 0 ≤ R 10 0 ∧ R 10 0 ≤ 16 := nn
  refine ⟨_, _, fun R1 => R1 = zU (zU R 1 3 0) 10 1 (zxor (R 10 1) (zshl 1 n)), cdv_R1, fun _ => bI_01 _, fun R1 h1 => (by rw [h1, zU_cell (by decide), zU_cell (by decide)]), s_shield nr1 nn1.1 nn1.2, fun a b J R1 hr => ?_⟩
  have rf : ∀ a1_v : Nat, 32 ≤ a1_v → R1 a1_v = R a1_v := fun a1_v ha_v => by
    rcases hr with ⟨-, z2⟩ | ⟨-, z2⟩
    · rw [z2, zU_cell (by omega), zU_cell (by omega)]
    · rw [z2]
  have e8 : R1 32 8 = R 10 0 := by rw [rf 32 (by decide)]; exact i2_v.2.2.2.2.2.1
  have e37 : ∀ n, 0 ≤ n → n < 16 → R1 37 n = bI (tb (R 10 1) n) := fun n1_v a1_v b1 => by rw [rf 37 (by decide)]; exact i2_v.2.2.1 n1_v a1_v b1
  have m := m_shield (c := cw c a b J) (R := R1) nr1 (by omega) (by omega) (fun n1_v a1_v b1 => by rw [e37 n1_v a1_v b1]; exact bI_01 _)
  rw [e8] at m
  refine MZ.mono m ?_
  rintro o w ⟨x1, R2, rfl, rfl, h2⟩
  refine ⟨x1, R2, rfl, rfl, ?_⟩
  dsimp only
  rw [INV_cw]
  rcases h2 with ⟨z1, z2⟩ | ⟨z1, z2, z3⟩
  · have e : R1 = R := (hr.resolve_left (fun y => z1 y.1)).2
    subst e
    subst z2
    exact ⟨zU_same _ _ _ _, fun y => absurd y z1, INV_code h0⟩
  · have e1_v : R1 = zU (zU R 1 3 0) 10 1 (zxor (R 10 1) (zshl 1 n)) := (hr.resolve_right (fun y => y.1 z1)).2
    have nb : 0 ≤ n ∧ n < R 10 0 := Classical.byContradiction fun y => by rw [cdv1 y] at z1; omega
    have e37n : (R1 37 n = 0) = ¬ tb (R 10 1) n := by
      rw [e37 n nb.1 (by omega)]
      exact propext bI_0
    rw [e37n] at z2 z3
    refine ⟨?_, fun _ => z2, ?_⟩
    · rw [z3, zU_cell (by decide), zU_at (by decide), zU_same]; exact z1.symm
    · have f : ∀ a1_v, a1_v ≠ 10 → a1_v ≠ 1 → a1_v ≠ 32 → a1_v ≠ 37 → R2 a1_v = R a1_v := fun a1_v b1 b2 b3 b4 => by rw [z3, zU_cell b4, zU_cell b3, zU_cell b3, e1_v, zU_cell b1, zU_cell b2]
      have f10 : R2 10 = up1 (R 10) 1 (zxor (R 10 1) (zshl 1 n)) := by rw [z3, zU_cell (by decide), zU_cell (by decide), zU_cell (by decide), e1_v, zU_row, zU_cell (by decide)]
      have f37 : R2 37 = up1 (R 37) n (bI (¬ tb (R 10 1) n)) := by rw [z3, zU_row, zU_cell (by decide), zU_cell (by decide), rf 37 (by decide)]
      have f1_v : R2 1 3 = 0 := by rw [z3, zU_cell (by decide), zU_cell (by decide), zU_cell (by decide), e1_v, zU_cell (by decide), zU_same]
      have f314 : R2 32 14 = 0 := by rw [z3, zU_cell (by decide), zU_same]
      have f32 : ∀ j, j ≠ 0 → j ≠ 14 → R2 32 j = R 32 j := fun j b1 b2 => by rw [z3, zU_cell (by decide), zU_at b2, zU_at b1, rf 32 (by decide)]
      have d10_v : dz R2 10 = up1 (R 10) 1 (zxor (R 10 1) (zshl 1 n)) := f10
      have d100_v : dz R2 10 0 = dz R 10 0 := by rw [d10_v, up1_n (by decide)]; rfl
      have d101_v : dz R2 10 1 = zxor (R 10 1) (zshl 1 n) := by rw [d10_v, up1_s]
      have d102_v : dz R2 10 2 = dz R 10 2 := by rw [d10_v, up1_n (by decide)]; rfl
      have d : ∀ a1_v, a1_v = 3 ∨ a1_v = 4 ∨ a1_v = 5 ∨ a1_v = 9 ∨ a1_v = 11 ∨ a1_v = 13 ∨ a1_v = 14 → dz R2 a1_v = dz R a1_v := fun a1_v ha_v => by
        rcases ha_v with rfl | rfl | rfl | rfl | rfl | rfl | rfl
        · exact f 3 (by decide) (by decide) (by decide) (by decide)
        · exact f 4 (by decide) (by decide) (by decide) (by decide)
        · exact f 5 (by decide) (by decide) (by decide) (by decide)
        · exact f 9 (by decide) (by decide) (by decide) (by decide)
        · exact f 11 (by decide) (by decide) (by decide) (by decide)
        · exact f 13 (by decide) (by decide) (by decide) (by decide)
        · exact f 14 (by decide) (by decide) (by decide) (by decide)
      refine INV_mk h0 ⟨hg, ?_, ?_, ?_, ?_, ?_, ?_, ?_⟩ ⟨?_, ?_, fun n1_v a1_v b1 => ?_, ?_, ?_, ?_, ?_⟩ ?_ ?_ f1_v f314 (f 0 (by decide) (by decide) (by decide) (by decide))
      · rw [d100_v]; exact nn
      · rw [d102_v]; exact pp40
      · rw [d101_v]; exact M16_xor mm (M16_one nb.1 (by omega))
      · rw [d 3 (by omega), d 4 (by omega), d 5 (by omega)]; exact ru
      · rw [d 9 (by omega)]; exact ba_v
      · rw [d102_v, d100_v, d 11 (by omega)]; exact pn
      · rw [d 13 (by omega), d 14 (by omega)]; exact ac
      · rw [d 3 (by omega), d 4 (by omega), d 5 (by omega), f 33 (by decide) (by decide) (by decide) (by decide), f 34 (by decide) (by decide) (by decide) (by decide), f 35 (by decide) (by decide) (by decide) (by decide)]; exact i2_v.1
      · rw [d 9 (by omega), f 36 (by decide) (by decide) (by decide) (by decide)]; exact i2_v.2.1
      · rw [f37]
        unfold shd
        rw [d101_v]
        by_cases y : n1_v = n
        · rw [y, up1_s]
          refine bI_congr ?_
          rw [tb_xor nb.1 (by omega), tb_one nb.1 (by omega) nb.1 (by omega)]
          exact ⟨fun q p => q (p.mpr rfl), fun q p => q ⟨fun _ => rfl, fun _ => p⟩⟩
        · rw [up1_n y, i2_v.2.2.1 n1_v a1_v b1]
          refine bI_congr ?_
          rw [tb_xor a1_v (by omega), tb_one a1_v (by omega) nb.1 (by omega)]
          show tb (R 10 1) n1_v ↔ _
          exact ⟨fun q p => y (p.mp q), fun q => Classical.byContradiction fun w => q ⟨fun p => absurd p w, fun p => absurd p y⟩⟩
      · rw [d 11 (by omega), d 13 (by omega), f 38 (by decide) (by decide) (by decide) (by decide), f 40 (by decide) (by decide) (by decide) (by decide)]; exact i2_v.2.2.2.1
      · rw [d 14 (by omega), f 39 (by decide) (by decide) (by decide) (by decide)]; exact i2_v.2.2.2.2.1
      · rw [d100_v, f32 8 (by decide) (by decide)]; exact i2_v.2.2.2.2.2.1
      · rw [d102_v, f32 10 (by decide) (by decide)]; exact i2_v.2.2.2.2.2.2
      · rw [f10, up1_n (by decide), f 11 (by decide) (by decide) (by decide) (by decide), f 12 (by decide) (by decide) (by decide) (by decide)]; exact i3_v
      · rw [f 2 (by decide) (by decide) (by decide) (by decide), f 9 (by decide) (by decide) (by decide) (by decide)]; exact i4_v
theorem b_bar {z x0 y0 x1 y1 : Int} (h : INV c R) (zr1 : inR z) (x0r : inR64 x0) (y0r : inR64 y0) (x1r : inR64 x1) (y1r : inR64 y1) : both m_X5_bar m_X6_bar [zr 1, zi z, zl x0, zl y0, zl x1, zl y1] [zr 32, zi z, zl x0, zl y0, zl x1, zl y1] exA 2 pb c R := by
  have h0 := h
  obtain ⟨i1_v, i2_v, i3_v, i4_v, i5_v, i6_v, i7_v, s, i8_v⟩ := h
  obtain ⟨hg, nn, pp40, mm, ru, ba_v, pn, ac⟩ := i1_v
  refine ⟨_, _, fun R1 => (∀ a, a ≠ 1 → a ≠ 2 → a ≠ 9 → R1 a = R a) ∧ (∀ j, j ≠ 12 → R1 2 j = R 2 j) ∧ (∀ p, R1 9 p = pI (pls c p ∧ inB c z x0 y0 x1 y1 p) 1 (R 9 p)) ∧ R1 2 12 = cnt (fun p => R1 9 p ≠ 0) (cS c) ∧ R1 1 = pI1 (∃ p, pls c p ∧ inB c z x0 y0 x1 y1 p ∧ R 9 p = 0) (up1 (R 1) 3 0) (R 1), cdv_R, fun _ => bI_01 _, fun R1 h1 => h1.1 0 (by decide) (by decide) (by decide), s_bar hg zr1 x0r y0r x1r y1r ba_v i4_v, fun a b J R1 hr => ?_⟩
  have rf : ∀ a1_v : Nat, 32 ≤ a1_v → R1 a1_v = R a1_v := fun a1_v ha_v => by
    rcases hr with ⟨-, z2⟩ | ⟨-, z2⟩
    · exact z2.1 a1_v (by omega) (by omega) (by omega)
    · rw [z2]
  have e36 : ∀ p, pls c p → R1 36 p = R 9 p := fun p hp => by rw [rf 36 (by decide)]; exact i2_v.2.1 p hp
  have sE : (∃ p, 0 ≤ p ∧ p < (cS (cw c a b J) : Int) ∧ inB (cw c a b J) z x0 y0 x1 y1 p ∧ R1 36 p = 0) = (∃ p, pls c p ∧ inB c z x0 y0 x1 y1 p ∧ R 9 p = 0) := propext ⟨fun ⟨p, q1_v, q2_v, q3_v, q4_v⟩ => ⟨p, ⟨q1_v, q2_v⟩, q3_v, by rw [← e36 p ⟨q1_v, q2_v⟩]; exact q4_v⟩, fun ⟨p, q1_v, q3_v, q4_v⟩ => ⟨p, q1_v.1, q1_v.2, q3_v, by rw [e36 p q1_v]; exact q4_v⟩⟩
  have m := m_bar (c := cw c a b J) (R := R1) hg zr1 x0r y0r x1r y1r (fun p hp => by rw [e36 p hp]; exact ba_v p) (by rw [rf 32 (by decide), i6_v]; exact i5_v)
  rw [sE] at m
  refine MZ.mono m ?_
  rintro o w ⟨v, R2, rfl, rfl, h2⟩
  refine ⟨v, R2, rfl, rfl, ?_⟩
  dsimp only
  rw [INV_cw]
  rcases h2 with ⟨z1, z2⟩ | ⟨z1, z2, z3, z4, z5, z6, z7⟩
  · have e : R1 = R := (hr.resolve_left (fun y => z1 y.1)).2
    subst e
    subst z2
    exact ⟨zU_same _ _ _ _, fun y => absurd y z1, INV_code h0⟩
  · obtain ⟨c1_v, c2_v, c3_v, c4_v, c5_v⟩ := (hr.resolve_right (fun y => y.1 z1)).2
    refine ⟨z5.trans z1.symm, fun _ => z2, ?_⟩
    have z4 : ∀ p, pls c p → R2 36 p = pI (inB c z x0 y0 x1 y1 p) 1 (R1 36 p) := z4
    have f : ∀ a1_v, a1_v ≠ 1 → a1_v ≠ 2 → a1_v ≠ 9 → a1_v ≠ 32 → a1_v ≠ 36 → R2 a1_v = R a1_v := fun a1_v b1 b2 b3 b4 b5 => by rw [z3 a1_v b4 b5]; exact c1_v a1_v b1 b2 b3
    have f9_v : R2 9 = R1 9 := z3 9 (by decide) (by decide)
    have f2_v : R2 2 = R1 2 := z3 2 (by decide) (by decide)
    have f1_v : R2 1 = R1 1 := z3 1 (by decide) (by decide)
    by_cases e : ∃ p, pls c p ∧ inB c z x0 y0 x1 y1 p ∧ R 9 p = 0
    · rw [pI1_t e] at c5_v
      rw [bI_f (fun q => q.2 e)] at z6
      have f13 : R2 1 3 = 0 := by rw [f1_v, c5_v, up1_s]
      have d9_v : dz R2 9 = R1 9 := f9_v
      have d : ∀ a1_v, a1_v = 3 ∨ a1_v = 4 ∨ a1_v = 5 ∨ a1_v = 10 ∨ a1_v = 11 ∨ a1_v = 13 ∨ a1_v = 14 → dz R2 a1_v = dz R a1_v := fun a1_v ha_v => by
        rcases ha_v with rfl | rfl | rfl | rfl | rfl | rfl | rfl
        · exact f 3 (by decide) (by decide) (by decide) (by decide) (by decide)
        · exact f 4 (by decide) (by decide) (by decide) (by decide) (by decide)
        · exact f 5 (by decide) (by decide) (by decide) (by decide) (by decide)
        · exact f 10 (by decide) (by decide) (by decide) (by decide) (by decide)
        · exact f 11 (by decide) (by decide) (by decide) (by decide) (by decide)
        · exact f 13 (by decide) (by decide) (by decide) (by decide) (by decide)
        · exact f 14 (by decide) (by decide) (by decide) (by decide) (by decide)
      refine INV_mk h0 ⟨hg, ?_, ?_, ?_, ?_, fun p => ?_, ?_, ?_⟩ ⟨?_, fun p hp => ?_, ?_, ?_, ?_, ?_, ?_⟩ ?_ ?_ f13 z6 (f 0 (by decide) (by decide) (by decide) (by decide) (by decide))
      · rw [d 10 (by omega)]; exact nn
      · rw [d 10 (by omega)]; exact pp40
      · rw [d 10 (by omega)]; exact mm
      · rw [d 3 (by omega), d 4 (by omega), d 5 (by omega)]; exact ru
      · rw [d9_v, c3_v p]
        by_cases q : pls c p ∧ inB c z x0 y0 x1 y1 p
        · rw [pI_t q]; exact .inr rfl
        · rw [pI_f q]; exact ba_v p
      · rw [d 10 (by omega), d 11 (by omega)]; exact pn
      · rw [d 13 (by omega), d 14 (by omega)]; exact ac
      · rw [d 3 (by omega), d 4 (by omega), d 5 (by omega), f 33 (by decide) (by decide) (by decide) (by decide) (by decide), f 34 (by decide) (by decide) (by decide) (by decide) (by decide), f 35 (by decide) (by decide) (by decide) (by decide) (by decide)]; exact i2_v.1
      · rw [d9_v, c3_v p, z4 p hp, e36 p hp]
        exact pI_congr ⟨fun q => ⟨hp, q⟩, fun q => q.2⟩
      · rw [f 37 (by decide) (by decide) (by decide) (by decide) (by decide)]
        unfold shd
        rw [d 10 (by omega)]; exact i2_v.2.2.1
      · rw [d 11 (by omega), d 13 (by omega), f 38 (by decide) (by decide) (by decide) (by decide) (by decide), f 40 (by decide) (by decide) (by decide) (by decide) (by decide)]; exact i2_v.2.2.2.1
      · rw [d 14 (by omega), f 39 (by decide) (by decide) (by decide) (by decide) (by decide)]; exact i2_v.2.2.2.2.1
      · rw [d 10 (by omega), z7 8 (by decide) (by decide), rf 32 (by decide)]; exact i2_v.2.2.2.2.2.1
      · rw [d 10 (by omega), z7 10 (by decide) (by decide), rf 32 (by decide)]; exact i2_v.2.2.2.2.2.2
      · rw [f 10 (by decide) (by decide) (by decide) (by decide) (by decide), f 11 (by decide) (by decide) (by decide) (by decide) (by decide), f 12 (by decide) (by decide) (by decide) (by decide) (by decide)]; exact i3_v
      · rw [f2_v, f9_v]; exact c4_v
    · rw [pI1_f e] at c5_v
      have n9 : ∀ p, pls c p → inB c z x0 y0 x1 y1 p → R 9 p = 1 := fun p hp hb_v => (ba_v p).resolve_left (fun q => e ⟨p, hp, hb_v, q⟩)
      have e9_v : R1 9 = R 9 := by
        funext p
        rw [c3_v p]
        by_cases q : pls c p ∧ inB c z x0 y0 x1 y1 p
        · rw [pI_t q]; exact (n9 p q.1 q.2).symm
        · rw [pI_f q]
      have e2_v : R2 2 = R 2 := by
        rw [f2_v]
        funext j
        by_cases q : j = 12
        · rw [q, c4_v, e9_v, i4_v]
        · exact c2_v j q
      have dd : ∀ a1_v : Nat, 3 ≤ a1_v → a1_v ≤ 14 → R2 a1_v = R a1_v := fun a1_v b1 b2 => by
        by_cases q : a1_v = 9
        · rw [q, f9_v, e9_v]
        · exact f a1_v (by omega) (by omega) q (by omega) (by omega)
      have e14_v : R2 32 14 = R 32 14 := by
        rw [z6, rf 32 (by decide)]
        by_cases q : R 32 14 = 0
        · rw [bI_f (fun w => w.1 q), q]
        · rw [bI_t ⟨q, e⟩]
          rw [i6_v] at q ⊢
          omega
      have eD := dz_eq (R := R) (R1 := R2) dd
      have hj : ∀ j, j ≠ 0 → R2 32 j = R 32 j := fun j q => by
        by_cases q2_v : j = 14
        · rw [q2_v]; exact e14_v
        · rw [z7 j q q2_v, rf 32 (by decide)]
      have m36 : ∀ p, pls c p → R2 36 p = dz R 9 p := fun p hp => by
        rw [z4 p hp, e36 p hp]
        by_cases q : inB c z x0 y0 x1 y1 p
        · rw [pI_t q]; exact (n9 p hp q).symm
        · rw [pI_f q]; rfl
      have md : MDn c (dz R) R2 := by
        refine ⟨?_, m36, ?_, ?_, ?_, ?_, ?_⟩
        · rw [f 33 (by decide) (by decide) (by decide) (by decide) (by decide), f 34 (by decide) (by decide) (by decide) (by decide) (by decide), f 35 (by decide) (by decide) (by decide) (by decide) (by decide)]; exact i2_v.1
        · rw [f 37 (by decide) (by decide) (by decide) (by decide) (by decide)]; exact i2_v.2.2.1
        · rw [f 38 (by decide) (by decide) (by decide) (by decide) (by decide), f 40 (by decide) (by decide) (by decide) (by decide) (by decide)]; exact i2_v.2.2.2.1
        · rw [f 39 (by decide) (by decide) (by decide) (by decide) (by decide)]; exact i2_v.2.2.2.2.1
        · rw [hj 8 (by decide)]; exact i2_v.2.2.2.2.2.1
        · rw [hj 10 (by decide)]; exact i2_v.2.2.2.2.2.2
      have e1_v : R2 1 = R 1 := by rw [f1_v, c5_v]
      refine ⟨by rw [eD]; exact ⟨hg, nn, pp40, mm, ru, ba_v, pn, ac⟩, by rw [eD]; exact md, ?_, ?_, by rw [e1_v]; exact i5_v, by rw [e14_v, e1_v]; exact i6_v, by rw [f 0 (by decide) (by decide) (by decide) (by decide) (by decide)]; exact i7_v, s, fun q => ?_⟩
      · rw [dd 10 (by decide) (by decide), dd 11 (by decide) (by decide), dd 12 (by decide) (by decide)]; exact i3_v
      · rw [e2_v, dd 9 (by decide) (by decide)]; exact i4_v
      · rw [e1_v] at q
        obtain ⟨t1_v, t2_v, t3_v, t4_v⟩ := i8_v q
        refine ⟨t1_v.dz_ (fun a1_v b1 b2 => ?_), ?_, ?_, by rw [eD]; exact t4_v⟩
        · by_cases q2_v : a1_v ≤ 14
          · exact dd a1_v b1 q2_v
          · exact f a1_v (by omega) (by omega) (by omega) (by omega) (by omega)
        · rw [eD]; exact t2_v.of md (fun a1_v b1 b2 => f a1_v (by omega) (by omega) (by omega) (by omega) (by omega))
        · exact ⟨by rw [hj 22 (by decide)]; exact t3_v.1, by rw [hj 23 (by decide)]; exact t3_v.2.1, by rw [hj 24 (by decide)]; exact t3_v.2.2⟩
theorem b_run {k : Int} (h : INV c R) (kr : inR k) : both m_X5_run m_X6_run [zr 1, zi k] [zr 32, zi k] exD 1 pz c R := by
  have h0 := h
  obtain ⟨i1_v, i2_v, i3_v, i4_v, i5_v, i6_v, i7_v, s, i8_v⟩ := h
  have n16 := i1_v.2.1
  refine ⟨_, _, fun R1 => (∀ a : Nat, (a ≤ 14 ∨ 32 ≤ a) → a ≠ 1 → R1 a = R a) ∧ R1 1 = up1 (R 1) 3 1 ∧ CE c (dz R) (aRun c (dz R) k) R1, cdv_R1, fun _ => (by have q := cnt_R (aJ (aRun c (dz R) k)) (dz R 10 0).toNat; omega), fun R1 h1 => h1.1 0 (by decide) (by decide), s_run i1_v (dz_Din R) (fun n a b => i3_v n a (by omega)) kr, fun a b J R1 hr => ?_⟩
  by_cases q : 0 ≤ k ∧ k ≤ 8
  · obtain ⟨c1_v, c2_v, c3_v⟩ := (hr.resolve_right (fun y => y.1 (cdv0 (fun z => z q) id))).2
    have rf : ∀ a1_v : Nat, a1_v ≠ 1 → (a1_v ≤ 14 ∨ 32 ≤ a1_v) → R1 a1_v = R a1_v := fun a1_v b1 b2 => c1_v a1_v b2 b1
    have md : MDn c (dz R) R1 := i2_v.of (fun a1_v b1 b2 => rf a1_v (by omega) (by omega))
    have m := m_run (c := cw c a b J) (D := dz R) (R := R1) i1_v md q.1 q.2
    refine MZ.mono m ?_
    rintro o w ⟨v, R2, rfl, rfl, z1, z2, z3, z4, z5, z6, z7⟩
    refine ⟨v, R2, rfl, rfl, ?_⟩
    dsimp only
    rw [INV_cw]
    rw [aRun_cw] at z1 z6 z7
    rw [MS0_cw] at z6
    have eD : dz R2 = dz R := dz_eq (fun a1_v b1 b2 => by rw [z2 a1_v (by omega) (by omega)]; exact rf a1_v (by omega) (by omega))
    have f : ∀ a1_v : Nat, a1_v ≤ 40 → a1_v ≠ 32 → R2 a1_v = R1 a1_v := z2
    have e13_v : R2 1 3 = 1 := by rw [f 1 (by decide) (by decide), c2_v, up1_s]
    refine ⟨by rw [z4, cdv0 (fun z => z q) id], fun _ => z1, by rw [eD]; exact i1_v, by rw [eD]; exact z6.1, ?_, ?_, .inr e13_v, by rw [z5, e13_v], by rw [f 0 (by decide) (by decide), rf 0 (by decide) (by decide)]; exact i7_v, aRun c (dz R) k, fun _ => ⟨?_, by rw [eD]; exact z6, z7, by rw [eD]; exact aRun_AI i1_v q.1 q.2, by have w := aN_Rs (c := c) (D := dz R) k.toNat (s0 c (dz R)); have w1_v : aN (s0 c (dz R)) = 0 := rfl; have w2_v : aN (aRun c (dz R) k) ≤ aN (s0 c (dz R)) + k.toNat := w; omega⟩⟩
    · rw [f 10 (by decide) (by decide), f 11 (by decide) (by decide), f 12 (by decide) (by decide), rf 10 (by decide) (by decide), rf 11 (by decide) (by decide), rf 12 (by decide) (by decide)]; exact i3_v
    · rw [f 2 (by decide) (by decide), f 9 (by decide) (by decide), rf 2 (by decide) (by decide), rf 9 (by decide) (by decide)]; exact i4_v
    · have e1_v : dz R1 = dz R := dz_eq (fun a1_v b1 b2 => rf a1_v (by omega) (by omega))
      have t : CE c (dz R1) (aRun c (dz R) k) R1 := by rw [e1_v]; exact c3_v
      exact t.dz_ (fun a1_v b1 b2 => f a1_v (by omega) (by omega))
  · have e : R1 = R := (hr.resolve_left (fun y => by rw [cdv1 q] at y; exact absurd y.1 (by decide))).2
    subst e
    refine MZ.mono (m_runF (c := cw c a b J) kr q) ?_
    rintro o w ⟨v, R2, rfl, rfl, z1, z2⟩
    refine ⟨v, R2, rfl, rfl, ?_⟩
    dsimp only
    rw [INV_cw, cdv1 q]
    subst z2
    exact ⟨zU_same _ _ _ _, fun y => absurd y (by decide), INV_code h0⟩
end BOTH3

