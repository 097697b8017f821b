/-! ===== both sides of the calls that change the input ===== -/
theorem INV_mk {c : zC} {R R2 : zI} (h : INV c R) (hD : DOK c (dz R2)) (hm : MDn c (dz R2) R2) (h12 : ∀ n, 0 ≤ n → n < 16 → R2 12 n = cnt (fun k => R2 11 k = n) (R2 10 2).toNat) (h2 : R2 2 12 = cnt (fun p => R2 9 p ≠ 0) (cS c)) (h1 : R2 1 3 = 0) (h14 : R2 32 14 = 0) (h0 : R2 0 = R 0) : INV c R2 :=
  ⟨hD, hm, h12, h2, .inl h1, by rw [h14, h1], by rw [h0]; exact h.2.2.2.2.2.2.1, s0 c (dz R2), fun z => absurd h1 z⟩
section BOTH2
variable {c : zC} {R : zI}

theorem b_rule0 {z v : Int} (h : INV c R) (zr1 : inR z) (vr : inR64 v) : both m_X5_rule m_X6_rule [zr 1, zi 0, zi z, zl v] [zr 32, zi 0, zi z, zl v] exA 2 pb c R := by
  have h0 := h
  obtain ⟨i1_v, i2_v, i3_v, i4_v, i5_v, i6_v, i7_v, s, i8_v⟩ := h
  obtain ⟨hg, nn, pp40, mm, ru, ba_v, pn, ac⟩ := i1_v
  refine ⟨_, _, fun R1 => R1 = pIR (R 3 z = v) R (zU (zU R 3 z v) 1 3 0), cdv_R, fun _ => bI_01 _, fun R1 h1 => (by
    rw [h1]
    by_cases e : R 3 z = v
    · rw [pIR_t e]
    · rw [pIR_f e, zU_cell (by decide), zU_cell (by decide)]), s_rule0 hg zr1 vr (fun z1 a d => by
    have w : 0 ≤ R 3 z1 ∧ R 3 z1 ≤ 50 := by
      have q := ru z1 a d
      have q1_v : dz R 3 z1 = R 3 z1 := rfl
      omega
    omega), fun a b J_v R1 hr => ?_⟩
  have g2 := hg
  unfold Geo at g2
  have r33 : ∀ z1, 0 ≤ z1 → z1 < 3 → R1 33 z1 = R 33 z1 := fun z1 _ _ => by
    rcases hr with ⟨-, z2⟩ | ⟨-, z2⟩
    · rw [z2]
      by_cases e : R 3 z = v
      · rw [pIR_t e]
      · rw [pIR_f e, zU_cell (by decide), zU_cell (by decide)]
    · rw [z2]
  have r32 : R1 32 = R 32 := by
    rcases hr with ⟨-, z2⟩ | ⟨-, z2⟩
    · rw [z2]
      by_cases e : R 3 z = v
      · rw [pIR_t e]
      · rw [pIR_f e, zU_cell (by decide), zU_cell (by decide)]
    · rw [z2]
  refine MZ.mono (m_rule0 (c := cw c a b J_v) hg zr1 vr (fun z1 a1_v d1_v => by
    have q := ru z1 a1_v d1_v
    have q2_v := (i2_v.1 z1 a1_v d1_v).1
    rw [r33 z1 a1_v d1_v]
    omega) (by rw [r32, i6_v]; exact i5_v)) ?_
  rintro o w ⟨x, R2, rfl, rfl, h2⟩
  refine ⟨x, R2, rfl, rfl, ?_⟩
  dsimp only
  rw [INV_cw]
  rcases h2 with ⟨z1, z2⟩ | ⟨z1, z2, z3⟩
  · have e : R1 = R := (hr.resolve_left (fun y => z1 y.1)).2
    subst e
    subst z2
    exact ⟨zU_same _ _ _ _, fun y => absurd y z1, INV_code h0⟩
  · have e1_v : R1 = pIR (R 3 z = v) R (zU (zU R 3 z v) 1 3 0) := (hr.resolve_right (fun y => y.1 z1)).2
    have zl1 : 0 ≤ z ∧ z < 3 := by
      have q : ¬ ¬ (0 ≤ z ∧ z < cLa c) := fun y => by
        have := cdv1 (Q := ¬ (0 ≤ v ∧ v ≤ 2)) y
        have z1' : cdv (¬ (0 ≤ z ∧ z < cLa c)) (¬ (0 ≤ v ∧ v ≤ 2)) = 0 := z1
        omega
      omega
    have vl : 0 ≤ v ∧ v ≤ 2 := Classical.byContradiction fun y => by
      have z1' : cdv (¬ (0 ≤ z ∧ z < cLa c)) (¬ (0 ≤ v ∧ v ≤ 2)) = 0 := z1
      by_cases q : ¬ (0 ≤ z ∧ z < cLa c)
      · rw [cdv1 q] at z1'; omega
      · rw [cdv2 q y] at z1'; omega
    have ez := (i2_v.1 z zl1.1 zl1.2).1
    have ez : R 33 z = R 3 z := ez
    have ez1 : R1 33 z = R 3 z := (r33 z zl1.1 zl1.2).trans ez
    refine ⟨?_, fun _ => ?_, ?_⟩
    · rw [z3, zU_at (by decide), zU_cell (by decide), zU_same]; exact z1.symm
    · rw [z2, ez1]
    · by_cases e : R 3 z = v
      · rw [pIR_t e] at e1_v
        subst e1_v
        refine INV_keep h0 (fun a1_v _ hb_v => ?_) (fun j hj => ?_)
        · rw [z3, zU_cell hb_v]
          by_cases y : a1_v = 33
          · subst y
            rw [zU_row, zU_cell (by decide)]
            funext j
            by_cases q : j = z
            · rw [q, up1_s]; omega
            · rw [up1_n q]
          · rw [zU_cell y, zU_cell hb_v]
        · rw [z3]
          by_cases q : j = 14
          · subst q
            rw [zU_same]
            by_cases y : R1 32 14 = 0
            · rw [bI_f (fun w => w.1 y), y]
            · rw [bI_t ⟨y, by omega⟩]
              rw [i6_v] at y ⊢
              omega
          · rw [zU_at q, zU_cell (by decide), zU_at hj]
      · rw [pIR_f e] at e1_v
        have f14_v : R2 32 14 = 0 := by rw [z3, zU_same, bI_f (fun w => e (by rw [← ez1]; exact w.2))]
        have f : ∀ a1_v, a1_v ≠ 3 → a1_v ≠ 1 → a1_v ≠ 32 → a1_v ≠ 33 → R2 a1_v = R a1_v := fun a1_v b1 b2 b3 b4 => by rw [z3, zU_cell b3, zU_cell b4, zU_cell b3, e1_v, zU_cell b2, zU_cell b1]
        have fC_v : R2 3 = up1 (R 3) z v := by rw [z3, zU_cell (by decide), zU_cell (by decide), zU_cell (by decide), e1_v, zU_cell (by decide), zU_row]
        have fA : R2 33 = up1 (R 33) z v := by rw [z3, zU_cell (by decide), zU_row, zU_cell (by decide), e1_v, zU_cell (by decide), zU_cell (by decide)]
        have f1_v : R2 1 3 = 0 := by rw [z3, zU_cell (by decide), zU_cell (by decide), zU_cell (by decide), e1_v, zU_same]
        have f32 : ∀ j, j ≠ 0 → j ≠ 14 → R2 32 j = R 32 j := fun j b1 b2 => by rw [z3, zU_at b2, zU_cell (by decide), zU_at b1, r32]
        have d9_v : dz R2 9 = dz R 9 := f 9 (by decide) (by decide) (by decide) (by decide)
        have d10_v : dz R2 10 = dz R 10 := f 10 (by decide) (by decide) (by decide) (by decide)
        have d11_v : dz R2 11 = dz R 11 := f 11 (by decide) (by decide) (by decide) (by decide)
        have d13_v : dz R2 13 = dz R 13 := f 13 (by decide) (by decide) (by decide) (by decide)
        have d14_v : dz R2 14 = dz R 14 := f 14 (by decide) (by decide) (by decide) (by decide)
        have dC : dz R2 3 = up1 (dz R 3) z v := fC_v
        have dX : dz R2 4 = dz R 4 := f 4 (by decide) (by decide) (by decide) (by decide)
        have dY : dz R2 5 = dz R 5 := f 5 (by decide) (by decide) (by decide) (by decide)
        refine INV_mk h0 ⟨hg, ?_, ?_, ?_, fun z2 a2 d2_v => ?_, ?_, ?_, ?_⟩ ⟨fun z2 a2 d2_v => ?_, ?_, ?_, ?_, ?_, ?_, ?_⟩ ?_ ?_ f1_v f14_v (f 0 (by decide) (by decide) (by decide) (by decide))
        · rw [d10_v]; exact nn
        · rw [d10_v]; exact pp40
        · rw [d10_v]; exact mm
        · have q := ru z2 a2 d2_v
          rw [dC, dX, dY]
          by_cases y : z2 = z
          · rw [y] at q ⊢
            rw [up1_s]
            omega
          · rw [up1_n y]
            exact q
        · rw [d9_v]; exact ba_v
        · rw [d10_v, d11_v]; exact pn
        · rw [d13_v, d14_v]; exact ac
        · have q := i2_v.1 z2 a2 d2_v
          rw [dC, dX, dY, fA, f 34 (by decide) (by decide) (by decide) (by decide), f 35 (by decide) (by decide) (by decide) (by decide)]
          by_cases y : z2 = z
          · rw [y] at q ⊢
            rw [up1_s, up1_s]
            exact ⟨rfl, q.2.1, q.2.2⟩
          · rw [up1_n y, up1_n y]
            exact q
        · rw [d9_v, f 36 (by decide) (by decide) (by decide) (by decide)]; exact i2_v.2.1
        · rw [f 37 (by decide) (by decide) (by decide) (by decide)]
          unfold shd
          rw [d10_v]; exact i2_v.2.2.1
        · rw [d11_v, d13_v, f 38 (by decide) (by decide) (by decide) (by decide), f 40 (by decide) (by decide) (by decide) (by decide)]; exact i2_v.2.2.2.1
        · rw [d14_v, f 39 (by decide) (by decide) (by decide) (by decide)]; exact i2_v.2.2.2.2.1
        · rw [d10_v, f32 8 (by decide) (by decide)]; exact i2_v.2.2.2.2.2.1
        · rw [d10_v, f32 10 (by decide) (by decide)]; exact i2_v.2.2.2.2.2.2
        · rw [f 10 (by decide) (by decide) (by decide) (by decide), f 11 (by decide) (by decide) (by decide) (by decide), f 12 (by decide) (by decide) (by decide) (by decide)]; exact i3_v
        · rw [f 2 (by decide) (by decide) (by decide) (by decide), f 9 (by decide) (by decide) (by decide) (by decide)]; exact i4_v

theorem b_rule1 {z v : Int} (h : INV c R) (zr1 : inR z) (vr : inR64 v) : both m_X5_rule m_X6_rule [zr 1, zi 1, zi z, zl v] [zr 32, zi 1, zi z, zl v] exA 2 pb c R := by
  have h0 := h
  obtain ⟨i1_v, i2_v, i3_v, i4_v, i5_v, i6_v, i7_v, s, i8_v⟩ := h
  obtain ⟨hg, nn, pp40, mm, ru, ba_v, pn, ac⟩ := i1_v
  refine ⟨_, _, fun R1 => R1 = pIR (R 4 z = v) R (zU (zU R 4 z v) 1 3 0), cdv_R, fun _ => bI_01 _, fun R1 h1 => (by
    rw [h1]
    by_cases e : R 4 z = v
    · rw [pIR_t e]
    · rw [pIR_f e, zU_cell (by decide), zU_cell (by decide)]), s_rule1 hg zr1 vr (fun z1 a d => by
    have w : 0 ≤ R 4 z1 ∧ R 4 z1 ≤ 50 := by
      have q := ru z1 a d
      have q1_v : dz R 4 z1 = R 4 z1 := rfl
      omega
    omega), fun a b J_v R1 hr => ?_⟩
  have g2 := hg
  unfold Geo at g2
  have r33 : ∀ z1, 0 ≤ z1 → z1 < 3 → R1 34 z1 = R 34 z1 := fun z1 _ _ => by
    rcases hr with ⟨-, z2⟩ | ⟨-, z2⟩
    · rw [z2]
      by_cases e : R 4 z = v
      · rw [pIR_t e]
      · rw [pIR_f e, zU_cell (by decide), zU_cell (by decide)]
    · rw [z2]
  have r32 : R1 32 = R 32 := by
    rcases hr with ⟨-, z2⟩ | ⟨-, z2⟩
    · rw [z2]
      by_cases e : R 4 z = v
      · rw [pIR_t e]
      · rw [pIR_f e, zU_cell (by decide), zU_cell (by decide)]
    · rw [z2]
  refine MZ.mono (m_rule1 (c := cw c a b J_v) hg zr1 vr (fun z1 a1_v d1_v => by
    have q := ru z1 a1_v d1_v
    have q2_v := (i2_v.1 z1 a1_v d1_v).2.1
    rw [r33 z1 a1_v d1_v]
    omega) (by rw [r32, i6_v]; exact i5_v)) ?_
  rintro o w ⟨x, R2, rfl, rfl, h2⟩
  refine ⟨x, R2, rfl, rfl, ?_⟩
  dsimp only
  rw [INV_cw]
  rcases h2 with ⟨z1, z2⟩ | ⟨z1, z2, z3⟩
  · have e : R1 = R := (hr.resolve_left (fun y => z1 y.1)).2
    subst e
    subst z2
    exact ⟨zU_same _ _ _ _, fun y => absurd y z1, INV_code h0⟩
  · have e1_v : R1 = pIR (R 4 z = v) R (zU (zU R 4 z v) 1 3 0) := (hr.resolve_right (fun y => y.1 z1)).2
    have zl1 : 0 ≤ z ∧ z < 3 := by
      have q : ¬ ¬ (0 ≤ z ∧ z < cLa c) := fun y => by
        have := cdv1 (Q := ¬ (0 ≤ v ∧ v ≤ 50)) y
        have z1' : cdv (¬ (0 ≤ z ∧ z < cLa c)) (¬ (0 ≤ v ∧ v ≤ 50)) = 0 := z1
        omega
      omega
    have vl : 0 ≤ v ∧ v ≤ 50 := Classical.byContradiction fun y => by
      have z1' : cdv (¬ (0 ≤ z ∧ z < cLa c)) (¬ (0 ≤ v ∧ v ≤ 50)) = 0 := z1
      by_cases q : ¬ (0 ≤ z ∧ z < cLa c)
      · rw [cdv1 q] at z1'; omega
      · rw [cdv2 q y] at z1'; omega
    have ez := (i2_v.1 z zl1.1 zl1.2).2.1
    have ez : R 34 z = R 4 z := ez
    have ez1 : R1 34 z = R 4 z := (r33 z zl1.1 zl1.2).trans ez
    refine ⟨?_, fun _ => ?_, ?_⟩
    · rw [z3, zU_at (by decide), zU_cell (by decide), zU_same]; exact z1.symm
    · rw [z2, ez1]
    · by_cases e : R 4 z = v
      · rw [pIR_t e] at e1_v
        subst e1_v
        refine INV_keep h0 (fun a1_v _ hb_v => ?_) (fun j hj => ?_)
        · rw [z3, zU_cell hb_v]
          by_cases y : a1_v = 34
          · subst y
            rw [zU_row, zU_cell (by decide)]
            funext j
            by_cases q : j = z
            · rw [q, up1_s]; omega
            · rw [up1_n q]
          · rw [zU_cell y, zU_cell hb_v]
        · rw [z3]
          by_cases q : j = 14
          · subst q
            rw [zU_same]
            by_cases y : R1 32 14 = 0
            · rw [bI_f (fun w => w.1 y), y]
            · rw [bI_t ⟨y, by omega⟩]
              rw [i6_v] at y ⊢
              omega
          · rw [zU_at q, zU_cell (by decide), zU_at hj]
      · rw [pIR_f e] at e1_v
        have f14_v : R2 32 14 = 0 := by rw [z3, zU_same, bI_f (fun w => e (by rw [← ez1]; exact w.2))]
        have f : ∀ a1_v, a1_v ≠ 4 → a1_v ≠ 1 → a1_v ≠ 32 → a1_v ≠ 34 → R2 a1_v = R a1_v := fun a1_v b1 b2 b3 b4 => by rw [z3, zU_cell b3, zU_cell b4, zU_cell b3, e1_v, zU_cell b2, zU_cell b1]
        have fC_v : R2 4 = up1 (R 4) z v := by rw [z3, zU_cell (by decide), zU_cell (by decide), zU_cell (by decide), e1_v, zU_cell (by decide), zU_row]
        have fA : R2 34 = up1 (R 34) z v := by rw [z3, zU_cell (by decide), zU_row, zU_cell (by decide), e1_v, zU_cell (by decide), zU_cell (by decide)]
        have f1_v : R2 1 3 = 0 := by rw [z3, zU_cell (by decide), zU_cell (by decide), zU_cell (by decide), e1_v, zU_same]
        have f32 : ∀ j, j ≠ 0 → j ≠ 14 → R2 32 j = R 32 j := fun j b1 b2 => by rw [z3, zU_at b2, zU_cell (by decide), zU_at b1, r32]
        have d9_v : dz R2 9 = dz R 9 := f 9 (by decide) (by decide) (by decide) (by decide)
        have d10_v : dz R2 10 = dz R 10 := f 10 (by decide) (by decide) (by decide) (by decide)
        have d11_v : dz R2 11 = dz R 11 := f 11 (by decide) (by decide) (by decide) (by decide)
        have d13_v : dz R2 13 = dz R 13 := f 13 (by decide) (by decide) (by decide) (by decide)
        have d14_v : dz R2 14 = dz R 14 := f 14 (by decide) (by decide) (by decide) (by decide)
        have dC : dz R2 4 = up1 (dz R 4) z v := fC_v
        have dX : dz R2 3 = dz R 3 := f 3 (by decide) (by decide) (by decide) (by decide)
        have dY : dz R2 5 = dz R 5 := f 5 (by decide) (by decide) (by decide) (by decide)
        refine INV_mk h0 ⟨hg, ?_, ?_, ?_, fun z2 a2 d2_v => ?_, ?_, ?_, ?_⟩ ⟨fun z2 a2 d2_v => ?_, ?_, ?_, ?_, ?_, ?_, ?_⟩ ?_ ?_ f1_v f14_v (f 0 (by decide) (by decide) (by decide) (by decide))
        · rw [d10_v]; exact nn
        · rw [d10_v]; exact pp40
        · rw [d10_v]; exact mm
        · have q := ru z2 a2 d2_v
          rw [dC, dX, dY]
          by_cases y : z2 = z
          · rw [y] at q ⊢
            rw [up1_s]
            omega
          · rw [up1_n y]
            exact q
        · rw [d9_v]; exact ba_v
        · rw [d10_v, d11_v]; exact pn
        · rw [d13_v, d14_v]; exact ac
        · have q := i2_v.1 z2 a2 d2_v
          rw [dC, dX, dY, fA, f 33 (by decide) (by decide) (by decide) (by decide), f 35 (by decide) (by decide) (by decide) (by decide)]
          by_cases y : z2 = z
          · rw [y] at q ⊢
            rw [up1_s, up1_s]
            exact ⟨q.1, rfl, q.2.2⟩
          · rw [up1_n y, up1_n y]
            exact q
        · rw [d9_v, f 36 (by decide) (by decide) (by decide) (by decide)]; exact i2_v.2.1
        · rw [f 37 (by decide) (by decide) (by decide) (by decide)]
          unfold shd
          rw [d10_v]; exact i2_v.2.2.1
        · rw [d11_v, d13_v, f 38 (by decide) (by decide) (by decide) (by decide), f 40 (by decide) (by decide) (by decide) (by decide)]; exact i2_v.2.2.2.1
        · rw [d14_v, f 39 (by decide) (by decide) (by decide) (by decide)]; exact i2_v.2.2.2.2.1
        · rw [d10_v, f32 8 (by decide) (by decide)]; exact i2_v.2.2.2.2.2.1
        · rw [d10_v, f32 10 (by decide) (by decide)]; exact i2_v.2.2.2.2.2.2
        · rw [f 10 (by decide) (by decide) (by decide) (by decide), f 11 (by decide) (by decide) (by decide) (by decide), f 12 (by decide) (by decide) (by decide) (by decide)]; exact i3_v
        · rw [f 2 (by decide) (by decide) (by decide) (by decide), f 9 (by decide) (by decide) (by decide) (by decide)]; exact i4_v

theorem b_rule2 {z v : Int} (h : INV c R) (zr1 : inR z) (vr : inR64 v) : both m_X5_rule m_X6_rule [zr 1, zi 2, zi z, zl v] [zr 32, zi 2, zi z, zl v] exA 2 pb c R := by
  have h0 := h
  obtain ⟨i1_v, i2_v, i3_v, i4_v, i5_v, i6_v, i7_v, s, i8_v⟩ := h
  obtain ⟨hg, nn, pp40, mm, ru, ba_v, pn, ac⟩ := i1_v
  refine ⟨_, _, fun R1 => R1 = pIR (R 5 z = v) R (zU (zU R 5 z v) 1 3 0), cdv_R, fun _ => bI_01 _, fun R1 h1 => (by
    rw [h1]
    by_cases e : R 5 z = v
    · rw [pIR_t e]
    · rw [pIR_f e, zU_cell (by decide), zU_cell (by decide)]), s_rule2 hg zr1 vr (fun z1 a d => by
    have w : 0 ≤ R 5 z1 ∧ R 5 z1 ≤ 50 := by
      have q := ru z1 a d
      have q1_v : dz R 5 z1 = R 5 z1 := rfl
      omega
    omega), fun a b J_v R1 hr => ?_⟩
  have g2 := hg
  unfold Geo at g2
  have r33 : ∀ z1, 0 ≤ z1 → z1 < 3 → R1 35 z1 = R 35 z1 := fun z1 _ _ => by
    rcases hr with ⟨-, z2⟩ | ⟨-, z2⟩
    · rw [z2]
      by_cases e : R 5 z = v
      · rw [pIR_t e]
      · rw [pIR_f e, zU_cell (by decide), zU_cell (by decide)]
    · rw [z2]
  have r32 : R1 32 = R 32 := by
    rcases hr with ⟨-, z2⟩ | ⟨-, z2⟩
    · rw [z2]
      by_cases e : R 5 z = v
      · rw [pIR_t e]
      · rw [pIR_f e, zU_cell (by decide), zU_cell (by decide)]
    · rw [z2]
  refine MZ.mono (m_rule2 (c := cw c a b J_v) hg zr1 vr (fun z1 a1_v d1_v => by
    have q := ru z1 a1_v d1_v
    have q2_v := (i2_v.1 z1 a1_v d1_v).2.2
    rw [r33 z1 a1_v d1_v]
    omega) (by rw [r32, i6_v]; exact i5_v)) ?_
  rintro o w ⟨x, R2, rfl, rfl, h2⟩
  refine ⟨x, R2, rfl, rfl, ?_⟩
  dsimp only
  rw [INV_cw]
  rcases h2 with ⟨z1, z2⟩ | ⟨z1, z2, z3⟩
  · have e : R1 = R := (hr.resolve_left (fun y => z1 y.1)).2
    subst e
    subst z2
    exact ⟨zU_same _ _ _ _, fun y => absurd y z1, INV_code h0⟩
  · have e1_v : R1 = pIR (R 5 z = v) R (zU (zU R 5 z v) 1 3 0) := (hr.resolve_right (fun y => y.1 z1)).2
    have zl1 : 0 ≤ z ∧ z < 3 := by
      have q : ¬ ¬ (0 ≤ z ∧ z < cLa c) := fun y => by
        have := cdv1 (Q := ¬ (1 ≤ v ∧ v ≤ 50)) y
        have z1' : cdv (¬ (0 ≤ z ∧ z < cLa c)) (¬ (1 ≤ v ∧ v ≤ 50)) = 0 := z1
        omega
      omega
    have vl : 1 ≤ v ∧ v ≤ 50 := Classical.byContradiction fun y => by
      have z1' : cdv (¬ (0 ≤ z ∧ z < cLa c)) (¬ (1 ≤ v ∧ v ≤ 50)) = 0 := z1
      by_cases q : ¬ (0 ≤ z ∧ z < cLa c)
      · rw [cdv1 q] at z1'; omega
      · rw [cdv2 q y] at z1'; omega
    have ez := (i2_v.1 z zl1.1 zl1.2).2.2
    have ez : R 35 z = R 5 z := ez
    have ez1 : R1 35 z = R 5 z := (r33 z zl1.1 zl1.2).trans ez
    refine ⟨?_, fun _ => ?_, ?_⟩
    · rw [z3, zU_at (by decide), zU_cell (by decide), zU_same]; exact z1.symm
    · rw [z2, ez1]
    · by_cases e : R 5 z = v
      · rw [pIR_t e] at e1_v
        subst e1_v
        refine INV_keep h0 (fun a1_v _ hb_v => ?_) (fun j hj => ?_)
        · rw [z3, zU_cell hb_v]
          by_cases y : a1_v = 35
          · subst y
            rw [zU_row, zU_cell (by decide)]
            funext j
            by_cases q : j = z
            · rw [q, up1_s]; omega
            · rw [up1_n q]
          · rw [zU_cell y, zU_cell hb_v]
        · rw [z3]
          by_cases q : j = 14
          · subst q
            rw [zU_same]
            by_cases y : R1 32 14 = 0
            · rw [bI_f (fun w => w.1 y), y]
            · rw [bI_t ⟨y, by omega⟩]
              rw [i6_v] at y ⊢
              omega
          · rw [zU_at q, zU_cell (by decide), zU_at hj]
      · rw [pIR_f e] at e1_v
        have f14_v : R2 32 14 = 0 := by rw [z3, zU_same, bI_f (fun w => e (by rw [← ez1]; exact w.2))]
        have f : ∀ a1_v, a1_v ≠ 5 → a1_v ≠ 1 → a1_v ≠ 32 → a1_v ≠ 35 → R2 a1_v = R a1_v := fun a1_v b1 b2 b3 b4 => by rw [z3, zU_cell b3, zU_cell b4, zU_cell b3, e1_v, zU_cell b2, zU_cell b1]
        have fC_v : R2 5 = up1 (R 5) z v := by rw [z3, zU_cell (by decide), zU_cell (by decide), zU_cell (by decide), e1_v, zU_cell (by decide), zU_row]
        have fA : R2 35 = up1 (R 35) z v := by rw [z3, zU_cell (by decide), zU_row, zU_cell (by decide), e1_v, zU_cell (by decide), zU_cell (by decide)]
        have f1_v : R2 1 3 = 0 := by rw [z3, zU_cell (by decide), zU_cell (by decide), zU_cell (by decide), e1_v, zU_same]
        have f32 : ∀ j, j ≠ 0 → j ≠ 14 → R2 32 j = R 32 j := fun j b1 b2 => by rw [z3, zU_at b2, zU_cell (by decide), zU_at b1, r32]
        have d9_v : dz R2 9 = dz R 9 := f 9 (by decide) (by decide) (by decide) (by decide)
        have d10_v : dz R2 10 = dz R 10 := f 10 (by decide) (by decide) (by decide) (by decide)
        have d11_v : dz R2 11 = dz R 11 := f 11 (by decide) (by decide) (by decide) (by decide)
        have d13_v : dz R2 13 = dz R 13 := f 13 (by decide) (by decide) (by decide) (by decide)
        have d14_v : dz R2 14 = dz R 14 := f 14 (by decide) (by decide) (by decide) (by decide)
        have dC : dz R2 5 = up1 (dz R 5) z v := fC_v
        have dX : dz R2 3 = dz R 3 := f 3 (by decide) (by decide) (by decide) (by decide)
        have dY : dz R2 4 = dz R 4 := f 4 (by decide) (by decide) (by decide) (by decide)
        refine INV_mk h0 ⟨hg, ?_, ?_, ?_, fun z2 a2 d2_v => ?_, ?_, ?_, ?_⟩ ⟨fun z2 a2 d2_v => ?_, ?_, ?_, ?_, ?_, ?_, ?_⟩ ?_ ?_ f1_v f14_v (f 0 (by decide) (by decide) (by decide) (by decide))
        · rw [d10_v]; exact nn
        · rw [d10_v]; exact pp40
        · rw [d10_v]; exact mm
        · have q := ru z2 a2 d2_v
          rw [dC, dX, dY]
          by_cases y : z2 = z
          · rw [y] at q ⊢
            rw [up1_s]
            omega
          · rw [up1_n y]
            exact q
        · rw [d9_v]; exact ba_v
        · rw [d10_v, d11_v]; exact pn
        · rw [d13_v, d14_v]; exact ac
        · have q := i2_v.1 z2 a2 d2_v
          rw [dC, dX, dY, fA, f 33 (by decide) (by decide) (by decide) (by decide), f 34 (by decide) (by decide) (by decide) (by decide)]
          by_cases y : z2 = z
          · rw [y] at q ⊢
            rw [up1_s, up1_s]
            exact ⟨q.1, q.2.1, rfl⟩
          · rw [up1_n y, up1_n y]
            exact q
        · rw [d9_v, f 36 (by decide) (by decide) (by decide) (by decide)]; exact i2_v.2.1
        · rw [f 37 (by decide) (by decide) (by decide) (by decide)]
          unfold shd
          rw [d10_v]; exact i2_v.2.2.1
        · rw [d11_v, d13_v, f 38 (by decide) (by decide) (by decide) (by decide), f 40 (by decide) (by decide) (by decide) (by decide)]; exact i2_v.2.2.2.1
        · rw [d14_v, f 39 (by decide) (by decide) (by decide) (by decide)]; exact i2_v.2.2.2.2.1
        · rw [d10_v, f32 8 (by decide) (by decide)]; exact i2_v.2.2.2.2.2.1
        · rw [d10_v, f32 10 (by decide) (by decide)]; exact i2_v.2.2.2.2.2.2
        · rw [f 10 (by decide) (by decide) (by decide) (by decide), f 11 (by decide) (by decide) (by decide) (by decide), f 12 (by decide) (by decide) (by decide) (by decide)]; exact i3_v
        · rw [f 2 (by decide) (by decide) (by decide) (by decide), f 9 (by decide) (by decide) (by decide) (by decide)]; exact i4_v

theorem b_ruleX {k z v : Int} (h : INV c R) (kr : inR k) (zr1 : inR z) (vr : inR64 v) (k0 : k ≠ 0) (k1 : k ≠ 1) (k2 : k ≠ 2) : both m_X5_rule m_X6_rule [zr 1, zi k, zi z, zl v] [zr 32, zi k, zi z, zl v] exA 2 pb c R := by
  have hg := h.1.1
  refine ⟨cdv (¬ (0 ≤ z ∧ z < cLa c)) True, 0, fun _ => False, cdv_R, fun _ => .inl rfl, fun R1 h1 => h1.elim, MZ.mono (s_ruleX hg kr zr1 vr k0 k1 k2) ?_, fun a b J_v R1 hr => ?_⟩
  · rintro o w (⟨z1, x, R1, z2, z3, z4⟩ | z1)
    · exact z4.elim
    · exact .inr z1
  · have e : R1 = R := hr.elim (fun y => y.2.elim) (fun y => y.2)
    subst e
    refine MZ.mono (m_ruleX (c := cw c a b J_v) hg kr zr1 vr k0 k1 k2) ?_
    rintro o w ⟨x, R2, rfl, rfl, h2⟩
    refine ⟨x, R2, rfl, rfl, ?_⟩
    dsimp only
    rw [INV_cw]
    rcases h2 with ⟨z1, z2⟩ | ⟨z1, z2⟩
    · subst z2
      exact ⟨zU_same _ _ _ _, fun y => absurd y z1, INV_code h⟩
    · exact z2.elim
theorem b_rule {k z v : Int} (h : INV c R) (kr : inR k) (zr1 : inR z) (vr : inR64 v) : both m_X5_rule m_X6_rule [zr 1, zi k, zi z, zl v] [zr 32, zi k, zi z, zl v] exA 2 pb c R := by
  by_cases k0 : k = 0
  · subst k0; exact b_rule0 h zr1 vr
  · by_cases k1 : k = 1
    · subst k1; exact b_rule1 h zr1 vr
    · by_cases k2 : k = 2
      · subst k2; exact b_rule2 h zr1 vr
      · exact b_ruleX h kr zr1 vr k0 k1 k2
theorem b_net (h : INV c R) : both m_X5_net m_X6_net [zr 1] [zr 32] exC 1 pz c R := by
  have h0 := h
  obtain ⟨i1_v, i2_v, i3_v, i4_v, i5_v, i6_v, i7_v, s, i8_v⟩ := h
  obtain ⟨hg, nn, pp40, mm, ru, ba_v, pn, ac⟩ := i1_v
  refine ⟨_, _, fun R1 => R1 = zU (zU R 1 3 0) 10 0 (R 10 0 + 1), cdv_R1, fun _ => (by have q : 0 ≤ R 10 0 ∧ R 10 0 ≤ 16 := nn; omega), fun R1 h1 => (by rw [h1, zU_cell (by decide), zU_cell (by decide)]), s_net nn.1 nn.2, fun a b J_v R1 hr => ?_⟩
  have r32 : R1 32 = R 32 := by
    rcases hr with ⟨-, z2⟩ | ⟨-, z2⟩
    · rw [z2, zU_cell (by decide), zU_cell (by decide)]
    · rw [z2]
  have e8 : R1 32 8 = R 10 0 := by rw [r32]; exact i2_v.2.2.2.2.2.1
  have nn1 : 0 ≤ R 10 0 ∧ R 10 0 ≤ 16 := nn
  have m := m_net (c := cw c a b J_v) (R := R1) (by omega) (by omega)
  rw [e8] at m
  refine MZ.mono m ?_
  rintro o w ⟨x, R2, rfl, rfl, h2⟩
  refine ⟨x, R2, rfl, rfl, ?_⟩
  dsimp only
  rw [INV_cw]
  rcases h2 with ⟨z1, z2⟩ | ⟨z1, z2, z3⟩
  · have e : R1 = R := (hr.resolve_left (fun y => z1 y.1)).2
    subst e
    subst z2
    exact ⟨zU_same _ _ _ _, fun y => absurd y z1, INV_code h0⟩
  · have e1_v : R1 = zU (zU R 1 3 0) 10 0 (R 10 0 + 1) := (hr.resolve_right (fun y => y.1 z1)).2
    have n16 : R 10 0 ≠ 16 := fun y => by rw [cdv1 y] at z1; omega
    refine ⟨?_, fun _ => z2, ?_⟩
    · rw [z3, zU_at (by decide), zU_at (by decide), zU_same]; exact z1.symm
    · have f : ∀ a1_v, a1_v ≠ 10 → a1_v ≠ 1 → a1_v ≠ 32 → R2 a1_v = R a1_v := fun a1_v b1 b2 b3 => by rw [z3, zU_cell b3, zU_cell b3, zU_cell b3, e1_v, zU_cell b1, zU_cell b2]
      have f10 : R2 10 = up1 (R 10) 0 (R 10 0 + 1) := by rw [z3, zU_cell (by decide), zU_cell (by decide), zU_cell (by decide), e1_v, zU_row, zU_cell (by decide)]
      have f1_v : R2 1 3 = 0 := by rw [z3, zU_cell (by decide), zU_cell (by decide), zU_cell (by decide), e1_v, zU_cell (by decide), zU_same]
      have f14_v : R2 32 14 = 0 := by rw [z3, zU_at (by decide), zU_same]
      have f8_v : R2 32 8 = R 10 0 + 1 := by rw [z3, zU_same]
      have f32 : R2 32 10 = R 32 10 := by rw [z3, zU_at (by decide), zU_at (by decide), zU_at (by decide), r32]
      have d10_v : dz R2 10 = up1 (dz R 10) 0 (dz R 10 0 + 1) := f10
      have d100_v : dz R2 10 0 = dz R 10 0 + 1 := by rw [d10_v, up1_s]
      have d101_v : dz R2 10 1 = dz R 10 1 := by rw [d10_v, up1_n (by decide)]
      have d102_v : dz R2 10 2 = dz R 10 2 := by rw [d10_v, up1_n (by decide)]
      have dq : dz R 10 0 = R 10 0 := rfl
      have d : ∀ a1_v, a1_v = 3 ∨ a1_v = 4 ∨ a1_v = 5 ∨ a1_v = 9 ∨ a1_v = 11 ∨ a1_v = 13 ∨ a1_v = 14 → dz R2 a1_v = dz R a1_v := fun a1_v ha_v => by
        rcases ha_v with rfl | rfl | rfl | rfl | rfl | rfl | rfl
        · exact f 3 (by decide) (by decide) (by decide)
        · exact f 4 (by decide) (by decide) (by decide)
        · exact f 5 (by decide) (by decide) (by decide)
        · exact f 9 (by decide) (by decide) (by decide)
        · exact f 11 (by decide) (by decide) (by decide)
        · exact f 13 (by decide) (by decide) (by decide)
        · exact f 14 (by decide) (by decide) (by decide)
      refine INV_mk h0 ⟨hg, ?_, ?_, ?_, ?_, ?_, fun k k0 k1 => ?_, ?_⟩ ⟨?_, ?_, ?_, ?_, ?_, ?_, ?_⟩ ?_ ?_ f1_v f14_v (f 0 (by decide) (by decide) (by decide))
      · rw [d100_v]; omega
      · rw [d102_v]; exact pp40
      · rw [d101_v]; exact mm
      · rw [d 3 (by omega), d 4 (by omega), d 5 (by omega)]; exact ru
      · rw [d 9 (by omega)]; exact ba_v
      · rw [d102_v] at k1
        have := pn k k0 k1
        rw [d100_v, d 11 (by omega)]
        omega
      · rw [d 13 (by omega), d 14 (by omega)]; exact ac
      · rw [d 3 (by omega), d 4 (by omega), d 5 (by omega), f 33 (by decide) (by decide) (by decide), f 34 (by decide) (by decide) (by decide), f 35 (by decide) (by decide) (by decide)]; exact i2_v.1
      · rw [d 9 (by omega), f 36 (by decide) (by decide) (by decide)]; exact i2_v.2.1
      · rw [f 37 (by decide) (by decide) (by decide)]
        unfold shd
        rw [d101_v]; exact i2_v.2.2.1
      · rw [d 11 (by omega), d 13 (by omega), f 38 (by decide) (by decide) (by decide), f 40 (by decide) (by decide) (by decide)]; exact i2_v.2.2.2.1
      · rw [d 14 (by omega), f 39 (by decide) (by decide) (by decide)]; exact i2_v.2.2.2.2.1
      · rw [d100_v, f8_v, dq]
      · rw [d102_v, f32]; exact i2_v.2.2.2.2.2.2
      · rw [f10, up1_n (by decide), f 11 (by decide) (by decide) (by decide), f 12 (by decide) (by decide) (by decide)]; exact i3_v
      · rw [f 2 (by decide) (by decide) (by decide), f 9 (by decide) (by decide) (by decide)]; exact i4_v
theorem b_pin {n : Int} (h : INV c R) (nr1 : inR n) : both m_X5_pin m_X6_pin [zr 1, zi n] [zr 32, zi n] exB 2 pz c R := by
  have h0 := h
  obtain ⟨i1_v, i2_v, i3_v, i4_v, i5_v, i6_v, i7_v, s, i8_v⟩ := h
  obtain ⟨hg, nn, pp40, mm, ru, ba_v, pn, ac⟩ := i1_v
  refine ⟨_, _, fun R1 => R1 = zU (zU (zU (zU R 1 3 0) 11 (R 10 2) n) 12 n (R 12 n + 1)) 10 2 (R 10 2 + 1), cdv_R, fun _ => (by have q : 0 ≤ R 10 2 ∧ R 10 2 ≤ 40 := pp40; omega), fun R1 h1 => (by rw [h1, zU_cell (by decide), zU_cell (by decide), zU_cell (by decide), zU_cell (by decide)]), s_pin nr1 nn.1 nn.2 pp40.1 pp40.2, fun a b J_v R1 hr => ?_⟩
  have r32 : R1 32 = R 32 := by
    rcases hr with ⟨-, z2⟩ | ⟨-, z2⟩
    · rw [z2, zU_cell (by decide), zU_cell (by decide), zU_cell (by decide), zU_cell (by decide)]
    · rw [z2]
  have e8 : R1 32 8 = R 10 0 := by rw [r32]; exact i2_v.2.2.2.2.2.1
  have e10_v : R1 32 10 = R 10 2 := by rw [r32]; exact i2_v.2.2.2.2.2.2
  have nn1 : 0 ≤ R 10 0 ∧ R 10 0 ≤ 16 := nn
  have pp1 : 0 ≤ R 10 2 ∧ R 10 2 ≤ 40 := pp40
  have m := m_pin (c := cw c a b J_v) (R := R1) nr1 (by omega) (by omega) (by omega) (by omega)
  rw [e8, e10_v] at m
  refine MZ.mono m ?_
  rintro o w ⟨x, R2, rfl, rfl, h2⟩
  refine ⟨x, R2, rfl, rfl, ?_⟩
  dsimp only
  rw [INV_cw]
  rcases h2 with ⟨z1, z2⟩ | ⟨z1, z2, z3⟩
  · have e : R1 = R := (hr.resolve_left (fun y => z1 y.1)).2
    subst e
    subst z2
    exact ⟨zU_same _ _ _ _, fun y => absurd y z1, INV_code h0⟩
  · have e1_v : R1 = zU (zU (zU (zU R 1 3 0) 11 (R 10 2) n) 12 n (R 12 n + 1)) 10 2 (R 10 2 + 1) := (hr.resolve_right (fun y => y.1 z1)).2
    have nb : 0 ≤ n ∧ n < R 10 0 := Classical.byContradiction fun y => by rw [cdv1 y] at z1; omega
    have p39 : R 10 2 ≠ 40 := fun y => by rw [cdv2 (fun q => q nb) y] at z1; omega
    refine ⟨?_, fun _ => z2, ?_⟩
    · rw [z3, zU_at (by decide), zU_cell (by decide), zU_at (by decide), zU_same]; exact z1.symm
    · have f : ∀ a1_v, a1_v ≠ 10 → a1_v ≠ 11 → a1_v ≠ 12 → a1_v ≠ 1 → a1_v ≠ 32 → a1_v ≠ 38 → R2 a1_v = R a1_v := fun a1_v b1 b2 b3 b4 b5 b6 => by rw [z3, zU_cell b5, zU_cell b6, zU_cell b5, zU_cell b5, e1_v, zU_cell b1, zU_cell b3, zU_cell b2, zU_cell b4]
      have f10 : R2 10 = up1 (R 10) 2 (R 10 2 + 1) := by rw [z3, zU_cell (by decide), zU_cell (by decide), zU_cell (by decide), zU_cell (by decide), e1_v, zU_row, zU_cell (by decide), zU_cell (by decide), zU_cell (by decide)]
      have f11_v : R2 11 = up1 (R 11) (R 10 2) n := by rw [z3, zU_cell (by decide), zU_cell (by decide), zU_cell (by decide), zU_cell (by decide), e1_v, zU_cell (by decide), zU_cell (by decide), zU_row, zU_cell (by decide)]
      have f12_v : R2 12 = up1 (R 12) n (R 12 n + 1) := by rw [z3, zU_cell (by decide), zU_cell (by decide), zU_cell (by decide), zU_cell (by decide), e1_v, zU_cell (by decide), zU_row, zU_cell (by decide), zU_cell (by decide)]
      have f38 : R2 38 = up1 (R 38) (R 10 2) n := by rw [z3, zU_cell (by decide), zU_row, zU_cell (by decide), zU_cell (by decide), e1_v, zU_cell (by decide), zU_cell (by decide), zU_cell (by decide), zU_cell (by decide)]
      have f1_v : R2 1 3 = 0 := by rw [z3, zU_cell (by decide), zU_cell (by decide), zU_cell (by decide), zU_cell (by decide), e1_v, zU_cell (by decide), zU_cell (by decide), zU_cell (by decide), zU_same]
      have f14_v : R2 32 14 = 0 := by rw [z3, zU_at (by decide), zU_cell (by decide), zU_same]
      have f8_v : R2 32 8 = R 32 8 := by rw [z3, zU_at (by decide), zU_cell (by decide), zU_at (by decide), zU_at (by decide), r32]
      have fp_v : R2 32 10 = R 10 2 + 1 := by rw [z3, zU_same]
      have d10_v : dz R2 10 = up1 (dz R 10) 2 (dz R 10 2 + 1) := f10
      have d102_v : dz R2 10 2 = R 10 2 + 1 := by rw [d10_v, up1_s]; rfl
      have d101_v : dz R2 10 1 = dz R 10 1 := by rw [d10_v, up1_n (by decide)]
      have d100_v : dz R2 10 0 = dz R 10 0 := by rw [d10_v, up1_n (by decide)]
      have d11_v : dz R2 11 = up1 (dz R 11) (R 10 2) n := f11_v
      have d : ∀ a1_v, a1_v = 3 ∨ a1_v = 4 ∨ a1_v = 5 ∨ a1_v = 9 ∨ a1_v = 13 ∨ a1_v = 14 → dz R2 a1_v = dz R a1_v := fun a1_v ha_v => by
        rcases ha_v with rfl | rfl | rfl | rfl | rfl | rfl
        · exact f 3 (by decide) (by decide) (by decide) (by decide) (by decide) (by decide)
        · exact f 4 (by decide) (by decide) (by decide) (by decide) (by decide) (by decide)
        · exact f 5 (by decide) (by decide) (by decide) (by decide) (by decide) (by decide)
        · exact f 9 (by decide) (by decide) (by decide) (by decide) (by decide) (by decide)
        · exact f 13 (by decide) (by decide) (by decide) (by decide) (by decide) (by decide)
        · exact f 14 (by decide) (by decide) (by decide) (by decide) (by decide) (by decide)
      refine INV_mk h0 ⟨hg, ?_, ?_, ?_, ?_, ?_, fun k k0 k1 => ?_, ?_⟩ ⟨?_, ?_, ?_, fun k k0 k1 => ?_, ?_, ?_, ?_⟩ (fun n1_v a1_v b1 => ?_) ?_ f1_v f14_v (f 0 (by decide) (by decide) (by decide) (by decide) (by decide) (by decide))
      · rw [d100_v]; exact nn
      · rw [d102_v]; omega
      · rw [d101_v]; exact mm
      · rw [d 3 (by omega), d 4 (by omega), d 5 (by omega)]; exact ru
      · rw [d 9 (by omega)]; exact ba_v
      · rw [d102_v] at k1
        rw [d100_v, d11_v]
        by_cases y : k = R 10 2
        · rw [y, up1_s]; exact nb
        · rw [up1_n y]
          exact pn k k0 (show k < R 10 2 by omega)
      · rw [d 13 (by omega), d 14 (by omega)]; exact ac
      · rw [d 3 (by omega), d 4 (by omega), d 5 (by omega), f 33 (by decide) (by decide) (by decide) (by decide) (by decide) (by decide), f 34 (by decide) (by decide) (by decide) (by decide) (by decide) (by decide), f 35 (by decide) (by decide) (by decide) (by decide) (by decide) (by decide)]; exact i2_v.1
      · rw [d 9 (by omega), f 36 (by decide) (by decide) (by decide) (by decide) (by decide) (by decide)]; exact i2_v.2.1
      · rw [f 37 (by decide) (by decide) (by decide) (by decide) (by decide) (by decide)]
        unfold shd
        rw [d101_v]; exact i2_v.2.2.1
      · have q := i2_v.2.2.2.1 k k0 k1
        rw [d11_v, d 13 (by omega), f38, f 40 (by decide) (by decide) (by decide) (by decide) (by decide) (by decide)]
        refine ⟨?_, q.2⟩
        by_cases y : k = R 10 2
        · rw [y, up1_s, up1_s]
        · rw [up1_n y, up1_n y]; exact q.1
      · rw [d 14 (by omega), f 39 (by decide) (by decide) (by decide) (by decide) (by decide) (by decide)]; exact i2_v.2.2.2.2.1
      · rw [d100_v, f8_v]; exact i2_v.2.2.2.2.2.1
      · rw [d102_v, fp_v]
      · have cg := cnt_go (P := fun k => R2 11 k = n1_v) pp1.1
        rw [f10, up1_s, cg]
        have cc : cnt (fun k => R2 11 k = n1_v) (R 10 2).toNat = cnt (fun k => R 11 k = n1_v) (R 10 2).toNat := cnt_congr _ (fun i i0_v j1 => by rw [f11_v, up1_n (by omega)])
        rw [cc, ← i3_v n1_v a1_v b1, f11_v, up1_s, f12_v]
        by_cases y : n1_v = n
        · rw [y, up1_s, bI_t rfl]
        · rw [up1_n y, bI_f (fun q => y q.symm), Int.add_zero]
      · rw [f 2 (by decide) (by decide) (by decide) (by decide) (by decide) (by decide), f 9 (by decide) (by decide) (by decide) (by decide) (by decide) (by decide)]; exact i4_v
end BOTH2

