/-! ===== contracts of the reference (3): marks, steps ===== -/
theorem zU2 {R : zI} {a b : Nat} {i j v w : Int} (h : a ≠ b) : zU (zU R a i v) b j w a = up1 (R a) i v ∧ zU (zU R a i v) b j w b = up1 (R b) j w := ⟨by rw [zU_cell h, zU_row], by rw [zU_row, zU_cell (fun z => h z.symm)]⟩
theorem plo_R {c : zC} (hg : Geo c) (z x y : Int) : plo c z x y = -1 ∨ (pls c (plo c z x y) ∧ lay c (plo c z x y) = z ∧ xo c (plo c z x y) = x ∧ yo c (plo c z x y) = y) := by
  unfold plo
  by_cases h : 0 ≤ z ∧ z < cLa c ∧ 0 ≤ x ∧ x < cW c ∧ 0 ≤ y ∧ y < cH c
  · rw [if_pos h]
    obtain ⟨a1, a2, a3, a4, a5, a6⟩ := h
    obtain ⟨k1_v, k2_v, k3_v, k4_v, k5_v⟩ := pl_geo hg a1 a2 a3 a4 a5 a6
    exact .inr ⟨⟨k1_v, k2_v⟩, k3_v, k4_v, k5_v⟩
  · rw [if_neg h]
    exact .inl rfl
theorem plo_at {c : zC} (hg : Geo c) {j : Int} (hj : pls c j) : plo c (lay c j) (xo c j) (yo c j) = j := by
  obtain ⟨a1, a2, a3, a4, a5, a6, a7⟩ := place_geo hg hj.1 hj.2
  unfold plo
  rw [if_pos ⟨a1, a2, a3, a4, a5, a6⟩]
  exact a7
theorem plo_I {c : zC} (hg : Geo c) (z x y : Int) : -1 ≤ plo c z x y ∧ plo c z x y < (cS c : Int) := by
  have g3_v := hg.S
  rcases plo_R hg z x y with h | ⟨h, -⟩
  · omega
  · have h0 := h.1
    have h1 := h.2
    omega
noncomputable def mks (c : zC) (R : zI) (A : Nat) (q d : Int) (P : Int → Prop) : zI := ch R (fun b j => b = A ∧ 0 ≤ j ∧ j < (cS c : Int) ∧ nr c j q d ∧ P j) (fun _ _ => 1)
theorem mks_row {c : zC} {R : zI} {A : Nat} {q d j : Int} (hj : pls c j) : mks c R A q d (fun _ => True) A j = pI (nr c j q d) 1 (R A j) := by
  unfold mks ch
  exact pI_congr ⟨fun z => z.2.2.2.1, fun z => ⟨rfl, hj.1, hj.2, z, trivial⟩⟩
theorem mks_cell {c : zC} {R : zI} {A b : Nat} {q d : Int} {P : Int → Prop} (hb : b ≠ A) : mks c R A q d P b = R b := by
  funext j
  unfold mks
  rw [ch_f (fun z => hb z.1)]
theorem pI_bI {X Y : Prop} : pI X 1 (bI Y) = bI (Y ∨ X) := by
  by_cases h : X
  · rw [pI_t h, bI_t (.inr h)]
  · rw [pI_f h]
    exact bI_congr ⟨.inl, fun z => z.resolve_right h⟩
theorem clash_nr {c : zC} {D : zI} {a p b q : Int} : clash c D a p b q ↔ (a ≠ b ∧ nr c p q (rch c D a b q)) := by
  have key_v : lay c p = lay c q → rch c D a b p = rch c D a b q := fun h => by unfold rch; rw [h]
  constructor
  · rintro ⟨h1, h2⟩
    exact ⟨h1, by rw [← key_v h2.1]; exact h2⟩
  · rintro ⟨h1, h2⟩
    exact ⟨h1, by rw [key_v h2.1]; exact h2⟩

set_option maxHeartbeats 1000000 in
theorem m_mark50 {c : zC} {R : zI} {D : zI} {a b q : Int} (hD : DOK c D) (hm : MDn c D R) (hq : pls c q) (a0 : 0 ≤ a) (a1 : a < 16) (b0 : 0 ≤ b) (b1 : b < 16) : MZ m_X6_mark [zr 32, zr 50, zi a, zi b, zi q] (wr c R) (gU (fun R1 => R1 = mks c R 50 q (rch c D a b q) (fun _ => True)) c) := by
  refine MZ.of g_X6_mark ?_
  show ZX m_X6_mark 0 [some (zr 32), some (zr 50), some (zi a), some (zi b), some (zi q), none, none, none, none] [] (wr c R) _
  have hg := hD.1
  have g2 := hg
  unfold Geo at g2
  have g3_v := hg.S
  obtain ⟨hq0, hq1⟩ := hq
  have gq := place_geo hg hq0 hq1
  have sp_v := hD.2.2.2.2.1 (lay c q) (by omega) (by omega)
  have e33_v := (hm.1 (lay c q) (by omega) (by omega)).1
  have ea := hm.2.2.1 a a0 a1
  have eb := hm.2.2.1 b b0 b1
  have ra := bI_01 (shd D a)
  have rb := bI_01 (shd D b)
  refine zx_go (pc1 := 7) (l1 := [some (zr 32), some (zr 50), some (zi a), some (zi b), some (zi q), none, none, none, none]) (st1 := [zi q, zr 32, zr 33]) (w1 := wr c R) g_X6_mark 4 _ _ _ _ rfl ?_
  refine zx_cvF (As := [zi q]) (rest := [zr 33]) g_X6_mark rfl g_X6_layerOf rfl rfl (Nat.le_of_ble_eq_true rfl) (Nat.le_of_ble_eq_true rfl) rfl (by decide) (m_layerOf hg (by omega) (by omega)) ?_
  refine gz_iald g_X6_mark rfl (n := 3) rfl (by decide) rfl (by decide) (by omega) (by omega) ?_
  refine zx_go (pc1 := 16) (l1 := [some (zr 32), some (zr 50), some (zi a), some (zi b), some (zi q), none, none, none, none]) (st1 := [zi a, zr 37, zi (R 33 (lay c q))]) (w1 := wr c R) g_X6_mark 3 _ _ _ _ rfl ?_
  refine gz_bald g_X6_mark rfl (n := 16) rfl (by decide) rfl (by decide) (by omega) (by omega) ?_
  refine zx_if g_X6_mark rfl (by omega) (fun (h17 : (R 37 a) ≠ 0) => ?_) (fun (h17 : ¬ (R 37 a) ≠ 0) => ?_)
  · refine zx_go (pc1 := 35) (l1 := [some (zr 32), some (zr 50), some (zi a), some (zi b), some (zi q), none, none, none, none]) (st1 := [zi ((R 33 (lay c q)) + 1)]) (w1 := wr c R) g_X6_mark 3 _ _ _ _ rfl ?_
    have hs : (R 33 (lay c q)) + 1 = rch c D a b q := by exact rch_1 (.inl (bI_ne.mp (by rw [← ea]; exact h17))) e33_v
    rw [hs]
    have sR := rch_R (a := a) (b := b) hD (show pls c q from ⟨hq0, hq1⟩)
    refine zx_go (pc1 := 42) (l1 := [some (zr 32), some (zr 50), some (zi a), some (zi b), some (zi q), some (zi (rch c D a b q)), some (zi (-(rch c D a b q))), none, none]) (st1 := []) (w1 := wr c R) g_X6_mark 4 _ _ _ _ rfl ?_
    have lp42 : ∀ (it : Nat) (dy : Int) (R1 : zI) (o7 : Option zV) (o8_v : Option zV), (it : Int) = rch c D a b q + 1 - dy → (-(rch c D a b q) ≤ dy ∧ dy ≤ rch c D a b q + 1 ∧ R1 = mks c R 50 q (rch c D a b q) (fun j => yo c j - yo c q < dy)) → ZX m_X6_mark 42 [some (zr 32), some (zr 50), some (zi a), some (zi b), some (zi q), some (zi (rch c D a b q)), some (zi dy), o7, o8_v] [] (wr c R1) (gU (fun R1 => R1 = mks c R 50 q (rch c D a b q) (fun _ => True)) c) := by
      refine fun it => Nat.strongRecOn it (fun it ih42 => ?_)
      intro dy R1 o7 o8_v hn42 hi42
      obtain ⟨y0, y1, y2⟩ := hi42
      refine zx_go (pc1 := 46) (l1 := [some (zr 32), some (zr 50), some (zi a), some (zi b), some (zi q), some (zi (rch c D a b q)), some (zi dy), o7, o8_v]) (st1 := [zi (rch c D a b q), zi dy]) (w1 := wr c R1) g_X6_mark 2 _ _ _ _ rfl ?_
      refine zx_cmp g_X6_mark rfl (by omega) (by omega) (fun (h46 : (rch c D a b q) < dy) => ?_) (fun (h46 : ¬ ((rch c D a b q) < dy)) => ?_)
      · refine zx_vret g_X6_mark rfl ?_
        refine gU_i ?_
        rw [y2]
        unfold mks
        refine ch_congr fun b1 j => ?_
        constructor
        · rintro ⟨z0, z1, z2, z3, z4⟩
          exact ⟨z0, z1, z2, z3, trivial⟩
        · rintro ⟨z0, z1, z2, z3, z4⟩
          refine ⟨z0, z1, z2, z3, ?_⟩
          unfold nr at z3
          omega
      · refine zx_go (pc1 := 54) (l1 := [some (zr 32), some (zr 50), some (zi a), some (zi b), some (zi q), some (zi (rch c D a b q)), some (zi dy), some (zi (-(rch c D a b q))), o8_v]) (st1 := []) (w1 := wr c R1) g_X6_mark 3 _ _ _ _ rfl ?_
        have lp54 : ∀ (it : Nat) (dx : Int) (R2 : zI) (o8_v : Option zV), (it : Int) = rch c D a b q + 1 - dx → (-(rch c D a b q) ≤ dx ∧ dx ≤ rch c D a b q + 1 ∧ R2 = mks c R 50 q (rch c D a b q) (fun j => yo c j - yo c q < dy ∨ (yo c j - yo c q = dy ∧ xo c j - xo c q < dx))) → ZX m_X6_mark 54 [some (zr 32), some (zr 50), some (zi a), some (zi b), some (zi q), some (zi (rch c D a b q)), some (zi dy), some (zi dx), o8_v] [] (wr c R2) (gU (fun R1 => R1 = mks c R 50 q (rch c D a b q) (fun _ => True)) c) := by
          refine fun it => Nat.strongRecOn it (fun it ih54 => ?_)
          intro dx R2 o8_v hn54 hi54
          obtain ⟨x0_v, x1_v, x2_v⟩ := hi54
          refine zx_go (pc1 := 58) (l1 := [some (zr 32), some (zr 50), some (zi a), some (zi b), some (zi q), some (zi (rch c D a b q)), some (zi dy), some (zi dx), o8_v]) (st1 := [zi (rch c D a b q), zi dx]) (w1 := wr c R2) g_X6_mark 2 _ _ _ _ rfl ?_
          refine zx_cmp g_X6_mark rfl (by omega) (by omega) (fun (h58 : (rch c D a b q) < dx) => ?_) (fun (h58 : ¬ ((rch c D a b q) < dx)) => ?_)
          · refine zx_go (pc1 := 42) (l1 := [some (zr 32), some (zr 50), some (zi a), some (zi b), some (zi q), some (zi (rch c D a b q)), some (zi (dy + 1)), some (zi dx), o8_v]) (st1 := []) (w1 := wr c R2) g_X6_mark 2 _ _ _ _ rfl ?_
            refine ih42 (Int.toNat (rch c D a b q + 1 - (dy + 1))) (by omega) (dy + 1) R2 (some (zi dx)) o8_v (by omega) ?_
            refine ⟨by omega, by omega, ?_⟩
            rw [x2_v]
            unfold mks
            refine ch_congr fun b1 j => ?_
            constructor
            · rintro ⟨z0, z1, z2, z3, z4⟩
              exact ⟨z0, z1, z2, z3, by omega⟩
            · rintro ⟨z0, z1, z2, z3, z4⟩
              refine ⟨z0, z1, z2, z3, ?_⟩
              unfold nr at z3
              omega
          · refine zx_go (pc1 := 65) (l1 := [some (zr 32), some (zr 50), some (zi a), some (zi b), some (zi q), some (zi (rch c D a b q)), some (zi dy), some (zi dx), o8_v]) (st1 := [zi q, zr 32, zr 32]) (w1 := wr c R2) g_X6_mark 3 _ _ _ _ rfl ?_
            refine zx_cvF (As := [zi q]) (rest := [zr 32]) g_X6_mark rfl g_X6_layerOf rfl rfl (Nat.le_of_ble_eq_true rfl) (Nat.le_of_ble_eq_true rfl) rfl (by decide) (m_layerOf hg (by omega) (by omega)) ?_
            refine zx_go (pc1 := 71) (l1 := [some (zr 32), some (zr 50), some (zi a), some (zi b), some (zi q), some (zi (rch c D a b q)), some (zi dy), some (zi dx), o8_v]) (st1 := [zi q, zr 32, zi (lay c q), zr 32]) (w1 := wr c R2) g_X6_mark 2 _ _ _ _ rfl ?_
            refine zx_cvF (As := [zi q]) (rest := [zi (lay c q), zr 32]) g_X6_mark rfl g_X6_xOf rfl rfl (Nat.le_of_ble_eq_true rfl) (Nat.le_of_ble_eq_true rfl) rfl (by decide) (m_xOf hg (by omega) (by omega)) ?_
            refine zx_go (pc1 := 77) (l1 := [some (zr 32), some (zr 50), some (zi a), some (zi b), some (zi q), some (zi (rch c D a b q)), some (zi dy), some (zi dx), o8_v]) (st1 := [zi ((xo c q) + dx), zi (lay c q), zr 32]) (w1 := wr c R2) g_X6_mark 2 _ _ _ _ rfl ?_
            refine zx_i2l g_X6_mark rfl (by omega) ?_
            refine zx_go (pc1 := 81) (l1 := [some (zr 32), some (zr 50), some (zi a), some (zi b), some (zi q), some (zi (rch c D a b q)), some (zi dy), some (zi dx), o8_v]) (st1 := [zi q, zr 32, zl ((xo c q) + dx), zi (lay c q), zr 32]) (w1 := wr c R2) g_X6_mark 2 _ _ _ _ rfl ?_
            refine zx_cvF (As := [zi q]) (rest := [zl ((xo c q) + dx), zi (lay c q), zr 32]) g_X6_mark rfl g_X6_yOf rfl rfl (Nat.le_of_ble_eq_true rfl) (Nat.le_of_ble_eq_true rfl) rfl (by decide) (m_yOf hg (by omega) (by omega)) ?_
            refine zx_go (pc1 := 87) (l1 := [some (zr 32), some (zr 50), some (zi a), some (zi b), some (zi q), some (zi (rch c D a b q)), some (zi dy), some (zi dx), o8_v]) (st1 := [zi ((yo c q) + dy), zl ((xo c q) + dx), zi (lay c q), zr 32]) (w1 := wr c R2) g_X6_mark 2 _ _ _ _ rfl ?_
            refine zx_i2l g_X6_mark rfl (by omega) ?_
            refine zx_cvF (As := [zi (lay c q), zl ((xo c q) + dx), zl ((yo c q) + dy)]) (rest := []) g_X6_mark rfl g_X6_placeOf rfl rfl (Nat.le_of_ble_eq_true rfl) (Nat.le_of_ble_eq_true rfl) rfl (by decide) (m_placeOf hg (by omega) (by omega) (by omega)) ?_
            have pR := plo_R hg (lay c q) (xo c q + dx) (yo c q + dy)
            have pI1 := plo_I hg (lay c q) (xo c q + dx) (yo c q + dy)
            refine zx_go (pc1 := 96) (l1 := [some (zr 32), some (zr 50), some (zi a), some (zi b), some (zi q), some (zi (rch c D a b q)), some (zi dy), some (zi dx), some (zi (plo c (lay c q) ((xo c q) + dx) ((yo c q) + dy)))]) (st1 := [zi (-1), zi (plo c (lay c q) ((xo c q) + dx) ((yo c q) + dy))]) (w1 := wr c R2) g_X6_mark 3 _ _ _ _ rfl ?_
            refine zx_cmp g_X6_mark rfl (by omega) (by omega) (fun (h96 : (plo c (lay c q) ((xo c q) + dx) ((yo c q) + dy)) = (-1)) => ?_) (fun (h96 : ¬ ((plo c (lay c q) ((xo c q) + dx) ((yo c q) + dy)) = (-1))) => ?_)
            · refine zx_go (pc1 := 54) (l1 := [some (zr 32), some (zr 50), some (zi a), some (zi b), some (zi q), some (zi (rch c D a b q)), some (zi dy), some (zi (dx + 1)), some (zi (plo c (lay c q) ((xo c q) + dx) ((yo c q) + dy)))]) (st1 := []) (w1 := wr c R2) g_X6_mark 2 _ _ _ _ rfl ?_
              refine ih54 (Int.toNat (rch c D a b q + 1 - (dx + 1))) (by omega) (dx + 1) R2 (some (zi (plo c (lay c q) ((xo c q) + dx) ((yo c q) + dy)))) (by omega) ?_
              refine ⟨by omega, by omega, ?_⟩
              rw [x2_v]
              unfold mks
              refine ch_congr fun b1 j => ?_
              constructor
              · rintro ⟨z0, z1, z2, z3, z4⟩
                exact ⟨z0, z1, z2, z3, by omega⟩
              · rintro ⟨z0, z1, z2, z3, z4⟩
                refine ⟨z0, z1, z2, z3, ?_⟩
                by_cases e : yo c j - yo c q = dy ∧ xo c j - xo c q = dx
                · have pa := plo_at hg (show pls c j from ⟨z1, z2⟩)
                  rw [z3.1, show xo c j = xo c q + dx by omega, show yo c j = yo c q + dy by omega, h96] at pa
                  omega
                · omega
            · have pS_v := pR.resolve_left h96
              obtain ⟨⟨ps0, ps1⟩, ps2, ps3, ps4⟩ := pS_v
              refine zx_go (pc1 := 103) (l1 := [some (zr 32), some (zr 50), some (zi a), some (zi b), some (zi q), some (zi (rch c D a b q)), some (zi dy), some (zi dx), some (zi (plo c (lay c q) ((xo c q) + dx) ((yo c q) + dy)))]) (st1 := [zi 1, zi (plo c (lay c q) ((xo c q) + dx) ((yo c q) + dy)), zr 50]) (w1 := wr c R2) g_X6_mark 3 _ _ _ _ rfl ?_
              refine gz_bast g_X6_mark rfl (n := 1728) rfl (by decide) (by refine ⟨?_, ?_, ?_, ?_, ?_⟩ <;> simp) (by decide) (by omega) (by omega) (.inr rfl) ?_
              refine zx_go (pc1 := 54) (l1 := [some (zr 32), some (zr 50), some (zi a), some (zi b), some (zi q), some (zi (rch c D a b q)), some (zi dy), some (zi (dx + 1)), some (zi (plo c (lay c q) ((xo c q) + dx) ((yo c q) + dy)))]) (st1 := []) (w1 := wr c (zU R2 50 (plo c (lay c q) ((xo c q) + dx) ((yo c q) + dy)) 1)) g_X6_mark 2 _ _ _ _ rfl ?_
              refine ih54 (Int.toNat (rch c D a b q + 1 - (dx + 1))) (by omega) (dx + 1) (zU R2 50 (plo c (lay c q) ((xo c q) + dx) ((yo c q) + dy)) 1) (some (zi (plo c (lay c q) ((xo c q) + dx) ((yo c q) + dy)))) (by omega) ?_
              refine ⟨by omega, by omega, ?_⟩
              rw [x2_v]
              unfold mks
              refine ch_step rfl fun b1 j => ?_
              constructor
              · rintro ⟨z0, z1, z2, z3, z4⟩
                by_cases e : yo c j - yo c q = dy ∧ xo c j - xo c q = dx
                · have pa := plo_at hg (show pls c j from ⟨z1, z2⟩)
                  rw [z3.1, show xo c j = xo c q + dx by omega, show yo c j = yo c q + dy by omega] at pa
                  exact .inr ⟨z0, pa.symm⟩
                · exact .inl ⟨z0, z1, z2, z3, by omega⟩
              · rintro (⟨z0, z1, z2, z3, z4⟩ | ⟨z0, z1⟩)
                · exact ⟨z0, z1, z2, z3, by omega⟩
                · subst z1
                  refine ⟨z0, ps0, ps1, ?_, by omega⟩
                  unfold nr
                  omega
        refine lp54 (Int.toNat (rch c D a b q + 1 - (-(rch c D a b q)))) (-(rch c D a b q)) R1 o8_v (by omega) ?_
        refine ⟨by omega, by omega, ?_⟩
        rw [y2]
        unfold mks
        refine ch_congr fun b1 j => ?_
        constructor
        · rintro ⟨z0, z1, z2, z3, z4⟩
          exact ⟨z0, z1, z2, z3, .inl z4⟩
        · rintro ⟨z0, z1, z2, z3, z4⟩
          refine ⟨z0, z1, z2, z3, ?_⟩
          unfold nr at z3
          omega
    refine lp42 (Int.toNat (rch c D a b q + 1 - (-(rch c D a b q)))) (-(rch c D a b q)) R none none (by omega) ?_
    refine ⟨by omega, by omega, ?_⟩
    unfold mks
    refine (ch_none fun b1 j z => ?_).symm
    obtain ⟨-, z1, z2, z3, z5⟩ := z
    unfold nr at z3
    omega
  · refine zx_go (pc1 := 25) (l1 := [some (zr 32), some (zr 50), some (zi a), some (zi b), some (zi q), none, none, none, none]) (st1 := [zi b, zr 37, zi (R 33 (lay c q))]) (w1 := wr c R) g_X6_mark 3 _ _ _ _ rfl ?_
    refine gz_bald g_X6_mark rfl (n := 16) rfl (by decide) rfl (by decide) (by omega) (by omega) ?_
    refine zx_if g_X6_mark rfl (by omega) (fun (h26 : (R 37 b) = 0) => ?_) (fun (h26 : ¬ (R 37 b) = 0) => ?_)
    · refine zx_go (pc1 := 35) (l1 := [some (zr 32), some (zr 50), some (zi a), some (zi b), some (zi q), none, none, none, none]) (st1 := [zi ((R 33 (lay c q)) + 0)]) (w1 := wr c R) g_X6_mark 2 _ _ _ _ rfl ?_
      have hs : (R 33 (lay c q)) + 0 = rch c D a b q := by exact rch_0 (fun z => z.elim (fun y => h17 (by rw [ea]; exact bI_ne.mpr y)) (fun y => bI_ne.mpr y (by rw [← eb]; exact h26))) e33_v
      rw [hs]
      have sR := rch_R (a := a) (b := b) hD (show pls c q from ⟨hq0, hq1⟩)
      refine zx_go (pc1 := 42) (l1 := [some (zr 32), some (zr 50), some (zi a), some (zi b), some (zi q), some (zi (rch c D a b q)), some (zi (-(rch c D a b q))), none, none]) (st1 := []) (w1 := wr c R) g_X6_mark 4 _ _ _ _ rfl ?_
      have lp42 : ∀ (it : Nat) (dy : Int) (R1 : zI) (o7 : Option zV) (o8_v : Option zV), (it : Int) = rch c D a b q + 1 - dy → (-(rch c D a b q) ≤ dy ∧ dy ≤ rch c D a b q + 1 ∧ R1 = mks c R 50 q (rch c D a b q) (fun j => yo c j - yo c q < dy)) → ZX m_X6_mark 42 [some (zr 32), some (zr 50), some (zi a), some (zi b), some (zi q), some (zi (rch c D a b q)), some (zi dy), o7, o8_v] [] (wr c R1) (gU (fun R1 => R1 = mks c R 50 q (rch c D a b q) (fun _ => True)) c) := by
        refine fun it => Nat.strongRecOn it (fun it ih42 => ?_)
        intro dy R1 o7 o8_v hn42 hi42
        obtain ⟨y0, y1, y2⟩ := hi42
        refine zx_go (pc1 := 46) (l1 := [some (zr 32), some (zr 50), some (zi a), some (zi b), some (zi q), some (zi (rch c D a b q)), some (zi dy), o7, o8_v]) (st1 := [zi (rch c D a b q), zi dy]) (w1 := wr c R1) g_X6_mark 2 _ _ _ _ rfl ?_
        refine zx_cmp g_X6_mark rfl (by omega) (by omega) (fun (h46 : (rch c D a b q) < dy) => ?_) (fun (h46 : ¬ ((rch c D a b q) < dy)) => ?_)
        · refine zx_vret g_X6_mark rfl ?_
          refine gU_i ?_
          rw [y2]
          unfold mks
          refine ch_congr fun b1 j => ?_
          constructor
          · rintro ⟨z0, z1, z2, z3, z4⟩
            exact ⟨z0, z1, z2, z3, trivial⟩
          · rintro ⟨z0, z1, z2, z3, z4⟩
            refine ⟨z0, z1, z2, z3, ?_⟩
            unfold nr at z3
            omega
        · refine zx_go (pc1 := 54) (l1 := [some (zr 32), some (zr 50), some (zi a), some (zi b), some (zi q), some (zi (rch c D a b q)), some (zi dy), some (zi (-(rch c D a b q))), o8_v]) (st1 := []) (w1 := wr c R1) g_X6_mark 3 _ _ _ _ rfl ?_
          have lp54 : ∀ (it : Nat) (dx : Int) (R2 : zI) (o8_v : Option zV), (it : Int) = rch c D a b q + 1 - dx → (-(rch c D a b q) ≤ dx ∧ dx ≤ rch c D a b q + 1 ∧ R2 = mks c R 50 q (rch c D a b q) (fun j => yo c j - yo c q < dy ∨ (yo c j - yo c q = dy ∧ xo c j - xo c q < dx))) → ZX m_X6_mark 54 [some (zr 32), some (zr 50), some (zi a), some (zi b), some (zi q), some (zi (rch c D a b q)), some (zi dy), some (zi dx), o8_v] [] (wr c R2) (gU (fun R1 => R1 = mks c R 50 q (rch c D a b q) (fun _ => True)) c) := by
            refine fun it => Nat.strongRecOn it (fun it ih54 => ?_)
            intro dx R2 o8_v hn54 hi54
            obtain ⟨x0_v, x1_v, x2_v⟩ := hi54
            refine zx_go (pc1 := 58) (l1 := [some (zr 32), some (zr 50), some (zi a), some (zi b), some (zi q), some (zi (rch c D a b q)), some (zi dy), some (zi dx), o8_v]) (st1 := [zi (rch c D a b q), zi dx]) (w1 := wr c R2) g_X6_mark 2 _ _ _ _ rfl ?_
            refine zx_cmp g_X6_mark rfl (by omega) (by omega) (fun (h58 : (rch c D a b q) < dx) => ?_) (fun (h58 : ¬ ((rch c D a b q) < dx)) => ?_)
            · refine zx_go (pc1 := 42) (l1 := [some (zr 32), some (zr 50), some (zi a), some (zi b), some (zi q), some (zi (rch c D a b q)), some (zi (dy + 1)), some (zi dx), o8_v]) (st1 := []) (w1 := wr c R2) g_X6_mark 2 _ _ _ _ rfl ?_
              refine ih42 (Int.toNat (rch c D a b q + 1 - (dy + 1))) (by omega) (dy + 1) R2 (some (zi dx)) o8_v (by omega) ?_
              refine ⟨by omega, by omega, ?_⟩
              rw [x2_v]
              unfold mks
              refine ch_congr fun b1 j => ?_
              constructor
              · rintro ⟨z0, z1, z2, z3, z4⟩
                exact ⟨z0, z1, z2, z3, by omega⟩
              · rintro ⟨z0, z1, z2, z3, z4⟩
                refine ⟨z0, z1, z2, z3, ?_⟩
                unfold nr at z3
                omega
            · refine zx_go (pc1 := 65) (l1 := [some (zr 32), some (zr 50), some (zi a), some (zi b), some (zi q), some (zi (rch c D a b q)), some (zi dy), some (zi dx), o8_v]) (st1 := [zi q, zr 32, zr 32]) (w1 := wr c R2) g_X6_mark 3 _ _ _ _ rfl ?_
              refine zx_cvF (As := [zi q]) (rest := [zr 32]) g_X6_mark rfl g_X6_layerOf rfl rfl (Nat.le_of_ble_eq_true rfl) (Nat.le_of_ble_eq_true rfl) rfl (by decide) (m_layerOf hg (by omega) (by omega)) ?_
              refine zx_go (pc1 := 71) (l1 := [some (zr 32), some (zr 50), some (zi a), some (zi b), some (zi q), some (zi (rch c D a b q)), some (zi dy), some (zi dx), o8_v]) (st1 := [zi q, zr 32, zi (lay c q), zr 32]) (w1 := wr c R2) g_X6_mark 2 _ _ _ _ rfl ?_
              refine zx_cvF (As := [zi q]) (rest := [zi (lay c q), zr 32]) g_X6_mark rfl g_X6_xOf rfl rfl (Nat.le_of_ble_eq_true rfl) (Nat.le_of_ble_eq_true rfl) rfl (by decide) (m_xOf hg (by omega) (by omega)) ?_
              refine zx_go (pc1 := 77) (l1 := [some (zr 32), some (zr 50), some (zi a), some (zi b), some (zi q), some (zi (rch c D a b q)), some (zi dy), some (zi dx), o8_v]) (st1 := [zi ((xo c q) + dx), zi (lay c q), zr 32]) (w1 := wr c R2) g_X6_mark 2 _ _ _ _ rfl ?_
              refine zx_i2l g_X6_mark rfl (by omega) ?_
              refine zx_go (pc1 := 81) (l1 := [some (zr 32), some (zr 50), some (zi a), some (zi b), some (zi q), some (zi (rch c D a b q)), some (zi dy), some (zi dx), o8_v]) (st1 := [zi q, zr 32, zl ((xo c q) + dx), zi (lay c q), zr 32]) (w1 := wr c R2) g_X6_mark 2 _ _ _ _ rfl ?_
              refine zx_cvF (As := [zi q]) (rest := [zl ((xo c q) + dx), zi (lay c q), zr 32]) g_X6_mark rfl g_X6_yOf rfl rfl (Nat.le_of_ble_eq_true rfl) (Nat.le_of_ble_eq_true rfl) rfl (by decide) (m_yOf hg (by omega) (by omega)) ?_
              refine zx_go (pc1 := 87) (l1 := [some (zr 32), some (zr 50), some (zi a), some (zi b), some (zi q), some (zi (rch c D a b q)), some (zi dy), some (zi dx), o8_v]) (st1 := [zi ((yo c q) + dy), zl ((xo c q) + dx), zi (lay c q), zr 32]) (w1 := wr c R2) g_X6_mark 2 _ _ _ _ rfl ?_
              refine zx_i2l g_X6_mark rfl (by omega) ?_
              refine zx_cvF (As := [zi (lay c q), zl ((xo c q) + dx), zl ((yo c q) + dy)]) (rest := []) g_X6_mark rfl g_X6_placeOf rfl rfl (Nat.le_of_ble_eq_true rfl) (Nat.le_of_ble_eq_true rfl) rfl (by decide) (m_placeOf hg (by omega) (by omega) (by omega)) ?_
              have pR := plo_R hg (lay c q) (xo c q + dx) (yo c q + dy)
              have pI1 := plo_I hg (lay c q) (xo c q + dx) (yo c q + dy)
              refine zx_go (pc1 := 96) (l1 := [some (zr 32), some (zr 50), some (zi a), some (zi b), some (zi q), some (zi (rch c D a b q)), some (zi dy), some (zi dx), some (zi (plo c (lay c q) ((xo c q) + dx) ((yo c q) + dy)))]) (st1 := [zi (-1), zi (plo c (lay c q) ((xo c q) + dx) ((yo c q) + dy))]) (w1 := wr c R2) g_X6_mark 3 _ _ _ _ rfl ?_
              refine zx_cmp g_X6_mark rfl (by omega) (by omega) (fun (h96 : (plo c (lay c q) ((xo c q) + dx) ((yo c q) + dy)) = (-1)) => ?_) (fun (h96 : ¬ ((plo c (lay c q) ((xo c q) + dx) ((yo c q) + dy)) = (-1))) => ?_)
              · refine zx_go (pc1 := 54) (l1 := [some (zr 32), some (zr 50), some (zi a), some (zi b), some (zi q), some (zi (rch c D a b q)), some (zi dy), some (zi (dx + 1)), some (zi (plo c (lay c q) ((xo c q) + dx) ((yo c q) + dy)))]) (st1 := []) (w1 := wr c R2) g_X6_mark 2 _ _ _ _ rfl ?_
                refine ih54 (Int.toNat (rch c D a b q + 1 - (dx + 1))) (by omega) (dx + 1) R2 (some (zi (plo c (lay c q) ((xo c q) + dx) ((yo c q) + dy)))) (by omega) ?_
                refine ⟨by omega, by omega, ?_⟩
                rw [x2_v]
                unfold mks
                refine ch_congr fun b1 j => ?_
                constructor
                · rintro ⟨z0, z1, z2, z3, z4⟩
                  exact ⟨z0, z1, z2, z3, by omega⟩
                · rintro ⟨z0, z1, z2, z3, z4⟩
                  refine ⟨z0, z1, z2, z3, ?_⟩
                  by_cases e : yo c j - yo c q = dy ∧ xo c j - xo c q = dx
                  · have pa := plo_at hg (show pls c j from ⟨z1, z2⟩)
                    rw [z3.1, show xo c j = xo c q + dx by omega, show yo c j = yo c q + dy by omega, h96] at pa
                    omega
                  · omega
              · have pS_v := pR.resolve_left h96
                obtain ⟨⟨ps0, ps1⟩, ps2, ps3, ps4⟩ := pS_v
                refine zx_go (pc1 := 103) (l1 := [some (zr 32), some (zr 50), some (zi a), some (zi b), some (zi q), some (zi (rch c D a b q)), some (zi dy), some (zi dx), some (zi (plo c (lay c q) ((xo c q) + dx) ((yo c q) + dy)))]) (st1 := [zi 1, zi (plo c (lay c q) ((xo c q) + dx) ((yo c q) + dy)), zr 50]) (w1 := wr c R2) g_X6_mark 3 _ _ _ _ rfl ?_
                refine gz_bast g_X6_mark rfl (n := 1728) rfl (by decide) (by refine ⟨?_, ?_, ?_, ?_, ?_⟩ <;> simp) (by decide) (by omega) (by omega) (.inr rfl) ?_
                refine zx_go (pc1 := 54) (l1 := [some (zr 32), some (zr 50), some (zi a), some (zi b), some (zi q), some (zi (rch c D a b q)), some (zi dy), some (zi (dx + 1)), some (zi (plo c (lay c q) ((xo c q) + dx) ((yo c q) + dy)))]) (st1 := []) (w1 := wr c (zU R2 50 (plo c (lay c q) ((xo c q) + dx) ((yo c q) + dy)) 1)) g_X6_mark 2 _ _ _ _ rfl ?_
                refine ih54 (Int.toNat (rch c D a b q + 1 - (dx + 1))) (by omega) (dx + 1) (zU R2 50 (plo c (lay c q) ((xo c q) + dx) ((yo c q) + dy)) 1) (some (zi (plo c (lay c q) ((xo c q) + dx) ((yo c q) + dy)))) (by omega) ?_
                refine ⟨by omega, by omega, ?_⟩
                rw [x2_v]
                unfold mks
                refine ch_step rfl fun b1 j => ?_
                constructor
                · rintro ⟨z0, z1, z2, z3, z4⟩
                  by_cases e : yo c j - yo c q = dy ∧ xo c j - xo c q = dx
                  · have pa := plo_at hg (show pls c j from ⟨z1, z2⟩)
                    rw [z3.1, show xo c j = xo c q + dx by omega, show yo c j = yo c q + dy by omega] at pa
                    exact .inr ⟨z0, pa.symm⟩
                  · exact .inl ⟨z0, z1, z2, z3, by omega⟩
                · rintro (⟨z0, z1, z2, z3, z4⟩ | ⟨z0, z1⟩)
                  · exact ⟨z0, z1, z2, z3, by omega⟩
                  · subst z1
                    refine ⟨z0, ps0, ps1, ?_, by omega⟩
                    unfold nr
                    omega
          refine lp54 (Int.toNat (rch c D a b q + 1 - (-(rch c D a b q)))) (-(rch c D a b q)) R1 o8_v (by omega) ?_
          refine ⟨by omega, by omega, ?_⟩
          rw [y2]
          unfold mks
          refine ch_congr fun b1 j => ?_
          constructor
          · rintro ⟨z0, z1, z2, z3, z4⟩
            exact ⟨z0, z1, z2, z3, .inl z4⟩
          · rintro ⟨z0, z1, z2, z3, z4⟩
            refine ⟨z0, z1, z2, z3, ?_⟩
            unfold nr at z3
            omega
      refine lp42 (Int.toNat (rch c D a b q + 1 - (-(rch c D a b q)))) (-(rch c D a b q)) R none none (by omega) ?_
      refine ⟨by omega, by omega, ?_⟩
      unfold mks
      refine (ch_none fun b1 j z => ?_).symm
      obtain ⟨-, z1, z2, z3, z5⟩ := z
      unfold nr at z3
      omega
    · refine zx_go (pc1 := 35) (l1 := [some (zr 32), some (zr 50), some (zi a), some (zi b), some (zi q), none, none, none, none]) (st1 := [zi ((R 33 (lay c q)) + 1)]) (w1 := wr c R) g_X6_mark 3 _ _ _ _ rfl ?_
      have hs : (R 33 (lay c q)) + 1 = rch c D a b q := by exact rch_1 (.inr (bI_ne.mp (by rw [← eb]; exact h26))) e33_v
      rw [hs]
      have sR := rch_R (a := a) (b := b) hD (show pls c q from ⟨hq0, hq1⟩)
      refine zx_go (pc1 := 42) (l1 := [some (zr 32), some (zr 50), some (zi a), some (zi b), some (zi q), some (zi (rch c D a b q)), some (zi (-(rch c D a b q))), none, none]) (st1 := []) (w1 := wr c R) g_X6_mark 4 _ _ _ _ rfl ?_
      have lp42 : ∀ (it : Nat) (dy : Int) (R1 : zI) (o7 : Option zV) (o8_v : Option zV), (it : Int) = rch c D a b q + 1 - dy → (-(rch c D a b q) ≤ dy ∧ dy ≤ rch c D a b q + 1 ∧ R1 = mks c R 50 q (rch c D a b q) (fun j => yo c j - yo c q < dy)) → ZX m_X6_mark 42 [some (zr 32), some (zr 50), some (zi a), some (zi b), some (zi q), some (zi (rch c D a b q)), some (zi dy), o7, o8_v] [] (wr c R1) (gU (fun R1 => R1 = mks c R 50 q (rch c D a b q) (fun _ => True)) c) := by
        refine fun it => Nat.strongRecOn it (fun it ih42 => ?_)
        intro dy R1 o7 o8_v hn42 hi42
        obtain ⟨y0, y1, y2⟩ := hi42
        refine zx_go (pc1 := 46) (l1 := [some (zr 32), some (zr 50), some (zi a), some (zi b), some (zi q), some (zi (rch c D a b q)), some (zi dy), o7, o8_v]) (st1 := [zi (rch c D a b q), zi dy]) (w1 := wr c R1) g_X6_mark 2 _ _ _ _ rfl ?_
        refine zx_cmp g_X6_mark rfl (by omega) (by omega) (fun (h46 : (rch c D a b q) < dy) => ?_) (fun (h46 : ¬ ((rch c D a b q) < dy)) => ?_)
        · refine zx_vret g_X6_mark rfl ?_
          refine gU_i ?_
          rw [y2]
          unfold mks
          refine ch_congr fun b1 j => ?_
          constructor
          · rintro ⟨z0, z1, z2, z3, z4⟩
            exact ⟨z0, z1, z2, z3, trivial⟩
          · rintro ⟨z0, z1, z2, z3, z4⟩
            refine ⟨z0, z1, z2, z3, ?_⟩
            unfold nr at z3
            omega
        · refine zx_go (pc1 := 54) (l1 := [some (zr 32), some (zr 50), some (zi a), some (zi b), some (zi q), some (zi (rch c D a b q)), some (zi dy), some (zi (-(rch c D a b q))), o8_v]) (st1 := []) (w1 := wr c R1) g_X6_mark 3 _ _ _ _ rfl ?_
          have lp54 : ∀ (it : Nat) (dx : Int) (R2 : zI) (o8_v : Option zV), (it : Int) = rch c D a b q + 1 - dx → (-(rch c D a b q) ≤ dx ∧ dx ≤ rch c D a b q + 1 ∧ R2 = mks c R 50 q (rch c D a b q) (fun j => yo c j - yo c q < dy ∨ (yo c j - yo c q = dy ∧ xo c j - xo c q < dx))) → ZX m_X6_mark 54 [some (zr 32), some (zr 50), some (zi a), some (zi b), some (zi q), some (zi (rch c D a b q)), some (zi dy), some (zi dx), o8_v] [] (wr c R2) (gU (fun R1 => R1 = mks c R 50 q (rch c D a b q) (fun _ => True)) c) := by
            refine fun it => Nat.strongRecOn it (fun it ih54 => ?_)
            intro dx R2 o8_v hn54 hi54
            obtain ⟨x0_v, x1_v, x2_v⟩ := hi54
            refine zx_go (pc1 := 58) (l1 := [some (zr 32), some (zr 50), some (zi a), some (zi b), some (zi q), some (zi (rch c D a b q)), some (zi dy), some (zi dx), o8_v]) (st1 := [zi (rch c D a b q), zi dx]) (w1 := wr c R2) g_X6_mark 2 _ _ _ _ rfl ?_
            refine zx_cmp g_X6_mark rfl (by omega) (by omega) (fun (h58 : (rch c D a b q) < dx) => ?_) (fun (h58 : ¬ ((rch c D a b q) < dx)) => ?_)
            · refine zx_go (pc1 := 42) (l1 := [some (zr 32), some (zr 50), some (zi a), some (zi b), some (zi q), some (zi (rch c D a b q)), some (zi (dy + 1)), some (zi dx), o8_v]) (st1 := []) (w1 := wr c R2) g_X6_mark 2 _ _ _ _ rfl ?_
              refine ih42 (Int.toNat (rch c D a b q + 1 - (dy + 1))) (by omega) (dy + 1) R2 (some (zi dx)) o8_v (by omega) ?_
              refine ⟨by omega, by omega, ?_⟩
              rw [x2_v]
              unfold mks
              refine ch_congr fun b1 j => ?_
              constructor
              · rintro ⟨z0, z1, z2, z3, z4⟩
                exact ⟨z0, z1, z2, z3, by omega⟩
              · rintro ⟨z0, z1, z2, z3, z4⟩
                refine ⟨z0, z1, z2, z3, ?_⟩
                unfold nr at z3
                omega
            · refine zx_go (pc1 := 65) (l1 := [some (zr 32), some (zr 50), some (zi a), some (zi b), some (zi q), some (zi (rch c D a b q)), some (zi dy), some (zi dx), o8_v]) (st1 := [zi q, zr 32, zr 32]) (w1 := wr c R2) g_X6_mark 3 _ _ _ _ rfl ?_
              refine zx_cvF (As := [zi q]) (rest := [zr 32]) g_X6_mark rfl g_X6_layerOf rfl rfl (Nat.le_of_ble_eq_true rfl) (Nat.le_of_ble_eq_true rfl) rfl (by decide) (m_layerOf hg (by omega) (by omega)) ?_
              refine zx_go (pc1 := 71) (l1 := [some (zr 32), some (zr 50), some (zi a), some (zi b), some (zi q), some (zi (rch c D a b q)), some (zi dy), some (zi dx), o8_v]) (st1 := [zi q, zr 32, zi (lay c q), zr 32]) (w1 := wr c R2) g_X6_mark 2 _ _ _ _ rfl ?_
              refine zx_cvF (As := [zi q]) (rest := [zi (lay c q), zr 32]) g_X6_mark rfl g_X6_xOf rfl rfl (Nat.le_of_ble_eq_true rfl) (Nat.le_of_ble_eq_true rfl) rfl (by decide) (m_xOf hg (by omega) (by omega)) ?_
              refine zx_go (pc1 := 77) (l1 := [some (zr 32), some (zr 50), some (zi a), some (zi b), some (zi q), some (zi (rch c D a b q)), some (zi dy), some (zi dx), o8_v]) (st1 := [zi ((xo c q) + dx), zi (lay c q), zr 32]) (w1 := wr c R2) g_X6_mark 2 _ _ _ _ rfl ?_
              refine zx_i2l g_X6_mark rfl (by omega) ?_
              refine zx_go (pc1 := 81) (l1 := [some (zr 32), some (zr 50), some (zi a), some (zi b), some (zi q), some (zi (rch c D a b q)), some (zi dy), some (zi dx), o8_v]) (st1 := [zi q, zr 32, zl ((xo c q) + dx), zi (lay c q), zr 32]) (w1 := wr c R2) g_X6_mark 2 _ _ _ _ rfl ?_
              refine zx_cvF (As := [zi q]) (rest := [zl ((xo c q) + dx), zi (lay c q), zr 32]) g_X6_mark rfl g_X6_yOf rfl rfl (Nat.le_of_ble_eq_true rfl) (Nat.le_of_ble_eq_true rfl) rfl (by decide) (m_yOf hg (by omega) (by omega)) ?_
              refine zx_go (pc1 := 87) (l1 := [some (zr 32), some (zr 50), some (zi a), some (zi b), some (zi q), some (zi (rch c D a b q)), some (zi dy), some (zi dx), o8_v]) (st1 := [zi ((yo c q) + dy), zl ((xo c q) + dx), zi (lay c q), zr 32]) (w1 := wr c R2) g_X6_mark 2 _ _ _ _ rfl ?_
              refine zx_i2l g_X6_mark rfl (by omega) ?_
              refine zx_cvF (As := [zi (lay c q), zl ((xo c q) + dx), zl ((yo c q) + dy)]) (rest := []) g_X6_mark rfl g_X6_placeOf rfl rfl (Nat.le_of_ble_eq_true rfl) (Nat.le_of_ble_eq_true rfl) rfl (by decide) (m_placeOf hg (by omega) (by omega) (by omega)) ?_
              have pR := plo_R hg (lay c q) (xo c q + dx) (yo c q + dy)
              have pI1 := plo_I hg (lay c q) (xo c q + dx) (yo c q + dy)
              refine zx_go (pc1 := 96) (l1 := [some (zr 32), some (zr 50), some (zi a), some (zi b), some (zi q), some (zi (rch c D a b q)), some (zi dy), some (zi dx), some (zi (plo c (lay c q) ((xo c q) + dx) ((yo c q) + dy)))]) (st1 := [zi (-1), zi (plo c (lay c q) ((xo c q) + dx) ((yo c q) + dy))]) (w1 := wr c R2) g_X6_mark 3 _ _ _ _ rfl ?_
              refine zx_cmp g_X6_mark rfl (by omega) (by omega) (fun (h96 : (plo c (lay c q) ((xo c q) + dx) ((yo c q) + dy)) = (-1)) => ?_) (fun (h96 : ¬ ((plo c (lay c q) ((xo c q) + dx) ((yo c q) + dy)) = (-1))) => ?_)
              · refine zx_go (pc1 := 54) (l1 := [some (zr 32), some (zr 50), some (zi a), some (zi b), some (zi q), some (zi (rch c D a b q)), some (zi dy), some (zi (dx + 1)), some (zi (plo c (lay c q) ((xo c q) + dx) ((yo c q) + dy)))]) (st1 := []) (w1 := wr c R2) g_X6_mark 2 _ _ _ _ rfl ?_
                refine ih54 (Int.toNat (rch c D a b q + 1 - (dx + 1))) (by omega) (dx + 1) R2 (some (zi (plo c (lay c q) ((xo c q) + dx) ((yo c q) + dy)))) (by omega) ?_
                refine ⟨by omega, by omega, ?_⟩
                rw [x2_v]
                unfold mks
                refine ch_congr fun b1 j => ?_
                constructor
                · rintro ⟨z0, z1, z2, z3, z4⟩
                  exact ⟨z0, z1, z2, z3, by omega⟩
                · rintro ⟨z0, z1, z2, z3, z4⟩
                  refine ⟨z0, z1, z2, z3, ?_⟩
                  by_cases e : yo c j - yo c q = dy ∧ xo c j - xo c q = dx
                  · have pa := plo_at hg (show pls c j from ⟨z1, z2⟩)
                    rw [z3.1, show xo c j = xo c q + dx by omega, show yo c j = yo c q + dy by omega, h96] at pa
                    omega
                  · omega
              · have pS_v := pR.resolve_left h96
                obtain ⟨⟨ps0, ps1⟩, ps2, ps3, ps4⟩ := pS_v
                refine zx_go (pc1 := 103) (l1 := [some (zr 32), some (zr 50), some (zi a), some (zi b), some (zi q), some (zi (rch c D a b q)), some (zi dy), some (zi dx), some (zi (plo c (lay c q) ((xo c q) + dx) ((yo c q) + dy)))]) (st1 := [zi 1, zi (plo c (lay c q) ((xo c q) + dx) ((yo c q) + dy)), zr 50]) (w1 := wr c R2) g_X6_mark 3 _ _ _ _ rfl ?_
                refine gz_bast g_X6_mark rfl (n := 1728) rfl (by decide) (by refine ⟨?_, ?_, ?_, ?_, ?_⟩ <;> simp) (by decide) (by omega) (by omega) (.inr rfl) ?_
                refine zx_go (pc1 := 54) (l1 := [some (zr 32), some (zr 50), some (zi a), some (zi b), some (zi q), some (zi (rch c D a b q)), some (zi dy), some (zi (dx + 1)), some (zi (plo c (lay c q) ((xo c q) + dx) ((yo c q) + dy)))]) (st1 := []) (w1 := wr c (zU R2 50 (plo c (lay c q) ((xo c q) + dx) ((yo c q) + dy)) 1)) g_X6_mark 2 _ _ _ _ rfl ?_
                refine ih54 (Int.toNat (rch c D a b q + 1 - (dx + 1))) (by omega) (dx + 1) (zU R2 50 (plo c (lay c q) ((xo c q) + dx) ((yo c q) + dy)) 1) (some (zi (plo c (lay c q) ((xo c q) + dx) ((yo c q) + dy)))) (by omega) ?_
                refine ⟨by omega, by omega, ?_⟩
                rw [x2_v]
                unfold mks
                refine ch_step rfl fun b1 j => ?_
                constructor
                · rintro ⟨z0, z1, z2, z3, z4⟩
                  by_cases e : yo c j - yo c q = dy ∧ xo c j - xo c q = dx
                  · have pa := plo_at hg (show pls c j from ⟨z1, z2⟩)
                    rw [z3.1, show xo c j = xo c q + dx by omega, show yo c j = yo c q + dy by omega] at pa
                    exact .inr ⟨z0, pa.symm⟩
                  · exact .inl ⟨z0, z1, z2, z3, by omega⟩
                · rintro (⟨z0, z1, z2, z3, z4⟩ | ⟨z0, z1⟩)
                  · exact ⟨z0, z1, z2, z3, by omega⟩
                  · subst z1
                    refine ⟨z0, ps0, ps1, ?_, by omega⟩
                    unfold nr
                    omega
          refine lp54 (Int.toNat (rch c D a b q + 1 - (-(rch c D a b q)))) (-(rch c D a b q)) R1 o8_v (by omega) ?_
          refine ⟨by omega, by omega, ?_⟩
          rw [y2]
          unfold mks
          refine ch_congr fun b1 j => ?_
          constructor
          · rintro ⟨z0, z1, z2, z3, z4⟩
            exact ⟨z0, z1, z2, z3, .inl z4⟩
          · rintro ⟨z0, z1, z2, z3, z4⟩
            refine ⟨z0, z1, z2, z3, ?_⟩
            unfold nr at z3
            omega
      refine lp42 (Int.toNat (rch c D a b q + 1 - (-(rch c D a b q)))) (-(rch c D a b q)) R none none (by omega) ?_
      refine ⟨by omega, by omega, ?_⟩
      unfold mks
      refine (ch_none fun b1 j z => ?_).symm
      obtain ⟨-, z1, z2, z3, z5⟩ := z
      unfold nr at z3
      omega

set_option maxHeartbeats 1000000 in
theorem m_mark51 {c : zC} {R : zI} {D : zI} {a b q : Int} (hD : DOK c D) (hm : MDn c D R) (hq : pls c q) (a0 : 0 ≤ a) (a1 : a < 16) (b0 : 0 ≤ b) (b1 : b < 16) : MZ m_X6_mark [zr 32, zr 51, zi a, zi b, zi q] (wr c R) (gU (fun R1 => R1 = mks c R 51 q (rch c D a b q) (fun _ => True)) c) := by
  refine MZ.of g_X6_mark ?_
  show ZX m_X6_mark 0 [some (zr 32), some (zr 51), some (zi a), some (zi b), some (zi q), none, none, none, none] [] (wr c R) _
  have hg := hD.1
  have g2 := hg
  unfold Geo at g2
  have g3_v := hg.S
  obtain ⟨hq0, hq1⟩ := hq
  have gq := place_geo hg hq0 hq1
  have sp_v := hD.2.2.2.2.1 (lay c q) (by omega) (by omega)
  have e33_v := (hm.1 (lay c q) (by omega) (by omega)).1
  have ea := hm.2.2.1 a a0 a1
  have eb := hm.2.2.1 b b0 b1
  have ra := bI_01 (shd D a)
  have rb := bI_01 (shd D b)
  refine zx_go (pc1 := 7) (l1 := [some (zr 32), some (zr 51), some (zi a), some (zi b), some (zi q), none, none, none, none]) (st1 := [zi q, zr 32, zr 33]) (w1 := wr c R) g_X6_mark 4 _ _ _ _ rfl ?_
  refine zx_cvF (As := [zi q]) (rest := [zr 33]) g_X6_mark rfl g_X6_layerOf rfl rfl (Nat.le_of_ble_eq_true rfl) (Nat.le_of_ble_eq_true rfl) rfl (by decide) (m_layerOf hg (by omega) (by omega)) ?_
  refine gz_iald g_X6_mark rfl (n := 3) rfl (by decide) rfl (by decide) (by omega) (by omega) ?_
  refine zx_go (pc1 := 16) (l1 := [some (zr 32), some (zr 51), some (zi a), some (zi b), some (zi q), none, none, none, none]) (st1 := [zi a, zr 37, zi (R 33 (lay c q))]) (w1 := wr c R) g_X6_mark 3 _ _ _ _ rfl ?_
  refine gz_bald g_X6_mark rfl (n := 16) rfl (by decide) rfl (by decide) (by omega) (by omega) ?_
  refine zx_if g_X6_mark rfl (by omega) (fun (h17 : (R 37 a) ≠ 0) => ?_) (fun (h17 : ¬ (R 37 a) ≠ 0) => ?_)
  · refine zx_go (pc1 := 35) (l1 := [some (zr 32), some (zr 51), some (zi a), some (zi b), some (zi q), none, none, none, none]) (st1 := [zi ((R 33 (lay c q)) + 1)]) (w1 := wr c R) g_X6_mark 3 _ _ _ _ rfl ?_
    have hs : (R 33 (lay c q)) + 1 = rch c D a b q := by exact rch_1 (.inl (bI_ne.mp (by rw [← ea]; exact h17))) e33_v
    rw [hs]
    have sR := rch_R (a := a) (b := b) hD (show pls c q from ⟨hq0, hq1⟩)
    refine zx_go (pc1 := 42) (l1 := [some (zr 32), some (zr 51), some (zi a), some (zi b), some (zi q), some (zi (rch c D a b q)), some (zi (-(rch c D a b q))), none, none]) (st1 := []) (w1 := wr c R) g_X6_mark 4 _ _ _ _ rfl ?_
    have lp42 : ∀ (it : Nat) (dy : Int) (R1 : zI) (o7 : Option zV) (o8_v : Option zV), (it : Int) = rch c D a b q + 1 - dy → (-(rch c D a b q) ≤ dy ∧ dy ≤ rch c D a b q + 1 ∧ R1 = mks c R 51 q (rch c D a b q) (fun j => yo c j - yo c q < dy)) → ZX m_X6_mark 42 [some (zr 32), some (zr 51), some (zi a), some (zi b), some (zi q), some (zi (rch c D a b q)), some (zi dy), o7, o8_v] [] (wr c R1) (gU (fun R1 => R1 = mks c R 51 q (rch c D a b q) (fun _ => True)) c) := by
      refine fun it => Nat.strongRecOn it (fun it ih42 => ?_)
      intro dy R1 o7 o8_v hn42 hi42
      obtain ⟨y0, y1, y2⟩ := hi42
      refine zx_go (pc1 := 46) (l1 := [some (zr 32), some (zr 51), some (zi a), some (zi b), some (zi q), some (zi (rch c D a b q)), some (zi dy), o7, o8_v]) (st1 := [zi (rch c D a b q), zi dy]) (w1 := wr c R1) g_X6_mark 2 _ _ _ _ rfl ?_
      refine zx_cmp g_X6_mark rfl (by omega) (by omega) (fun (h46 : (rch c D a b q) < dy) => ?_) (fun (h46 : ¬ ((rch c D a b q) < dy)) => ?_)
      · refine zx_vret g_X6_mark rfl ?_
        refine gU_i ?_
        rw [y2]
        unfold mks
        refine ch_congr fun b1 j => ?_
        constructor
        · rintro ⟨z0, z1, z2, z3, z4⟩
          exact ⟨z0, z1, z2, z3, trivial⟩
        · rintro ⟨z0, z1, z2, z3, z4⟩
          refine ⟨z0, z1, z2, z3, ?_⟩
          unfold nr at z3
          omega
      · refine zx_go (pc1 := 54) (l1 := [some (zr 32), some (zr 51), some (zi a), some (zi b), some (zi q), some (zi (rch c D a b q)), some (zi dy), some (zi (-(rch c D a b q))), o8_v]) (st1 := []) (w1 := wr c R1) g_X6_mark 3 _ _ _ _ rfl ?_
        have lp54 : ∀ (it : Nat) (dx : Int) (R2 : zI) (o8_v : Option zV), (it : Int) = rch c D a b q + 1 - dx → (-(rch c D a b q) ≤ dx ∧ dx ≤ rch c D a b q + 1 ∧ R2 = mks c R 51 q (rch c D a b q) (fun j => yo c j - yo c q < dy ∨ (yo c j - yo c q = dy ∧ xo c j - xo c q < dx))) → ZX m_X6_mark 54 [some (zr 32), some (zr 51), some (zi a), some (zi b), some (zi q), some (zi (rch c D a b q)), some (zi dy), some (zi dx), o8_v] [] (wr c R2) (gU (fun R1 => R1 = mks c R 51 q (rch c D a b q) (fun _ => True)) c) := by
          refine fun it => Nat.strongRecOn it (fun it ih54 => ?_)
          intro dx R2 o8_v hn54 hi54
          obtain ⟨x0_v, x1_v, x2_v⟩ := hi54
          refine zx_go (pc1 := 58) (l1 := [some (zr 32), some (zr 51), some (zi a), some (zi b), some (zi q), some (zi (rch c D a b q)), some (zi dy), some (zi dx), o8_v]) (st1 := [zi (rch c D a b q), zi dx]) (w1 := wr c R2) g_X6_mark 2 _ _ _ _ rfl ?_
          refine zx_cmp g_X6_mark rfl (by omega) (by omega) (fun (h58 : (rch c D a b q) < dx) => ?_) (fun (h58 : ¬ ((rch c D a b q) < dx)) => ?_)
          · refine zx_go (pc1 := 42) (l1 := [some (zr 32), some (zr 51), some (zi a), some (zi b), some (zi q), some (zi (rch c D a b q)), some (zi (dy + 1)), some (zi dx), o8_v]) (st1 := []) (w1 := wr c R2) g_X6_mark 2 _ _ _ _ rfl ?_
            refine ih42 (Int.toNat (rch c D a b q + 1 - (dy + 1))) (by omega) (dy + 1) R2 (some (zi dx)) o8_v (by omega) ?_
            refine ⟨by omega, by omega, ?_⟩
            rw [x2_v]
            unfold mks
            refine ch_congr fun b1 j => ?_
            constructor
            · rintro ⟨z0, z1, z2, z3, z4⟩
              exact ⟨z0, z1, z2, z3, by omega⟩
            · rintro ⟨z0, z1, z2, z3, z4⟩
              refine ⟨z0, z1, z2, z3, ?_⟩
              unfold nr at z3
              omega
          · refine zx_go (pc1 := 65) (l1 := [some (zr 32), some (zr 51), some (zi a), some (zi b), some (zi q), some (zi (rch c D a b q)), some (zi dy), some (zi dx), o8_v]) (st1 := [zi q, zr 32, zr 32]) (w1 := wr c R2) g_X6_mark 3 _ _ _ _ rfl ?_
            refine zx_cvF (As := [zi q]) (rest := [zr 32]) g_X6_mark rfl g_X6_layerOf rfl rfl (Nat.le_of_ble_eq_true rfl) (Nat.le_of_ble_eq_true rfl) rfl (by decide) (m_layerOf hg (by omega) (by omega)) ?_
            refine zx_go (pc1 := 71) (l1 := [some (zr 32), some (zr 51), some (zi a), some (zi b), some (zi q), some (zi (rch c D a b q)), some (zi dy), some (zi dx), o8_v]) (st1 := [zi q, zr 32, zi (lay c q), zr 32]) (w1 := wr c R2) g_X6_mark 2 _ _ _ _ rfl ?_
            refine zx_cvF (As := [zi q]) (rest := [zi (lay c q), zr 32]) g_X6_mark rfl g_X6_xOf rfl rfl (Nat.le_of_ble_eq_true rfl) (Nat.le_of_ble_eq_true rfl) rfl (by decide) (m_xOf hg (by omega) (by omega)) ?_
            refine zx_go (pc1 := 77) (l1 := [some (zr 32), some (zr 51), some (zi a), some (zi b), some (zi q), some (zi (rch c D a b q)), some (zi dy), some (zi dx), o8_v]) (st1 := [zi ((xo c q) + dx), zi (lay c q), zr 32]) (w1 := wr c R2) g_X6_mark 2 _ _ _ _ rfl ?_
            refine zx_i2l g_X6_mark rfl (by omega) ?_
            refine zx_go (pc1 := 81) (l1 := [some (zr 32), some (zr 51), some (zi a), some (zi b), some (zi q), some (zi (rch c D a b q)), some (zi dy), some (zi dx), o8_v]) (st1 := [zi q, zr 32, zl ((xo c q) + dx), zi (lay c q), zr 32]) (w1 := wr c R2) g_X6_mark 2 _ _ _ _ rfl ?_
            refine zx_cvF (As := [zi q]) (rest := [zl ((xo c q) + dx), zi (lay c q), zr 32]) g_X6_mark rfl g_X6_yOf rfl rfl (Nat.le_of_ble_eq_true rfl) (Nat.le_of_ble_eq_true rfl) rfl (by decide) (m_yOf hg (by omega) (by omega)) ?_
            refine zx_go (pc1 := 87) (l1 := [some (zr 32), some (zr 51), some (zi a), some (zi b), some (zi q), some (zi (rch c D a b q)), some (zi dy), some (zi dx), o8_v]) (st1 := [zi ((yo c q) + dy), zl ((xo c q) + dx), zi (lay c q), zr 32]) (w1 := wr c R2) g_X6_mark 2 _ _ _ _ rfl ?_
            refine zx_i2l g_X6_mark rfl (by omega) ?_
            refine zx_cvF (As := [zi (lay c q), zl ((xo c q) + dx), zl ((yo c q) + dy)]) (rest := []) g_X6_mark rfl g_X6_placeOf rfl rfl (Nat.le_of_ble_eq_true rfl) (Nat.le_of_ble_eq_true rfl) rfl (by decide) (m_placeOf hg (by omega) (by omega) (by omega)) ?_
            have pR := plo_R hg (lay c q) (xo c q + dx) (yo c q + dy)
            have pI1 := plo_I hg (lay c q) (xo c q + dx) (yo c q + dy)
            refine zx_go (pc1 := 96) (l1 := [some (zr 32), some (zr 51), some (zi a), some (zi b), some (zi q), some (zi (rch c D a b q)), some (zi dy), some (zi dx), some (zi (plo c (lay c q) ((xo c q) + dx) ((yo c q) + dy)))]) (st1 := [zi (-1), zi (plo c (lay c q) ((xo c q) + dx) ((yo c q) + dy))]) (w1 := wr c R2) g_X6_mark 3 _ _ _ _ rfl ?_
            refine zx_cmp g_X6_mark rfl (by omega) (by omega) (fun (h96 : (plo c (lay c q) ((xo c q) + dx) ((yo c q) + dy)) = (-1)) => ?_) (fun (h96 : ¬ ((plo c (lay c q) ((xo c q) + dx) ((yo c q) + dy)) = (-1))) => ?_)
            · refine zx_go (pc1 := 54) (l1 := [some (zr 32), some (zr 51), some (zi a), some (zi b), some (zi q), some (zi (rch c D a b q)), some (zi dy), some (zi (dx + 1)), some (zi (plo c (lay c q) ((xo c q) + dx) ((yo c q) + dy)))]) (st1 := []) (w1 := wr c R2) g_X6_mark 2 _ _ _ _ rfl ?_
              refine ih54 (Int.toNat (rch c D a b q + 1 - (dx + 1))) (by omega) (dx + 1) R2 (some (zi (plo c (lay c q) ((xo c q) + dx) ((yo c q) + dy)))) (by omega) ?_
              refine ⟨by omega, by omega, ?_⟩
              rw [x2_v]
              unfold mks
              refine ch_congr fun b1 j => ?_
              constructor
              · rintro ⟨z0, z1, z2, z3, z4⟩
                exact ⟨z0, z1, z2, z3, by omega⟩
              · rintro ⟨z0, z1, z2, z3, z4⟩
                refine ⟨z0, z1, z2, z3, ?_⟩
                by_cases e : yo c j - yo c q = dy ∧ xo c j - xo c q = dx
                · have pa := plo_at hg (show pls c j from ⟨z1, z2⟩)
                  rw [z3.1, show xo c j = xo c q + dx by omega, show yo c j = yo c q + dy by omega, h96] at pa
                  omega
                · omega
            · have pS_v := pR.resolve_left h96
              obtain ⟨⟨ps0, ps1⟩, ps2, ps3, ps4⟩ := pS_v
              refine zx_go (pc1 := 103) (l1 := [some (zr 32), some (zr 51), some (zi a), some (zi b), some (zi q), some (zi (rch c D a b q)), some (zi dy), some (zi dx), some (zi (plo c (lay c q) ((xo c q) + dx) ((yo c q) + dy)))]) (st1 := [zi 1, zi (plo c (lay c q) ((xo c q) + dx) ((yo c q) + dy)), zr 51]) (w1 := wr c R2) g_X6_mark 3 _ _ _ _ rfl ?_
              refine gz_bast g_X6_mark rfl (n := 1728) rfl (by decide) (by refine ⟨?_, ?_, ?_, ?_, ?_⟩ <;> simp) (by decide) (by omega) (by omega) (.inr rfl) ?_
              refine zx_go (pc1 := 54) (l1 := [some (zr 32), some (zr 51), some (zi a), some (zi b), some (zi q), some (zi (rch c D a b q)), some (zi dy), some (zi (dx + 1)), some (zi (plo c (lay c q) ((xo c q) + dx) ((yo c q) + dy)))]) (st1 := []) (w1 := wr c (zU R2 51 (plo c (lay c q) ((xo c q) + dx) ((yo c q) + dy)) 1)) g_X6_mark 2 _ _ _ _ rfl ?_
              refine ih54 (Int.toNat (rch c D a b q + 1 - (dx + 1))) (by omega) (dx + 1) (zU R2 51 (plo c (lay c q) ((xo c q) + dx) ((yo c q) + dy)) 1) (some (zi (plo c (lay c q) ((xo c q) + dx) ((yo c q) + dy)))) (by omega) ?_
              refine ⟨by omega, by omega, ?_⟩
              rw [x2_v]
              unfold mks
              refine ch_step rfl fun b1 j => ?_
              constructor
              · rintro ⟨z0, z1, z2, z3, z4⟩
                by_cases e : yo c j - yo c q = dy ∧ xo c j - xo c q = dx
                · have pa := plo_at hg (show pls c j from ⟨z1, z2⟩)
                  rw [z3.1, show xo c j = xo c q + dx by omega, show yo c j = yo c q + dy by omega] at pa
                  exact .inr ⟨z0, pa.symm⟩
                · exact .inl ⟨z0, z1, z2, z3, by omega⟩
              · rintro (⟨z0, z1, z2, z3, z4⟩ | ⟨z0, z1⟩)
                · exact ⟨z0, z1, z2, z3, by omega⟩
                · subst z1
                  refine ⟨z0, ps0, ps1, ?_, by omega⟩
                  unfold nr
                  omega
        refine lp54 (Int.toNat (rch c D a b q + 1 - (-(rch c D a b q)))) (-(rch c D a b q)) R1 o8_v (by omega) ?_
        refine ⟨by omega, by omega, ?_⟩
        rw [y2]
        unfold mks
        refine ch_congr fun b1 j => ?_
        constructor
        · rintro ⟨z0, z1, z2, z3, z4⟩
          exact ⟨z0, z1, z2, z3, .inl z4⟩
        · rintro ⟨z0, z1, z2, z3, z4⟩
          refine ⟨z0, z1, z2, z3, ?_⟩
          unfold nr at z3
          omega
    refine lp42 (Int.toNat (rch c D a b q + 1 - (-(rch c D a b q)))) (-(rch c D a b q)) R none none (by omega) ?_
    refine ⟨by omega, by omega, ?_⟩
    unfold mks
    refine (ch_none fun b1 j z => ?_).symm
    obtain ⟨-, z1, z2, z3, z5⟩ := z
    unfold nr at z3
    omega
  · refine zx_go (pc1 := 25) (l1 := [some (zr 32), some (zr 51), some (zi a), some (zi b), some (zi q), none, none, none, none]) (st1 := [zi b, zr 37, zi (R 33 (lay c q))]) (w1 := wr c R) g_X6_mark 3 _ _ _ _ rfl ?_
    refine gz_bald g_X6_mark rfl (n := 16) rfl (by decide) rfl (by decide) (by omega) (by omega) ?_
    refine zx_if g_X6_mark rfl (by omega) (fun (h26 : (R 37 b) = 0) => ?_) (fun (h26 : ¬ (R 37 b) = 0) => ?_)
    · refine zx_go (pc1 := 35) (l1 := [some (zr 32), some (zr 51), some (zi a), some (zi b), some (zi q), none, none, none, none]) (st1 := [zi ((R 33 (lay c q)) + 0)]) (w1 := wr c R) g_X6_mark 2 _ _ _ _ rfl ?_
      have hs : (R 33 (lay c q)) + 0 = rch c D a b q := by exact rch_0 (fun z => z.elim (fun y => h17 (by rw [ea]; exact bI_ne.mpr y)) (fun y => bI_ne.mpr y (by rw [← eb]; exact h26))) e33_v
      rw [hs]
      have sR := rch_R (a := a) (b := b) hD (show pls c q from ⟨hq0, hq1⟩)
      refine zx_go (pc1 := 42) (l1 := [some (zr 32), some (zr 51), some (zi a), some (zi b), some (zi q), some (zi (rch c D a b q)), some (zi (-(rch c D a b q))), none, none]) (st1 := []) (w1 := wr c R) g_X6_mark 4 _ _ _ _ rfl ?_
      have lp42 : ∀ (it : Nat) (dy : Int) (R1 : zI) (o7 : Option zV) (o8_v : Option zV), (it : Int) = rch c D a b q + 1 - dy → (-(rch c D a b q) ≤ dy ∧ dy ≤ rch c D a b q + 1 ∧ R1 = mks c R 51 q (rch c D a b q) (fun j => yo c j - yo c q < dy)) → ZX m_X6_mark 42 [some (zr 32), some (zr 51), some (zi a), some (zi b), some (zi q), some (zi (rch c D a b q)), some (zi dy), o7, o8_v] [] (wr c R1) (gU (fun R1 => R1 = mks c R 51 q (rch c D a b q) (fun _ => True)) c) := by
        refine fun it => Nat.strongRecOn it (fun it ih42 => ?_)
        intro dy R1 o7 o8_v hn42 hi42
        obtain ⟨y0, y1, y2⟩ := hi42
        refine zx_go (pc1 := 46) (l1 := [some (zr 32), some (zr 51), some (zi a), some (zi b), some (zi q), some (zi (rch c D a b q)), some (zi dy), o7, o8_v]) (st1 := [zi (rch c D a b q), zi dy]) (w1 := wr c R1) g_X6_mark 2 _ _ _ _ rfl ?_
        refine zx_cmp g_X6_mark rfl (by omega) (by omega) (fun (h46 : (rch c D a b q) < dy) => ?_) (fun (h46 : ¬ ((rch c D a b q) < dy)) => ?_)
        · refine zx_vret g_X6_mark rfl ?_
          refine gU_i ?_
          rw [y2]
          unfold mks
          refine ch_congr fun b1 j => ?_
          constructor
          · rintro ⟨z0, z1, z2, z3, z4⟩
            exact ⟨z0, z1, z2, z3, trivial⟩
          · rintro ⟨z0, z1, z2, z3, z4⟩
            refine ⟨z0, z1, z2, z3, ?_⟩
            unfold nr at z3
            omega
        · refine zx_go (pc1 := 54) (l1 := [some (zr 32), some (zr 51), some (zi a), some (zi b), some (zi q), some (zi (rch c D a b q)), some (zi dy), some (zi (-(rch c D a b q))), o8_v]) (st1 := []) (w1 := wr c R1) g_X6_mark 3 _ _ _ _ rfl ?_
          have lp54 : ∀ (it : Nat) (dx : Int) (R2 : zI) (o8_v : Option zV), (it : Int) = rch c D a b q + 1 - dx → (-(rch c D a b q) ≤ dx ∧ dx ≤ rch c D a b q + 1 ∧ R2 = mks c R 51 q (rch c D a b q) (fun j => yo c j - yo c q < dy ∨ (yo c j - yo c q = dy ∧ xo c j - xo c q < dx))) → ZX m_X6_mark 54 [some (zr 32), some (zr 51), some (zi a), some (zi b), some (zi q), some (zi (rch c D a b q)), some (zi dy), some (zi dx), o8_v] [] (wr c R2) (gU (fun R1 => R1 = mks c R 51 q (rch c D a b q) (fun _ => True)) c) := by
            refine fun it => Nat.strongRecOn it (fun it ih54 => ?_)
            intro dx R2 o8_v hn54 hi54
            obtain ⟨x0_v, x1_v, x2_v⟩ := hi54
            refine zx_go (pc1 := 58) (l1 := [some (zr 32), some (zr 51), some (zi a), some (zi b), some (zi q), some (zi (rch c D a b q)), some (zi dy), some (zi dx), o8_v]) (st1 := [zi (rch c D a b q), zi dx]) (w1 := wr c R2) g_X6_mark 2 _ _ _ _ rfl ?_
            refine zx_cmp g_X6_mark rfl (by omega) (by omega) (fun (h58 : (rch c D a b q) < dx) => ?_) (fun (h58 : ¬ ((rch c D a b q) < dx)) => ?_)
            · refine zx_go (pc1 := 42) (l1 := [some (zr 32), some (zr 51), some (zi a), some (zi b), some (zi q), some (zi (rch c D a b q)), some (zi (dy + 1)), some (zi dx), o8_v]) (st1 := []) (w1 := wr c R2) g_X6_mark 2 _ _ _ _ rfl ?_
              refine ih42 (Int.toNat (rch c D a b q + 1 - (dy + 1))) (by omega) (dy + 1) R2 (some (zi dx)) o8_v (by omega) ?_
              refine ⟨by omega, by omega, ?_⟩
              rw [x2_v]
              unfold mks
              refine ch_congr fun b1 j => ?_
              constructor
              · rintro ⟨z0, z1, z2, z3, z4⟩
                exact ⟨z0, z1, z2, z3, by omega⟩
              · rintro ⟨z0, z1, z2, z3, z4⟩
                refine ⟨z0, z1, z2, z3, ?_⟩
                unfold nr at z3
                omega
            · refine zx_go (pc1 := 65) (l1 := [some (zr 32), some (zr 51), some (zi a), some (zi b), some (zi q), some (zi (rch c D a b q)), some (zi dy), some (zi dx), o8_v]) (st1 := [zi q, zr 32, zr 32]) (w1 := wr c R2) g_X6_mark 3 _ _ _ _ rfl ?_
              refine zx_cvF (As := [zi q]) (rest := [zr 32]) g_X6_mark rfl g_X6_layerOf rfl rfl (Nat.le_of_ble_eq_true rfl) (Nat.le_of_ble_eq_true rfl) rfl (by decide) (m_layerOf hg (by omega) (by omega)) ?_
              refine zx_go (pc1 := 71) (l1 := [some (zr 32), some (zr 51), some (zi a), some (zi b), some (zi q), some (zi (rch c D a b q)), some (zi dy), some (zi dx), o8_v]) (st1 := [zi q, zr 32, zi (lay c q), zr 32]) (w1 := wr c R2) g_X6_mark 2 _ _ _ _ rfl ?_
              refine zx_cvF (As := [zi q]) (rest := [zi (lay c q), zr 32]) g_X6_mark rfl g_X6_xOf rfl rfl (Nat.le_of_ble_eq_true rfl) (Nat.le_of_ble_eq_true rfl) rfl (by decide) (m_xOf hg (by omega) (by omega)) ?_
              refine zx_go (pc1 := 77) (l1 := [some (zr 32), some (zr 51), some (zi a), some (zi b), some (zi q), some (zi (rch c D a b q)), some (zi dy), some (zi dx), o8_v]) (st1 := [zi ((xo c q) + dx), zi (lay c q), zr 32]) (w1 := wr c R2) g_X6_mark 2 _ _ _ _ rfl ?_
              refine zx_i2l g_X6_mark rfl (by omega) ?_
              refine zx_go (pc1 := 81) (l1 := [some (zr 32), some (zr 51), some (zi a), some (zi b), some (zi q), some (zi (rch c D a b q)), some (zi dy), some (zi dx), o8_v]) (st1 := [zi q, zr 32, zl ((xo c q) + dx), zi (lay c q), zr 32]) (w1 := wr c R2) g_X6_mark 2 _ _ _ _ rfl ?_
              refine zx_cvF (As := [zi q]) (rest := [zl ((xo c q) + dx), zi (lay c q), zr 32]) g_X6_mark rfl g_X6_yOf rfl rfl (Nat.le_of_ble_eq_true rfl) (Nat.le_of_ble_eq_true rfl) rfl (by decide) (m_yOf hg (by omega) (by omega)) ?_
              refine zx_go (pc1 := 87) (l1 := [some (zr 32), some (zr 51), some (zi a), some (zi b), some (zi q), some (zi (rch c D a b q)), some (zi dy), some (zi dx), o8_v]) (st1 := [zi ((yo c q) + dy), zl ((xo c q) + dx), zi (lay c q), zr 32]) (w1 := wr c R2) g_X6_mark 2 _ _ _ _ rfl ?_
              refine zx_i2l g_X6_mark rfl (by omega) ?_
              refine zx_cvF (As := [zi (lay c q), zl ((xo c q) + dx), zl ((yo c q) + dy)]) (rest := []) g_X6_mark rfl g_X6_placeOf rfl rfl (Nat.le_of_ble_eq_true rfl) (Nat.le_of_ble_eq_true rfl) rfl (by decide) (m_placeOf hg (by omega) (by omega) (by omega)) ?_
              have pR := plo_R hg (lay c q) (xo c q + dx) (yo c q + dy)
              have pI1 := plo_I hg (lay c q) (xo c q + dx) (yo c q + dy)
              refine zx_go (pc1 := 96) (l1 := [some (zr 32), some (zr 51), some (zi a), some (zi b), some (zi q), some (zi (rch c D a b q)), some (zi dy), some (zi dx), some (zi (plo c (lay c q) ((xo c q) + dx) ((yo c q) + dy)))]) (st1 := [zi (-1), zi (plo c (lay c q) ((xo c q) + dx) ((yo c q) + dy))]) (w1 := wr c R2) g_X6_mark 3 _ _ _ _ rfl ?_
              refine zx_cmp g_X6_mark rfl (by omega) (by omega) (fun (h96 : (plo c (lay c q) ((xo c q) + dx) ((yo c q) + dy)) = (-1)) => ?_) (fun (h96 : ¬ ((plo c (lay c q) ((xo c q) + dx) ((yo c q) + dy)) = (-1))) => ?_)
              · refine zx_go (pc1 := 54) (l1 := [some (zr 32), some (zr 51), some (zi a), some (zi b), some (zi q), some (zi (rch c D a b q)), some (zi dy), some (zi (dx + 1)), some (zi (plo c (lay c q) ((xo c q) + dx) ((yo c q) + dy)))]) (st1 := []) (w1 := wr c R2) g_X6_mark 2 _ _ _ _ rfl ?_
                refine ih54 (Int.toNat (rch c D a b q + 1 - (dx + 1))) (by omega) (dx + 1) R2 (some (zi (plo c (lay c q) ((xo c q) + dx) ((yo c q) + dy)))) (by omega) ?_
                refine ⟨by omega, by omega, ?_⟩
                rw [x2_v]
                unfold mks
                refine ch_congr fun b1 j => ?_
                constructor
                · rintro ⟨z0, z1, z2, z3, z4⟩
                  exact ⟨z0, z1, z2, z3, by omega⟩
                · rintro ⟨z0, z1, z2, z3, z4⟩
                  refine ⟨z0, z1, z2, z3, ?_⟩
                  by_cases e : yo c j - yo c q = dy ∧ xo c j - xo c q = dx
                  · have pa := plo_at hg (show pls c j from ⟨z1, z2⟩)
                    rw [z3.1, show xo c j = xo c q + dx by omega, show yo c j = yo c q + dy by omega, h96] at pa
                    omega
                  · omega
              · have pS_v := pR.resolve_left h96
                obtain ⟨⟨ps0, ps1⟩, ps2, ps3, ps4⟩ := pS_v
                refine zx_go (pc1 := 103) (l1 := [some (zr 32), some (zr 51), some (zi a), some (zi b), some (zi q), some (zi (rch c D a b q)), some (zi dy), some (zi dx), some (zi (plo c (lay c q) ((xo c q) + dx) ((yo c q) + dy)))]) (st1 := [zi 1, zi (plo c (lay c q) ((xo c q) + dx) ((yo c q) + dy)), zr 51]) (w1 := wr c R2) g_X6_mark 3 _ _ _ _ rfl ?_
                refine gz_bast g_X6_mark rfl (n := 1728) rfl (by decide) (by refine ⟨?_, ?_, ?_, ?_, ?_⟩ <;> simp) (by decide) (by omega) (by omega) (.inr rfl) ?_
                refine zx_go (pc1 := 54) (l1 := [some (zr 32), some (zr 51), some (zi a), some (zi b), some (zi q), some (zi (rch c D a b q)), some (zi dy), some (zi (dx + 1)), some (zi (plo c (lay c q) ((xo c q) + dx) ((yo c q) + dy)))]) (st1 := []) (w1 := wr c (zU R2 51 (plo c (lay c q) ((xo c q) + dx) ((yo c q) + dy)) 1)) g_X6_mark 2 _ _ _ _ rfl ?_
                refine ih54 (Int.toNat (rch c D a b q + 1 - (dx + 1))) (by omega) (dx + 1) (zU R2 51 (plo c (lay c q) ((xo c q) + dx) ((yo c q) + dy)) 1) (some (zi (plo c (lay c q) ((xo c q) + dx) ((yo c q) + dy)))) (by omega) ?_
                refine ⟨by omega, by omega, ?_⟩
                rw [x2_v]
                unfold mks
                refine ch_step rfl fun b1 j => ?_
                constructor
                · rintro ⟨z0, z1, z2, z3, z4⟩
                  by_cases e : yo c j - yo c q = dy ∧ xo c j - xo c q = dx
                  · have pa := plo_at hg (show pls c j from ⟨z1, z2⟩)
                    rw [z3.1, show xo c j = xo c q + dx by omega, show yo c j = yo c q + dy by omega] at pa
                    exact .inr ⟨z0, pa.symm⟩
                  · exact .inl ⟨z0, z1, z2, z3, by omega⟩
                · rintro (⟨z0, z1, z2, z3, z4⟩ | ⟨z0, z1⟩)
                  · exact ⟨z0, z1, z2, z3, by omega⟩
                  · subst z1
                    refine ⟨z0, ps0, ps1, ?_, by omega⟩
                    unfold nr
                    omega
          refine lp54 (Int.toNat (rch c D a b q + 1 - (-(rch c D a b q)))) (-(rch c D a b q)) R1 o8_v (by omega) ?_
          refine ⟨by omega, by omega, ?_⟩
          rw [y2]
          unfold mks
          refine ch_congr fun b1 j => ?_
          constructor
          · rintro ⟨z0, z1, z2, z3, z4⟩
            exact ⟨z0, z1, z2, z3, .inl z4⟩
          · rintro ⟨z0, z1, z2, z3, z4⟩
            refine ⟨z0, z1, z2, z3, ?_⟩
            unfold nr at z3
            omega
      refine lp42 (Int.toNat (rch c D a b q + 1 - (-(rch c D a b q)))) (-(rch c D a b q)) R none none (by omega) ?_
      refine ⟨by omega, by omega, ?_⟩
      unfold mks
      refine (ch_none fun b1 j z => ?_).symm
      obtain ⟨-, z1, z2, z3, z5⟩ := z
      unfold nr at z3
      omega
    · refine zx_go (pc1 := 35) (l1 := [some (zr 32), some (zr 51), some (zi a), some (zi b), some (zi q), none, none, none, none]) (st1 := [zi ((R 33 (lay c q)) + 1)]) (w1 := wr c R) g_X6_mark 3 _ _ _ _ rfl ?_
      have hs : (R 33 (lay c q)) + 1 = rch c D a b q := by exact rch_1 (.inr (bI_ne.mp (by rw [← eb]; exact h26))) e33_v
      rw [hs]
      have sR := rch_R (a := a) (b := b) hD (show pls c q from ⟨hq0, hq1⟩)
      refine zx_go (pc1 := 42) (l1 := [some (zr 32), some (zr 51), some (zi a), some (zi b), some (zi q), some (zi (rch c D a b q)), some (zi (-(rch c D a b q))), none, none]) (st1 := []) (w1 := wr c R) g_X6_mark 4 _ _ _ _ rfl ?_
      have lp42 : ∀ (it : Nat) (dy : Int) (R1 : zI) (o7 : Option zV) (o8_v : Option zV), (it : Int) = rch c D a b q + 1 - dy → (-(rch c D a b q) ≤ dy ∧ dy ≤ rch c D a b q + 1 ∧ R1 = mks c R 51 q (rch c D a b q) (fun j => yo c j - yo c q < dy)) → ZX m_X6_mark 42 [some (zr 32), some (zr 51), some (zi a), some (zi b), some (zi q), some (zi (rch c D a b q)), some (zi dy), o7, o8_v] [] (wr c R1) (gU (fun R1 => R1 = mks c R 51 q (rch c D a b q) (fun _ => True)) c) := by
        refine fun it => Nat.strongRecOn it (fun it ih42 => ?_)
        intro dy R1 o7 o8_v hn42 hi42
        obtain ⟨y0, y1, y2⟩ := hi42
        refine zx_go (pc1 := 46) (l1 := [some (zr 32), some (zr 51), some (zi a), some (zi b), some (zi q), some (zi (rch c D a b q)), some (zi dy), o7, o8_v]) (st1 := [zi (rch c D a b q), zi dy]) (w1 := wr c R1) g_X6_mark 2 _ _ _ _ rfl ?_
        refine zx_cmp g_X6_mark rfl (by omega) (by omega) (fun (h46 : (rch c D a b q) < dy) => ?_) (fun (h46 : ¬ ((rch c D a b q) < dy)) => ?_)
        · refine zx_vret g_X6_mark rfl ?_
          refine gU_i ?_
          rw [y2]
          unfold mks
          refine ch_congr fun b1 j => ?_
          constructor
          · rintro ⟨z0, z1, z2, z3, z4⟩
            exact ⟨z0, z1, z2, z3, trivial⟩
          · rintro ⟨z0, z1, z2, z3, z4⟩
            refine ⟨z0, z1, z2, z3, ?_⟩
            unfold nr at z3
            omega
        · refine zx_go (pc1 := 54) (l1 := [some (zr 32), some (zr 51), some (zi a), some (zi b), some (zi q), some (zi (rch c D a b q)), some (zi dy), some (zi (-(rch c D a b q))), o8_v]) (st1 := []) (w1 := wr c R1) g_X6_mark 3 _ _ _ _ rfl ?_
          have lp54 : ∀ (it : Nat) (dx : Int) (R2 : zI) (o8_v : Option zV), (it : Int) = rch c D a b q + 1 - dx → (-(rch c D a b q) ≤ dx ∧ dx ≤ rch c D a b q + 1 ∧ R2 = mks c R 51 q (rch c D a b q) (fun j => yo c j - yo c q < dy ∨ (yo c j - yo c q = dy ∧ xo c j - xo c q < dx))) → ZX m_X6_mark 54 [some (zr 32), some (zr 51), some (zi a), some (zi b), some (zi q), some (zi (rch c D a b q)), some (zi dy), some (zi dx), o8_v] [] (wr c R2) (gU (fun R1 => R1 = mks c R 51 q (rch c D a b q) (fun _ => True)) c) := by
            refine fun it => Nat.strongRecOn it (fun it ih54 => ?_)
            intro dx R2 o8_v hn54 hi54
            obtain ⟨x0_v, x1_v, x2_v⟩ := hi54
            refine zx_go (pc1 := 58) (l1 := [some (zr 32), some (zr 51), some (zi a), some (zi b), some (zi q), some (zi (rch c D a b q)), some (zi dy), some (zi dx), o8_v]) (st1 := [zi (rch c D a b q), zi dx]) (w1 := wr c R2) g_X6_mark 2 _ _ _ _ rfl ?_
            refine zx_cmp g_X6_mark rfl (by omega) (by omega) (fun (h58 : (rch c D a b q) < dx) => ?_) (fun (h58 : ¬ ((rch c D a b q) < dx)) => ?_)
            · refine zx_go (pc1 := 42) (l1 := [some (zr 32), some (zr 51), some (zi a), some (zi b), some (zi q), some (zi (rch c D a b q)), some (zi (dy + 1)), some (zi dx), o8_v]) (st1 := []) (w1 := wr c R2) g_X6_mark 2 _ _ _ _ rfl ?_
              refine ih42 (Int.toNat (rch c D a b q + 1 - (dy + 1))) (by omega) (dy + 1) R2 (some (zi dx)) o8_v (by omega) ?_
              refine ⟨by omega, by omega, ?_⟩
              rw [x2_v]
              unfold mks
              refine ch_congr fun b1 j => ?_
              constructor
              · rintro ⟨z0, z1, z2, z3, z4⟩
                exact ⟨z0, z1, z2, z3, by omega⟩
              · rintro ⟨z0, z1, z2, z3, z4⟩
                refine ⟨z0, z1, z2, z3, ?_⟩
                unfold nr at z3
                omega
            · refine zx_go (pc1 := 65) (l1 := [some (zr 32), some (zr 51), some (zi a), some (zi b), some (zi q), some (zi (rch c D a b q)), some (zi dy), some (zi dx), o8_v]) (st1 := [zi q, zr 32, zr 32]) (w1 := wr c R2) g_X6_mark 3 _ _ _ _ rfl ?_
              refine zx_cvF (As := [zi q]) (rest := [zr 32]) g_X6_mark rfl g_X6_layerOf rfl rfl (Nat.le_of_ble_eq_true rfl) (Nat.le_of_ble_eq_true rfl) rfl (by decide) (m_layerOf hg (by omega) (by omega)) ?_
              refine zx_go (pc1 := 71) (l1 := [some (zr 32), some (zr 51), some (zi a), some (zi b), some (zi q), some (zi (rch c D a b q)), some (zi dy), some (zi dx), o8_v]) (st1 := [zi q, zr 32, zi (lay c q), zr 32]) (w1 := wr c R2) g_X6_mark 2 _ _ _ _ rfl ?_
              refine zx_cvF (As := [zi q]) (rest := [zi (lay c q), zr 32]) g_X6_mark rfl g_X6_xOf rfl rfl (Nat.le_of_ble_eq_true rfl) (Nat.le_of_ble_eq_true rfl) rfl (by decide) (m_xOf hg (by omega) (by omega)) ?_
              refine zx_go (pc1 := 77) (l1 := [some (zr 32), some (zr 51), some (zi a), some (zi b), some (zi q), some (zi (rch c D a b q)), some (zi dy), some (zi dx), o8_v]) (st1 := [zi ((xo c q) + dx), zi (lay c q), zr 32]) (w1 := wr c R2) g_X6_mark 2 _ _ _ _ rfl ?_
              refine zx_i2l g_X6_mark rfl (by omega) ?_
              refine zx_go (pc1 := 81) (l1 := [some (zr 32), some (zr 51), some (zi a), some (zi b), some (zi q), some (zi (rch c D a b q)), some (zi dy), some (zi dx), o8_v]) (st1 := [zi q, zr 32, zl ((xo c q) + dx), zi (lay c q), zr 32]) (w1 := wr c R2) g_X6_mark 2 _ _ _ _ rfl ?_
              refine zx_cvF (As := [zi q]) (rest := [zl ((xo c q) + dx), zi (lay c q), zr 32]) g_X6_mark rfl g_X6_yOf rfl rfl (Nat.le_of_ble_eq_true rfl) (Nat.le_of_ble_eq_true rfl) rfl (by decide) (m_yOf hg (by omega) (by omega)) ?_
              refine zx_go (pc1 := 87) (l1 := [some (zr 32), some (zr 51), some (zi a), some (zi b), some (zi q), some (zi (rch c D a b q)), some (zi dy), some (zi dx), o8_v]) (st1 := [zi ((yo c q) + dy), zl ((xo c q) + dx), zi (lay c q), zr 32]) (w1 := wr c R2) g_X6_mark 2 _ _ _ _ rfl ?_
              refine zx_i2l g_X6_mark rfl (by omega) ?_
              refine zx_cvF (As := [zi (lay c q), zl ((xo c q) + dx), zl ((yo c q) + dy)]) (rest := []) g_X6_mark rfl g_X6_placeOf rfl rfl (Nat.le_of_ble_eq_true rfl) (Nat.le_of_ble_eq_true rfl) rfl (by decide) (m_placeOf hg (by omega) (by omega) (by omega)) ?_
              have pR := plo_R hg (lay c q) (xo c q + dx) (yo c q + dy)
              have pI1 := plo_I hg (lay c q) (xo c q + dx) (yo c q + dy)
              refine zx_go (pc1 := 96) (l1 := [some (zr 32), some (zr 51), some (zi a), some (zi b), some (zi q), some (zi (rch c D a b q)), some (zi dy), some (zi dx), some (zi (plo c (lay c q) ((xo c q) + dx) ((yo c q) + dy)))]) (st1 := [zi (-1), zi (plo c (lay c q) ((xo c q) + dx) ((yo c q) + dy))]) (w1 := wr c R2) g_X6_mark 3 _ _ _ _ rfl ?_
              refine zx_cmp g_X6_mark rfl (by omega) (by omega) (fun (h96 : (plo c (lay c q) ((xo c q) + dx) ((yo c q) + dy)) = (-1)) => ?_) (fun (h96 : ¬ ((plo c (lay c q) ((xo c q) + dx) ((yo c q) + dy)) = (-1))) => ?_)
              · refine zx_go (pc1 := 54) (l1 := [some (zr 32), some (zr 51), some (zi a), some (zi b), some (zi q), some (zi (rch c D a b q)), some (zi dy), some (zi (dx + 1)), some (zi (plo c (lay c q) ((xo c q) + dx) ((yo c q) + dy)))]) (st1 := []) (w1 := wr c R2) g_X6_mark 2 _ _ _ _ rfl ?_
                refine ih54 (Int.toNat (rch c D a b q + 1 - (dx + 1))) (by omega) (dx + 1) R2 (some (zi (plo c (lay c q) ((xo c q) + dx) ((yo c q) + dy)))) (by omega) ?_
                refine ⟨by omega, by omega, ?_⟩
                rw [x2_v]
                unfold mks
                refine ch_congr fun b1 j => ?_
                constructor
                · rintro ⟨z0, z1, z2, z3, z4⟩
                  exact ⟨z0, z1, z2, z3, by omega⟩
                · rintro ⟨z0, z1, z2, z3, z4⟩
                  refine ⟨z0, z1, z2, z3, ?_⟩
                  by_cases e : yo c j - yo c q = dy ∧ xo c j - xo c q = dx
                  · have pa := plo_at hg (show pls c j from ⟨z1, z2⟩)
                    rw [z3.1, show xo c j = xo c q + dx by omega, show yo c j = yo c q + dy by omega, h96] at pa
                    omega
                  · omega
              · have pS_v := pR.resolve_left h96
                obtain ⟨⟨ps0, ps1⟩, ps2, ps3, ps4⟩ := pS_v
                refine zx_go (pc1 := 103) (l1 := [some (zr 32), some (zr 51), some (zi a), some (zi b), some (zi q), some (zi (rch c D a b q)), some (zi dy), some (zi dx), some (zi (plo c (lay c q) ((xo c q) + dx) ((yo c q) + dy)))]) (st1 := [zi 1, zi (plo c (lay c q) ((xo c q) + dx) ((yo c q) + dy)), zr 51]) (w1 := wr c R2) g_X6_mark 3 _ _ _ _ rfl ?_
                refine gz_bast g_X6_mark rfl (n := 1728) rfl (by decide) (by refine ⟨?_, ?_, ?_, ?_, ?_⟩ <;> simp) (by decide) (by omega) (by omega) (.inr rfl) ?_
                refine zx_go (pc1 := 54) (l1 := [some (zr 32), some (zr 51), some (zi a), some (zi b), some (zi q), some (zi (rch c D a b q)), some (zi dy), some (zi (dx + 1)), some (zi (plo c (lay c q) ((xo c q) + dx) ((yo c q) + dy)))]) (st1 := []) (w1 := wr c (zU R2 51 (plo c (lay c q) ((xo c q) + dx) ((yo c q) + dy)) 1)) g_X6_mark 2 _ _ _ _ rfl ?_
                refine ih54 (Int.toNat (rch c D a b q + 1 - (dx + 1))) (by omega) (dx + 1) (zU R2 51 (plo c (lay c q) ((xo c q) + dx) ((yo c q) + dy)) 1) (some (zi (plo c (lay c q) ((xo c q) + dx) ((yo c q) + dy)))) (by omega) ?_
                refine ⟨by omega, by omega, ?_⟩
                rw [x2_v]
                unfold mks
                refine ch_step rfl fun b1 j => ?_
                constructor
                · rintro ⟨z0, z1, z2, z3, z4⟩
                  by_cases e : yo c j - yo c q = dy ∧ xo c j - xo c q = dx
                  · have pa := plo_at hg (show pls c j from ⟨z1, z2⟩)
                    rw [z3.1, show xo c j = xo c q + dx by omega, show yo c j = yo c q + dy by omega] at pa
                    exact .inr ⟨z0, pa.symm⟩
                  · exact .inl ⟨z0, z1, z2, z3, by omega⟩
                · rintro (⟨z0, z1, z2, z3, z4⟩ | ⟨z0, z1⟩)
                  · exact ⟨z0, z1, z2, z3, by omega⟩
                  · subst z1
                    refine ⟨z0, ps0, ps1, ?_, by omega⟩
                    unfold nr
                    omega
          refine lp54 (Int.toNat (rch c D a b q + 1 - (-(rch c D a b q)))) (-(rch c D a b q)) R1 o8_v (by omega) ?_
          refine ⟨by omega, by omega, ?_⟩
          rw [y2]
          unfold mks
          refine ch_congr fun b1 j => ?_
          constructor
          · rintro ⟨z0, z1, z2, z3, z4⟩
            exact ⟨z0, z1, z2, z3, .inl z4⟩
          · rintro ⟨z0, z1, z2, z3, z4⟩
            refine ⟨z0, z1, z2, z3, ?_⟩
            unfold nr at z3
            omega
      refine lp42 (Int.toNat (rch c D a b q + 1 - (-(rch c D a b q)))) (-(rch c D a b q)) R none none (by omega) ?_
      refine ⟨by omega, by omega, ?_⟩
      unfold mks
      refine (ch_none fun b1 j z => ?_).symm
      obtain ⟨-, z1, z2, z3, z5⟩ := z
      unfold nr at z3
      omega

def nrC (c : zC) (D : zI) (n k p : Int) : Prop := ∃ j, 0 ≤ j ∧ j < k ∧ D 11 j ≠ n ∧ pk c D j ≠ -1 ∧ nr c p (pp c D j) (rch c D n (D 11 j) (pp c D j))
def nrB (c : zC) (D : zI) (rt : Int → Int → Prop) (n b q p : Int) : Prop := ∃ b1 q1_v, 0 ≤ b1 ∧ b1 ≠ n ∧ pls c q1_v ∧ rt b1 q1_v ∧ (b1 < b ∨ (b1 = b ∧ q1_v < q)) ∧ nr c p q1_v (rch c D n b1 q1_v)
theorem nrC_near {c : zC} {D : zI} {n p : Int} : nrC c D n (D 10 2) p ↔ nearC c D n p := by
  constructor
  · rintro ⟨j, j0, j1, j2_v, j3_v, j4_v⟩
    exact ⟨D 11 j, pp c D j, ⟨j, j0, j1, rfl, j3_v, rfl⟩, clash_nr.mpr ⟨fun z => j2_v z.symm, j4_v⟩⟩
  · rintro ⟨b, q, ⟨j, j0, j1, j2_v, j3_v, j4_v⟩, z⟩
    subst j2_v j4_v
    have z := clash_nr.mp z
    exact ⟨j, j0, j1, fun y => z.1 y.symm, j3_v, z.2⟩
theorem nrB_near {c : zC} {D : zI} {rt : Int → Int → Prop} {n p q : Int} (hst : ∀ b q, rt b q → 0 ≤ b ∧ b < D 10 0) : nrB c D rt n (D 10 0) 0 p ↔ nearR c D rt n p := by
  constructor
  · rintro ⟨b1, q1_v, z1, z2, z3, z4, z5, z6⟩
    exact ⟨b1, q1_v, z3, z4, clash_nr.mpr ⟨fun z => z2 z.symm, z6⟩⟩
  · rintro ⟨b1, q1_v, z1, z2, z3⟩
    have z := clash_nr.mp z3
    exact ⟨b1, q1_v, (hst b1 q1_v z2).1, fun y => z.1 y.symm, z1, z2, .inl (hst b1 q1_v z2).2, z.2⟩

set_option maxHeartbeats 1000000 in
theorem m_markAll {c : zC} {R : zI} {D : zI} {rt : Int → Int → Prop} {n : Int} (hD : DOK c D) (hm : MDn c D R) (n0 : 0 ≤ n) (n1 : n < D 10 0) (hpk : ∀ k, 0 ≤ k → k < D 10 2 → R 41 k = pk c D k) (hrt : ∀ b q, 0 ≤ b → b < D 10 0 → pls c q → R 46 (1728 * b + q) = bI (rt b q)) (hst : ∀ b q, rt b q → 0 ≤ b ∧ b < D 10 0) : MZ m_X6_markAll [zr 32, zi n] (wr c R) (gU (fun R2 => (∀ a, a ≠ 50 → a ≠ 51 → R2 a = R a) ∧ ∀ p, pls c p → R2 50 p = bI (nearC c D n p) ∧ R2 51 p = bI (nearR c D rt n p)) c) := by
  refine MZ.of g_X6_markAll ?_
  show ZX m_X6_markAll 0 [some (zr 32), some (zi n), none, none] [] (wr c R) _
  have hg := hD.1
  have g3_v := hg.S
  have p40 := hD.2.2.1
  have n16 := hD.2.1
  refine zx_go (pc1 := 2) (l1 := [some (zr 32), some (zi n), some (zi 0), none]) (st1 := []) (w1 := wr c R) g_X6_markAll 2 _ _ _ _ rfl ?_
  have lp2 : ∀ (it : Nat) (i : Int) (R0 : zI), (it : Int) = (cS c : Int) - i → (0 ≤ i ∧ i ≤ (cS c : Int) ∧ (∀ a, a ≠ 50 → a ≠ 51 → R0 a = R a) ∧ ∀ p, 0 ≤ p → p < i → R0 50 p = 0 ∧ R0 51 p = 0) → ZX m_X6_markAll 2 [some (zr 32), some (zi n), some (zi i), none] [] (wr c R0) (gU (fun R2 => (∀ a, a ≠ 50 → a ≠ 51 → R2 a = R a) ∧ ∀ p, pls c p → R2 50 p = bI (nearC c D n p) ∧ R2 51 p = bI (nearR c D rt n p)) c) := by
    refine fun it => Nat.strongRecOn it (fun it ih2 => ?_)
    intro i R0 hn2 hi2
    obtain ⟨i0_v, i1_v, fr0, z0⟩ := hi2
    refine zx_go (pc1 := 4) (l1 := [some (zr 32), some (zi n), some (zi i), none]) (st1 := [zr 32, zi i]) (w1 := wr c R0) g_X6_markAll 2 _ _ _ _ rfl ?_
    refine zx_cvF (As := []) (rest := [zi i]) g_X6_markAll rfl g_X6_all rfl rfl (Nat.le_of_ble_eq_true rfl) (Nat.le_of_ble_eq_true rfl) rfl (by decide) (m_all hg) ?_
    refine zx_cmp g_X6_markAll rfl (by omega) (by omega) (fun (h7 : (cS c : Int) ≤ i) => ?_) (fun (h7 : ¬ ((cS c : Int) ≤ i)) => ?_)
    · refine zx_go (pc1 := 32) (l1 := [some (zr 32), some (zi n), some (zi 0), none]) (st1 := []) (w1 := wr c R0) g_X6_markAll 2 _ _ _ _ rfl ?_
      have lp32 : ∀ (it : Nat) (k : Int) (R1 : zI), (it : Int) = D 10 2 - k → (0 ≤ k ∧ k ≤ D 10 2 ∧ (∀ a, a ≠ 50 → a ≠ 51 → R1 a = R a) ∧ ∀ p, pls c p → R1 50 p = bI (nrC c D n k p) ∧ R1 51 p = 0) → ZX m_X6_markAll 32 [some (zr 32), some (zi n), some (zi k), none] [] (wr c R1) (gU (fun R2 => (∀ a, a ≠ 50 → a ≠ 51 → R2 a = R a) ∧ ∀ p, pls c p → R2 50 p = bI (nearC c D n p) ∧ R2 51 p = bI (nearR c D rt n p)) c) := by
        refine fun it => Nat.strongRecOn it (fun it ih32 => ?_)
        intro k R1 hn32 hi32_v
        obtain ⟨k0_v, k1_v, fr1, z1⟩ := hi32_v
        have e10_v : R1 32 10 = D 10 2 := by rw [fr1 32 (by decide) (by decide)]; exact hm.2.2.2.2.2.2
        refine zx_go (pc1 := 37) (l1 := [some (zr 32), some (zi n), some (zi k), none]) (st1 := [zi (R1 32 10), zi k]) (w1 := wr c R1) g_X6_markAll 3 _ _ _ _ rfl ?_
        refine zx_cmp g_X6_markAll rfl (by omega) (by omega) (fun (h37 : (R1 32 10) ≤ k) => ?_) (fun (h37 : ¬ ((R1 32 10) ≤ k)) => ?_)
        · refine zx_go (pc1 := 88) (l1 := [some (zr 32), some (zi n), some (zi 0), none]) (st1 := []) (w1 := wr c R1) g_X6_markAll 2 _ _ _ _ rfl ?_
          have lp88 : ∀ (it : Nat) (b : Int) (R3 : zI) (o3_v : Option zV), (it : Int) = D 10 0 - b → (0 ≤ b ∧ b ≤ D 10 0 ∧ (∀ a, a ≠ 50 → a ≠ 51 → R3 a = R a) ∧ ∀ p, pls c p → R3 50 p = bI (nearC c D n p) ∧ R3 51 p = bI (nrB c D rt n b 0 p)) → ZX m_X6_markAll 88 [some (zr 32), some (zi n), some (zi b), o3_v] [] (wr c R3) (gU (fun R2 => (∀ a, a ≠ 50 → a ≠ 51 → R2 a = R a) ∧ ∀ p, pls c p → R2 50 p = bI (nearC c D n p) ∧ R2 51 p = bI (nearR c D rt n p)) c) := by
            refine fun it => Nat.strongRecOn it (fun it ih88 => ?_)
            intro b R3 o3_v hn88 hi88
            obtain ⟨b0, b1, fr3, z3⟩ := hi88
            have e8 : R3 32 8 = D 10 0 := by rw [fr3 32 (by decide) (by decide)]; exact hm.2.2.2.2.2.1
            refine zx_go (pc1 := 93) (l1 := [some (zr 32), some (zi n), some (zi b), o3_v]) (st1 := [zi (R3 32 8), zi b]) (w1 := wr c R3) g_X6_markAll 3 _ _ _ _ rfl ?_
            refine zx_cmp g_X6_markAll rfl (by omega) (by omega) (fun (h93 : (R3 32 8) ≤ b) => ?_) (fun (h93 : ¬ ((R3 32 8) ≤ b)) => ?_)
            · refine zx_vret g_X6_markAll rfl ?_
              have eb : b = D 10 0 := by omega
              refine gU_i ⟨fr3, fun p hp => ⟨(z3 p hp).1, (z3 p hp).2.trans ?_⟩⟩
              rw [eb]
              exact bI_congr (nrB_near (q := 0) hst)
            · refine zx_go (pc1 := 98) (l1 := [some (zr 32), some (zi n), some (zi b), some (zi 0)]) (st1 := []) (w1 := wr c R3) g_X6_markAll 2 _ _ _ _ rfl ?_
              have lp98 : ∀ (it : Nat) (q : Int) (R2 : zI), (it : Int) = (cS c : Int) - q → (0 ≤ q ∧ q ≤ (cS c : Int) ∧ (∀ a, a ≠ 50 → a ≠ 51 → R2 a = R a) ∧ ∀ p, pls c p → R2 50 p = bI (nearC c D n p) ∧ R2 51 p = bI (nrB c D rt n b q p)) → ZX m_X6_markAll 98 [some (zr 32), some (zi n), some (zi b), some (zi q)] [] (wr c R2) (gU (fun R2 => (∀ a, a ≠ 50 → a ≠ 51 → R2 a = R a) ∧ ∀ p, pls c p → R2 50 p = bI (nearC c D n p) ∧ R2 51 p = bI (nearR c D rt n p)) c) := by
                refine fun it => Nat.strongRecOn it (fun it ih98 => ?_)
                intro q R2 hn98 hi98
                obtain ⟨q0, q1_v, fr2, z2⟩ := hi98
                refine zx_go (pc1 := 100) (l1 := [some (zr 32), some (zi n), some (zi b), some (zi q)]) (st1 := [zr 32, zi q]) (w1 := wr c R2) g_X6_markAll 2 _ _ _ _ rfl ?_
                refine zx_cvF (As := []) (rest := [zi q]) g_X6_markAll rfl g_X6_all rfl rfl (Nat.le_of_ble_eq_true rfl) (Nat.le_of_ble_eq_true rfl) rfl (by decide) (m_all hg) ?_
                refine zx_cmp g_X6_markAll rfl (by omega) (by omega) (fun (h103 : (cS c : Int) ≤ q) => ?_) (fun (h103 : ¬ ((cS c : Int) ≤ q)) => ?_)
                · refine zx_go (pc1 := 88) (l1 := [some (zr 32), some (zi n), some (zi (b + 1)), some (zi q)]) (st1 := []) (w1 := wr c R2) g_X6_markAll 2 _ _ _ _ rfl ?_
                  refine ih88 (Int.toNat (D 10 0 - (b + 1))) (by omega) (b + 1) R2 (some (zi q)) (by omega) ?_
                  refine ⟨by omega, by omega, fr2, fun p hp => ⟨(z2 p hp).1, (z2 p hp).2.trans (bI_congr ⟨fun ⟨b1, q1_v, y1, y2, y3, y4, y5, y6⟩ => ⟨b1, q1_v, y1, y2, y3, y4, by omega, y6⟩, fun ⟨b1, q1_v, y1, y2, y3, y4, y5, y6⟩ => ⟨b1, q1_v, y1, y2, y3, y4, ?_, y6⟩⟩)⟩⟩
                  have y7 := y3.1
                  have y8 := y3.2
                  omega
                · refine zx_go (pc1 := 108) (l1 := [some (zr 32), some (zi n), some (zi b), some (zi q)]) (st1 := [zi n, zi b]) (w1 := wr c R2) g_X6_markAll 2 _ _ _ _ rfl ?_
                  refine zx_cmp g_X6_markAll rfl (by omega) (by omega) (fun (h108 : b = n) => ?_) (fun (h108 : ¬ (b = n)) => ?_)
                  · refine zx_go (pc1 := 88) (l1 := [some (zr 32), some (zi n), some (zi (b + 1)), some (zi q)]) (st1 := []) (w1 := wr c R2) g_X6_markAll 2 _ _ _ _ rfl ?_
                    refine ih88 (Int.toNat (D 10 0 - (b + 1))) (by omega) (b + 1) R2 (some (zi q)) (by omega) ?_
                    refine ⟨by omega, by omega, fr2, fun p hp => ⟨(z2 p hp).1, (z2 p hp).2.trans (bI_congr ⟨fun ⟨b1, q1_v, y1, y2, y3, y4, y5, y6⟩ => ⟨b1, q1_v, y1, y2, y3, y4, by omega, y6⟩, fun ⟨b1, q1_v, y1, y2, y3, y4, y5, y6⟩ => ⟨b1, q1_v, y1, y2, y3, y4, ?_, y6⟩⟩)⟩⟩
                    have y7 := y3.1
                    have y8 := y3.2
                    omega
                  · have e46 : R2 46 (1728 * b + q) = bI (rt b q) := by rw [fr2 46 (by decide) (by decide)]; exact hrt b q b0 (by omega) ⟨by omega, by omega⟩
                    have r46 := bI_01 (rt b q)
                    refine zx_go (pc1 := 122) (l1 := [some (zr 32), some (zi n), some (zi b), some (zi q)]) (st1 := [zi ((1728 * b) + q), zr 46]) (w1 := wr c R2) g_X6_markAll 7 _ _ _ _ rfl ?_
                    refine gz_bald g_X6_markAll rfl (n := 27648) rfl (by decide) rfl (by decide) (by omega) (by omega) ?_
                    refine zx_if g_X6_markAll rfl (by omega) (fun (h123 : (R2 46 ((1728 * b) + q)) = 0) => ?_) (fun (h123 : ¬ (R2 46 ((1728 * b) + q)) = 0) => ?_)
                    · refine zx_go (pc1 := 98) (l1 := [some (zr 32), some (zi n), some (zi b), some (zi (q + 1))]) (st1 := []) (w1 := wr c R2) g_X6_markAll 2 _ _ _ _ rfl ?_
                      refine ih98 (Int.toNat ((cS c : Int) - (q + 1))) (by omega) (q + 1) R2 (by omega) ?_
                      refine ⟨by omega, by omega, fr2, fun p hp => ⟨(z2 p hp).1, (z2 p hp).2.trans (bI_congr ⟨fun ⟨b1, q1_v, y1, y2, y3, y4, y5, y6⟩ => ⟨b1, q1_v, y1, y2, y3, y4, by omega, y6⟩, fun ⟨b1, q1_v, y1, y2, y3, y4, y5, y6⟩ => ⟨b1, q1_v, y1, y2, y3, y4, ?_, y6⟩⟩)⟩⟩
                      by_cases y : b1 = b ∧ q1_v = q
                      · obtain ⟨w1, w2_v⟩ := y
                        subst w1 w2_v
                        rw [e46, bI_t y4] at h123
                        omega
                      · omega
                    · have hm2 : MDn c D R2 := hm.of (fun a h1 h2 => fr2 a (by omega) (by omega))
                      refine zx_go (pc1 := 134) (l1 := [some (zr 32), some (zi n), some (zi b), some (zi q)]) (st1 := [zi q, zi b, zi n, zr 51, zr 32]) (w1 := wr c R2) g_X6_markAll 6 _ _ _ _ rfl ?_
                      refine gx_cvU (As := [zr 51, zi n, zi b, zi q]) (rest := []) g_X6_markAll rfl g_X6_mark rfl rfl (Nat.le_of_ble_eq_true rfl) (Nat.le_of_ble_eq_true rfl) rfl (by decide) (m_mark51 hD hm2 (show pls c q from ⟨by omega, by omega⟩) n0 (by omega) b0 (by omega)) (fun R134 hR134 => ?_)
                      refine zx_go (pc1 := 98) (l1 := [some (zr 32), some (zi n), some (zi b), some (zi (q + 1))]) (st1 := []) (w1 := wr c R134) g_X6_markAll 2 _ _ _ _ rfl ?_
                      refine ih98 (Int.toNat ((cS c : Int) - (q + 1))) (by omega) (q + 1) R134 (by omega) ?_
                      subst hR134
                      refine ⟨by omega, by omega, fun a h1 h2 => by rw [mks_cell h2]; exact fr2 a h1 h2, fun p hp => ⟨?_, ?_⟩⟩
                      · rw [mks_cell (by decide)]; exact (z2 p hp).1
                      · rw [mks_row hp, (z2 p hp).2, pI_bI]
                        refine bI_congr ⟨fun z => ?_, fun ⟨b1, q1_v, y1, y2, y3, y4, y5, y6⟩ => ?_⟩
                        · rcases z with ⟨b1, q1_v, y1, y2, y3, y4, y5, y6⟩ | z
                          · exact ⟨b1, q1_v, y1, y2, y3, y4, by omega, y6⟩
                          · exact ⟨b, q, b0, h108, ⟨by omega, by omega⟩, bI_ne.mp (by rw [← e46]; exact h123), by omega, z⟩
                        · by_cases y : b1 = b ∧ q1_v = q
                          · obtain ⟨w1, w2_v⟩ := y
                            subst w1 w2_v
                            exact .inr y6
                          · exact .inl ⟨b1, q1_v, y1, y2, y3, y4, by omega, y6⟩
              refine lp98 (Int.toNat ((cS c : Int) - 0)) 0 R3 (by omega) ?_
              exact ⟨by omega, by omega, fr3, z3⟩
          refine lp88 (Int.toNat (D 10 0 - 0)) 0 R1 none (by omega) ?_
          have ek : k = D 10 2 := by omega
          refine ⟨by omega, by omega, fr1, fun p hp => ⟨?_, ?_⟩⟩
          · rw [(z1 p hp).1, ek]; exact bI_congr nrC_near
          · rw [(z1 p hp).2, bI_f]
            rintro ⟨b1, q1_v, y1, y2, y3, y4, y5, y6⟩
            have y7 := y3.1
            omega
        · have nk := hD.2.2.2.2.2.2.1 k k0_v (by omega)
          have e38 : R1 38 k = D 11 k := by rw [fr1 38 (by decide) (by decide)]; exact (hm.2.2.2.1 k k0_v (by omega)).1
          have e41_v : R1 41 k = pk c D k := by rw [fr1 41 (by decide) (by decide)]; exact hpk k k0_v (by omega)
          have pR := pk_R hD k0_v (show k < D 10 2 by omega)
          refine zx_go (pc1 := 45) (l1 := [some (zr 32), some (zi n), some (zi k), none]) (st1 := [zi k, zr 38]) (w1 := wr c R1) g_X6_markAll 3 _ _ _ _ rfl ?_
          refine gz_iald g_X6_markAll rfl (n := 40) rfl (by decide) rfl (by decide) (by omega) (by omega) ?_
          refine zx_go (pc1 := 47) (l1 := [some (zr 32), some (zi n), some (zi k), none]) (st1 := [zi n, zi (R1 38 k)]) (w1 := wr c R1) g_X6_markAll 1 _ _ _ _ rfl ?_
          refine zx_cmp g_X6_markAll rfl (by omega) (by omega) (fun (h47 : (R1 38 k) = n) => ?_) (fun (h47 : ¬ ((R1 38 k) = n)) => ?_)
          · refine zx_go (pc1 := 32) (l1 := [some (zr 32), some (zi n), some (zi (k + 1)), none]) (st1 := []) (w1 := wr c R1) g_X6_markAll 2 _ _ _ _ rfl ?_
            refine ih32 (Int.toNat (D 10 2 - (k + 1))) (by omega) (k + 1) R1 (by omega) ?_
            refine ⟨by omega, by omega, fr1, fun p hp => ⟨(z1 p hp).1.trans (bI_congr ⟨fun ⟨j, j0, j1, j2_v⟩ => ⟨j, j0, by omega, j2_v⟩, fun ⟨j, j0, j1, j2_v, j3_v, j4_v⟩ => ⟨j, j0, ?_, j2_v, j3_v, j4_v⟩⟩), (z1 p hp).2⟩⟩
            by_cases y : j = k
            · subst y
              first | exact absurd (by rw [← e38]; exact h47) j2_v | exact absurd (by rw [← e41_v]; exact h57) j3_v
            · omega
          · refine zx_go (pc1 := 55) (l1 := [some (zr 32), some (zi n), some (zi k), none]) (st1 := [zi k, zr 41]) (w1 := wr c R1) g_X6_markAll 3 _ _ _ _ rfl ?_
            refine gz_iald g_X6_markAll rfl (n := 40) rfl (by decide) rfl (by decide) (by omega) (by omega) ?_
            refine zx_go (pc1 := 57) (l1 := [some (zr 32), some (zi n), some (zi k), none]) (st1 := [zi (-1), zi (R1 41 k)]) (w1 := wr c R1) g_X6_markAll 1 _ _ _ _ rfl ?_
            refine zx_cmp g_X6_markAll rfl (by omega) (by omega) (fun (h57 : (R1 41 k) = (-1)) => ?_) (fun (h57 : ¬ ((R1 41 k) = (-1))) => ?_)
            · refine zx_go (pc1 := 32) (l1 := [some (zr 32), some (zi n), some (zi (k + 1)), none]) (st1 := []) (w1 := wr c R1) g_X6_markAll 2 _ _ _ _ rfl ?_
              refine ih32 (Int.toNat (D 10 2 - (k + 1))) (by omega) (k + 1) R1 (by omega) ?_
              refine ⟨by omega, by omega, fr1, fun p hp => ⟨(z1 p hp).1.trans (bI_congr ⟨fun ⟨j, j0, j1, j2_v⟩ => ⟨j, j0, by omega, j2_v⟩, fun ⟨j, j0, j1, j2_v, j3_v, j4_v⟩ => ⟨j, j0, ?_, j2_v, j3_v, j4_v⟩⟩), (z1 p hp).2⟩⟩
              by_cases y : j = k
              · subst y
                first | exact absurd (by rw [← e38]; exact h47) j2_v | exact absurd (by rw [← e41_v]; exact h57) j3_v
              · omega
            · have nz : pk c D k ≠ -1 := by rw [← e41_v]; exact h57
              have hm1 : MDn c D R1 := hm.of (fun a h1 h2 => fr1 a (by omega) (by omega))
              have mp_v : mpp R1 k = pp c D k := by rw [mpp_D hm1 k0_v (by omega) (by omega) (by omega), if_neg h57, e41_v]; rfl
              refine zx_go (pc1 := 71) (l1 := [some (zr 32), some (zi n), some (zi k), none]) (st1 := [zi k, zr 38, zi n, zr 50, zr 32]) (w1 := wr c R1) g_X6_markAll 7 _ _ _ _ rfl ?_
              refine gz_iald g_X6_markAll rfl (n := 40) rfl (by decide) rfl (by decide) (by omega) (by omega) ?_
              refine zx_go (pc1 := 74) (l1 := [some (zr 32), some (zi n), some (zi k), none]) (st1 := [zi k, zr 32, zi (R1 38 k), zi n, zr 50, zr 32]) (w1 := wr c R1) g_X6_markAll 2 _ _ _ _ rfl ?_
              refine zx_cvF (As := [zi k]) (rest := [zi (R1 38 k), zi n, zr 50, zr 32]) g_X6_markAll rfl g_X6_placeOfPin rfl rfl (Nat.le_of_ble_eq_true rfl) (Nat.le_of_ble_eq_true rfl) rfl (by decide) (m_placeOfPin (by omega) (by omega) (by omega) (by omega)) ?_
              refine gx_cvU (As := [zr 50, zi n, zi (R1 38 k), zi (mpp R1 k)]) (rest := []) g_X6_markAll rfl g_X6_mark rfl rfl (Nat.le_of_ble_eq_true rfl) (Nat.le_of_ble_eq_true rfl) rfl (by decide) (m_mark50 hD hm1 (by rw [mp_v]; exact (pR.2.2 nz).1) n0 (by omega) (by rw [e38]; omega) (by rw [e38]; omega)) (fun R77 hR77 => ?_)
              refine zx_go (pc1 := 32) (l1 := [some (zr 32), some (zi n), some (zi (k + 1)), none]) (st1 := []) (w1 := wr c R77) g_X6_markAll 2 _ _ _ _ rfl ?_
              refine ih32 (Int.toNat (D 10 2 - (k + 1))) (by omega) (k + 1) R77 (by omega) ?_
              subst hR77
              refine ⟨by omega, by omega, fun a h1 h2 => by rw [mks_cell h1]; exact fr1 a h1 h2, fun p hp => ⟨?_, ?_⟩⟩
              · rw [mks_row hp, (z1 p hp).1, pI_bI, mp_v, e38]
                refine bI_congr ⟨fun z => ?_, fun ⟨j, j0, j1, j2_v, j3_v, j4_v⟩ => ?_⟩
                · rcases z with ⟨j, j0, j1, j2_v⟩ | z
                  · exact ⟨j, j0, by omega, j2_v⟩
                  · exact ⟨k, k0_v, by omega, fun y => h47 (by rw [e38]; exact y), nz, z⟩
                · by_cases y : j = k
                  · subst y; exact .inr j4_v
                  · exact .inl ⟨j, j0, by omega, j2_v, j3_v, j4_v⟩
              · rw [mks_cell (by decide)]; exact (z1 p hp).2
      refine lp32 (Int.toNat (D 10 2 - 0)) 0 R0 (by omega) ?_
      refine ⟨by omega, by omega, fr0, fun p hp => ?_⟩
      obtain ⟨y1, y2⟩ := z0 p hp.1 (by have := hp.2; omega)
      exact ⟨by rw [y1, bI_f]; rintro ⟨j, j0, j1, _⟩; omega, y2⟩
    · refine zx_go (pc1 := 16) (l1 := [some (zr 32), some (zi n), some (zi i), none]) (st1 := [zi 0, zi i, zr 50]) (w1 := wr c R0) g_X6_markAll 4 _ _ _ _ rfl ?_
      refine gz_bast g_X6_markAll rfl (n := 1728) rfl (by decide) (by refine ⟨?_, ?_, ?_, ?_, ?_⟩ <;> simp) (by decide) (by omega) (by omega) (.inl rfl) ?_
      refine zx_go (pc1 := 23) (l1 := [some (zr 32), some (zi n), some (zi i), none]) (st1 := [zi 0, zi i, zr 51]) (w1 := wr c (zU R0 50 i 0)) g_X6_markAll 4 _ _ _ _ rfl ?_
      refine gz_bast g_X6_markAll rfl (n := 1728) rfl (by decide) (by refine ⟨?_, ?_, ?_, ?_, ?_⟩ <;> simp) (by decide) (by omega) (by omega) (.inl rfl) ?_
      refine zx_go (pc1 := 2) (l1 := [some (zr 32), some (zi n), some (zi (i + 1)), none]) (st1 := []) (w1 := wr c (zU (zU R0 50 i 0) 51 i 0)) g_X6_markAll 2 _ _ _ _ rfl ?_
      refine ih2 (Int.toNat ((cS c : Int) - (i + 1))) (by omega) (i + 1) (zU (zU R0 50 i 0) 51 i 0) (by omega) ?_
      refine ⟨by omega, by omega, fun a h1 h2 => by rw [zU_cell h2, zU_cell h1]; exact fr0 a h1 h2, fun p a b => ?_⟩
      rw [(zU2 (by decide)).1, (zU2 (by decide)).2]
      by_cases e : p = i
      · rw [e, up1_s, up1_s]; exact ⟨rfl, rfl⟩
      · rw [up1_n e, up1_n e]; exact z0 p a (by omega)
  refine lp2 (Int.toNat ((cS c : Int) - 0)) 0 R (by omega) ?_
  exact ⟨by omega, by omega, fun _ _ _ => rfl, fun p a b => by omega⟩

