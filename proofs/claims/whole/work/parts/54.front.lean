/-! ===== contracts (4): the front ===== -/
def HP (c : zC) (R : zI) : Prop := HW (cS c : Int) (R 27) (R 28) (R 25 3) ∧ HO (R 27) (R 26) (R 25 3)
def cR (c : zC) (R : zI) : Prop := ∀ q, 0 ≤ q → q < (cS c : Int) → inR (R 26 q)
theorem put_rows {R1 R2 : zI} {p i : Int} (h : R2 = zU (zU R1 27 i p) 28 p i) : R2 27 = up1 (R1 27) i p ∧ R2 28 = up1 (R1 28) p i ∧ ∀ a, a ≠ 27 → a ≠ 28 → R2 a = R1 a := by
  subst h
  refine ⟨?_, ?_, fun a h1 h2 => ?_⟩
  · rw [zU_cell (by decide), zU_row]
  · rw [zU_row, zU_cell (by decide)]
  · rw [zU_cell h2, zU_cell h1]
/-- what holds while a hole goes up or down -/
def SK (c : zC) (R R1 : zI) (t pl : Int) : Prop := (∀ a, a ≠ 27 → a ≠ 28 → R1 a = R a) ∧ HX (cS c : Int) (R1 27) (R1 28) (R1 25 3) t pl ∧ HY (R1 27) (R1 26) (R1 25 3) t ∧ ∀ q, 0 ≤ q → q < (cS c : Int) → q ≠ pl → (R1 28 q = -1 ↔ R 28 q = -1)
theorem sk_step {c : zC} {R R1 R2 : zI} {t pl j : Int} (H : SK c R R1 t pl) (h : R2 = zU (zU R1 27 t (R1 27 j)) 28 (R1 27 j) t) (j0 : 0 ≤ j) (j1 : j < R1 25 3) (jn : j ≠ t) (hy : HY (up1 (R1 27) t (R1 27 j)) (R1 26) (R1 25 3) j) : SK c R R2 j pl := by
  obtain ⟨h1, h2, h3, h4⟩ := H
  obtain ⟨e1, e2, e3⟩ := put_rows h
  have m := hx_move h2 j0 j1 jn
  refine ⟨fun a a1 a2 => (e3 a a1 a2).trans (h1 a a1 a2), ?_, ?_, ?_⟩
  · rw [e1, e2, e3 25 (by decide) (by decide)]
    exact m.1
  · rw [e1, e3 25 (by decide) (by decide), e3 26 (by decide) (by decide)]
    exact hy
  · intro q q0 q1 q2
    rw [e2, m.2 q q0 q1 q2]
    exact h4 q q0 q1 q2
theorem sk_end {c : zC} {R R1 R2 : zI} {t pl : Int} (H : SK c R R1 t pl) (h : R2 = zU (zU R1 27 t pl) 28 pl t) (hu : HU (R1 27) (R1 26) (R1 25 3) t pl) (hd : HD (R1 27) (R1 26) t pl) : (∀ a, a ≠ 27 → a ≠ 28 → R2 a = R a) ∧ HP c R2 ∧ ∀ q, 0 ≤ q → q < (cS c : Int) → (R2 28 q = -1 ↔ (R 28 q = -1 ∧ q ≠ pl)) := by
  obtain ⟨h1, h2, h3, h4⟩ := H
  obtain ⟨e1, e2, e3⟩ := put_rows h
  obtain ⟨m1, m2, m3⟩ := hx_end h2 h3 hu hd
  refine ⟨fun a a1 a2 => (e3 a a1 a2).trans (h1 a a1 a2), ⟨?_, ?_⟩, ?_⟩
  · rw [e1, e2, e3 25 (by decide) (by decide)]
    exact m1
  · rw [e1, e3 25 (by decide) (by decide), e3 26 (by decide) (by decide)]
    exact m2
  · intro q q0 q1
    rw [e2, m3 q q0 q1]
    exact ⟨fun z => ⟨(h4 q q0 q1 z.2).mp z.1, z.2⟩, fun z => ⟨(h4 q q0 q1 z.2).mpr z.1, z.2⟩⟩

set_option maxHeartbeats 1000000 in
theorem s_sink {c : zC} {R : zI} {pl : Int} (hg : Geo c) (hx : SK c R R 0 pl) (hd : HD (R 27) (R 26) 0 pl) (cr : cR c R) : MZ m_X1_sink [zr 25, zi pl] (wr c R) (gU (fun R2 => (∀ a, a ≠ 27 → a ≠ 28 → R2 a = R a) ∧ HP c R2 ∧ ∀ q, 0 ≤ q → q < (cS c : Int) → (R2 28 q = -1 ↔ (R 28 q = -1 ∧ q ≠ pl))) c) := by
  refine MZ.of g_X1_sink ?_
  show ZX m_X1_sink 0 [some (zr 25), some (zi pl), none, none] [] (wr c R) _
  have g3 := hg.S
  have xx2 := hx.2.1.2.1
  have xx1 := hx.2.1.1
  refine zx_go (pc1 := 2) (l1 := [some (zr 25), some (zi pl), some (zi 0), none]) (st1 := []) (w1 := wr c R) g_X1_sink 2 _ _ _ _ rfl ?_
  have lp2 : ∀ (it : Nat) (t : Int) (R1 : zI) (o3 : Option zV), (it : Int) = R 25 3 - t → (SK c R R1 t pl ∧ HD (R1 27) (R1 26) t pl) → ZX m_X1_sink 2 [some (zr 25), some (zi pl), some (zi t), o3] [] (wr c R1) (gU (fun R2 => (∀ a, a ≠ 27 → a ≠ 28 → R2 a = R a) ∧ HP c R2 ∧ ∀ q, 0 ≤ q → q < (cS c : Int) → (R2 28 q = -1 ↔ (R 28 q = -1 ∧ q ≠ pl))) c) := by
    refine fun it => Nat.strongRecOn it (fun it ih2 => ?_)
    intro t R1 o3 hn2 hi2
    obtain ⟨sk, hd1⟩ := hi2
    have e25 : R1 25 3 = R 25 3 := by rw [sk.1 25 (by decide) (by decide)]
    have cr1 : ∀ q, 0 ≤ q → q < (cS c : Int) → inR (R1 26 q) := by rw [sk.1 26 (by decide) (by decide)]; exact cr
    obtain ⟨x1, x2, x3, x4, x5, x6, x7⟩ := sk.2.1
    refine zx_go (pc1 := 11) (l1 := [some (zr 25), some (zi pl), some (zi t), o3]) (st1 := [zi (R1 25 3), zi ((2 * t) + 1)]) (w1 := wr c R1) g_X1_sink 7 _ _ _ _ rfl ?_
    refine zx_cmp g_X1_sink rfl (by omega) (by omega) (fun (h11 : (R1 25 3) ≤ ((2 * t) + 1)) => ?_) (fun (h11 : ¬ ((R1 25 3) ≤ ((2 * t) + 1))) => ?_)
    · refine zx_go (pc1 := 90) (l1 := [some (zr 25), some (zi pl), some (zi t), o3]) (st1 := [zi t, zi pl, zr 25]) (w1 := wr c R1) g_X1_sink 3 _ _ _ _ rfl ?_
      refine gx_cvU (As := [zi pl, zi t]) (rest := []) g_X1_sink rfl g_X1_put rfl rfl (Nat.le_of_ble_eq_true rfl) (Nat.le_of_ble_eq_true rfl) rfl (by decide) (s_put hg (by omega) (by omega) (by omega) (by omega)) (fun R90 hR90 => ?_)
      refine zx_vret g_X1_sink rfl ?_
      refine gU_i (sk_end sk hR90 (fun i i0 i1 i2 => ?_) hd1)
      first | omega | exact nbef_trans (j3 i i0 i1 i2) h65
    · refine zx_go (pc1 := 20) (l1 := [some (zr 25), some (zi pl), some (zi t), some (zi ((2 * t) + 1))]) (st1 := []) (w1 := wr c R1) g_X1_sink 6 _ _ _ _ rfl ?_
      have ct54 : ∀ (j : Int), (0 < j ∧ j < R1 25 3 ∧ (j - 1) / 2 = t ∧ ∀ i, 0 < i → i < R1 25 3 → (i - 1) / 2 = t → ¬ bef (R1 26) (R1 27 i) (R1 27 j)) → ZX m_X1_sink 54 [some (zr 25), some (zi pl), some (zi t), some (zi j)] [] (wr c R1) (gU (fun R2 => (∀ a, a ≠ 27 → a ≠ 28 → R2 a = R a) ∧ HP c R2 ∧ ∀ q, 0 ≤ q → q < (cS c : Int) → (R2 28 q = -1 ↔ (R 28 q = -1 ∧ q ≠ pl))) c) := by
        intro j hi54
        obtain ⟨j0, j1, j2, j3⟩ := hi54
        have k3 := x6 j (by omega) (by omega) (by omega)
        have w3 := cr1 _ k3.1 k3.2.1
        have w4 := cr1 pl x4 x5
        refine zx_go (pc1 := 60) (l1 := [some (zr 25), some (zi pl), some (zi t), some (zi j)]) (st1 := [zi j, zr 27, zr 25]) (w1 := wr c R1) g_X1_sink 4 _ _ _ _ rfl ?_
        refine gz_iald g_X1_sink rfl (n := cS c) rfl (by decide) rfl (by have := hg.S; omega) (by omega) (by omega) ?_
        refine zx_go (pc1 := 62) (l1 := [some (zr 25), some (zi pl), some (zi t), some (zi j)]) (st1 := [zi pl, zi (R1 27 j), zr 25]) (w1 := wr c R1) g_X1_sink 1 _ _ _ _ rfl ?_
        refine zx_cvF (As := [zi (R1 27 j), zi pl]) (rest := []) g_X1_sink rfl g_X1_isBefore rfl rfl (Nat.le_of_ble_eq_true rfl) (Nat.le_of_ble_eq_true rfl) rfl (by decide) (s_isBefore hg (by omega) (by omega) (by omega) (by omega) (by omega) (by omega)) ?_
        refine zx_ifne g_X1_sink rfl (fun (h65 : (bef (R1 26) (R1 27 j) pl)) => ?_) (fun (h65 : ¬ (bef (R1 26) (R1 27 j) pl)) => ?_)
        · refine zx_go (pc1 := 77) (l1 := [some (zr 25), some (zi pl), some (zi t), some (zi j)]) (st1 := [zi j, zr 27, zr 25]) (w1 := wr c R1) g_X1_sink 4 _ _ _ _ rfl ?_
          refine gz_iald g_X1_sink rfl (n := cS c) rfl (by decide) rfl (by have := hg.S; omega) (by omega) (by omega) ?_
          refine zx_go (pc1 := 79) (l1 := [some (zr 25), some (zi pl), some (zi t), some (zi j)]) (st1 := [zi t, zi (R1 27 j), zr 25]) (w1 := wr c R1) g_X1_sink 1 _ _ _ _ rfl ?_
          refine gx_cvU (As := [zi (R1 27 j), zi t]) (rest := []) g_X1_sink rfl g_X1_put rfl rfl (Nat.le_of_ble_eq_true rfl) (Nat.le_of_ble_eq_true rfl) rfl (by decide) (s_put hg (by omega) (by omega) (by omega) (by omega)) (fun R79 hR79 => ?_)
          refine zx_go (pc1 := 2) (l1 := [some (zr 25), some (zi pl), some (zi j), some (zi j)]) (st1 := []) (w1 := wr c R79) g_X1_sink 3 _ _ _ _ rfl ?_
          refine ih2 (Int.toNat (R 25 3 - j)) (by omega) j R79 (some (zi j)) (by omega) ?_
          have dn := hx_dn sk.2.2.1 j0 j1 j2 j3 h65
          have st := sk_step sk hR79 (by omega) (by omega) (by omega) dn.1
          refine ⟨st, ?_⟩
          obtain ⟨e1, e2, e3⟩ := put_rows hR79
          rw [e1, e3 26 (by decide) (by decide)]
          exact dn.2
        · refine zx_go (pc1 := 90) (l1 := [some (zr 25), some (zi pl), some (zi t), some (zi j)]) (st1 := [zi t, zi pl, zr 25]) (w1 := wr c R1) g_X1_sink 4 _ _ _ _ rfl ?_
          refine gx_cvU (As := [zi pl, zi t]) (rest := []) g_X1_sink rfl g_X1_put rfl rfl (Nat.le_of_ble_eq_true rfl) (Nat.le_of_ble_eq_true rfl) rfl (by decide) (s_put hg (by omega) (by omega) (by omega) (by omega)) (fun R90 hR90 => ?_)
          refine zx_vret g_X1_sink rfl ?_
          refine gU_i (sk_end sk hR90 (fun i i0 i1 i2 => ?_) hd1)
          first | omega | exact nbef_trans (j3 i i0 i1 i2) h65
      refine zx_go (pc1 := 27) (l1 := [some (zr 25), some (zi pl), some (zi t), some (zi ((2 * t) + 1))]) (st1 := [zi (R1 25 3), zi (((2 * t) + 1) + 1)]) (w1 := wr c R1) g_X1_sink 5 _ _ _ _ rfl ?_
      refine zx_cmp g_X1_sink rfl (by omega) (by omega) (fun (h27 : (R1 25 3) ≤ (((2 * t) + 1) + 1)) => ?_) (fun (h27 : ¬ ((R1 25 3) ≤ (((2 * t) + 1) + 1))) => ?_)
      · refine ct54 ((2 * t) + 1) ?_
        refine ⟨by omega, by omega, by omega, fun i i0 i1 i2 => ?_⟩
        by_cases e : i = 2 * t + 1
        · rw [e]
          first | exact bef_irr | exact bef_asymm h48
        · have e2 : i = 2 * t + 1 + 1 := by omega
          rw [e2]
          first | exact bef_irr | exact h48 | omega
      · have k1 := x6 (2 * t + 1) (by omega) (by omega) (by omega)
        have k2 := x6 (2 * t + 1 + 1) (by omega) (by omega) (by omega)
        have w1 := cr1 _ k1.1 k1.2.1
        have w2 := cr1 _ k2.1 k2.2.1
        refine zx_go (pc1 := 38) (l1 := [some (zr 25), some (zi pl), some (zi t), some (zi ((2 * t) + 1))]) (st1 := [zi (((2 * t) + 1) + 1), zr 27, zr 25]) (w1 := wr c R1) g_X1_sink 6 _ _ _ _ rfl ?_
        refine gz_iald g_X1_sink rfl (n := cS c) rfl (by decide) rfl (by have := hg.S; omega) (by omega) (by omega) ?_
        refine zx_go (pc1 := 44) (l1 := [some (zr 25), some (zi pl), some (zi t), some (zi ((2 * t) + 1))]) (st1 := [zi ((2 * t) + 1), zr 27, zi (R1 27 (((2 * t) + 1) + 1)), zr 25]) (w1 := wr c R1) g_X1_sink 3 _ _ _ _ rfl ?_
        refine gz_iald g_X1_sink rfl (n := cS c) rfl (by decide) rfl (by have := hg.S; omega) (by omega) (by omega) ?_
        refine zx_cvF (As := [zi (R1 27 (((2 * t) + 1) + 1)), zi (R1 27 ((2 * t) + 1))]) (rest := []) g_X1_sink rfl g_X1_isBefore rfl rfl (Nat.le_of_ble_eq_true rfl) (Nat.le_of_ble_eq_true rfl) rfl (by decide) (s_isBefore hg (by omega) (by omega) (by omega) (by omega) (by omega) (by omega)) ?_
        refine zx_ifeq g_X1_sink rfl (fun (h48 : ¬ (bef (R1 26) (R1 27 (((2 * t) + 1) + 1)) (R1 27 ((2 * t) + 1)))) => ?_) (fun (h48 : (bef (R1 26) (R1 27 (((2 * t) + 1) + 1)) (R1 27 ((2 * t) + 1)))) => ?_)
        · refine ct54 ((2 * t) + 1) ?_
          refine ⟨by omega, by omega, by omega, fun i i0 i1 i2 => ?_⟩
          by_cases e : i = 2 * t + 1
          · rw [e]
            first | exact bef_irr | exact bef_asymm h48
          · have e2 : i = 2 * t + 1 + 1 := by omega
            rw [e2]
            first | exact bef_irr | exact h48 | omega
        · refine zx_go (pc1 := 54) (l1 := [some (zr 25), some (zi pl), some (zi t), some (zi (((2 * t) + 1) + 1))]) (st1 := []) (w1 := wr c R1) g_X1_sink 1 _ _ _ _ rfl ?_
          refine ct54 (((2 * t) + 1) + 1) ?_
          refine ⟨by omega, by omega, by omega, fun i i0 i1 i2 => ?_⟩
          by_cases e : i = 2 * t + 1
          · rw [e]
            first | exact bef_irr | exact bef_asymm h48
          · have e2 : i = 2 * t + 1 + 1 := by omega
            rw [e2]
            first | exact bef_irr | exact h48 | omega
  refine lp2 (Int.toNat (R 25 3 - 0)) 0 R none (by omega) ?_
  exact ⟨hx, hd⟩

set_option maxHeartbeats 1000000 in
theorem s_take {c : zC} {R : zI} (hg : Geo c) (hp : HP c R) (cr : cR c R) : MZ m_X1_take [zr 25] (wr c R) (gR (fun v R2 => (∀ a, a ≠ 25 → a ≠ 27 → a ≠ 28 → R2 a = R a) ∧ HP c R2 ∧ ((v = -1 ∧ ∀ q, 0 ≤ q → q < (cS c : Int) → R 28 q = -1) ∨ (0 ≤ v ∧ v < (cS c : Int) ∧ R 28 v ≠ -1 ∧ (∀ q, 0 ≤ q → q < (cS c : Int) → R 28 q ≠ -1 → ¬ bef (R 26) q v) ∧ ∀ q, 0 ≤ q → q < (cS c : Int) → (R2 28 q ≠ -1 ↔ (R 28 q ≠ -1 ∧ q ≠ v))))) c) := by
  refine MZ.of g_X1_take ?_
  show ZX m_X1_take 0 [some (zr 25), none] [] (wr c R) _
  have g3 := hg.S
  obtain ⟨a1, a2, a3, a4⟩ := hp.1
  refine zx_go (pc1 := 4) (l1 := [some (zr 25), none]) (st1 := [zi (R 25 3)]) (w1 := wr c R) g_X1_take 2 _ _ _ _ rfl ?_
  refine zx_if g_X1_take rfl (by omega) (fun (h4 : (R 25 3) ≠ 0) => ?_) (fun (h4 : ¬ (R 25 3) ≠ 0) => ?_)
  · have f0 := a3 0 (by omega) (by omega)
    have mn : ∀ q, 0 ≤ q → q < (cS c : Int) → R 28 q ≠ -1 → ¬ bef (R 26) q (R 27 0) := fun q q0 q1 q2 => by
      obtain ⟨z1, z2, z3⟩ := (a4 q q0 q1).resolve_left q2
      have := ho_min hp.1 hp.2 _ (R 28 q) rfl z1 z2
      rw [z3] at this
      exact this
    refine zx_go (pc1 := 14) (l1 := [some (zr 25), none]) (st1 := [zi 0, zr 27]) (w1 := wr c R) g_X1_take 3 _ _ _ _ rfl ?_
    refine gz_iald g_X1_take rfl (n := cS c) rfl (by decide) rfl (by have := hg.S; omega) (by omega) (by omega) ?_
    refine zx_go (pc1 := 22) (l1 := [some (zr 25), some (zi (R 27 0))]) (st1 := [zi (-1), zi (R 27 0), zr 28]) (w1 := wr c R) g_X1_take 5 _ _ _ _ rfl ?_
    refine gz_iast g_X1_take rfl (n := cS c) rfl (by decide) (by refine ⟨?_, ?_, ?_, ?_, ?_⟩ <;> simp) (by have := hg.S; omega) (by omega) (by omega) ?_
    refine zx_go (pc1 := 30) (l1 := [some (zr 25), some (zi (R 27 0))]) (st1 := [zi (((zU R 28 (R 27 0) (-1)) 25 3) - 1), zr 25]) (w1 := wr c (zU R 28 (R 27 0) (-1))) g_X1_take 5 _ _ _ _ rfl ?_
    refine gz_put 3 g_X1_take rfl rfl rfl (by decide) rfl (by refine ⟨?_, ?_, ?_, ?_, ?_⟩ <;> simp) ?_
    generalize hR9 : zU (zU R 28 (R 27 0) (-1)) 25 3 (((zU R 28 (R 27 0) (-1)) 25 3) - 1) = R9
    have r27 : R9 27 = R 27 := by rw [← hR9, zU_cell (by decide), zU_cell (by decide)]
    have r26 : R9 26 = R 26 := by rw [← hR9, zU_cell (by decide), zU_cell (by decide)]
    have r28 : R9 28 = up1 (R 28) (R 27 0) (-1) := by rw [← hR9, zU_cell (by decide), zU_row]
    have r25 : R9 25 3 = R 25 3 - 1 := by rw [← hR9, zU_same, zU_cell (by decide)]
    have ro : ∀ a, a ≠ 25 → a ≠ 28 → R9 a = R a := fun a b d => by rw [← hR9, zU_cell b, zU_cell d]
    have r29 : R9 27 (R9 25 3) = R 27 (R 25 3 - 1) := by rw [r27, r25]
    refine zx_go (pc1 := 37) (l1 := [some (zr 25), some (zi (R 27 0))]) (st1 := [zi (R9 25 3)]) (w1 := wr c R9) g_X1_take 2 _ _ _ _ rfl ?_
    refine zx_if g_X1_take rfl (by omega) (fun (h37 : (R9 25 3) ≤ 0) => ?_) (fun (h37 : ¬ (R9 25 3) ≤ 0) => ?_)
    · refine zx_go (pc1 := 54) (l1 := [some (zr 25), some (zi (R 27 0))]) (st1 := [zi (R 27 0)]) (w1 := wr c R9) g_X1_take 1 _ _ _ _ rfl ?_
      refine zx_iret g_X1_take rfl (.inl rfl) ?_
      refine gR_i ⟨fun a b1 b2 b3 => ?_, ?_, .inr ⟨f0.1, f0.2.1, by omega, mn, fun q q0 q1 => ?_⟩⟩
      · exact ro a b1 b3
      · have o := hx_one (co := R 26) hp.1 (by omega)
        unfold HP
        rw [r27, r28, r25, r26]
        exact o
      · rw [r28]
        by_cases e : q = R 27 0
        · rw [e, up1_s]
          exact ⟨fun z => absurd rfl z, fun z => absurd rfl z.2⟩
        · rw [up1_n e]
          exact ⟨fun z => ⟨z, e⟩, fun z => z.1⟩
    · have ho := hx_out hp.1 hp.2 (by omega)
      have hcr : cR c R9 := by unfold cR; rw [r26]; exact cr
      have hsk : SK c R9 R9 0 (R9 27 (R9 25 3)) := by
        refine ⟨fun _ _ _ => rfl, ?_, ?_, fun _ _ _ _ => Iff.rfl⟩
        · rw [r29, r27, r28, r25]; exact ho.1
        · rw [r27, r26, r25]; exact ho.2.1
      have hhd : HD (R9 27) (R9 26) 0 (R9 27 (R9 25 3)) := fun z => absurd z (by decide)
      have ll := a3 (R 25 3 - 1) (by omega) (by omega)
      refine zx_go (pc1 := 49) (l1 := [some (zr 25), some (zi (R 27 0))]) (st1 := [zi (R9 25 3), zr 27, zr 25]) (w1 := wr c R9) g_X1_take 5 _ _ _ _ rfl ?_
      refine gz_iald g_X1_take rfl (n := cS c) rfl (by decide) rfl (by have := hg.S; omega) (by omega) (by omega) ?_
      refine gx_cvU (As := [zi (R9 27 (R9 25 3))]) (rest := []) g_X1_take rfl g_X1_sink rfl rfl (Nat.le_of_ble_eq_true rfl) (Nat.le_of_ble_eq_true rfl) rfl (by decide) (s_sink hg hsk hhd hcr) (fun R50 hR50 => ?_)
      refine zx_go (pc1 := 54) (l1 := [some (zr 25), some (zi (R 27 0))]) (st1 := [zi (R 27 0)]) (w1 := wr c R50) g_X1_take 1 _ _ _ _ rfl ?_
      refine zx_iret g_X1_take rfl (.inl rfl) ?_
      refine gR_i ⟨fun a b1 b2 b3 => ?_, ?_, .inr ⟨f0.1, f0.2.1, by omega, mn, fun q q0 q1 => ?_⟩⟩
      · exact (hR50.1 a b2 b3).trans (ro a b1 b3)
      · exact hR50.2.1
      · have z := hR50.2.2 q q0 q1
        rw [r28, r29] at z
        by_cases e : q = R 27 0
        · rw [e, up1_s] at z
          rw [e]
          refine ⟨fun y => absurd (z.mpr ⟨rfl, fun x => ?_⟩) y, fun y => absurd rfl y.2⟩
          have := f0.2.2
          rw [x, ll.2.2] at this
          omega
        · rw [up1_n e] at z
          constructor
          · intro y
            refine ⟨fun x => y (z.mpr ⟨x, fun w => ?_⟩), e⟩
            rw [w, ll.2.2] at x
            omega
          · intro y x
            exact y.1 (z.mp x).1
  · refine zx_go (pc1 := 8) (l1 := [some (zr 25), none]) (st1 := [zi (-1)]) (w1 := wr c R) g_X1_take 1 _ _ _ _ rfl ?_
    refine zx_iret g_X1_take rfl (.inl rfl) ?_
    refine gR_i ⟨fun _ _ _ _ => rfl, hp, .inl ⟨rfl, fun q q0 q1 => ?_⟩⟩
    rcases a4 q q0 q1 with z | z
    · exact z
    · omega

set_option maxHeartbeats 1000000 in
theorem s_offer {c : zC} {R : zI} {p v : Int} (hg : Geo c) (h0 : 0 ≤ p) (h1 : p < (cS c : Int)) (vr : inR v) (hp : HP c R) (cr : cR c R) : MZ m_X1_offer [zr 25, zi p, zi v] (wr c R) (gU (fun R2 => (∀ a, a ≠ 25 → a ≠ 26 → a ≠ 27 → a ≠ 28 → R2 a = R a) ∧ HP c R2 ∧ (R 26 p ≤ v → R2 = R) ∧ (v < R 26 p → R2 26 = up1 (R 26) p v ∧ ∀ q, 0 ≤ q → q < (cS c : Int) → (R2 28 q = -1 ↔ (R 28 q = -1 ∧ q ≠ p)))) c) := by
  refine MZ.of g_X1_offer ?_
  show ZX m_X1_offer 0 [some (zr 25), some (zi p), some (zi v), none] [] (wr c R) _
  have g3 := hg.S
  obtain ⟨a1, a2, a3, a4⟩ := hp.1
  have crp := cr p h0 h1
  have a4p := a4 p h0 h1
  refine zx_go (pc1 := 6) (l1 := [some (zr 25), some (zi p), some (zi v), none]) (st1 := [zi p, zr 26, zi v]) (w1 := wr c R) g_X1_offer 4 _ _ _ _ rfl ?_
  refine gz_iald g_X1_offer rfl (n := cS c) rfl (by decide) rfl (by have := hg.S; omega) (by omega) (by omega) ?_
  refine zx_cmp g_X1_offer rfl (by omega) (by omega) (fun (h7 : v < (R 26 p)) => ?_) (fun (h7 : ¬ (v < (R 26 p))) => ?_)
  · refine zx_go (pc1 := 16) (l1 := [some (zr 25), some (zi p), some (zi v), none]) (st1 := [zi p, zr 28]) (w1 := wr c R) g_X1_offer 3 _ _ _ _ rfl ?_
    refine gz_iald g_X1_offer rfl (n := cS c) rfl (by decide) rfl (by have := hg.S; omega) (by omega) (by omega) ?_
    refine zx_go (pc1 := 18) (l1 := [some (zr 25), some (zi p), some (zi v), none]) (st1 := [zi (-1), zi (R 28 p)]) (w1 := wr c R) g_X1_offer 1 _ _ _ _ rfl ?_
    refine zx_cmp g_X1_offer rfl (by omega) (by omega) (fun (h18 : (R 28 p) ≠ (-1)) => ?_) (fun (h18 : ¬ ((R 28 p) ≠ (-1))) => ?_)
    · refine zx_go (pc1 := 33) (l1 := [some (zr 25), some (zi p), some (zi v), none]) (st1 := [zi p, zr 28]) (w1 := wr c R) g_X1_offer 3 _ _ _ _ rfl ?_
      refine gz_iald g_X1_offer rfl (n := cS c) rfl (by decide) rfl (by have := hg.S; omega) (by omega) (by omega) ?_
      refine zx_go (pc1 := 41) (l1 := [some (zr 25), some (zi p), some (zi v), some (zi (R 28 p))]) (st1 := [zi ((cS c : Nat) : Int), zi (R 28 p)]) (w1 := wr c R) g_X1_offer 5 _ _ _ _ rfl ?_
      refine zx_cmp g_X1_offer rfl (by omega) (by omega) (fun (h41 : (R 28 p) < ((cS c : Nat) : Int)) => ?_) (fun (h41 : ¬ ((R 28 p) < ((cS c : Nat) : Int))) => ?_)
      · refine zx_go (pc1 := 50) (l1 := [some (zr 25), some (zi p), some (zi v), some (zi (R 28 p))]) (st1 := [zi (R 25 3), zi (R 28 p)]) (w1 := wr c R) g_X1_offer 3 _ _ _ _ rfl ?_
        refine zx_cmp g_X1_offer rfl (by omega) (by omega) (fun (h50 : (R 28 p) ≠ (R 25 3)) => ?_) (fun (h50 : ¬ ((R 28 p) ≠ (R 25 3))) => ?_)
        · refine zx_go (pc1 := 69) (l1 := [some (zr 25), some (zi p), some (zi v), some (zi (R 28 p))]) (st1 := [zi v, zi p, zr 26]) (w1 := wr c R) g_X1_offer 4 _ _ _ _ rfl ?_
          refine gz_iast g_X1_offer rfl (n := cS c) rfl (by decide) (by refine ⟨?_, ?_, ?_, ?_, ?_⟩ <;> simp) (by have := hg.S; omega) (by omega) (by omega) ?_
          generalize hR9 : zU R 26 p v = R9
          have r27 : R9 27 = R 27 := by rw [← hR9, zU_cell (by decide)]
          have r28 : R9 28 = R 28 := by rw [← hR9, zU_cell (by decide)]
          have r26 : R9 26 = up1 (R 26) p v := by rw [← hR9, zU_row]
          have r25 : R9 25 3 = R 25 3 := by rw [← hR9, zU_cell (by decide)]
          have ro : ∀ a, a ≠ 25 → a ≠ 26 → R9 a = R a := fun a b d => by rw [← hR9, zU_cell d]
          have hn := hx_in hp.1 hp.2 h0 h1 h18 h7
          have cr9 : cR c R9 := by
            unfold cR
            rw [r26]
            intro q q0 q1
            by_cases e : q = p
            · rw [e, up1_s]; exact vr
            · rw [up1_n e]; exact cr q q0 q1
          have lp70 : ∀ (it : Nat) (t : Int) (R1 : zI), (it : Int) = t → (SK c R9 R1 t p ∧ HU (R1 27) (R1 26) (R1 25 3) t p) → ZX m_X1_offer 70 [some (zr 25), some (zi p), some (zi v), some (zi t)] [] (wr c R1) (gU (fun R2 => (∀ a, a ≠ 25 → a ≠ 26 → a ≠ 27 → a ≠ 28 → R2 a = R a) ∧ HP c R2 ∧ (R 26 p ≤ v → R2 = R) ∧ (v < R 26 p → R2 26 = up1 (R 26) p v ∧ ∀ q, 0 ≤ q → q < (cS c : Int) → (R2 28 q = -1 ↔ (R 28 q = -1 ∧ q ≠ p)))) c) := by
            refine fun it => Nat.strongRecOn it (fun it ih70 => ?_)
            intro t R1 hn70 hi70
            obtain ⟨sk, hu1⟩ := hi70
            have cr1 : ∀ q, 0 ≤ q → q < (cS c : Int) → inR (R1 26 q) := by rw [sk.1 26 (by decide) (by decide)]; exact cr9
            obtain ⟨x1, x2, x3, x4, x5, x6, x7⟩ := sk.2.1
            skip
            refine zx_go (pc1 := 71) (l1 := [some (zr 25), some (zi p), some (zi v), some (zi t)]) (st1 := [zi t]) (w1 := wr c R1) g_X1_offer 1 _ _ _ _ rfl ?_
            refine zx_if g_X1_offer rfl (by omega) (fun (h71 : t ≤ 0) => ?_) (fun (h71 : ¬ t ≤ 0) => ?_)
            · refine zx_go (pc1 := 119) (l1 := [some (zr 25), some (zi p), some (zi v), some (zi t)]) (st1 := [zi t, zi p, zr 25]) (w1 := wr c R1) g_X1_offer 3 _ _ _ _ rfl ?_
              refine gx_cvU (As := [zi p, zi t]) (rest := []) g_X1_offer rfl g_X1_put rfl rfl (Nat.le_of_ble_eq_true rfl) (Nat.le_of_ble_eq_true rfl) rfl (by decide) (s_put hg (by omega) (by omega) (by omega) (by omega)) (fun R119 hR119 => ?_)
              refine zx_vret g_X1_offer rfl ?_
              have e := sk_end sk hR119 hu1 (by first | exact fun _ => h89 | exact fun z => absurd z (by omega))
              refine gU_i ⟨fun a b1 b2 b3 b4 => (e.1 a b3 b4).trans (ro a b1 b2), e.2.1, fun z => absurd z (by omega), fun _ => ⟨(e.1 26 (by decide) (by decide)).trans r26, fun q q0 q1 => ?_⟩⟩
              rw [e.2.2 q q0 q1, r28]
            · have k1 := x6 ((t - 1) / 2) (by omega) (by omega) (by omega)
              have w1 := cr1 _ k1.1 k1.2.1
              have w2 := cr1 p h0 h1
              refine zx_go (pc1 := 84) (l1 := [some (zr 25), some (zi p), some (zi v), some (zi t)]) (st1 := [zi 2, zi (t - 1), zr 27, zi p, zr 25]) (w1 := wr c R1) g_X1_offer 8 _ _ _ _ rfl ?_
              refine zx_idiv g_X1_offer rfl (by omega) (by omega) (by omega) (by omega) ?_
              refine gz_iald g_X1_offer rfl (n := cS c) rfl (by decide) rfl (by have := hg.S; omega) (by omega) (by omega) ?_
              refine zx_cvF (As := [zi p, zi (R1 27 ((t - 1) / 2))]) (rest := []) g_X1_offer rfl g_X1_isBefore rfl rfl (Nat.le_of_ble_eq_true rfl) (Nat.le_of_ble_eq_true rfl) rfl (by decide) (s_isBefore hg (by omega) (by omega) (by omega) (by omega) (by omega) (by omega)) ?_
              refine zx_ifeq g_X1_offer rfl (fun (h89 : ¬ (bef (R1 26) p (R1 27 ((t - 1) / 2)))) => ?_) (fun (h89 : (bef (R1 26) p (R1 27 ((t - 1) / 2)))) => ?_)
              · refine zx_go (pc1 := 119) (l1 := [some (zr 25), some (zi p), some (zi v), some (zi t)]) (st1 := [zi t, zi p, zr 25]) (w1 := wr c R1) g_X1_offer 3 _ _ _ _ rfl ?_
                refine gx_cvU (As := [zi p, zi t]) (rest := []) g_X1_offer rfl g_X1_put rfl rfl (Nat.le_of_ble_eq_true rfl) (Nat.le_of_ble_eq_true rfl) rfl (by decide) (s_put hg (by omega) (by omega) (by omega) (by omega)) (fun R119 hR119 => ?_)
                refine zx_vret g_X1_offer rfl ?_
                have e := sk_end sk hR119 hu1 (by first | exact fun _ => h89 | exact fun z => absurd z (by omega))
                refine gU_i ⟨fun a b1 b2 b3 b4 => (e.1 a b3 b4).trans (ro a b1 b2), e.2.1, fun z => absurd z (by omega), fun _ => ⟨(e.1 26 (by decide) (by decide)).trans r26, fun q q0 q1 => ?_⟩⟩
                rw [e.2.2 q q0 q1, r28]
              · refine zx_go (pc1 := 101) (l1 := [some (zr 25), some (zi p), some (zi v), some (zi t)]) (st1 := [zi 2, zi (t - 1), zr 27, zr 25]) (w1 := wr c R1) g_X1_offer 7 _ _ _ _ rfl ?_
                refine zx_idiv g_X1_offer rfl (by omega) (by omega) (by omega) (by omega) ?_
                refine gz_iald g_X1_offer rfl (n := cS c) rfl (by decide) rfl (by have := hg.S; omega) (by omega) (by omega) ?_
                refine zx_go (pc1 := 104) (l1 := [some (zr 25), some (zi p), some (zi v), some (zi t)]) (st1 := [zi t, zi (R1 27 ((t - 1) / 2)), zr 25]) (w1 := wr c R1) g_X1_offer 1 _ _ _ _ rfl ?_
                refine gx_cvU (As := [zi (R1 27 ((t - 1) / 2)), zi t]) (rest := []) g_X1_offer rfl g_X1_put rfl rfl (Nat.le_of_ble_eq_true rfl) (Nat.le_of_ble_eq_true rfl) rfl (by decide) (s_put hg (by omega) (by omega) (by omega) (by omega)) (fun R104 hR104 => ?_)
                refine zx_go (pc1 := 111) (l1 := [some (zr 25), some (zi p), some (zi v), some (zi t)]) (st1 := [zi 2, zi (t - 1)]) (w1 := wr c R104) g_X1_offer 4 _ _ _ _ rfl ?_
                refine zx_idiv g_X1_offer rfl (by omega) (by omega) (by omega) (by omega) ?_
                refine zx_go (pc1 := 70) (l1 := [some (zr 25), some (zi p), some (zi v), some (zi ((t - 1) / 2))]) (st1 := []) (w1 := wr c R104) g_X1_offer 2 _ _ _ _ rfl ?_
                skip
                refine ih70 (Int.toNat (((t - 1) / 2))) (by omega) ((t - 1) / 2) R104 (by omega) ?_
                have dn := hx_up sk.2.2.1 hu1 (by omega) x2 h89
                have st := sk_step sk hR104 (by omega) (by omega) (by omega) dn.1
                refine ⟨st, ?_⟩
                obtain ⟨e1, e2, e3⟩ := put_rows hR104
                rw [e1, e3 26 (by decide) (by decide), e3 25 (by decide) (by decide)]
                exact dn.2
          refine lp70 (Int.toNat ((R 28 p))) (R 28 p) R9 (by omega) ?_
          refine ⟨⟨fun _ _ _ => rfl, ?_, ?_, fun _ _ _ _ => Iff.rfl⟩, ?_⟩
          · rw [r27, r28, r25]; exact hn.1
          · rw [r27, r26, r25]; exact hn.2.1
          · rw [r27, r26, r25]; exact hn.2.2
        · omega
      · omega
    · refine zx_go (pc1 := 41) (l1 := [some (zr 25), some (zi p), some (zi v), some (zi (R 25 3))]) (st1 := [zi ((cS c : Nat) : Int), zi (R 25 3)]) (w1 := wr c R) g_X1_offer 8 _ _ _ _ rfl ?_
      refine zx_cmp g_X1_offer rfl (by omega) (by omega) (fun (h41 : (R 25 3) < ((cS c : Nat) : Int)) => ?_) (fun (h41 : ¬ ((R 25 3) < ((cS c : Nat) : Int))) => ?_)
      · refine zx_go (pc1 := 50) (l1 := [some (zr 25), some (zi p), some (zi v), some (zi (R 25 3))]) (st1 := [zi (R 25 3), zi (R 25 3)]) (w1 := wr c R) g_X1_offer 3 _ _ _ _ rfl ?_
        refine zx_cmp g_X1_offer rfl (by omega) (by omega) (fun (h50 : (R 25 3) ≠ (R 25 3)) => ?_) (fun (h50 : ¬ ((R 25 3) ≠ (R 25 3))) => ?_)
        · omega
        · refine zx_go (pc1 := 60) (l1 := [some (zr 25), some (zi p), some (zi v), some (zi (R 25 3))]) (st1 := [zi ((R 25 3) + 1), zr 25]) (w1 := wr c R) g_X1_offer 5 _ _ _ _ rfl ?_
          refine gz_put 3 g_X1_offer rfl rfl rfl (by decide) rfl (by refine ⟨?_, ?_, ?_, ?_, ?_⟩ <;> simp) ?_
          refine zx_go (pc1 := 69) (l1 := [some (zr 25), some (zi p), some (zi v), some (zi (R 25 3))]) (st1 := [zi v, zi p, zr 26]) (w1 := wr c (zU R 25 3 ((R 25 3) + 1))) g_X1_offer 4 _ _ _ _ rfl ?_
          refine gz_iast g_X1_offer rfl (n := cS c) rfl (by decide) (by refine ⟨?_, ?_, ?_, ?_, ?_⟩ <;> simp) (by have := hg.S; omega) (by omega) (by omega) ?_
          generalize hR9 : zU (zU R 25 3 ((R 25 3) + 1)) 26 p v = R9
          have r27 : R9 27 = R 27 := by rw [← hR9, zU_cell (by decide), zU_cell (by decide)]
          have r28 : R9 28 = R 28 := by rw [← hR9, zU_cell (by decide), zU_cell (by decide)]
          have r26 : R9 26 = up1 (R 26) p v := by rw [← hR9, zU_row, zU_cell (by decide)]
          have r25 : R9 25 3 = R 25 3 + 1 := by rw [← hR9, zU_cell (by decide), zU_same]
          have ro : ∀ a, a ≠ 25 → a ≠ 26 → R9 a = R a := fun a b d => by rw [← hR9, zU_cell d, zU_cell b]
          have hn := hx_new (v := v) hp.1 hp.2 h0 h1 (Classical.not_not.mp h18)
          have cr9 : cR c R9 := by
            unfold cR
            rw [r26]
            intro q q0 q1
            by_cases e : q = p
            · rw [e, up1_s]; exact vr
            · rw [up1_n e]; exact cr q q0 q1
          have lp70 : ∀ (it : Nat) (t : Int) (R1 : zI), (it : Int) = t → (SK c R9 R1 t p ∧ HU (R1 27) (R1 26) (R1 25 3) t p) → ZX m_X1_offer 70 [some (zr 25), some (zi p), some (zi v), some (zi t)] [] (wr c R1) (gU (fun R2 => (∀ a, a ≠ 25 → a ≠ 26 → a ≠ 27 → a ≠ 28 → R2 a = R a) ∧ HP c R2 ∧ (R 26 p ≤ v → R2 = R) ∧ (v < R 26 p → R2 26 = up1 (R 26) p v ∧ ∀ q, 0 ≤ q → q < (cS c : Int) → (R2 28 q = -1 ↔ (R 28 q = -1 ∧ q ≠ p)))) c) := by
            refine fun it => Nat.strongRecOn it (fun it ih70 => ?_)
            intro t R1 hn70 hi70
            obtain ⟨sk, hu1⟩ := hi70
            have cr1 : ∀ q, 0 ≤ q → q < (cS c : Int) → inR (R1 26 q) := by rw [sk.1 26 (by decide) (by decide)]; exact cr9
            obtain ⟨x1, x2, x3, x4, x5, x6, x7⟩ := sk.2.1
            skip
            refine zx_go (pc1 := 71) (l1 := [some (zr 25), some (zi p), some (zi v), some (zi t)]) (st1 := [zi t]) (w1 := wr c R1) g_X1_offer 1 _ _ _ _ rfl ?_
            refine zx_if g_X1_offer rfl (by omega) (fun (h71 : t ≤ 0) => ?_) (fun (h71 : ¬ t ≤ 0) => ?_)
            · refine zx_go (pc1 := 119) (l1 := [some (zr 25), some (zi p), some (zi v), some (zi t)]) (st1 := [zi t, zi p, zr 25]) (w1 := wr c R1) g_X1_offer 3 _ _ _ _ rfl ?_
              refine gx_cvU (As := [zi p, zi t]) (rest := []) g_X1_offer rfl g_X1_put rfl rfl (Nat.le_of_ble_eq_true rfl) (Nat.le_of_ble_eq_true rfl) rfl (by decide) (s_put hg (by omega) (by omega) (by omega) (by omega)) (fun R119 hR119 => ?_)
              refine zx_vret g_X1_offer rfl ?_
              have e := sk_end sk hR119 hu1 (by first | exact fun _ => h89 | exact fun z => absurd z (by omega))
              refine gU_i ⟨fun a b1 b2 b3 b4 => (e.1 a b3 b4).trans (ro a b1 b2), e.2.1, fun z => absurd z (by omega), fun _ => ⟨(e.1 26 (by decide) (by decide)).trans r26, fun q q0 q1 => ?_⟩⟩
              rw [e.2.2 q q0 q1, r28]
            · have k1 := x6 ((t - 1) / 2) (by omega) (by omega) (by omega)
              have w1 := cr1 _ k1.1 k1.2.1
              have w2 := cr1 p h0 h1
              refine zx_go (pc1 := 84) (l1 := [some (zr 25), some (zi p), some (zi v), some (zi t)]) (st1 := [zi 2, zi (t - 1), zr 27, zi p, zr 25]) (w1 := wr c R1) g_X1_offer 8 _ _ _ _ rfl ?_
              refine zx_idiv g_X1_offer rfl (by omega) (by omega) (by omega) (by omega) ?_
              refine gz_iald g_X1_offer rfl (n := cS c) rfl (by decide) rfl (by have := hg.S; omega) (by omega) (by omega) ?_
              refine zx_cvF (As := [zi p, zi (R1 27 ((t - 1) / 2))]) (rest := []) g_X1_offer rfl g_X1_isBefore rfl rfl (Nat.le_of_ble_eq_true rfl) (Nat.le_of_ble_eq_true rfl) rfl (by decide) (s_isBefore hg (by omega) (by omega) (by omega) (by omega) (by omega) (by omega)) ?_
              refine zx_ifeq g_X1_offer rfl (fun (h89 : ¬ (bef (R1 26) p (R1 27 ((t - 1) / 2)))) => ?_) (fun (h89 : (bef (R1 26) p (R1 27 ((t - 1) / 2)))) => ?_)
              · refine zx_go (pc1 := 119) (l1 := [some (zr 25), some (zi p), some (zi v), some (zi t)]) (st1 := [zi t, zi p, zr 25]) (w1 := wr c R1) g_X1_offer 3 _ _ _ _ rfl ?_
                refine gx_cvU (As := [zi p, zi t]) (rest := []) g_X1_offer rfl g_X1_put rfl rfl (Nat.le_of_ble_eq_true rfl) (Nat.le_of_ble_eq_true rfl) rfl (by decide) (s_put hg (by omega) (by omega) (by omega) (by omega)) (fun R119 hR119 => ?_)
                refine zx_vret g_X1_offer rfl ?_
                have e := sk_end sk hR119 hu1 (by first | exact fun _ => h89 | exact fun z => absurd z (by omega))
                refine gU_i ⟨fun a b1 b2 b3 b4 => (e.1 a b3 b4).trans (ro a b1 b2), e.2.1, fun z => absurd z (by omega), fun _ => ⟨(e.1 26 (by decide) (by decide)).trans r26, fun q q0 q1 => ?_⟩⟩
                rw [e.2.2 q q0 q1, r28]
              · refine zx_go (pc1 := 101) (l1 := [some (zr 25), some (zi p), some (zi v), some (zi t)]) (st1 := [zi 2, zi (t - 1), zr 27, zr 25]) (w1 := wr c R1) g_X1_offer 7 _ _ _ _ rfl ?_
                refine zx_idiv g_X1_offer rfl (by omega) (by omega) (by omega) (by omega) ?_
                refine gz_iald g_X1_offer rfl (n := cS c) rfl (by decide) rfl (by have := hg.S; omega) (by omega) (by omega) ?_
                refine zx_go (pc1 := 104) (l1 := [some (zr 25), some (zi p), some (zi v), some (zi t)]) (st1 := [zi t, zi (R1 27 ((t - 1) / 2)), zr 25]) (w1 := wr c R1) g_X1_offer 1 _ _ _ _ rfl ?_
                refine gx_cvU (As := [zi (R1 27 ((t - 1) / 2)), zi t]) (rest := []) g_X1_offer rfl g_X1_put rfl rfl (Nat.le_of_ble_eq_true rfl) (Nat.le_of_ble_eq_true rfl) rfl (by decide) (s_put hg (by omega) (by omega) (by omega) (by omega)) (fun R104 hR104 => ?_)
                refine zx_go (pc1 := 111) (l1 := [some (zr 25), some (zi p), some (zi v), some (zi t)]) (st1 := [zi 2, zi (t - 1)]) (w1 := wr c R104) g_X1_offer 4 _ _ _ _ rfl ?_
                refine zx_idiv g_X1_offer rfl (by omega) (by omega) (by omega) (by omega) ?_
                refine zx_go (pc1 := 70) (l1 := [some (zr 25), some (zi p), some (zi v), some (zi ((t - 1) / 2))]) (st1 := []) (w1 := wr c R104) g_X1_offer 2 _ _ _ _ rfl ?_
                skip
                refine ih70 (Int.toNat (((t - 1) / 2))) (by omega) ((t - 1) / 2) R104 (by omega) ?_
                have dn := hx_up sk.2.2.1 hu1 (by omega) x2 h89
                have st := sk_step sk hR104 (by omega) (by omega) (by omega) dn.1
                refine ⟨st, ?_⟩
                obtain ⟨e1, e2, e3⟩ := put_rows hR104
                rw [e1, e3 26 (by decide) (by decide), e3 25 (by decide) (by decide)]
                exact dn.2
          refine lp70 (Int.toNat ((R 25 3))) (R 25 3) R9 (by omega) ?_
          refine ⟨⟨fun _ _ _ => rfl, ?_, ?_, fun _ _ _ _ => Iff.rfl⟩, ?_⟩
          · rw [r27, r28, r25]; exact hn.1
          · rw [r27, r26, r25]; exact hn.2.1
          · rw [r27, r26, r25]; exact hn.2.2
      · have := hw_room hp.1 h0 h1 (Classical.not_not.mp h18)
        omega
  · refine zx_vret g_X1_offer rfl ?_
    exact gU_i ⟨fun _ _ _ _ _ => rfl, hp, fun _ => rfl, fun z => absurd z (by omega)⟩

