/-! ===== contracts (13): the beginning of a run ===== -/
def pinS (c : zC) (D : zI) (i : Int) (n p : Int) : Prop := ∃ k, 0 ≤ k ∧ k < i ∧ D 11 k = n ∧ pk c D k ≠ -1 ∧ pp c D k = p
def cloS (c : zC) (D : zI) (i : Int) (n : Int) : Prop := ∃ k, 0 ≤ k ∧ k < i ∧ D 11 k = n ∧ pk c D k = -1
theorem pinS_R {c : zC} {D : zI} (hD : DOK c D) {i n p : Int} (hi : i ≤ D 10 2) (h : pinS c D i n p) : 0 ≤ n ∧ n < 16 ∧ pls c p := by
  obtain ⟨k, k0_v, k1_v, k2_v, k3_v, k4_v⟩ := h
  have a := pin_R hD ⟨k, k0_v, by omega, k2_v, k3_v, k4_v⟩
  have b := hD.2.1
  exact ⟨a.1, by omega, a.2.2.1⟩
theorem fit_eq {c : zC} {D R : zI} (hD : DOK c D) {i : Int} (i0 : 0 ≤ i) (i1 : i < D 10 2) (h9 : R 9 = D 9) (h10 : R 10 = D 10) (h13 : R 13 = D 13) (h14 : R 14 = D 14) (es : ES c D (R 18) (R 19) (R 20) (pinS c D i)) : kth (fitP R i (D 11 i)) (R 13 i).toNat 0 0 = pk c D i := by
  have pp0 := hD.2.2.1
  rw [pk_PK (c := c) pp0.1 i i0 i1, h13]
  refine kth_congr _ _ _ fun j j0 j1 => ?_
  have ac := hD.2.2.2.2.2.2.2 i i0 (by omega)
  have hp := ac.2.2 j j0 (by omega)
  have nn := hD.2.2.2.2.2.2.1 i i0 i1
  have n16 := hD.2.1
  have key_v := es_clv0 (net := D 11 i) es (fun b q z => by have := pinS_R hD (by omega) z; omega) hp nn.1 (by omega)
  unfold fitP mayb
  rw [h9, h10, h14]
  constructor
  · rintro ⟨z1, z2⟩
    refine ⟨z1, fun k k0_v k1_v k2_v z => absurd z2 (key_v.mpr ⟨D 11 k, pp c D k, ?_, ⟨k, k0_v, k1_v, rfl, k2_v, rfl⟩, z⟩)⟩
    exact ((pk_R hD k0_v (by omega)).2.2 k2_v).1
  · rintro ⟨z1, z2⟩
    refine ⟨z1, Classical.byContradiction fun z => ?_⟩
    obtain ⟨b, q, q0, ⟨k, k0_v, k1_v, k2_v, k3_v, k4_v⟩, q2_v⟩ := key_v.mp z
    subst k2_v k4_v
    exact z2 k k0_v k1_v k3_v q2_v

set_option maxHeartbeats 1000000 in
theorem s_choosePlaces {c : zC} {R : zI} {D : zI} (hD : DOK c D) (hd : Din D R) (hz : ∀ p, pls c p → R 18 p = 0 ∧ R 19 p = 0 ∧ R 20 p = 0) (h10 : R 15 10 = 0) : MZ m_X3_choosePlaces [zr 15] (wr c R) (gU (fun R2 => (∀ a, a ≠ 15 → a ≠ 16 → a ≠ 18 → a ≠ 19 → a ≠ 20 → R2 a = R a) ∧ (∀ j, j ≠ 10 → R2 15 j = R 15 j) ∧ (∀ k, 0 ≤ k → k < D 10 2 → R2 16 k = pk c D k) ∧ ES c D (R2 18) (R2 19) (R2 20) (pin c D) ∧ M16 (R2 15 10) ∧ ∀ b, 0 ≤ b → b < 16 → (tb (R2 15 10) b ↔ clo c D b)) c) := by
  refine MZ.of g_X3_choosePlaces ?_
  show ZX m_X3_choosePlaces 0 [some (zr 15), none, none] [] (wr c R) _
  have hg := hD.1
  have g3_v := hg.S
  have n16 := hD.2.1
  have p40 := hD.2.2.1
  obtain ⟨d3_v, d4_v, d5_v, d9_v, d10_v, d11_v, d12_v, d13_v, d14_v⟩ := hd
  have g2 := hg
  unfold Geo at g2
  refine zx_go (pc1 := 2) (l1 := [some (zr 15), some (zi 0), none]) (st1 := []) (w1 := wr c R) g_X3_choosePlaces 2 _ _ _ _ rfl ?_
  have lp2 : ∀ (it : Nat) (i : Int) (R1 : zI) (o2 : Option zV), (it : Int) = D 10 2 - i → (0 ≤ i ∧ i ≤ D 10 2 ∧ ((∀ a, a ≠ 15 → a ≠ 16 → a ≠ 18 → a ≠ 19 → a ≠ 20 → R1 a = R a) ∧ (∀ j, j ≠ 10 → R1 15 j = R 15 j)) ∧ (∀ k, 0 ≤ k → k < i → R1 16 k = pk c D k) ∧ ES c D (R1 18) (R1 19) (R1 20) (pinS c D i) ∧ M16 (R1 15 10) ∧ ∀ b, 0 ≤ b → b < 16 → (tb (R1 15 10) b ↔ cloS c D i b)) → ZX m_X3_choosePlaces 2 [some (zr 15), some (zi i), o2] [] (wr c R1) (gU (fun R2 => (∀ a, a ≠ 15 → a ≠ 16 → a ≠ 18 → a ≠ 19 → a ≠ 20 → R2 a = R a) ∧ (∀ j, j ≠ 10 → R2 15 j = R 15 j) ∧ (∀ k, 0 ≤ k → k < D 10 2 → R2 16 k = pk c D k) ∧ ES c D (R2 18) (R2 19) (R2 20) (pin c D) ∧ M16 (R2 15 10) ∧ ∀ b, 0 ≤ b → b < 16 → (tb (R2 15 10) b ↔ clo c D b)) c) := by
    refine fun it => Nat.strongRecOn it (fun it ih2 => ?_)
    intro i R1 o2 hn2 hi2
    obtain ⟨i0, i1, ⟨fr1, fr2⟩, pk1, es1, mm1, bb1⟩ := hi2
    have r3 : R1 3 = D 3 := (fr1 3 (by decide) (by decide) (by decide) (by decide) (by decide)).trans d3_v
    have r9 : R1 9 = D 9 := (fr1 9 (by decide) (by decide) (by decide) (by decide) (by decide)).trans d9_v
    have r10 : R1 10 = D 10 := (fr1 10 (by decide) (by decide) (by decide) (by decide) (by decide)).trans d10_v
    have r11 : R1 11 = D 11 := (fr1 11 (by decide) (by decide) (by decide) (by decide) (by decide)).trans d11_v
    have r13 : R1 13 = D 13 := (fr1 13 (by decide) (by decide) (by decide) (by decide) (by decide)).trans d13_v
    have r14 : R1 14 = D 14 := (fr1 14 (by decide) (by decide) (by decide) (by decide) (by decide)).trans d14_v
    have r102 : R1 10 2 = D 10 2 := by rw [r10]
    refine zx_go (pc1 := 10) (l1 := [some (zr 15), some (zi i), o2]) (st1 := [zi (R1 10 2), zi i]) (w1 := wr c R1) g_X3_choosePlaces 4 _ _ _ _ rfl ?_
    refine zx_cmp g_X3_choosePlaces rfl (by omega) (by omega) (fun (h10 : (R1 10 2) ≤ i) => ?_) (fun (h10 : ¬ ((R1 10 2) ≤ i)) => ?_)
    · refine zx_vret g_X3_choosePlaces rfl ?_
      have ei : i = D 10 2 := by omega
      subst ei
      exact gU_i ⟨fr1, fr2, pk1, es1, mm1, bb1⟩
    · have nn := hD.2.2.2.2.2.2.1 i i0 (by omega)
      have nn1 : R1 11 i = D 11 i := by rw [r11]
      have ac := hD.2.2.2.2.2.2.2 i i0 (by omega)
      have fe := fit_eq hD i0 (by omega) r9 r10 r13 r14 es1
      have pR := pk_R hD i0 (show i < D 10 2 by omega)
      refine zx_go (pc1 := 21) (l1 := [some (zr 15), some (zi i), o2]) (st1 := [zi i, zr 11]) (w1 := wr c R1) g_X3_choosePlaces 4 _ _ _ _ rfl ?_
      refine gz_iald g_X3_choosePlaces rfl (n := 40) rfl (by decide) rfl (by decide) (by omega) (by omega) ?_
      refine zx_go (pc1 := 31) (l1 := [some (zr 15), some (zi i), some (zi (R1 11 i))]) (st1 := [zi (R1 11 i), zi i, zr 15, zi i, zr 16]) (w1 := wr c R1) g_X3_choosePlaces 7 _ _ _ _ rfl ?_
      refine zx_cvF (As := [zi i, zi (R1 11 i)]) (rest := [zi i, zr 16]) g_X3_choosePlaces rfl g_X3_firstFit rfl rfl (Nat.le_of_ble_eq_true rfl) (Nat.le_of_ble_eq_true rfl) rfl (by decide) (s_firstFit hg (by omega) (by omega) (by rw [r13]; omega) (by rw [r13]; omega) (fun p => by rw [r9]; have := hD.2.2.2.2.2.1 p; omega) (fun j j0 j1 => by rw [r14]; rw [r13] at j1; exact ac.2.2 j j0 j1)) ?_
      have fe2 : kth (fitP R1 i (R1 11 i)) (R1 13 i).toNat 0 0 = pk c D i := by rw [nn1]; exact fe
      rw [fe2]
      refine gz_iast g_X3_choosePlaces rfl (n := 40) rfl (by decide) (by refine ⟨?_, ?_, ?_, ?_, ?_⟩ <;> simp) (by decide) (by omega) (by omega) ?_
      generalize hR9 : zU R1 16 i (pk c D i) = R9
      have s16 : R9 16 = up1 (R1 16) i (pk c D i) := by rw [← hR9, zU_row]
      have so : ∀ a, a ≠ 16 → R9 a = R1 a := fun a ha_v => by rw [← hR9, zU_cell ha_v]
      have s16i : R9 16 i = pk c D i := by rw [s16, up1_s]
      have pk9 : ∀ k, 0 ≤ k → k < i + 1 → R9 16 k = pk c D k := fun k k0_v k1_v => by
        by_cases y : k = i
        · rw [y]; exact s16i
        · rw [s16, up1_n y]; exact pk1 k k0_v (by omega)
      refine zx_go (pc1 := 40) (l1 := [some (zr 15), some (zi i), some (zi (R1 11 i))]) (st1 := [zi i, zr 16]) (w1 := wr c R9) g_X3_choosePlaces 3 _ _ _ _ rfl ?_
      refine gz_iald g_X3_choosePlaces rfl (n := 40) rfl (by decide) rfl (by decide) (by omega) (by omega) ?_
      refine zx_go (pc1 := 42) (l1 := [some (zr 15), some (zi i), some (zi (R1 11 i))]) (st1 := [zi (-1), zi (R9 16 i)]) (w1 := wr c R9) g_X3_choosePlaces 1 _ _ _ _ rfl ?_
      refine zx_cmp g_X3_choosePlaces rfl (by omega) (by omega) (fun (h42 : (R9 16 i) ≠ (-1)) => ?_) (fun (h42 : ¬ ((R9 16 i) ≠ (-1))) => ?_)
      · have np : pk c D i ≠ -1 := by rw [← s16i]; exact h42
        have pq_v := (pR.2.2 np).1
        have e14_v : R9 14 (i * 4 + R9 16 i) = pp c D i := by rw [so 14 (by decide), r14, s16i]; rfl
        obtain ⟨pq0, pq1⟩ := pq_v
        rw [← e14_v] at pq0 pq1
        have hpq : pls c (R9 14 (i * 4 + R9 16 i)) := ⟨pq0, pq1⟩
        have gp := place_geo hg pq0 pq1
        have rsp := hD.2.2.2.2.1 (lay c (R9 14 (i * 4 + R9 16 i))) (by omega) (by omega)
        refine zx_go (pc1 := 75) (l1 := [some (zr 15), some (zi i), some (zi (R1 11 i))]) (st1 := [zi i, zr 16, zi i, zr 10, zi (R1 11 i), zr 17]) (w1 := wr c R9) g_X3_choosePlaces 9 _ _ _ _ rfl ?_
        refine gz_iald g_X3_choosePlaces rfl (n := 40) rfl (by decide) rfl (by decide) (by omega) (by omega) ?_
        refine zx_cvF (As := [zi i, zi (R9 16 i)]) (rest := [zi (R1 11 i), zr 17]) g_X3_choosePlaces rfl g_X0_accessPlace rfl rfl (Nat.le_of_ble_eq_true rfl) (Nat.le_of_ble_eq_true rfl) rfl (by decide) (s_accessPlace (by omega) (by omega) (by omega) (by omega)) ?_
        refine gx_cvU (As := [zi (R1 11 i), zi (R9 14 (i * 4 + (R9 16 i)))]) (rest := []) g_X3_choosePlaces rfl g_X4_add rfl rfl (Nat.le_of_ble_eq_true rfl) (Nat.le_of_ble_eq_true rfl) rfl (by decide) (t_add17 (D := D) hg hpq (by omega) (by omega) (by omega) (by omega) ((so 3 (by decide)).trans r3)) (fun R79 hR79 => ?_)
        refine zx_go (pc1 := 2) (l1 := [some (zr 15), some (zi (i + 1)), some (zi (R1 11 i))]) (st1 := []) (w1 := wr c R79) g_X3_choosePlaces 2 _ _ _ _ rfl ?_
        refine ih2 (Int.toNat (D 10 2 - (i + 1))) (by omega) (i + 1) R79 (some (zi (R1 11 i))) (by omega) ?_
        obtain ⟨q1_v, q2_v⟩ := hR79
        refine ⟨by omega, by omega, ⟨fun a a1_v a2 a3 a4 a5 => ?_, fun j hj => ?_⟩, fun k k0_v k1_v => ?_, ?_, ?_, fun b b0 b1 => ?_⟩
        · rw [q1_v a a3 a4 a5, so a a2]; exact fr1 a a1_v a2 a3 a4 a5
        · rw [q1_v 15 (by decide) (by decide) (by decide), so 15 (by decide)]; exact fr2 j hj
        · rw [q1_v 16 (by decide) (by decide) (by decide)]; exact pk9 k k0_v k1_v
        · refine (q2_v _ (by rw [so 18 (by decide), so 19 (by decide), so 20 (by decide)]; exact es1)).congr fun b q b0 b1 hq => ?_
          unfold adds
          constructor
          · rintro (⟨k, k0_v, k1_v, k2_v⟩ | ⟨z1, z2⟩)
            · exact ⟨k, k0_v, by omega, k2_v⟩
            · exact ⟨i, i0, by omega, by rw [z1, nn1], np, by rw [z2, e14_v]⟩
          · rintro ⟨k, k0_v, k1_v, k2_v, k3_v, k4_v⟩
            by_cases y : k = i
            · right; rw [← k2_v, ← k4_v, y, nn1, e14_v]; exact ⟨rfl, rfl⟩
            · exact .inl ⟨k, k0_v, by omega, k2_v, k3_v, k4_v⟩
        · rw [q1_v 15 (by decide) (by decide) (by decide), so 15 (by decide)]; exact mm1
        · rw [q1_v 15 (by decide) (by decide) (by decide), so 15 (by decide), bb1 b b0 b1]
          exact ⟨fun ⟨k, k0_v, k1_v, k2_v⟩ => ⟨k, k0_v, by omega, k2_v⟩, fun ⟨k, k0_v, k1_v, k2_v, k3_v⟩ => ⟨k, k0_v, by
            by_cases y : k = i
            · rw [y] at k3_v; exact absurd k3_v np
            · omega, k2_v, k3_v⟩⟩
      · refine zx_go (pc1 := 52) (l1 := [some (zr 15), some (zi i), some (zi (R1 11 i))]) (st1 := [zi (R1 11 i), zi 1, zi (R9 15 10), zr 15]) (w1 := wr c R9) g_X3_choosePlaces 5 _ _ _ _ rfl ?_
        refine zx_go (pc1 := 53) (l1 := [some (zr 15), some (zi i), some (zi (R1 11 i))]) (st1 := [zi (zshl 1 (R1 11 i)), zi (R9 15 10), zr 15]) (w1 := wr c R9) g_X3_choosePlaces 1 _ _ _ _ rfl ?_
        refine zx_go (pc1 := 54) (l1 := [some (zr 15), some (zi i), some (zi (R1 11 i))]) (st1 := [zi (zor (R9 15 10) (zshl 1 (R1 11 i))), zr 15]) (w1 := wr c R9) g_X3_choosePlaces 1 _ _ _ _ rfl ?_
        refine gz_put 10 g_X3_choosePlaces rfl rfl rfl (by decide) rfl (by refine ⟨?_, ?_, ?_, ?_, ?_⟩ <;> simp) ?_
        refine zx_go (pc1 := 2) (l1 := [some (zr 15), some (zi (i + 1)), some (zi (R1 11 i))]) (st1 := []) (w1 := wr c (zU R9 15 10 (zor (R9 15 10) (zshl 1 (R1 11 i))))) g_X3_choosePlaces 3 _ _ _ _ rfl ?_
        refine ih2 (Int.toNat (D 10 2 - (i + 1))) (by omega) (i + 1) (zU R9 15 10 (zor (R9 15 10) (zshl 1 (R1 11 i)))) (some (zi (R1 11 i))) (by omega) ?_
        have np : pk c D i = -1 := by rw [← s16i]; exact Classical.not_not.mp h42
        refine ⟨by omega, by omega, ⟨fun a a1_v a2 a3 a4 a5 => ?_, fun j hj => ?_⟩, fun k k0_v k1_v => ?_, ?_, ?_, fun b b0 b1 => ?_⟩
        · rw [zU_cell a1_v, so a a2]; exact fr1 a a1_v a2 a3 a4 a5
        · rw [zU_at hj, so 15 (by decide)]; exact fr2 j hj
        · rw [zU_cell (by decide)]; exact pk9 k k0_v k1_v
        · rw [zU_cell (by decide), zU_cell (by decide), zU_cell (by decide), so 18 (by decide), so 19 (by decide), so 20 (by decide)]
          exact es1.congr fun b q b0 b1 hq => ⟨fun ⟨k, k0_v, k1_v, k2_v⟩ => ⟨k, k0_v, by omega, k2_v⟩, fun ⟨k, k0_v, k1_v, k2_v, k3_v, k4_v⟩ => ⟨k, k0_v, by
            by_cases y : k = i
            · rw [y] at k3_v; exact absurd np k3_v
            · omega, k2_v, k3_v, k4_v⟩⟩
        · rw [zU_same, so 15 (by decide)]; exact M16_or mm1 (M16_one (by omega) (by omega))
        · rw [zU_same, so 15 (by decide), tb_or b0 (by omega), tb_one b0 (by omega) (by omega) (by omega), bb1 b b0 b1]
          constructor
          · rintro (⟨k, k0_v, k1_v, k2_v⟩ | z)
            · exact ⟨k, k0_v, by omega, k2_v⟩
            · exact ⟨i, i0, by omega, by rw [z, nn1], np⟩
          · rintro ⟨k, k0_v, k1_v, k2_v, k3_v⟩
            by_cases y : k = i
            · right; rw [← k2_v, y, nn1]
            · exact .inl ⟨k, k0_v, by omega, k2_v, k3_v⟩
  refine lp2 (Int.toNat (D 10 2 - 0)) 0 R none (by omega) ?_
  refine ⟨by omega, by omega, ⟨fun _ _ _ _ _ _ => rfl, fun _ _ => rfl⟩, fun k k0_v k1_v => by omega, (es_nil hz).congr fun b q b0 b1 hq => ⟨False.elim, fun ⟨k, k0_v, k1_v, _⟩ => by omega⟩, by rw [h10]; exact M16_0, fun b b0 b1 => ?_⟩
  rw [h10]
  exact ⟨fun z => absurd z (tb_zero b0 (by omega)), fun ⟨k, k0_v, k1_v, _⟩ => by omega⟩

set_option maxHeartbeats 1000000 in
theorem s_begin {c : zC} {R : zI} {D : zI} (hD : DOK c D) (hd : Din D R) (hpc : ∀ n, 0 ≤ n → n < D 10 0 → R 12 n = cnt (fun k => D 11 k = n) (D 10 2).toNat) : MZ m_X3_begin [zr 15] (wr c R) (gU (fun R2 => RF R R2 ∧ CE c D (s0 c D) R2) c) := by
  refine MZ.of g_X3_begin ?_
  show ZX m_X3_begin 0 [some (zr 15), none] [] (wr c R) _
  have hg := hD.1
  have g3_v := hg.S
  have n16 := hD.2.1
  refine zx_go (pc1 := 4) (l1 := [some (zr 15), none]) (st1 := [zr 17]) (w1 := wr c R) g_X3_begin 2 _ _ _ _ rfl ?_
  refine gx_cvU (As := []) (rest := []) g_X3_begin rfl g_X4_clear rfl rfl (Nat.le_of_ble_eq_true rfl) (Nat.le_of_ble_eq_true rfl) rfl (by decide) (s_Sclear17 hg) (fun R4 hR4 => ?_)
  refine zx_go (pc1 := 11) (l1 := [some (zr 15), none]) (st1 := [zr 21]) (w1 := wr c R4) g_X3_begin 2 _ _ _ _ rfl ?_
  refine gx_cvU (As := []) (rest := []) g_X3_begin rfl g_X4_clear rfl rfl (Nat.le_of_ble_eq_true rfl) (Nat.le_of_ble_eq_true rfl) rfl (by decide) (s_Sclear21 hg) (fun R11 hR11 => ?_)
  refine zx_go (pc1 := 19) (l1 := [some (zr 15), none]) (st1 := [zi 0, zr 29]) (w1 := wr c R11) g_X3_begin 3 _ _ _ _ rfl ?_
  refine gx_csU (As := [zr 29, zi 0]) (rest := []) g_X3_begin rfl g_J7_fill_53178 rfl rfl (Nat.le_of_ble_eq_true rfl) (Nat.le_of_ble_eq_true rfl) (s_fill (A := 29) (n := cS c) rfl (by decide) (by decide) (by have := hg.S; omega)) (fun R19 hR19 => ?_)
  refine zx_go (pc1 := 27) (l1 := [some (zr 15), none]) (st1 := [zi 0, zr 30]) (w1 := wr c R19) g_X3_begin 3 _ _ _ _ rfl ?_
  refine gx_csU (As := [zr 30, zi 0]) (rest := []) g_X3_begin rfl g_J7_fill_53178 rfl rfl (Nat.le_of_ble_eq_true rfl) (Nat.le_of_ble_eq_true rfl) (s_fill (A := 30) (n := cS c) rfl (by decide) (by decide) (by have := hg.S; omega)) (fun R27 hR27 => ?_)
  refine zx_go (pc1 := 32) (l1 := [some (zr 15), none]) (st1 := [zi 0, zr 15]) (w1 := wr c R27) g_X3_begin 2 _ _ _ _ rfl ?_
  refine gz_put 10 g_X3_begin rfl rfl rfl (by decide) rfl (by refine ⟨?_, ?_, ?_, ?_, ?_⟩ <;> simp) ?_
  refine zx_go (pc1 := 37) (l1 := [some (zr 15), none]) (st1 := [zi 0, zr 15]) (w1 := wr c (zU R27 15 10 0)) g_X3_begin 2 _ _ _ _ rfl ?_
  refine gz_put 11 g_X3_begin rfl rfl rfl (by decide) rfl (by refine ⟨?_, ?_, ?_, ?_, ?_⟩ <;> simp) ?_
  refine zx_go (pc1 := 42) (l1 := [some (zr 15), none]) (st1 := [zi 0, zr 15]) (w1 := wr c (zU (zU R27 15 10 0) 15 11 0)) g_X3_begin 2 _ _ _ _ rfl ?_
  refine gz_put 12 g_X3_begin rfl rfl rfl (by decide) rfl (by refine ⟨?_, ?_, ?_, ?_, ?_⟩ <;> simp) ?_
  refine zx_go (pc1 := 47) (l1 := [some (zr 15), none]) (st1 := [zi 0, zr 15]) (w1 := wr c (zU (zU (zU R27 15 10 0) 15 11 0) 15 12 0)) g_X3_begin 2 _ _ _ _ rfl ?_
  refine gz_put 13 g_X3_begin rfl rfl rfl (by decide) rfl (by refine ⟨?_, ?_, ?_, ?_, ?_⟩ <;> simp) ?_
  refine zx_go (pc1 := 52) (l1 := [some (zr 15), none]) (st1 := [zi 0, zr 15]) (w1 := wr c (zU (zU (zU (zU R27 15 10 0) 15 11 0) 15 12 0) 15 13 0)) g_X3_begin 2 _ _ _ _ rfl ?_
  refine gz_put 14 g_X3_begin rfl rfl rfl (by decide) rfl (by refine ⟨?_, ?_, ?_, ?_, ?_⟩ <;> simp) ?_
  refine zx_go (pc1 := 57) (l1 := [some (zr 15), none]) (st1 := [zi 0, zr 15]) (w1 := wr c (zU (zU (zU (zU (zU R27 15 10 0) 15 11 0) 15 12 0) 15 13 0) 15 14 0)) g_X3_begin 2 _ _ _ _ rfl ?_
  refine gz_put 15 g_X3_begin rfl rfl rfl (by decide) rfl (by refine ⟨?_, ?_, ?_, ?_, ?_⟩ <;> simp) ?_
  generalize hR9 : zU (zU (zU (zU (zU (zU R27 15 10 0) 15 11 0) 15 12 0) 15 13 0) 15 14 0) 15 15 0 = R9
  have so : ∀ a, a ≠ 15 → a ≠ 18 → a ≠ 19 → a ≠ 20 → a ≠ 22 → a ≠ 23 → a ≠ 24 → a ≠ 29 → a ≠ 30 → R9 a = R a := fun a b1 b2 b3 b4 b5 b6 b7 b8 b9 => by
    rw [← hR9, zU_cell b1, zU_cell b1, zU_cell b1, zU_cell b1, zU_cell b1, zU_cell b1, hR27, fl_cell b9, hR19, fl_cell b8, hR11, fl_cell b7, fl_cell b6, fl_cell b5, hR4, fl_cell b4, fl_cell b3, fl_cell b2]
  have rf9 : RF R R9 := fun a ha_v => so a (by omega) (by omega) (by omega) (by omega) (by omega) (by omega) (by omega) (by omega) (by omega)
  have sc_v : ∀ a, a ≠ 15 → R9 a = R27 a := fun a b1 => by rw [← hR9, zU_cell b1, zU_cell b1, zU_cell b1, zU_cell b1, zU_cell b1, zU_cell b1]
  have z18 : ∀ p, pls c p → R9 18 p = 0 ∧ R9 19 p = 0 ∧ R9 20 p = 0 := fun p hp => by
    rw [sc_v 18 (by decide), sc_v 19 (by decide), sc_v 20 (by decide), hR27, fl_cell (by decide), fl_cell (by decide), fl_cell (by decide), hR19, fl_cell (by decide), fl_cell (by decide), fl_cell (by decide), hR11, fl_cell (by decide), fl_cell (by decide), fl_cell (by decide), fl_cell (by decide), fl_cell (by decide), fl_cell (by decide), fl_cell (by decide), fl_cell (by decide), fl_cell (by decide), hR4]
    refine ⟨?_, ?_, ?_⟩
    · rw [fl_cell (by decide), fl_cell (by decide), fl_row hp.1 hp.2]
    · rw [fl_cell (by decide), fl_row hp.1 hp.2]
    · rw [fl_row hp.1 hp.2]
  have z22 : ∀ p, pls c p → R9 22 p = 0 ∧ R9 23 p = 0 ∧ R9 24 p = 0 := fun p hp => by
    rw [sc_v 22 (by decide), sc_v 23 (by decide), sc_v 24 (by decide), hR27, fl_cell (by decide), fl_cell (by decide), fl_cell (by decide), hR19, fl_cell (by decide), fl_cell (by decide), fl_cell (by decide), hR11]
    refine ⟨?_, ?_, ?_⟩
    · rw [fl_cell (by decide), fl_cell (by decide), fl_row hp.1 hp.2]
    · rw [fl_cell (by decide), fl_row hp.1 hp.2]
    · rw [fl_row hp.1 hp.2]
  have z29_v : ∀ p, pls c p → R9 29 p = 0 ∧ R9 30 p = 0 := fun p hp => by
    rw [sc_v 29 (by decide), sc_v 30 (by decide), hR27]
    refine ⟨?_, ?_⟩
    · rw [fl_cell (by decide), hR19, fl_row hp.1 hp.2]
    · rw [fl_row hp.1 hp.2]
  have z10 : R9 15 10 = 0 ∧ R9 15 11 = 0 ∧ R9 15 12 = 0 ∧ R9 15 13 = 0 ∧ R9 15 14 = 0 ∧ R9 15 15 = 0 := by
    rw [← hR9]
    refine ⟨?_, ?_, ?_, ?_, ?_, ?_⟩ <;> simp [zU]
  have hd9 := hd.of rf9
  refine zx_go (pc1 := 61) (l1 := [some (zr 15), none]) (st1 := [zr 15]) (w1 := wr c R9) g_X3_begin 1 _ _ _ _ rfl ?_
  refine gx_cvU (As := []) (rest := []) g_X3_begin rfl g_X3_choosePlaces rfl rfl (Nat.le_of_ble_eq_true rfl) (Nat.le_of_ble_eq_true rfl) rfl (by decide) (s_choosePlaces hD hd9 z18 z10.1) (fun R61 hR61 => ?_)
  refine zx_go (pc1 := 66) (l1 := [some (zr 15), some (zi 0)]) (st1 := []) (w1 := wr c R61) g_X3_begin 2 _ _ _ _ rfl ?_
  have lp66 : ∀ (it : Nat) (i : Int) (R3 : zI), (it : Int) = D 10 0 - i → (0 ≤ i ∧ i ≤ D 10 0 ∧ (∀ a, a ≠ 15 → R3 a = R61 a) ∧ (∀ j, j ≠ 11 → R3 15 j = R61 15 j) ∧ M16 (R3 15 11) ∧ ∀ b, 0 ≤ b → b < 16 → (tb (R3 15 11) b ↔ (b < i ∧ ¬ clo c D b ∧ cnt (fun k => D 11 k = b) (D 10 2).toNat ≤ 1))) → ZX m_X3_begin 66 [some (zr 15), some (zi i)] [] (wr c R3) (gU (fun R2 => RF R R2 ∧ CE c D (s0 c D) R2) c) := by
    refine fun it => Nat.strongRecOn it (fun it ih66 => ?_)
    intro i R3 hn66 hi66
    obtain ⟨i0, i1, fr3, f15, mm3, bb3⟩ := hi66
    have e10_v : R3 10 0 = D 10 0 := by rw [fr3 10 (by decide), hR61.1 10 (by decide) (by decide) (by decide) (by decide) (by decide), hd9.2.2.2.2.1]
    have e12_v : R3 12 = R 12 := by rw [fr3 12 (by decide), hR61.1 12 (by decide) (by decide) (by decide) (by decide) (by decide), rf9 12 (by omega)]
    have e1510 : R3 15 10 = R61 15 10 := f15 10 (by decide)
    refine zx_go (pc1 := 74) (l1 := [some (zr 15), some (zi i)]) (st1 := [zi (R3 10 0), zi i]) (w1 := wr c R3) g_X3_begin 4 _ _ _ _ rfl ?_
    refine zx_cmp g_X3_begin rfl (by omega) (by omega) (fun (h74 : (R3 10 0) ≤ i) => ?_) (fun (h74 : ¬ ((R3 10 0) ≤ i)) => ?_)
    · refine zx_vret g_X3_begin rfl ?_
      obtain ⟨q1_v, q2_v, q3_v, q4_v, q5_v, q6_v⟩ := hR61
      have rf3 : RF R R3 := fun a ha_v => by rw [fr3 a (by omega), q1_v a (by omega) (by omega) (by omega) (by omega) (by omega)]; exact rf9 a ha_v
      refine gU_i ⟨rf3, hd.of rf3, ?_, ?_, ?_, ?_, ?_, ?_, mm3, ?_, fun b b0 b1 => ⟨?_, ?_, ?_⟩, ?_, ?_, ?_⟩
      · rw [fr3 16 (by decide)]; exact q3_v
      · rw [fr3 18 (by decide), fr3 19 (by decide), fr3 20 (by decide)]; exact q4_v
      · rw [fr3 22 (by decide), fr3 23 (by decide), fr3 24 (by decide), q1_v 22 (by decide) (by decide) (by decide) (by decide) (by decide), q1_v 23 (by decide) (by decide) (by decide) (by decide) (by decide), q1_v 24 (by decide) (by decide) (by decide) (by decide) (by decide)]
        exact es_nil z22
      · rw [fr3 30 (by decide), q1_v 30 (by decide) (by decide) (by decide) (by decide) (by decide)]
        intro p hp
        rw [(z29_v p hp).2]
        exact ⟨M16_0, fun b b0 b1 => ⟨fun z => absurd z (tb_zero b0 (by omega)), False.elim⟩⟩
      · intro p hp
        rw [fr3 29 (by decide), q1_v 29 (by decide) (by decide) (by decide) (by decide) (by decide), (z29_v p hp).1]
        rfl
      · rw [f15 10 (by decide)]; exact q5_v
      · rw [f15 12 (by decide), q2_v 12 (by decide), z10.2.2.1]; exact M16_0
      · rw [f15 10 (by decide)]; exact q6_v b b0 b1
      · rw [bb3 b b0 b1]
        exact ⟨fun z => ⟨b0, by omega, z.2⟩, fun z => ⟨by have := z.2.1; omega, z.2.2⟩⟩
      · rw [f15 12 (by decide), q2_v 12 (by decide), z10.2.2.1]
        exact ⟨fun z => absurd z (tb_zero b0 (by omega)), False.elim⟩
      · rw [f15 13 (by decide), q2_v 13 (by decide), z10.2.2.2.1]; rfl
      · rw [f15 14 (by decide), q2_v 14 (by decide), z10.2.2.2.2.1]; rfl
      · rw [f15 15 (by decide), q2_v 15 (by decide), z10.2.2.2.2.2]; rfl
    · refine zx_go (pc1 := 85) (l1 := [some (zr 15), some (zi i)]) (st1 := [zi i, zr 12]) (w1 := wr c R3) g_X3_begin 4 _ _ _ _ rfl ?_
      refine gz_iald g_X3_begin rfl (n := 16) rfl (by decide) rfl (by decide) (by omega) (by omega) ?_
      refine zx_go (pc1 := 87) (l1 := [some (zr 15), some (zi i)]) (st1 := [zi 1, zi (R3 12 i)]) (w1 := wr c R3) g_X3_begin 1 _ _ _ _ rfl ?_
      refine zx_cmp g_X3_begin rfl (by have := hpc i i0 (by omega); rw [← e12_v] at this; have := cnt_R (fun k => D 11 k = i) (D 10 2).toNat; have := hD.2.2.1; omega) (by decide) (fun (h87 : 1 < (R3 12 i)) => ?_) (fun (h87 : ¬ (1 < (R3 12 i))) => ?_)
      · refine zx_go (pc1 := 66) (l1 := [some (zr 15), some (zi (i + 1))]) (st1 := []) (w1 := wr c R3) g_X3_begin 2 _ _ _ _ rfl ?_
        refine ih66 (Int.toNat (D 10 0 - (i + 1))) (by omega) (i + 1) R3 (by omega) ?_
        refine ⟨by omega, by omega, fr3, f15, mm3, fun b b0 b1 => (bb3 b b0 b1).trans ⟨fun z => ⟨by omega, z.2⟩, fun z => ⟨?_, z.2⟩⟩⟩
        by_cases y : b = i
        · rw [y] at z
          exact absurd z.2.2 (by have := hpc i i0 (by omega); rw [← e12_v] at this; omega)
        · omega
      · skip
        refine zx_go (pc1 := 95) (l1 := [some (zr 15), some (zi i)]) (st1 := [zi i, zi (R3 15 10)]) (w1 := wr c R3) g_X3_begin 3 _ _ _ _ rfl ?_
        refine zx_csF (As := [zi (R3 15 10), zi i]) (rest := []) g_X3_begin rfl g_X5_isIn rfl rfl (Nat.le_of_ble_eq_true rfl) (Nat.le_of_ble_eq_true rfl) (s_isIn (R3 15 10) i) ?_
        refine zx_ifne g_X3_begin rfl (fun (h98 : (tb (R3 15 10) i)) => ?_) (fun (h98 : ¬ (tb (R3 15 10) i)) => ?_)
        · refine zx_go (pc1 := 66) (l1 := [some (zr 15), some (zi (i + 1))]) (st1 := []) (w1 := wr c R3) g_X3_begin 2 _ _ _ _ rfl ?_
          refine ih66 (Int.toNat (D 10 0 - (i + 1))) (by omega) (i + 1) R3 (by omega) ?_
          refine ⟨by omega, by omega, fr3, f15, mm3, fun b b0 b1 => (bb3 b b0 b1).trans ⟨fun z => ⟨by omega, z.2⟩, fun z => ⟨?_, z.2⟩⟩⟩
          by_cases y : b = i
          · rw [y] at z
            exact absurd ((hR61.2.2.2.2.2 i i0 (by omega)).mp (by rw [← e1510]; exact h98)) z.2.1
          · omega
        · refine zx_go (pc1 := 108) (l1 := [some (zr 15), some (zi i)]) (st1 := [zi i, zi 1, zi (R3 15 11), zr 15]) (w1 := wr c R3) g_X3_begin 5 _ _ _ _ rfl ?_
          refine zx_go (pc1 := 109) (l1 := [some (zr 15), some (zi i)]) (st1 := [zi (zshl 1 i), zi (R3 15 11), zr 15]) (w1 := wr c R3) g_X3_begin 1 _ _ _ _ rfl ?_
          refine zx_go (pc1 := 110) (l1 := [some (zr 15), some (zi i)]) (st1 := [zi (zor (R3 15 11) (zshl 1 i)), zr 15]) (w1 := wr c R3) g_X3_begin 1 _ _ _ _ rfl ?_
          refine gz_put 11 g_X3_begin rfl rfl rfl (by decide) rfl (by refine ⟨?_, ?_, ?_, ?_, ?_⟩ <;> simp) ?_
          refine zx_go (pc1 := 66) (l1 := [some (zr 15), some (zi (i + 1))]) (st1 := []) (w1 := wr c (zU R3 15 11 (zor (R3 15 11) (zshl 1 i)))) g_X3_begin 2 _ _ _ _ rfl ?_
          refine ih66 (Int.toNat (D 10 0 - (i + 1))) (by omega) (i + 1) (zU R3 15 11 (zor (R3 15 11) (zshl 1 i))) (by omega) ?_
          refine ⟨by omega, by omega, fun a ha_v => by rw [zU_cell ha_v]; exact fr3 a ha_v, fun j hj => by rw [zU_at hj]; exact f15 j hj, by rw [zU_same]; exact M16_or mm3 (M16_one i0 (by omega)), fun b b0 b1 => ?_⟩
          rw [zU_same, tb_or b0 (by omega), tb_one b0 (by omega) i0 (by omega), bb3 b b0 b1]
          constructor
          · rintro (z | z)
            · exact ⟨by omega, z.2⟩
            · rw [z]
              exact ⟨by omega, fun y => h98 (by rw [e1510]; exact (hR61.2.2.2.2.2 i i0 (by omega)).mpr y), by have := hpc i i0 (by omega); rw [← e12_v] at this; omega⟩
          · intro z
            by_cases y : b = i
            · exact .inr y
            · exact .inl ⟨by omega, z.2⟩
  refine lp66 (Int.toNat (D 10 0 - 0)) 0 R61 (by omega) ?_
  refine ⟨by omega, by omega, fun _ _ => rfl, fun _ _ => rfl, ?_, fun b b0 b1 => ?_⟩
  · rw [hR61.2.1 11 (by decide), z10.2.1]; exact M16_0
  · rw [hR61.2.1 11 (by decide), z10.2.1]
    exact ⟨fun z => absurd z (tb_zero b0 (by omega)), fun z => by omega⟩

