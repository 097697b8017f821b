/-! ===== contracts (12): rounds ===== -/
theorem cnt_ext {P : Int → Prop} (n : Nat) : ∀ k : Nat, (∀ i : Int, n ≤ i → i < ((n + k : Nat) : Int) → ¬ P i) → cnt P (n + k) = cnt P n
  | 0, _ => rfl
  | k + 1, h => by
    show cnt P (n + k) + bI (P ((n + k : Nat) : Int)) = cnt P n
    rw [cnt_ext n k (fun i a b => h i a (by omega)), bI_f (h _ (by omega) (by omega)), Int.add_zero]
theorem cnt_lt {P : Int → Prop} : ∀ n : Nat, cnt P n < n ↔ ∃ i, 0 ≤ i ∧ i < (n : Int) ∧ ¬ P i
  | 0 => ⟨fun h => by unfold cnt at h; omega, fun ⟨i, a, b, _⟩ => by omega⟩
  | n + 1 => by
    have c1_v := cnt_R P n
    constructor
    · intro h
      by_cases q : P n
      · unfold cnt at h
        rw [bI_t q] at h
        obtain ⟨i, a, b, d⟩ := (cnt_lt (P := P) n).mp (by omega)
        exact ⟨i, a, by omega, d⟩
      · exact ⟨n, by omega, by omega, q⟩
    · rintro ⟨i, a, b, d⟩
      unfold cnt
      by_cases q : P n
      · rw [bI_t q]
        have := (cnt_lt (P := P) n).mpr ⟨i, a, by
          by_cases e : i = n
          · rw [e] at d; exact absurd q d
          · omega, d⟩
        omega
      · rw [bI_f q]
        omega
theorem clo_R {c : zC} {D : zI} (hD : DOK c D) {b : Int} (h : clo c D b) : 0 ≤ b ∧ b < D 10 0 := by
  obtain ⟨k, k0, k1, k2_v, k3_v⟩ := h
  have := hD.2.2.2.2.2.2.1 k k0 k1
  omega
theorem mask_cnt {m N : Int} {P : Int → Prop} (n0 : 0 ≤ N) (n1 : N ≤ 16) (hb : ∀ b, 0 ≤ b → b < 16 → (tb m b ↔ P b)) (hP : ∀ b, P b → b < N) : cnt (tb m) 16 = cnt P N.toNat := by
  have e : (16 : Nat) = N.toNat + (16 - N.toNat) := by omega
  rw [e, cnt_ext N.toNat (16 - N.toNat) (fun i a b z => by have := hP i ((hb i (by omega) (by omega)).mp z); omega)]
  exact cnt_congr _ (fun i a b => hb i a (by omega))
theorem ce_mask {c : zC} {D R : zI} {s : aS} (hc : CE c D s R) : M16 (zor (R 15 10) (R 15 11)) ∧ ∀ b, 0 ≤ b → b < 16 → (tb (zor (R 15 10) (R 15 11)) b ↔ (clo c D b ∨ aJ s b)) := by
  obtain ⟨dd, hk, e1_v, e2_v, e3_v, e4_v, m1_v, m2_v, m3_v, bb, c1_v, c2_v, c3_v⟩ := hc
  exact ⟨M16_or m1_v m2_v, fun b b0 b1 => by rw [tb_or b0 (by omega), (bb b b0 b1).1, (bb b b0 b1).2.1]⟩
theorem ce_wait {c : zC} {D R : zI} {s : aS} {B : Int} (hD : DOK c D) (hA : AI c D s B) (hc : CE c D s R) : cnt (tb (zor (R 15 10) (R 15 11))) 16 < R 10 0 ↔ wai c D s := by
  have n16 := hD.2.1
  have mm := ce_mask hc
  rw [hc.1.2.2.2.2.1, mask_cnt n16.1 n16.2 mm.2 (fun b z => z.elim (fun y => (clo_R hD y).2) (fun y => (hA.2.2.1 b y).2.1))]
  have := cnt_lt (P := fun b => clo c D b ∨ aJ s b) (D 10 0).toNat
  rw [show (((D 10 0).toNat : Nat) : Int) = D 10 0 by omega] at this
  rw [this]
  constructor
  · rintro ⟨i, a, b, d⟩
    exact ⟨i, a, b, fun z => d (.inl z), fun z => d (.inr z)⟩
  · rintro ⟨i, a, b, d, e⟩
    exact ⟨i, a, b, fun z => z.elim d e⟩
theorem aNs_go {c : zC} {D : zI} {s : aS} {i : Int} (i0 : 0 ≤ i) : aNs c D (i + 1).toNat s = cI (clo c D i ∨ aJ (aNs c D i.toNat s) i) (aNs c D i.toNat s) (aRt c D i (aNs c D i.toNat s)) := by
  rw [show (i + 1).toNat = i.toNat + 1 by omega]
  show cI (clo c D ((i.toNat : Nat) : Int) ∨ aJ (aNs c D i.toNat s) ((i.toNat : Nat) : Int)) (aNs c D i.toNat s) (aRt c D ((i.toNat : Nat) : Int) (aNs c D i.toNat s)) = _
  rw [show ((i.toNat : Nat) : Int) = i by omega]
theorem aRs_go {c : zC} {D : zI} {s : aS} {k r : Int} (h : r < k) : aRs c D (k - r).toNat s = cI (wai c D s) (aRs c D (k - (r + 1)).toNat (aNs c D (D 10 0).toNat (bump s))) s := by
  rw [show (k - r).toNat = (k - (r + 1)).toNat + 1 by omega]
  rfl
theorem ce_bump {c : zC} {D R : zI} {s : aS} (hc : CE c D s R) : RF R (zU R 15 13 (R 15 13 + 1)) ∧ CE c D (bump s) (zU R 15 13 (R 15 13 + 1)) := by
  obtain ⟨dd, hk, e1_v, e2_v, e3_v, e4_v, m1_v, m2_v, m3_v, bb, c1_v, c2_v, c3_v⟩ := hc
  have rf : RF R (zU R 15 13 (R 15 13 + 1)) := fun a ha_v => zU_cell (by omega)
  refine ⟨rf, dd.of rf, ?_⟩
  rw [zU_cell (by decide), zU_cell (by decide), zU_cell (by decide), zU_cell (by decide), zU_cell (by decide), zU_cell (by decide), zU_cell (by decide), zU_cell (by decide), zU_cell (by decide)]
  refine ⟨hk, e1_v, e2_v, e3_v, e4_v, ?_⟩
  rw [zU_at (by decide), zU_at (by decide), zU_at (by decide), zU_same, zU_at (by decide), zU_at (by decide)]
  exact ⟨m1_v, m2_v, m3_v, bb, by rw [c1_v]; rfl, c2_v, c3_v⟩

set_option maxHeartbeats 1000000 in
theorem s_someWait {c : zC} {R : zI} {D : zI} {s : aS} {B : Int} (hD : DOK c D) (hA : AI c D s B) (hc : CE c D s R) : MZ m_X3_someWait [zr 15] (wr c R) (qF (zi (bI (wai c D s))) (wr c R)) := by
  refine MZ.of g_X3_someWait ?_
  show ZX m_X3_someWait 0 [some (zr 15)] [] (wr c R) _
  have n16 := hD.2.1
  have e10_v : R 10 0 = D 10 0 := by rw [hc.1.2.2.2.2.1]
  have cR := cnt_R (tb (zor (R 15 10) (R 15 11))) 16
  have cw_v := ce_wait hD hA hc
  refine zx_go (pc1 := 8) (l1 := [some (zr 15)]) (st1 := [zi (R 15 11), zi (R 15 10)]) (w1 := wr c R) g_X3_someWait 4 _ _ _ _ rfl ?_
  refine zx_go (pc1 := 9) (l1 := [some (zr 15)]) (st1 := [zi (zor (R 15 10) (R 15 11))]) (w1 := wr c R) g_X3_someWait 1 _ _ _ _ rfl ?_
  refine zx_csF (As := [zi (zor (R 15 10) (R 15 11))]) (rest := []) g_X3_someWait rfl g_J6_bitCount_0f7a4 rfl rfl (Nat.le_of_ble_eq_true rfl) (Nat.le_of_ble_eq_true rfl) (t_bits (ce_mask hc).1) ?_
  refine zx_go (pc1 := 19) (l1 := [some (zr 15)]) (st1 := [zi (R 10 0), zi (cnt (tb (zor (R 15 10) (R 15 11))) 16)]) (w1 := wr c R) g_X3_someWait 3 _ _ _ _ rfl ?_
  refine zx_cmp g_X3_someWait rfl (by omega) (by omega) (fun (h19 : (R 10 0) ≤ (cnt (tb (zor (R 15 10) (R 15 11))) 16)) => ?_) (fun (h19 : ¬ ((R 10 0) ≤ (cnt (tb (zor (R 15 10) (R 15 11))) 16))) => ?_)
  · refine zx_go (pc1 := 27) (l1 := [some (zr 15)]) (st1 := [zi 0]) (w1 := wr c R) g_X3_someWait 1 _ _ _ _ rfl ?_
    refine zx_iret g_X3_someWait rfl (.inr (.inl rfl)) ?_
    exact qF_f (fun z => absurd (cw_v.mpr z) (by omega))
  · refine zx_go (pc1 := 27) (l1 := [some (zr 15)]) (st1 := [zi 1]) (w1 := wr c R) g_X3_someWait 2 _ _ _ _ rfl ?_
    refine zx_iret g_X3_someWait rfl (.inr (.inr rfl)) ?_
    exact qF_t (cw_v.mp (by omega))

set_option maxHeartbeats 1000000 in
theorem s_makeRounds {c : zC} {R : zI} {D : zI} {s : aS} {k : Int} (hD : DOK c D) (hA : AI c D s 0) (k0 : 0 ≤ k) (k1 : k ≤ 8) (hc : CE c D s R) : MZ m_X3_makeRounds [zr 15, zi k] (wr c R) (gU (fun R2 => RF R R2 ∧ CE c D (aRs c D k.toNat s) R2) c) := by
  refine MZ.of g_X3_makeRounds ?_
  show ZX m_X3_makeRounds 0 [some (zr 15), some (zi k), none, none] [] (wr c R) _
  have n16 := hD.2.1
  refine zx_go (pc1 := 2) (l1 := [some (zr 15), some (zi k), some (zi 0), none]) (st1 := []) (w1 := wr c R) g_X3_makeRounds 2 _ _ _ _ rfl ?_
  have lp2 : ∀ (it : Nat) (r1_v : Int) (R1 : zI) (o3_v : Option zV), (it : Int) = k - r1_v → (0 ≤ r1_v ∧ r1_v ≤ k ∧ RF R R1 ∧ ∃ s1_v : aS, CE c D s1_v R1 ∧ AI c D s1_v (640 * r1_v) ∧ aRs c D (k - r1_v).toNat s1_v = aRs c D k.toNat s) → ZX m_X3_makeRounds 2 [some (zr 15), some (zi k), some (zi r1_v), o3_v] [] (wr c R1) (gU (fun R2 => RF R R2 ∧ CE c D (aRs c D k.toNat s) R2) c) := by
    refine fun it => Nat.strongRecOn it (fun it ih2 => ?_)
    intro r1_v R1 o3_v hn2 hi2
    obtain ⟨q0, q1_v, rf1, s1_v, ce1, ai1, al1⟩ := hi2
    refine zx_go (pc1 := 4) (l1 := [some (zr 15), some (zi k), some (zi r1_v), o3_v]) (st1 := [zi k, zi r1_v]) (w1 := wr c R1) g_X3_makeRounds 2 _ _ _ _ rfl ?_
    refine zx_cmp g_X3_makeRounds rfl (by omega) (by omega) (fun (h4 : k ≤ r1_v) => ?_) (fun (h4 : ¬ (k ≤ r1_v)) => ?_)
    · refine zx_vret g_X3_makeRounds rfl ?_
      refine gU_i ⟨rf1, ?_⟩
      rw [← al1]
      rw [show (k - r1_v).toNat = 0 by omega]
      exact ce1
    · refine zx_go (pc1 := 8) (l1 := [some (zr 15), some (zi k), some (zi r1_v), o3_v]) (st1 := [zr 15]) (w1 := wr c R1) g_X3_makeRounds 1 _ _ _ _ rfl ?_
      refine zx_cvF (As := []) (rest := []) g_X3_makeRounds rfl g_X3_someWait rfl rfl (Nat.le_of_ble_eq_true rfl) (Nat.le_of_ble_eq_true rfl) rfl (by decide) (s_someWait hD ai1 ce1) ?_
      refine zx_ifeq g_X3_makeRounds rfl (fun (h11 : ¬ (wai c D s1_v)) => ?_) (fun (h11 : (wai c D s1_v)) => ?_)
      · refine zx_vret g_X3_makeRounds rfl ?_
        refine gU_i ⟨rf1, ?_⟩
        rw [← al1]
        rw [aRs_go (c := c) (D := D) (s := s1_v) (k := k) (r := r1_v) (by omega), cI_f h11]
        exact ce1
      · have aG := aRs_go (c := c) (D := D) (s := s1_v) (k := k) (r := r1_v) (by omega)
        have bc := ce_bump ce1
        refine zx_go (pc1 := 21) (l1 := [some (zr 15), some (zi k), some (zi r1_v), o3_v]) (st1 := [zi ((R1 15 13) + 1), zr 15]) (w1 := wr c R1) g_X3_makeRounds 5 _ _ _ _ rfl ?_
        refine gz_put 13 g_X3_makeRounds rfl rfl rfl (by decide) rfl (by refine ⟨?_, ?_, ?_, ?_, ?_⟩ <;> simp) ?_
        refine zx_go (pc1 := 26) (l1 := [some (zr 15), some (zi k), some (zi r1_v), some (zi 0)]) (st1 := []) (w1 := wr c (zU R1 15 13 ((R1 15 13) + 1))) g_X3_makeRounds 2 _ _ _ _ rfl ?_
        have lp26 : ∀ (it : Nat) (i : Int) (R3 : zI), (it : Int) = D 10 0 - i → (0 ≤ i ∧ i ≤ D 10 0 ∧ RF R R3 ∧ CE c D (aNs c D i.toNat (bump s1_v)) R3) → ZX m_X3_makeRounds 26 [some (zr 15), some (zi k), some (zi r1_v), some (zi i)] [] (wr c R3) (gU (fun R2 => RF R R2 ∧ CE c D (aRs c D k.toNat s) R2) c) := by
          refine fun it => Nat.strongRecOn it (fun it ih26 => ?_)
          intro i R3 hn26 hi26
          obtain ⟨j0, j1, rf3, ce3⟩ := hi26
          have e10_v : R3 10 0 = D 10 0 := by rw [ce3.1.2.2.2.2.1]
          have ai3 := aNs_AI hD (bump_AI ai1) i.toNat (by omega)
          have mk3 := ce_mask ce3
          refine zx_go (pc1 := 34) (l1 := [some (zr 15), some (zi k), some (zi r1_v), some (zi i)]) (st1 := [zi (R3 10 0), zi i]) (w1 := wr c R3) g_X3_makeRounds 4 _ _ _ _ rfl ?_
          refine zx_cmp g_X3_makeRounds rfl (by omega) (by omega) (fun (h34 : (R3 10 0) ≤ i) => ?_) (fun (h34 : ¬ ((R3 10 0) ≤ i)) => ?_)
          · refine zx_go (pc1 := 2) (l1 := [some (zr 15), some (zi k), some (zi (r1_v + 1)), some (zi i)]) (st1 := []) (w1 := wr c R3) g_X3_makeRounds 2 _ _ _ _ rfl ?_
            refine ih2 (Int.toNat (k - (r1_v + 1))) (by omega) (r1_v + 1) R3 (some (zi i)) (by omega) ?_
            have ai5 := aNs_AI hD (bump_AI ai1) (D 10 0).toNat (by omega)
            have ei : i = D 10 0 := by omega
            rw [ei] at ce3
            refine ⟨by omega, by omega, rf3, aNs c D (D 10 0).toNat (bump s1_v), ce3, ?_, ?_⟩
            · exact AI.le (x := (fun _ => True, fun _ => True, aNs c D (D 10 0).toNat (bump s1_v))) ai5 (by omega)
            · rw [← al1, aG, cI_t h11]
          · refine zx_go (pc1 := 39) (l1 := [some (zr 15), some (zi k), some (zi r1_v), some (zi i)]) (st1 := [zi i, zr 15]) (w1 := wr c R3) g_X3_makeRounds 2 _ _ _ _ rfl ?_
            refine zx_cvF (As := [zi i]) (rest := []) g_X3_makeRounds rfl g_X3_waits rfl rfl (Nat.le_of_ble_eq_true rfl) (Nat.le_of_ble_eq_true rfl) rfl (by decide) s_waits ?_
            refine zx_ifeq g_X3_makeRounds rfl (fun (h42 : ¬ (¬ tb (zor (R3 15 10) (R3 15 11)) i)) => ?_) (fun (h42 : (¬ tb (zor (R3 15 10) (R3 15 11)) i)) => ?_)
            · refine zx_go (pc1 := 26) (l1 := [some (zr 15), some (zi k), some (zi r1_v), some (zi (i + 1))]) (st1 := []) (w1 := wr c R3) g_X3_makeRounds 2 _ _ _ _ rfl ?_
              refine ih26 (Int.toNat (D 10 0 - (i + 1))) (by omega) (i + 1) R3 (by omega) ?_
              refine ⟨by omega, by omega, rf3, ?_⟩
              rw [aNs_go j0, cI_t ((mk3.2 i j0 (by omega)).mp (Classical.not_not.mp h42))]
              exact ce3
            · have nw : ¬ (clo c D i ∨ aJ (aNs c D i.toNat (bump s1_v)) i) := fun z => h42 ((mk3.2 i j0 (by omega)).mpr z)
              refine zx_go (pc1 := 47) (l1 := [some (zr 15), some (zi k), some (zi r1_v), some (zi i)]) (st1 := [zi i, zr 15]) (w1 := wr c R3) g_X3_makeRounds 2 _ _ _ _ rfl ?_
              refine gx_cvU (As := [zi i]) (rest := []) g_X3_makeRounds rfl g_X3_route rfl rfl (Nat.le_of_ble_eq_true rfl) (Nat.le_of_ble_eq_true rfl) rfl (by decide) (s_route hD ai3 (by omega) j0 (by omega) (fun z => nw (.inl z)) (fun z => nw (.inr z)) ce3) (fun R47 hR47 => ?_)
              refine zx_go (pc1 := 26) (l1 := [some (zr 15), some (zi k), some (zi r1_v), some (zi (i + 1))]) (st1 := []) (w1 := wr c R47) g_X3_makeRounds 2 _ _ _ _ rfl ?_
              refine ih26 (Int.toNat (D 10 0 - (i + 1))) (by omega) (i + 1) R47 (by omega) ?_
              refine ⟨by omega, by omega, rf3.trans hR47.1, ?_⟩
              rw [aNs_go j0, cI_f nw]
              exact hR47.2
        refine lp26 (Int.toNat (D 10 0 - 0)) 0 (zU R1 15 13 ((R1 15 13) + 1)) (by omega) ?_
        exact ⟨by omega, by omega, rf1.trans bc.1, bc.2⟩
  refine lp2 (Int.toNat (k - 0)) 0 R none (by omega) ?_
  exact ⟨by omega, by omega, fun _ _ => rfl, s, hc, hA, by rw [Int.sub_zero]⟩

