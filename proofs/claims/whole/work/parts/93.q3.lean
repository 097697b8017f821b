/-! ===== the class's answers ===== -/
theorem zor_ne {u v : Int} (hu : M16 u) (hv : M16 v) : zor u v ≠ 0 ↔ (u ≠ 0 ∨ v ≠ 0) := by
  rw [M16_ne0 (M16_or hu hv), M16_ne0 hu, M16_ne0 hv]
  constructor
  · rintro ⟨n, n0, n1, h_v⟩
    rw [tb_or n0 (by omega)] at h_v
    exact h_v.imp (fun z => ⟨n, n0, n1, z⟩) (fun z => ⟨n, n0, n1, z⟩)
  · rintro (⟨n, n0, n1, h_v⟩ | ⟨n, n0, n1, h_v⟩)
    · exact ⟨n, n0, n1, by rw [tb_or n0 (by omega)]; exact .inl h_v⟩
    · exact ⟨n, n0, n1, by rw [tb_or n0 (by omega)]; exact .inr h_v⟩
section QC
variable {c : zC} {D R : zI} {s : aS} {B : Int}
theorem ce_std (hc : CE c D s R) {n p : Int} (n0 : 0 ≤ n) (n1 : n < 16) (hp : pls c p) : tb (zor (R 18 p) (R 22 p)) n ↔ std c D s n p := by
  obtain ⟨dd, hk, e1_v, e2_v, -⟩ := hc
  rw [tb_or n0 (by omega), ((e1_v p hp).2.2.2 n n0 n1).1, ((e2_v p hp).2.2.2 n n0 n1).1]
  exact Or.comm
theorem ce_brk (hD : DOK c D) (hA : AI c D s B) (hc : CE c D s R) {p : Int} (hp : pls c p) : hasC R p ↔ brk c D s p := by
  have n16 := hD.2.1
  have cs := fun n n0 n1 => ce_std (n := n) hc n0 n1 hp
  obtain ⟨dd, hk, e1_v, e2_v, -⟩ := hc
  have d10_v : R 10 = D 10 := dd.2.2.2.2.1
  have k1_v : ∀ n, 0 ≤ n → n < 16 → (clv (R 19) (R 20) n p (R 10 1) ≠ 0 ↔ ∃ b q, pls c q ∧ pin c D b q ∧ clash c D n p b q) := fun n a b => by
    rw [d10_v]
    exact es_clv0 e1_v (fun b q z => by have := pin_R hD z; omega) hp a b
  have k2_v : ∀ n, 0 ≤ n → n < 16 → (clv (R 23) (R 24) n p (R 10 1) ≠ 0 ↔ ∃ b q, pls c q ∧ aR s b q ∧ clash c D n p b q) := fun n a b => by
    rw [d10_v]
    exact es_clv0 e2_v (fun b q z => by have := hA.1 b q z; omega) hp a b
  have m1_v : ∀ n, M16 (clv (R 19) (R 20) n p (R 10 1)) := fun n => clv_M (e1_v p hp).2.1 (e1_v p hp).2.2.1
  have m2_v : ∀ n, M16 (clv (R 23) (R 24) n p (R 10 1)) := fun n => clv_M (e2_v p hp).2.1 (e2_v p hp).2.2.1
  unfold hasC
  rw [d10_v]
  rw [d10_v] at k1_v k2_v m1_v m2_v
  constructor
  · rintro ⟨n, n0, n1, z1, z2⟩
    rw [zor_ne (m1_v n) (m2_v n), k1_v n n0 (by omega), k2_v n n0 (by omega)] at z2
    rcases z2 with ⟨b, q, q0, q1_v, q2_v⟩ | ⟨b, q, q0, q1_v, q2_v⟩
    · have w := pin_R hD q1_v
      exact ⟨n, b, q, n0, n1, w.1, w.2.1, q0, (cs n n0 (by omega)).mp z1, .inr q1_v, q2_v⟩
    · have w := hA.1 b q q1_v
      exact ⟨n, b, q, n0, n1, w.1, w.2.1, q0, (cs n n0 (by omega)).mp z1, .inl q1_v, q2_v⟩
  · rintro ⟨n, b, q, n0, n1, b0, b1, q0, z1, z2, z3⟩
    refine ⟨n, n0, n1, (cs n n0 (by omega)).mpr z1, ?_⟩
    rw [zor_ne (m1_v n) (m2_v n), k1_v n n0 (by omega), k2_v n n0 (by omega)]
    rcases z2 with z2 | z2
    · exact .inr ⟨b, q, q0, z2, z3⟩
    · exact .inl ⟨b, q, q0, z2, z3⟩
end QC

set_option maxHeartbeats 1000000 in
theorem s_piece {c : zC} {R : zI} {D : zI} {s : aS} {n k w : Int} (hD : DOK c D) (hd : Din D R) (h3 : R 1 3 = 0 ∨ R 1 3 = 1) (hc : R 1 3 ≠ 0 → CE c D s R) (nr1 : inR n) (kr : inR k) (wr1 : inR w) : MZ m_X5_piece [zr 1, zi n, zi k, zi w] (wr c R) (cP (cd3 (¬ (0 ≤ n ∧ n < D 10 0) ∨ ¬ (0 ≤ w ∧ w ≤ 3)) (R 1 3 = 0) ((kth (std c D s n) (cS c : Int).toNat 0 k) = -1)) exB (fun b R1 => b = pcv c s n (kth (std c D s n) (cS c : Int).toNat 0 k) w ∧ R1 = R) c R) := by
  refine MZ.of g_X5_piece ?_
  show ZX m_X5_piece 0 [some (zr 1), some (zi n), some (zi k), some (zi w), none] [] (wr c R) _
  have hg := hD.1
  have g2 := hg
  unfold Geo at g2
  have g3_v := hg.S
  have n16 := hD.2.1
  have p40 := hD.2.2.1
  have e100_v : R 10 0 = D 10 0 := by rw [hd.2.2.2.2.1]
  have e102_v : R 10 2 = D 10 2 := by rw [hd.2.2.2.2.1]
  refine zx_go (pc1 := 2) (l1 := [some (zr 1), some (zi n), some (zi k), some (zi w), none]) (st1 := [zi n, zr 1]) (w1 := wr c R) g_X5_piece 2 _ _ _ _ rfl ?_
  refine zx_cvN (As := [zi n]) (rest := []) g_X5_piece rfl g_X5_needNet rfl rfl (Nat.le_of_ble_eq_true rfl) (Nat.le_of_ble_eq_true rfl) rfl (by decide) (s_needNet (by omega) (by omega)) rfl (fun hN2 => ?_) (fun hY2 => ?_)
  · exact cP_1 (cd31 (.inl (by omega))) rfl
  · refine zx_go (pc1 := 8) (l1 := [some (zr 1), some (zi n), some (zi k), some (zi w), none]) (st1 := [zi 4, zi w, zr 1]) (w1 := wr c R) g_X5_piece 3 _ _ _ _ rfl ?_
    refine zx_cvN (As := [zi w, zi 4]) (rest := []) g_X5_piece rfl g_X5_needWhat rfl rfl (Nat.le_of_ble_eq_true rfl) (Nat.le_of_ble_eq_true rfl) rfl (by decide) (s_needWhat (by omega) (by omega)) rfl (fun hN8 => ?_) (fun hY8 => ?_)
    · exact cP_1 (cd31 (.inr (by omega))) rfl
    · refine zx_go (pc1 := 12) (l1 := [some (zr 1), some (zi n), some (zi k), some (zi w), none]) (st1 := [zr 1]) (w1 := wr c R) g_X5_piece 1 _ _ _ _ rfl ?_
      refine zx_cvN (As := []) (rest := []) g_X5_piece rfl g_X5_needRun rfl rfl (Nat.le_of_ble_eq_true rfl) (Nat.le_of_ble_eq_true rfl) rfl (by decide) (s_needRun (by omega)) rfl (fun hN12 => ?_) (fun hY12 => ?_)
      · exact cP_2 (cd32 (fun z => z.elim (fun w => w (by omega)) (fun w => w (by omega))) (Classical.not_not.mp hN12)) rfl
      · refine zx_go (pc1 := 21) (l1 := [some (zr 1), some (zi n), some (zi k), some (zi w), none]) (st1 := [zi k, zi n, zr 15]) (w1 := wr c R) g_X5_piece 4 _ _ _ _ rfl ?_
        refine zx_cvF (As := [zi n, zi k]) (rest := []) g_X5_piece rfl g_X3_standingAt rfl rfl (Nat.le_of_ble_eq_true rfl) (Nat.le_of_ble_eq_true rfl) rfl (by decide) (s_standingAt hg (by omega)) ?_
        have ce := hc hY12
        have ek : kth (fun i => tb (zor (R 18 i) (R 22 i)) n) (cS c : Int).toNat 0 k = (kth (std c D s n) (cS c : Int).toNat 0 k) := kth_congr _ _ _ fun j j0 j1 => ce_std ce (by omega) (by omega) ⟨by omega, by omega⟩
        rw [ek]
        have kR := kth_lt (P := std c D s n) (cS c : Int).toNat 0 k
        refine zx_go (pc1 := 29) (l1 := [some (zr 1), some (zi n), some (zi k), some (zi w), some (zi (kth (std c D s n) (cS c : Int).toNat 0 k))]) (st1 := [zi (-1), zi (kth (std c D s n) (cS c : Int).toNat 0 k)]) (w1 := wr c R) g_X5_piece 3 _ _ _ _ rfl ?_
        refine zx_cmp g_X5_piece rfl (by omega) (by omega) (fun (h29 : (kth (std c D s n) (cS c : Int).toNat 0 k) ≠ (-1)) => ?_) (fun (h29 : ¬ ((kth (std c D s n) (cS c : Int).toNat 0 k) ≠ (-1))) => ?_)
        · refine zx_go (pc1 := 43) (l1 := [some (zr 1), some (zi n), some (zi k), some (zi w), some (zi (kth (std c D s n) (cS c : Int).toNat 0 k))]) (st1 := [zi w]) (w1 := wr c R) g_X5_piece 1 _ _ _ _ rfl ?_
          by_cases h43_0 : w = 0
          · refine zx_swE g_X5_piece rfl h43_0 (by decide) (t := 68) rfl ?_
            refine zx_go (pc1 := 77) (l1 := [some (zr 1), some (zi n), some (zi k), some (zi w), some (zi (kth (std c D s n) (cS c : Int).toNat 0 k))]) (st1 := [zi (kth (std c D s n) (cS c : Int).toNat 0 k), zr 6]) (w1 := wr c R) g_X5_piece 4 _ _ _ _ rfl ?_
            refine gz_ld6 g_X5_piece rfl hg (by omega) (by omega) ?_
            refine zx_iret g_X5_piece rfl (.inl rfl) ?_
            refine cP_0 (cd30 (fun z => z.elim (fun w => w (by omega)) (fun w => w (by omega))) hY12 h29) ⟨?_, rfl⟩
            unfold pcv
            rw [if_pos h43_0]
          · skip
            by_cases h43_1 : w = 1
            · refine zx_swE g_X5_piece rfl h43_1 (by decide) (t := 79) rfl ?_
              refine zx_go (pc1 := 88) (l1 := [some (zr 1), some (zi n), some (zi k), some (zi w), some (zi (kth (std c D s n) (cS c : Int).toNat 0 k))]) (st1 := [zi (kth (std c D s n) (cS c : Int).toNat 0 k), zr 7]) (w1 := wr c R) g_X5_piece 4 _ _ _ _ rfl ?_
              refine gz_ld7 g_X5_piece rfl hg (by omega) (by omega) ?_
              refine zx_iret g_X5_piece rfl (.inl rfl) ?_
              refine cP_0 (cd30 (fun z => z.elim (fun w => w (by omega)) (fun w => w (by omega))) hY12 h29) ⟨?_, rfl⟩
              unfold pcv
              rw [if_neg h43_0, if_pos h43_1]
            · skip
              by_cases h43_2 : w = 2
              · refine zx_swE g_X5_piece rfl h43_2 (by decide) (t := 90) rfl ?_
                refine zx_go (pc1 := 99) (l1 := [some (zr 1), some (zi n), some (zi k), some (zi w), some (zi (kth (std c D s n) (cS c : Int).toNat 0 k))]) (st1 := [zi (kth (std c D s n) (cS c : Int).toNat 0 k), zr 8]) (w1 := wr c R) g_X5_piece 4 _ _ _ _ rfl ?_
                refine gz_ld8 g_X5_piece rfl hg (by omega) (by omega) ?_
                refine zx_iret g_X5_piece rfl (.inl rfl) ?_
                refine cP_0 (cd30 (fun z => z.elim (fun w => w (by omega)) (fun w => w (by omega))) hY12 h29) ⟨?_, rfl⟩
                unfold pcv
                rw [if_neg h43_0, if_neg h43_1, if_pos h43_2]
              · skip
                refine zx_swD g_X5_piece rfl (by omega) (by omega) (t := 101) rfl ?_
                have u30 : tb (R 30 (kth (std c D s n) (cS c : Int).toNat 0 k)) n ↔ aU s n (kth (std c D s n) (cS c : Int).toNat 0 k) := (ce.2.2.2.2.1 (kth (std c D s n) (cS c : Int).toNat 0 k) ⟨by omega, by omega⟩).2 n (by omega) (by omega)
                refine zx_go (pc1 := 110) (l1 := [some (zr 1), some (zi n), some (zi k), some (zi w), some (zi (kth (std c D s n) (cS c : Int).toNat 0 k))]) (st1 := [zi (kth (std c D s n) (cS c : Int).toNat 0 k), zr 30]) (w1 := wr c R) g_X5_piece 4 _ _ _ _ rfl ?_
                refine gz_iald g_X5_piece rfl (n := cS c) rfl (by decide) rfl (by have := hg.S; omega) (by omega) (by omega) ?_
                refine zx_go (pc1 := 112) (l1 := [some (zr 1), some (zi n), some (zi k), some (zi w), some (zi (kth (std c D s n) (cS c : Int).toNat 0 k))]) (st1 := [zi n, zi (R 30 (kth (std c D s n) (cS c : Int).toNat 0 k))]) (w1 := wr c R) g_X5_piece 1 _ _ _ _ rfl ?_
                refine zx_csF (As := [zi (R 30 (kth (std c D s n) (cS c : Int).toNat 0 k)), zi n]) (rest := []) g_X5_piece rfl g_X5_isIn rfl rfl (Nat.le_of_ble_eq_true rfl) (Nat.le_of_ble_eq_true rfl) (s_isIn (R 30 (kth (std c D s n) (cS c : Int).toNat 0 k)) n) ?_
                refine zx_ifeq g_X5_piece rfl (fun (h115 : ¬ (tb (R 30 (kth (std c D s n) (cS c : Int).toNat 0 k)) n)) => ?_) (fun (h115 : (tb (R 30 (kth (std c D s n) (cS c : Int).toNat 0 k)) n)) => ?_)
                · refine zx_go (pc1 := 123) (l1 := [some (zr 1), some (zi n), some (zi k), some (zi w), some (zi (kth (std c D s n) (cS c : Int).toNat 0 k))]) (st1 := [zi 0]) (w1 := wr c R) g_X5_piece 1 _ _ _ _ rfl ?_
                  refine zx_iret g_X5_piece rfl (.inl rfl) ?_
                  refine cP_0 (cd30 (fun z => z.elim (fun w => w (by omega)) (fun w => w (by omega))) hY12 h29) ⟨?_, rfl⟩
                  unfold pcv
                  rw [if_neg h43_0, if_neg h43_1, if_neg h43_2]
                  exact (bI_f (fun z => h115 (u30.mpr z))).symm
                · refine zx_go (pc1 := 123) (l1 := [some (zr 1), some (zi n), some (zi k), some (zi w), some (zi (kth (std c D s n) (cS c : Int).toNat 0 k))]) (st1 := [zi 1]) (w1 := wr c R) g_X5_piece 2 _ _ _ _ rfl ?_
                  refine zx_iret g_X5_piece rfl (.inl rfl) ?_
                  refine cP_0 (cd30 (fun z => z.elim (fun w => w (by omega)) (fun w => w (by omega))) hY12 h29) ⟨?_, rfl⟩
                  unfold pcv
                  rw [if_neg h43_0, if_neg h43_1, if_neg h43_2]
                  exact (bI_t (u30.mp h115)).symm
        · refine zx_throw g_X5_piece rfl rfl (Nat.le_of_ble_eq_true rfl) ?_
          exact cP_1 (cd33 (fun z => z.elim (fun w => w (by omega)) (fun w => w (by omega))) hY12 (Classical.not_not.mp h29)) rfl

set_option maxHeartbeats 1000000 in
theorem s_chosen {c : zC} {R : zI} {D : zI} {s : aS} {k : Int} (hD : DOK c D) (hd : Din D R) (h3 : R 1 3 = 0 ∨ R 1 3 = 1) (hc : R 1 3 ≠ 0 → CE c D s R) (kr : inR k) : MZ m_X5_chosen [zr 1, zi k] (wr c R) (cP (cdv (¬ (0 ≤ k ∧ k < D 10 2)) (R 1 3 = 0)) exB (fun b R1 => b = pk c D k ∧ R1 = R) c R) := by
  refine MZ.of g_X5_chosen ?_
  show ZX m_X5_chosen 0 [some (zr 1), some (zi k)] [] (wr c R) _
  have hg := hD.1
  have g2 := hg
  unfold Geo at g2
  have g3_v := hg.S
  have n16 := hD.2.1
  have p40 := hD.2.2.1
  have e100_v : R 10 0 = D 10 0 := by rw [hd.2.2.2.2.1]
  have e102_v : R 10 2 = D 10 2 := by rw [hd.2.2.2.2.1]
  refine zx_go (pc1 := 2) (l1 := [some (zr 1), some (zi k)]) (st1 := [zi k, zr 1]) (w1 := wr c R) g_X5_chosen 2 _ _ _ _ rfl ?_
  refine zx_cvN (As := [zi k]) (rest := []) g_X5_chosen rfl g_X5_needPin rfl rfl (Nat.le_of_ble_eq_true rfl) (Nat.le_of_ble_eq_true rfl) rfl (by decide) (s_needPin (by omega) (by omega)) rfl (fun hN2 => ?_) (fun hY2 => ?_)
  · exact cP_1 (cdv1 (by omega)) rfl
  · refine zx_go (pc1 := 6) (l1 := [some (zr 1), some (zi k)]) (st1 := [zr 1]) (w1 := wr c R) g_X5_chosen 1 _ _ _ _ rfl ?_
    refine zx_cvN (As := []) (rest := []) g_X5_chosen rfl g_X5_needRun rfl rfl (Nat.le_of_ble_eq_true rfl) (Nat.le_of_ble_eq_true rfl) rfl (by decide) (s_needRun (by omega)) rfl (fun hN6 => ?_) (fun hY6 => ?_)
    · exact cP_2 (cdv2 (by omega) (Classical.not_not.mp hN6)) rfl
    · refine zx_go (pc1 := 17) (l1 := [some (zr 1), some (zi k)]) (st1 := [zi k, zr 16]) (w1 := wr c R) g_X5_chosen 4 _ _ _ _ rfl ?_
      refine gz_iald g_X5_chosen rfl (n := 40) rfl (by decide) rfl (by decide) (by omega) (by omega) ?_
      refine zx_iret g_X5_chosen rfl (.inl rfl) ?_
      exact cP_0 (cdv0 (by omega) hY6) ⟨(hc hY6).2.1 k (by omega) (by omega), rfl⟩

set_option maxHeartbeats 1000000 in
theorem s_open {c : zC} {R : zI} {D : zI} {s : aS} {k w : Int} (hD : DOK c D) (hd : Din D R) (h3 : R 1 3 = 0 ∨ R 1 3 = 1) (hc : R 1 3 ≠ 0 → CE c D s R) (kr : inR k) (wr1 : inR w) : MZ m_X5_open [zr 1, zi k, zi w] (wr c R) (cP (cdv (¬ (0 ≤ w ∧ w ≤ 1) ∨ k < 0) (R 1 3 = 0)) exB (fun b R1 => b = opv c D s (kth (fun i => ¬ aJ s i) (D 10 0).toNat 0 k) w ∧ R1 = R) c R) := by
  refine MZ.of g_X5_open ?_
  show ZX m_X5_open 0 [some (zr 1), some (zi k), some (zi w), none] [] (wr c R) _
  have hg := hD.1
  have g2 := hg
  unfold Geo at g2
  have g3_v := hg.S
  have n16 := hD.2.1
  have p40 := hD.2.2.1
  have e100_v : R 10 0 = D 10 0 := by rw [hd.2.2.2.2.1]
  have e102_v : R 10 2 = D 10 2 := by rw [hd.2.2.2.2.1]
  refine zx_go (pc1 := 3) (l1 := [some (zr 1), some (zi k), some (zi w), none]) (st1 := [zi 2, zi w, zr 1]) (w1 := wr c R) g_X5_open 3 _ _ _ _ rfl ?_
  refine zx_cvN (As := [zi w, zi 2]) (rest := []) g_X5_open rfl g_X5_needWhat rfl rfl (Nat.le_of_ble_eq_true rfl) (Nat.le_of_ble_eq_true rfl) rfl (by decide) (s_needWhat (by omega) (by omega)) rfl (fun hN3 => ?_) (fun hY3 => ?_)
  · exact cP_1 (cdv1 (.inl (by omega))) rfl
  · refine zx_go (pc1 := 8) (l1 := [some (zr 1), some (zi k), some (zi w), none]) (st1 := [zi k, zr 1]) (w1 := wr c R) g_X5_open 2 _ _ _ _ rfl ?_
    refine zx_cvN (As := [zi k]) (rest := []) g_X5_open rfl g_X5_needNotBelowZero rfl rfl (Nat.le_of_ble_eq_true rfl) (Nat.le_of_ble_eq_true rfl) rfl (by decide) (s_needNotBelowZero (by omega)) rfl (fun hN8 => ?_) (fun hY8 => ?_)
    · exact cP_1 (cdv1 (.inr (by omega))) rfl
    · refine zx_go (pc1 := 12) (l1 := [some (zr 1), some (zi k), some (zi w), none]) (st1 := [zr 1]) (w1 := wr c R) g_X5_open 1 _ _ _ _ rfl ?_
      refine zx_cvN (As := []) (rest := []) g_X5_open rfl g_X5_needRun rfl rfl (Nat.le_of_ble_eq_true rfl) (Nat.le_of_ble_eq_true rfl) rfl (by decide) (s_needRun (by omega)) rfl (fun hN12 => ?_) (fun hY12 => ?_)
      · exact cP_2 (cdv2 (fun z => z.elim (fun w => w (by omega)) (by omega)) (Classical.not_not.mp hN12)) rfl
      · refine zx_go (pc1 := 20) (l1 := [some (zr 1), some (zi k), some (zi w), none]) (st1 := [zi k, zr 15]) (w1 := wr c R) g_X5_open 3 _ _ _ _ rfl ?_
        refine zx_cvF (As := [zi k]) (rest := []) g_X5_open rfl g_X3_openNet rfl rfl (Nat.le_of_ble_eq_true rfl) (Nat.le_of_ble_eq_true rfl) rfl (by decide) (s_openNet (by omega) (by omega) (by omega) (by omega)) ?_
        have ce := hc hY12
        have bb := ce.2.2.2.2.2.2.2.2.2.1
        have ek : kth (fun i => ¬ tb (R 15 11) i) (R 10 0).toNat 0 k = (kth (fun i => ¬ aJ s i) (D 10 0).toNat 0 k) := by
          rw [e100_v]
          exact kth_congr _ _ _ fun j j0 j1 => not_congr (bb j (by omega) (by omega)).2.1
        rw [ek]
        have kR := kth_lt (P := fun i => ¬ aJ s i) (D 10 0).toNat 0 k
        refine zx_go (pc1 := 26) (l1 := [some (zr 1), some (zi k), some (zi w), some (zi (kth (fun i => ¬ aJ s i) (D 10 0).toNat 0 k))]) (st1 := [zi (-1), zi (kth (fun i => ¬ aJ s i) (D 10 0).toNat 0 k)]) (w1 := wr c R) g_X5_open 3 _ _ _ _ rfl ?_
        refine zx_cmp g_X5_open rfl (by omega) (by omega) (fun (h26 : (kth (fun i => ¬ aJ s i) (D 10 0).toNat 0 k) = (-1)) => ?_) (fun (h26 : ¬ ((kth (fun i => ¬ aJ s i) (D 10 0).toNat 0 k) = (-1))) => ?_)
        · refine zx_go (pc1 := 34) (l1 := [some (zr 1), some (zi k), some (zi w), some (zi (kth (fun i => ¬ aJ s i) (D 10 0).toNat 0 k))]) (st1 := [zi (kth (fun i => ¬ aJ s i) (D 10 0).toNat 0 k)]) (w1 := wr c R) g_X5_open 1 _ _ _ _ rfl ?_
          refine zx_iret g_X5_open rfl (.inl rfl) ?_
          refine cP_0 (cdv0 (fun z => z.elim (fun w => w (by omega)) (by omega)) hY12) ⟨?_, rfl⟩
          unfold opv
          rw [if_pos h26]; exact h26
        · refine zx_go (pc1 := 30) (l1 := [some (zr 1), some (zi k), some (zi w), some (zi (kth (fun i => ¬ aJ s i) (D 10 0).toNat 0 k))]) (st1 := [zi w]) (w1 := wr c R) g_X5_open 1 _ _ _ _ rfl ?_
          refine zx_if g_X5_open rfl (by omega) (fun (h30 : w ≠ 0) => ?_) (fun (h30 : ¬ w ≠ 0) => ?_)
          · refine zx_go (pc1 := 40) (l1 := [some (zr 1), some (zi k), some (zi w), some (zi (kth (fun i => ¬ aJ s i) (D 10 0).toNat 0 k))]) (st1 := [zi (kth (fun i => ¬ aJ s i) (D 10 0).toNat 0 k), zr 15]) (w1 := wr c R) g_X5_open 3 _ _ _ _ rfl ?_
            refine zx_cvF (As := [zi (kth (fun i => ¬ aJ s i) (D 10 0).toNat 0 k)]) (rest := []) g_X5_open rfl g_X3_whyOpen rfl rfl (Nat.le_of_ble_eq_true rfl) (Nat.le_of_ble_eq_true rfl) rfl (by decide) s_whyOpen ?_
            refine zx_iret g_X5_open rfl (.inl rfl) ?_
            refine cP_0 (cdv0 (fun z => z.elim (fun w => w (by omega)) (by omega)) hY12) ⟨?_, rfl⟩
            unfold opv
            rw [if_neg h26, if_neg h30]
            obtain ⟨w1, w2_v, w3_v⟩ := bb (kth (fun i => ¬ aJ s i) (D 10 0).toNat 0 k) (by omega) (by omega)
            rw [propext w1, propext w3_v]
          · refine zx_go (pc1 := 34) (l1 := [some (zr 1), some (zi k), some (zi w), some (zi (kth (fun i => ¬ aJ s i) (D 10 0).toNat 0 k))]) (st1 := [zi (kth (fun i => ¬ aJ s i) (D 10 0).toNat 0 k)]) (w1 := wr c R) g_X5_open 1 _ _ _ _ rfl ?_
            refine zx_iret g_X5_open rfl (.inl rfl) ?_
            refine cP_0 (cdv0 (fun z => z.elim (fun w => w (by omega)) (by omega)) hY12) ⟨?_, rfl⟩
            unfold opv
            rw [if_neg h26, if_pos (Classical.not_not.mp h30)]

set_option maxHeartbeats 1000000 in
theorem s_joined {c : zC} {R : zI} {D : zI} {s : aS} {n : Int} (hD : DOK c D) (hd : Din D R) (h3 : R 1 3 = 0 ∨ R 1 3 = 1) (hc : R 1 3 ≠ 0 → CE c D s R) (nr1 : inR n) : MZ m_X5_joined [zr 1, zi n] (wr c R) (cP (cdv (¬ (0 ≤ n ∧ n < D 10 0)) (R 1 3 = 0)) exB (fun b R1 => b = bI (aJ s n) ∧ R1 = R) c R) := by
  refine MZ.of g_X5_joined ?_
  show ZX m_X5_joined 0 [some (zr 1), some (zi n)] [] (wr c R) _
  have hg := hD.1
  have g2 := hg
  unfold Geo at g2
  have g3_v := hg.S
  have n16 := hD.2.1
  have p40 := hD.2.2.1
  have e100_v : R 10 0 = D 10 0 := by rw [hd.2.2.2.2.1]
  have e102_v : R 10 2 = D 10 2 := by rw [hd.2.2.2.2.1]
  refine zx_go (pc1 := 2) (l1 := [some (zr 1), some (zi n)]) (st1 := [zi n, zr 1]) (w1 := wr c R) g_X5_joined 2 _ _ _ _ rfl ?_
  refine zx_cvN (As := [zi n]) (rest := []) g_X5_joined rfl g_X5_needNet rfl rfl (Nat.le_of_ble_eq_true rfl) (Nat.le_of_ble_eq_true rfl) rfl (by decide) (s_needNet (by omega) (by omega)) rfl (fun hN2 => ?_) (fun hY2 => ?_)
  · exact cP_1 (cdv1 (by omega)) rfl
  · refine zx_go (pc1 := 6) (l1 := [some (zr 1), some (zi n)]) (st1 := [zr 1]) (w1 := wr c R) g_X5_joined 1 _ _ _ _ rfl ?_
    refine zx_cvN (As := []) (rest := []) g_X5_joined rfl g_X5_needRun rfl rfl (Nat.le_of_ble_eq_true rfl) (Nat.le_of_ble_eq_true rfl) rfl (by decide) (s_needRun (by omega)) rfl (fun hN6 => ?_) (fun hY6 => ?_)
    · exact cP_2 (cdv2 (by omega) (Classical.not_not.mp hN6)) rfl
    · refine zx_go (pc1 := 17) (l1 := [some (zr 1), some (zi n)]) (st1 := [zi n, zi (R 15 11)]) (w1 := wr c R) g_X5_joined 4 _ _ _ _ rfl ?_
      refine zx_csF (As := [zi (R 15 11), zi n]) (rest := []) g_X5_joined rfl g_X5_isIn rfl rfl (Nat.le_of_ble_eq_true rfl) (Nat.le_of_ble_eq_true rfl) (s_isIn (R 15 11) n) ?_
      refine zx_iret g_X5_joined rfl (.inr (bI_01 _)) ?_
      exact cP_0 (cdv0 (by omega) hY6) ⟨bI_congr ((hc hY6).2.2.2.2.2.2.2.2.2.1 n (by omega) (by omega)).2.1, rfl⟩

set_option maxHeartbeats 1000000 in
theorem s_broken {c : zC} {R : zI} {D : zI} {s : aS} {k B : Int} (hD : DOK c D) (hd : Din D R) (h3 : R 1 3 = 0 ∨ R 1 3 = 1) (hc : R 1 3 ≠ 0 → CE c D s R) (hA : R 1 3 ≠ 0 → AI c D s B) (kr : inR k) : MZ m_X5_broken [zr 1, zi k] (wr c R) (cP (cdv (k < 0) (R 1 3 = 0)) exB (fun b R1 => b = (kth (brk c D s) (cS c : Int).toNat 0 k) ∧ R1 = R) c R) := by
  refine MZ.of g_X5_broken ?_
  show ZX m_X5_broken 0 [some (zr 1), some (zi k)] [] (wr c R) _
  have hg := hD.1
  have g2 := hg
  unfold Geo at g2
  have g3_v := hg.S
  have n16 := hD.2.1
  have p40 := hD.2.2.1
  have e100_v : R 10 0 = D 10 0 := by rw [hd.2.2.2.2.1]
  have e102_v : R 10 2 = D 10 2 := by rw [hd.2.2.2.2.1]
  refine zx_go (pc1 := 2) (l1 := [some (zr 1), some (zi k)]) (st1 := [zi k, zr 1]) (w1 := wr c R) g_X5_broken 2 _ _ _ _ rfl ?_
  refine zx_cvN (As := [zi k]) (rest := []) g_X5_broken rfl g_X5_needNotBelowZero rfl rfl (Nat.le_of_ble_eq_true rfl) (Nat.le_of_ble_eq_true rfl) rfl (by decide) (s_needNotBelowZero (by omega)) rfl (fun hN2 => ?_) (fun hY2 => ?_)
  · exact cP_1 (cdv1 (by omega)) rfl
  · refine zx_go (pc1 := 6) (l1 := [some (zr 1), some (zi k)]) (st1 := [zr 1]) (w1 := wr c R) g_X5_broken 1 _ _ _ _ rfl ?_
    refine zx_cvN (As := []) (rest := []) g_X5_broken rfl g_X5_needRun rfl rfl (Nat.le_of_ble_eq_true rfl) (Nat.le_of_ble_eq_true rfl) rfl (by decide) (s_needRun (by omega)) rfl (fun hN6 => ?_) (fun hY6 => ?_)
    · exact cP_2 (cdv2 (by omega) (Classical.not_not.mp hN6)) rfl
    · refine zx_go (pc1 := 14) (l1 := [some (zr 1), some (zi k)]) (st1 := [zi k, zr 15]) (w1 := wr c R) g_X5_broken 3 _ _ _ _ rfl ?_
      refine zx_cvF (As := [zi k]) (rest := []) g_X5_broken rfl g_X3_clashingPlace rfl rfl (Nat.le_of_ble_eq_true rfl) (Nat.le_of_ble_eq_true rfl) rfl (by decide) (s_clashingPlace hg (by omega) (by omega) (by omega) (by omega)) ?_
      refine zx_iret g_X5_broken rfl (.inl rfl) ?_
      refine cP_0 (cdv0 (by omega) hY6) ⟨?_, rfl⟩
      exact kth_congr _ _ _ fun j j0 j1 => ce_brk hD (hA hY6) (hc hY6) ⟨by omega, by omega⟩

set_option maxHeartbeats 1000000 in
theorem s_history {c : zC} {R : zI} {D : zI} {s : aS} {z x y : Int} (hD : DOK c D) (hd : Din D R) (h3 : R 1 3 = 0 ∨ R 1 3 = 1) (hc : R 1 3 ≠ 0 → CE c D s R) (zr1 : inR z) (xr : inR64 x) (yr : inR64 y) : MZ m_X5_history [zr 1, zi z, zl x, zl y] (wr c R) (cP (cdv (¬ ((0 ≤ z ∧ z < cLa c) ∧ (0 ≤ x ∧ x < cW c) ∧ (0 ≤ y ∧ y < cH c))) (R 1 3 = 0)) exB (fun b R1 => b = aP s (pl c z x y) ∧ R1 = R) c R) := by
  refine MZ.of g_X5_history ?_
  show ZX m_X5_history 0 [some (zr 1), some (zi z), some (zl x), none, some (zl y), none] [] (wr c R) _
  have hg := hD.1
  have g2 := hg
  unfold Geo at g2
  have g3_v := hg.S
  have n16 := hD.2.1
  have p40 := hD.2.2.1
  have e100_v : R 10 0 = D 10 0 := by rw [hd.2.2.2.2.1]
  have e102_v : R 10 2 = D 10 2 := by rw [hd.2.2.2.2.1]
  refine zx_go (pc1 := 5) (l1 := [some (zr 1), some (zi z), some (zl x), none, some (zl y), none]) (st1 := [zl y, zl x, zi z, zr 1]) (w1 := wr c R) g_X5_history 4 _ _ _ _ rfl ?_
  refine zx_cvN (As := [zi z, zl x, zl y]) (rest := []) g_X5_history rfl g_X5_needPlace rfl rfl (Nat.le_of_ble_eq_true rfl) (Nat.le_of_ble_eq_true rfl) rfl (by decide) (s_needPlace hg (by omega) (by omega) (by omega)) rfl (fun hN5 => ?_) (fun hY5 => ?_)
  · exact cP_1 (cdv1 hN5) rfl
  · refine zx_go (pc1 := 9) (l1 := [some (zr 1), some (zi z), some (zl x), none, some (zl y), none]) (st1 := [zr 1]) (w1 := wr c R) g_X5_history 1 _ _ _ _ rfl ?_
    refine zx_cvN (As := []) (rest := []) g_X5_history rfl g_X5_needRun rfl rfl (Nat.le_of_ble_eq_true rfl) (Nat.le_of_ble_eq_true rfl) rfl (by decide) (s_needRun (by omega)) rfl (fun hN9 => ?_) (fun hY9 => ?_)
    · exact cP_2 (cdv2 (fun z => z hY5) (Classical.not_not.mp hN9)) rfl
    · have gpl := pl_geo hg (z := z) (x := x) (y := y) (by omega) (by omega) (by omega) (by omega) (by omega) (by omega)
      refine zx_go (pc1 := 29) (l1 := [some (zr 1), some (zi z), some (zl x), none, some (zl y), none]) (st1 := [zi y, zi x, zi z, zr 2, zr 29]) (w1 := wr c R) g_X5_history 10 _ _ _ _ rfl ?_
      refine zx_cvF (As := [zi z, zi x, zi y]) (rest := [zr 29]) g_X5_history rfl g_X2_placeAt rfl rfl (Nat.le_of_ble_eq_true rfl) (Nat.le_of_ble_eq_true rfl) rfl (by decide) (s_placeAt z x y) ?_
      refine gz_iald g_X5_history rfl (n := cS c) rfl (by decide) rfl (by have := hg.S; omega) (by omega) (by omega) ?_
      refine zx_iret g_X5_history rfl (.inl rfl) ?_
      exact cP_0 (cdv0 (fun z => z hY5) hY9) ⟨(hc hY9).2.2.2.2.2.1 _ ⟨gpl.1, gpl.2.1⟩, rfl⟩

set_option maxHeartbeats 1000000 in
theorem s_count {c : zC} {R : zI} {w : Int} (h3 : R 1 3 = 0 ∨ R 1 3 = 1) (wr1 : inR w) : MZ m_X5_count [zr 1, zi w] (wr c R) (cP (cdv (¬ (0 ≤ w ∧ w ≤ 5)) False) exB (fun b R1 => b = (if w = 0 then R 10 0 else if w = 1 then R 10 2 else if w = 2 then R 2 12 else if R 1 3 = 0 then 0 else if w = 3 then R 15 13 else if w = 4 then R 15 14 else R 15 15) ∧ R1 = R) c R) := by
  refine MZ.of g_X5_count ?_
  show ZX m_X5_count 0 [some (zr 1), some (zi w)] [] (wr c R) _
  refine zx_go (pc1 := 4) (l1 := [some (zr 1), some (zi w)]) (st1 := [zi 6, zi w, zr 1]) (w1 := wr c R) g_X5_count 3 _ _ _ _ rfl ?_
  refine zx_cvN (As := [zi w, zi 6]) (rest := []) g_X5_count rfl g_X5_needWhat rfl rfl (Nat.le_of_ble_eq_true rfl) (Nat.le_of_ble_eq_true rfl) rfl (by decide) (s_needWhat (by omega) (by omega)) rfl (fun hN4 => ?_) (fun hY4 => ?_)
  · exact cP_1 (cdv1 (by omega)) rfl
  · refine zx_go (pc1 := 8) (l1 := [some (zr 1), some (zi w)]) (st1 := [zi w]) (w1 := wr c R) g_X5_count 1 _ _ _ _ rfl ?_
    by_cases h8_0 : w = 0
    · refine zx_swE g_X5_count rfl h8_0 (by decide) (t := 44) rfl ?_
      refine zx_go (pc1 := 51) (l1 := [some (zr 1), some (zi w)]) (st1 := [zi (R 10 0)]) (w1 := wr c R) g_X5_count 3 _ _ _ _ rfl ?_
      refine zx_iret g_X5_count rfl (.inl rfl) ?_
      refine cP_0 (cdv0 (by omega) id) ⟨?_, rfl⟩
      omega
    · skip
      by_cases h8_1 : w = 1
      · refine zx_swE g_X5_count rfl h8_1 (by decide) (t := 52) rfl ?_
        refine zx_go (pc1 := 59) (l1 := [some (zr 1), some (zi w)]) (st1 := [zi (R 10 2)]) (w1 := wr c R) g_X5_count 3 _ _ _ _ rfl ?_
        refine zx_iret g_X5_count rfl (.inl rfl) ?_
        refine cP_0 (cdv0 (by omega) id) ⟨?_, rfl⟩
        omega
      · skip
        by_cases h8_2 : w = 2
        · refine zx_swE g_X5_count rfl h8_2 (by decide) (t := 60) rfl ?_
          refine zx_go (pc1 := 67) (l1 := [some (zr 1), some (zi w)]) (st1 := [zi (R 2 12)]) (w1 := wr c R) g_X5_count 3 _ _ _ _ rfl ?_
          refine zx_iret g_X5_count rfl (.inl rfl) ?_
          refine cP_0 (cdv0 (by omega) id) ⟨?_, rfl⟩
          omega
        · skip
          by_cases h8_3 : w = 3
          · refine zx_swE g_X5_count rfl h8_3 (by decide) (t := 68) rfl ?_
            refine zx_go (pc1 := 72) (l1 := [some (zr 1), some (zi w)]) (st1 := [zi (R 1 3)]) (w1 := wr c R) g_X5_count 2 _ _ _ _ rfl ?_
            refine zx_if g_X5_count rfl (by omega) (fun (h72 : (R 1 3) = 0) => ?_) (fun (h72 : ¬ (R 1 3) = 0) => ?_)
            · refine zx_go (pc1 := 86) (l1 := [some (zr 1), some (zi w)]) (st1 := [zi 0]) (w1 := wr c R) g_X5_count 1 _ _ _ _ rfl ?_
              refine zx_iret g_X5_count rfl (.inl rfl) ?_
              refine cP_0 (cdv0 (by omega) id) ⟨?_, rfl⟩
              omega
            · refine zx_go (pc1 := 86) (l1 := [some (zr 1), some (zi w)]) (st1 := [zi (R 15 13)]) (w1 := wr c R) g_X5_count 4 _ _ _ _ rfl ?_
              refine zx_iret g_X5_count rfl (.inl rfl) ?_
              refine cP_0 (cdv0 (by omega) id) ⟨?_, rfl⟩
              omega
          · skip
            by_cases h8_4 : w = 4
            · refine zx_swE g_X5_count rfl h8_4 (by decide) (t := 87) rfl ?_
              refine zx_go (pc1 := 91) (l1 := [some (zr 1), some (zi w)]) (st1 := [zi (R 1 3)]) (w1 := wr c R) g_X5_count 2 _ _ _ _ rfl ?_
              refine zx_if g_X5_count rfl (by omega) (fun (h91 : (R 1 3) = 0) => ?_) (fun (h91 : ¬ (R 1 3) = 0) => ?_)
              · refine zx_go (pc1 := 105) (l1 := [some (zr 1), some (zi w)]) (st1 := [zi 0]) (w1 := wr c R) g_X5_count 1 _ _ _ _ rfl ?_
                refine zx_iret g_X5_count rfl (.inl rfl) ?_
                refine cP_0 (cdv0 (by omega) id) ⟨?_, rfl⟩
                omega
              · refine zx_go (pc1 := 105) (l1 := [some (zr 1), some (zi w)]) (st1 := [zi (R 15 14)]) (w1 := wr c R) g_X5_count 4 _ _ _ _ rfl ?_
                refine zx_iret g_X5_count rfl (.inl rfl) ?_
                refine cP_0 (cdv0 (by omega) id) ⟨?_, rfl⟩
                omega
            · skip
              refine zx_swD g_X5_count rfl (by omega) (by omega) (t := 106) rfl ?_
              refine zx_go (pc1 := 110) (l1 := [some (zr 1), some (zi w)]) (st1 := [zi (R 1 3)]) (w1 := wr c R) g_X5_count 2 _ _ _ _ rfl ?_
              refine zx_if g_X5_count rfl (by omega) (fun (h110 : (R 1 3) = 0) => ?_) (fun (h110 : ¬ (R 1 3) = 0) => ?_)
              · refine zx_go (pc1 := 124) (l1 := [some (zr 1), some (zi w)]) (st1 := [zi 0]) (w1 := wr c R) g_X5_count 1 _ _ _ _ rfl ?_
                refine zx_iret g_X5_count rfl (.inl rfl) ?_
                refine cP_0 (cdv0 (by omega) id) ⟨?_, rfl⟩
                omega
              · refine zx_go (pc1 := 124) (l1 := [some (zr 1), some (zi w)]) (st1 := [zi (R 15 15)]) (w1 := wr c R) g_X5_count 4 _ _ _ _ rfl ?_
                refine zx_iret g_X5_count rfl (.inl rfl) ?_
                refine cP_0 (cdv0 (by omega) id) ⟨?_, rfl⟩
                omega

