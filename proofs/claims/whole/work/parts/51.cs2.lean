/-! ===== contracts (2): rows of the class ===== -/
set_option maxHeartbeats 1000000 in
theorem s_Fclear {c : zC} {R : zI} (hg : Geo c) : MZ m_X1_clear [zr 25] (wr c R) (gU (fun R1 => R1 = zU (fl (fl R 26 (cS c) 1000000000) 28 (cS c) (-1)) 25 3 0) c) := by
  refine MZ.of g_X1_clear ?_
  show ZX m_X1_clear 0 [some (zr 25)] [] (wr c R) _
  refine zx_go (pc1 := 6) (l1 := [some (zr 25)]) (st1 := [zi 1000000000, zr 26]) (w1 := wr c R) g_X1_clear 3 _ _ _ _ rfl ?_
  refine gx_csU (As := [zr 26, zi 1000000000]) (rest := []) g_X1_clear rfl g_J7_fill_53178 rfl rfl (Nat.le_of_ble_eq_true rfl) (Nat.le_of_ble_eq_true rfl) (s_fill (A := 26) (n := cS c) rfl (by decide) (by decide) (by have := hg.S; omega)) (fun R6 hR6 => ?_)
  refine zx_go (pc1 := 14) (l1 := [some (zr 25)]) (st1 := [zi (-1), zr 28]) (w1 := wr c R6) g_X1_clear 3 _ _ _ _ rfl ?_
  refine gx_csU (As := [zr 28, zi (-1)]) (rest := []) g_X1_clear rfl g_J7_fill_53178 rfl rfl (Nat.le_of_ble_eq_true rfl) (Nat.le_of_ble_eq_true rfl) (s_fill (A := 28) (n := cS c) rfl (by decide) (by decide) (by have := hg.S; omega)) (fun R14 hR14 => ?_)
  refine zx_go (pc1 := 19) (l1 := [some (zr 25)]) (st1 := [zi 0, zr 25]) (w1 := wr c R14) g_X1_clear 2 _ _ _ _ rfl ?_
  refine gz_put 3 g_X1_clear rfl rfl rfl (by decide) rfl (by refine ⟨?_, ?_, ?_, ?_, ?_⟩ <;> simp) ?_
  refine zx_vret g_X1_clear rfl ?_
  refine gU_i ?_
  simp only [*]

set_option maxHeartbeats 1000000 in
theorem s_Sclear17 {c : zC} {R : zI} (hg : Geo c) : MZ m_X4_clear [zr 17] (wr c R) (gU (fun R1 => R1 = fl (fl (fl R 18 (cS c) 0) 19 (cS c) 0) 20 (cS c) 0) c) := by
  refine MZ.of g_X4_clear ?_
  show ZX m_X4_clear 0 [some (zr 17)] [] (wr c R) _
  refine zx_go (pc1 := 5) (l1 := [some (zr 17)]) (st1 := [zi 0, zr 18]) (w1 := wr c R) g_X4_clear 3 _ _ _ _ rfl ?_
  refine gx_csU (As := [zr 18, zi 0]) (rest := []) g_X4_clear rfl g_J7_fill_53178 rfl rfl (Nat.le_of_ble_eq_true rfl) (Nat.le_of_ble_eq_true rfl) (s_fill (A := 18) (n := cS c) rfl (by decide) (by decide) (by have := hg.S; omega)) (fun R5 hR5 => ?_)
  refine zx_go (pc1 := 13) (l1 := [some (zr 17)]) (st1 := [zi 0, zr 19]) (w1 := wr c R5) g_X4_clear 3 _ _ _ _ rfl ?_
  refine gx_csU (As := [zr 19, zi 0]) (rest := []) g_X4_clear rfl g_J7_fill_53178 rfl rfl (Nat.le_of_ble_eq_true rfl) (Nat.le_of_ble_eq_true rfl) (s_fill (A := 19) (n := cS c) rfl (by decide) (by decide) (by have := hg.S; omega)) (fun R13 hR13 => ?_)
  refine zx_go (pc1 := 21) (l1 := [some (zr 17)]) (st1 := [zi 0, zr 20]) (w1 := wr c R13) g_X4_clear 3 _ _ _ _ rfl ?_
  refine gx_csU (As := [zr 20, zi 0]) (rest := []) g_X4_clear rfl g_J7_fill_53178 rfl rfl (Nat.le_of_ble_eq_true rfl) (Nat.le_of_ble_eq_true rfl) (s_fill (A := 20) (n := cS c) rfl (by decide) (by decide) (by have := hg.S; omega)) (fun R21 hR21 => ?_)
  refine zx_vret g_X4_clear rfl ?_
  refine gU_i ?_
  simp only [*]

set_option maxHeartbeats 1000000 in
theorem s_Sclear21 {c : zC} {R : zI} (hg : Geo c) : MZ m_X4_clear [zr 21] (wr c R) (gU (fun R1 => R1 = fl (fl (fl R 22 (cS c) 0) 23 (cS c) 0) 24 (cS c) 0) c) := by
  refine MZ.of g_X4_clear ?_
  show ZX m_X4_clear 0 [some (zr 21)] [] (wr c R) _
  refine zx_go (pc1 := 5) (l1 := [some (zr 21)]) (st1 := [zi 0, zr 22]) (w1 := wr c R) g_X4_clear 3 _ _ _ _ rfl ?_
  refine gx_csU (As := [zr 22, zi 0]) (rest := []) g_X4_clear rfl g_J7_fill_53178 rfl rfl (Nat.le_of_ble_eq_true rfl) (Nat.le_of_ble_eq_true rfl) (s_fill (A := 22) (n := cS c) rfl (by decide) (by decide) (by have := hg.S; omega)) (fun R5 hR5 => ?_)
  refine zx_go (pc1 := 13) (l1 := [some (zr 21)]) (st1 := [zi 0, zr 23]) (w1 := wr c R5) g_X4_clear 3 _ _ _ _ rfl ?_
  refine gx_csU (As := [zr 23, zi 0]) (rest := []) g_X4_clear rfl g_J7_fill_53178 rfl rfl (Nat.le_of_ble_eq_true rfl) (Nat.le_of_ble_eq_true rfl) (s_fill (A := 23) (n := cS c) rfl (by decide) (by decide) (by have := hg.S; omega)) (fun R13 hR13 => ?_)
  refine zx_go (pc1 := 21) (l1 := [some (zr 21)]) (st1 := [zi 0, zr 24]) (w1 := wr c R13) g_X4_clear 3 _ _ _ _ rfl ?_
  refine gx_csU (As := [zr 24, zi 0]) (rest := []) g_X4_clear rfl g_J7_fill_53178 rfl rfl (Nat.le_of_ble_eq_true rfl) (Nat.le_of_ble_eq_true rfl) (s_fill (A := 24) (n := cS c) rfl (by decide) (by decide) (by have := hg.S; omega)) (fun R21 hR21 => ?_)
  refine zx_vret g_X4_clear rfl ?_
  refine gU_i ?_
  simp only [*]

set_option maxHeartbeats 1000000 in
theorem s_addNet {c : zC} {R : zI}  : MZ m_X0_addNet [zr 10] (wr c R) (gR (fun v R1 => v = R 10 0 ∧ R1 = zU R 10 0 (R 10 0 + 1)) c) := by
  refine MZ.of g_X0_addNet ?_
  show ZX m_X0_addNet 0 [some (zr 10)] [] (wr c R) _
  refine zx_go (pc1 := 7) (l1 := [some (zr 10)]) (st1 := [zi ((R 10 0) + 1), zr 10]) (w1 := wr c R) g_X0_addNet 5 _ _ _ _ rfl ?_
  refine gz_put 0 g_X0_addNet rfl rfl rfl (by decide) rfl (by refine ⟨?_, ?_, ?_, ?_, ?_⟩ <;> simp) ?_
  refine zx_go (pc1 := 16) (l1 := [some (zr 10)]) (st1 := [zi (((zU R 10 0 ((R 10 0) + 1)) 10 0) - 1)]) (w1 := wr c (zU R 10 0 ((R 10 0) + 1))) g_X0_addNet 4 _ _ _ _ rfl ?_
  refine zx_iret g_X0_addNet rfl (.inl rfl) ?_
  refine gR_i ⟨?_, rfl⟩
  rw [zU_same]
  omega

set_option maxHeartbeats 1000000 in
theorem s_addPin {c : zC} {R : zI} {n : Int} (h0 : 0 ≤ R 10 2) (h1 : R 10 2 < 40) (h2 : 0 ≤ n) (h3 : n < 16) : MZ m_X0_addPin [zr 10, zi n] (wr c R) (gR (fun v R1 => v = R 10 2 ∧ R1 = zU (zU (zU R 11 (R 10 2) n) 12 n (R 12 n + 1)) 10 2 (R 10 2 + 1)) c) := by
  refine MZ.of g_X0_addPin ?_
  show ZX m_X0_addPin 0 [some (zr 10), some (zi n)] [] (wr c R) _
  refine zx_go (pc1 := 9) (l1 := [some (zr 10), some (zi n)]) (st1 := [zi n, zi (R 10 2), zr 11]) (w1 := wr c R) g_X0_addPin 5 _ _ _ _ rfl ?_
  refine gz_iast g_X0_addPin rfl (n := 40) rfl (by decide) (by refine ⟨?_, ?_, ?_, ?_, ?_⟩ <;> simp) (by decide) (by omega) (by omega) ?_
  refine zx_go (pc1 := 16) (l1 := [some (zr 10), some (zi n)]) (st1 := [zi n, zr 12, zi n, zr 12]) (w1 := wr c (zU R 11 (R 10 2) n)) g_X0_addPin 4 _ _ _ _ rfl ?_
  refine gz_iald g_X0_addPin rfl (n := 16) rfl (by decide) rfl (by decide) (by omega) (by omega) ?_
  refine zx_go (pc1 := 19) (l1 := [some (zr 10), some (zi n)]) (st1 := [zi (((zU R 11 (R 10 2) n) 12 n) + 1), zi n, zr 12]) (w1 := wr c (zU R 11 (R 10 2) n)) g_X0_addPin 2 _ _ _ _ rfl ?_
  refine gz_iast g_X0_addPin rfl (n := 16) rfl (by decide) (by refine ⟨?_, ?_, ?_, ?_, ?_⟩ <;> simp) (by decide) (by omega) (by omega) ?_
  refine zx_go (pc1 := 27) (l1 := [some (zr 10), some (zi n)]) (st1 := [zi (((zU (zU R 11 (R 10 2) n) 12 n (((zU R 11 (R 10 2) n) 12 n) + 1)) 10 2) + 1), zr 10]) (w1 := wr c (zU (zU R 11 (R 10 2) n) 12 n (((zU R 11 (R 10 2) n) 12 n) + 1))) g_X0_addPin 5 _ _ _ _ rfl ?_
  refine gz_put 2 g_X0_addPin rfl rfl rfl (by decide) rfl (by refine ⟨?_, ?_, ?_, ?_, ?_⟩ <;> simp) ?_
  refine zx_go (pc1 := 36) (l1 := [some (zr 10), some (zi n)]) (st1 := [zi (((zU (zU (zU R 11 (R 10 2) n) 12 n (((zU R 11 (R 10 2) n) 12 n) + 1)) 10 2 (((zU (zU R 11 (R 10 2) n) 12 n (((zU R 11 (R 10 2) n) 12 n) + 1)) 10 2) + 1)) 10 2) - 1)]) (w1 := wr c (zU (zU (zU R 11 (R 10 2) n) 12 n (((zU R 11 (R 10 2) n) 12 n) + 1)) 10 2 (((zU (zU R 11 (R 10 2) n) 12 n (((zU R 11 (R 10 2) n) 12 n) + 1)) 10 2) + 1))) g_X0_addPin 4 _ _ _ _ rfl ?_
  refine zx_iret g_X0_addPin rfl (.inl rfl) ?_
  refine gR_i ⟨?_, ?_⟩
  · simp [zU]
  · simp [zU]

set_option maxHeartbeats 1000000 in
theorem s_addAccess {c : zC} {R : zI} {p q : Int} (h0 : 0 ≤ p) (h1 : p < 40) (h2 : 0 ≤ R 13 p) (h3 : R 13 p < 4) : MZ m_X0_addAccess [zr 10, zi p, zi q] (wr c R) (gU (fun R1 => R1 = zU (zU R 14 (p * 4 + R 13 p) q) 13 p (R 13 p + 1)) c) := by
  refine MZ.of g_X0_addAccess ?_
  show ZX m_X0_addAccess 0 [some (zr 10), some (zi p), some (zi q)] [] (wr c R) _
  refine zx_go (pc1 := 12) (l1 := [some (zr 10), some (zi p), some (zi q)]) (st1 := [zi p, zr 13, zi (p * 4), zr 14]) (w1 := wr c R) g_X0_addAccess 8 _ _ _ _ rfl ?_
  refine gz_iald g_X0_addAccess rfl (n := 40) rfl (by decide) rfl (by decide) (by omega) (by omega) ?_
  refine zx_go (pc1 := 15) (l1 := [some (zr 10), some (zi p), some (zi q)]) (st1 := [zi q, zi ((p * 4) + (R 13 p)), zr 14]) (w1 := wr c R) g_X0_addAccess 2 _ _ _ _ rfl ?_
  refine gz_iast g_X0_addAccess rfl (n := 160) rfl (by decide) (by refine ⟨?_, ?_, ?_, ?_, ?_⟩ <;> simp) (by decide) (by omega) (by omega) ?_
  refine zx_go (pc1 := 22) (l1 := [some (zr 10), some (zi p), some (zi q)]) (st1 := [zi p, zr 13, zi p, zr 13]) (w1 := wr c (zU R 14 ((p * 4) + (R 13 p)) q)) g_X0_addAccess 4 _ _ _ _ rfl ?_
  refine gz_iald g_X0_addAccess rfl (n := 40) rfl (by decide) rfl (by decide) (by omega) (by omega) ?_
  refine zx_go (pc1 := 25) (l1 := [some (zr 10), some (zi p), some (zi q)]) (st1 := [zi (((zU R 14 ((p * 4) + (R 13 p)) q) 13 p) + 1), zi p, zr 13]) (w1 := wr c (zU R 14 ((p * 4) + (R 13 p)) q)) g_X0_addAccess 2 _ _ _ _ rfl ?_
  refine gz_iast g_X0_addAccess rfl (n := 40) rfl (by decide) (by refine ⟨?_, ?_, ?_, ?_, ?_⟩ <;> simp) (by decide) (by omega) (by omega) ?_
  refine zx_vret g_X0_addAccess rfl ?_
  refine gU_i ?_
  simp [zU]

set_option maxHeartbeats 1000000 in
theorem s_hasAccess {c : zC} {R : zI} {p q : Int} (h0 : 0 ≤ p) (h1 : p < 40) (h2 : 0 ≤ R 13 p) (h3 : R 13 p ≤ 4) (hq : inR q) (hr : ∀ j, 0 ≤ j → j < R 13 p → inR (R 14 (p * 4 + j))) : MZ m_X0_hasAccess [zr 10, zi p, zi q] (wr c R) (qF (zi (bI (∃ k, 0 ≤ k ∧ k < R 13 p ∧ R 14 (p * 4 + k) = q))) (wr c R)) := by
  refine MZ.of g_X0_hasAccess ?_
  show ZX m_X0_hasAccess 0 [some (zr 10), some (zi p), some (zi q), none] [] (wr c R) _
  refine zx_go (pc1 := 2) (l1 := [some (zr 10), some (zi p), some (zi q), some (zi 0)]) (st1 := []) (w1 := wr c R) g_X0_hasAccess 2 _ _ _ _ rfl ?_
  have lp2 : ∀ (it : Nat) (k : Int), (it : Int) = R 13 p - k → (0 ≤ k ∧ k ≤ R 13 p ∧ ∀ j, 0 ≤ j → j < k → R 14 (p * 4 + j) ≠ q) → ZX m_X0_hasAccess 2 [some (zr 10), some (zi p), some (zi q), some (zi k)] [] (wr c R) (qF (zi (bI (∃ k, 0 ≤ k ∧ k < R 13 p ∧ R 14 (p * 4 + k) = q))) (wr c R)) := by
    refine fun it => Nat.strongRecOn it (fun it ih2 => ?_)
    intro k hn2 hi2
    obtain ⟨k0, k1, k2⟩ := hi2
    refine zx_go (pc1 := 8) (l1 := [some (zr 10), some (zi p), some (zi q), some (zi k)]) (st1 := [zi p, zr 13, zi k]) (w1 := wr c R) g_X0_hasAccess 4 _ _ _ _ rfl ?_
    refine gz_iald g_X0_hasAccess rfl (n := 40) rfl (by decide) rfl (by decide) (by omega) (by omega) ?_
    refine zx_cmp g_X0_hasAccess rfl (by omega) (by omega) (fun (h9 : (R 13 p) ≤ k) => ?_) (fun (h9 : ¬ ((R 13 p) ≤ k)) => ?_)
    · refine zx_go (pc1 := 31) (l1 := [some (zr 10), some (zi p), some (zi q), some (zi k)]) (st1 := [zi 0]) (w1 := wr c R) g_X0_hasAccess 1 _ _ _ _ rfl ?_
      refine zx_iret g_X0_hasAccess rfl (.inr (.inl rfl)) ?_
      exact qF_f (fun ⟨j, j0, j1, j2⟩ => k2 j j0 (by omega) j2)
    · refine zx_go (pc1 := 15) (l1 := [some (zr 10), some (zi p), some (zi q), some (zi k)]) (st1 := [zi k, zi p, zr 10]) (w1 := wr c R) g_X0_hasAccess 3 _ _ _ _ rfl ?_
      refine zx_cvF (As := [zi p, zi k]) (rest := []) g_X0_hasAccess rfl g_X0_accessPlace rfl rfl (Nat.le_of_ble_eq_true rfl) (Nat.le_of_ble_eq_true rfl) rfl (by decide) (s_accessPlace (by omega) (by omega) (by omega) (by omega)) ?_
      refine zx_go (pc1 := 19) (l1 := [some (zr 10), some (zi p), some (zi q), some (zi k)]) (st1 := [zi q, zi (R 14 (p * 4 + k))]) (w1 := wr c R) g_X0_hasAccess 1 _ _ _ _ rfl ?_
      have hr1 := hr k (by omega) (by omega)
      refine zx_cmp g_X0_hasAccess rfl (by omega) (by omega) (fun (h19 : (R 14 (p * 4 + k)) ≠ q) => ?_) (fun (h19 : ¬ ((R 14 (p * 4 + k)) ≠ q)) => ?_)
      · refine zx_go (pc1 := 2) (l1 := [some (zr 10), some (zi p), some (zi q), some (zi (k + 1))]) (st1 := []) (w1 := wr c R) g_X0_hasAccess 2 _ _ _ _ rfl ?_
        refine ih2 (Int.toNat (R 13 p - (k + 1))) (by omega) (k + 1) (by omega) ?_
        refine ⟨by omega, by omega, fun j j0 j1 => ?_⟩
        by_cases e : j = k
        · subst e; exact h19
        · exact k2 j j0 (by omega)
      · refine zx_go (pc1 := 23) (l1 := [some (zr 10), some (zi p), some (zi q), some (zi k)]) (st1 := [zi 1]) (w1 := wr c R) g_X0_hasAccess 1 _ _ _ _ rfl ?_
        refine zx_iret g_X0_hasAccess rfl (.inr (.inr rfl)) ?_
        exact qF_t ⟨k, by omega, by omega, by omega⟩
  refine lp2 (Int.toNat (R 13 p - 0)) 0 (by omega) ?_
  exact ⟨by omega, by omega, fun j _ _ => by omega⟩

set_option maxHeartbeats 1000000 in
theorem s_close {c : zC} {R : zI} (hg : Geo c) {p : Int} (h0 : 0 ≤ p) (h1 : p < (cS c : Int)) (hb : R 9 p = 0 ∨ R 9 p = 1) : MZ m_X2_close [zr 2, zi p] (wr c R) (gR (fun v R1 => v = bI (R 9 p = 0) ∧ R1 = pIR (R 9 p = 0) (zU (zU R 9 p 1) 2 12 (R 2 12 + 1)) R) c) := by
  refine MZ.of g_X2_close ?_
  show ZX m_X2_close 0 [some (zr 2), some (zi p)] [] (wr c R) _
  refine zx_go (pc1 := 5) (l1 := [some (zr 2), some (zi p)]) (st1 := [zi p, zr 9]) (w1 := wr c R) g_X2_close 3 _ _ _ _ rfl ?_
  refine gz_bald g_X2_close rfl (n := cS c) rfl (by decide) rfl (by have := hg.S; omega) (by omega) (by omega) ?_
  refine zx_if g_X2_close rfl (by omega) (fun (h6 : (R 9 p) = 0) => ?_) (fun (h6 : ¬ (R 9 p) = 0) => ?_)
  · refine zx_go (pc1 := 17) (l1 := [some (zr 2), some (zi p)]) (st1 := [zi 1, zi p, zr 9]) (w1 := wr c R) g_X2_close 4 _ _ _ _ rfl ?_
    refine gz_bast g_X2_close rfl (n := cS c) rfl (by decide) (by refine ⟨?_, ?_, ?_, ?_, ?_⟩ <;> simp) (by have := hg.S; omega) (by omega) (by omega) (.inr rfl) ?_
    refine zx_go (pc1 := 25) (l1 := [some (zr 2), some (zi p)]) (st1 := [zi (((zU R 9 p 1) 2 12) + 1), zr 2]) (w1 := wr c (zU R 9 p 1)) g_X2_close 5 _ _ _ _ rfl ?_
    refine gz_put 12 g_X2_close rfl rfl rfl (by decide) rfl (by refine ⟨?_, ?_, ?_, ?_, ?_⟩ <;> simp) ?_
    refine zx_go (pc1 := 29) (l1 := [some (zr 2), some (zi p)]) (st1 := [zi 1]) (w1 := wr c (zU (zU R 9 p 1) 2 12 (((zU R 9 p 1) 2 12) + 1))) g_X2_close 1 _ _ _ _ rfl ?_
    refine zx_iret g_X2_close rfl (.inr (.inr rfl)) ?_
    refine gR_i ⟨(bI_t h6).symm, ?_⟩
    rw [pIR_t h6, zU_cell' (by decide)]
  · refine zx_go (pc1 := 10) (l1 := [some (zr 2), some (zi p)]) (st1 := [zi 0]) (w1 := wr c R) g_X2_close 1 _ _ _ _ rfl ?_
    refine zx_iret g_X2_close rfl (.inr (.inl rfl)) ?_
    exact gR_i ⟨(bI_f h6).symm, (pIR_f h6).symm⟩

noncomputable def clv (n f : Int → Int) (net p sh : Int) : Int := zand (pI (zand sh (zshl 1 net) ≠ 0) (f p) (zor (n p) (zand (f p) sh))) (zxor (zshl 1 net) (-1))
theorem clv_R (n f : Int → Int) (net p sh : Int) : inR (clv n f net p sh) := zand_R _ _
/-- the places near q that P holds of are marked -/
noncomputable def mkd (c : zC) (R : zI) (A : Nat) (net q d : Int) (P : Int → Prop) : zI := ch R (fun b j => b = A ∧ 0 ≤ j ∧ j < (cS c : Int) ∧ nr c j q d ∧ P j) (fun b j => zor (R b j) (zshl 1 net))

set_option maxHeartbeats 1000000 in
theorem s_clashing17 {c : zC} {R : zI} (hg : Geo c) {n p sh : Int} (h0 : 0 ≤ p) (h1 : p < (cS c : Int)) : MZ m_X4_clashing [zr 17, zi n, zi p, zi sh] (wr c R) (qF (zi (clv (R 19) (R 20) n p sh)) (wr c R)) := by
  refine MZ.of g_X4_clashing ?_
  show ZX m_X4_clashing 0 [some (zr 17), some (zi n), some (zi p), some (zi sh), none, none] [] (wr c R) _
  refine zx_go (pc1 := 2) (l1 := [some (zr 17), some (zi n), some (zi p), some (zi sh), none, none]) (st1 := [zi n, zi 1]) (w1 := wr c R) g_X4_clashing 2 _ _ _ _ rfl ?_
  refine zx_go (pc1 := 3) (l1 := [some (zr 17), some (zi n), some (zi p), some (zi sh), none, none]) (st1 := [zi (zshl 1 n)]) (w1 := wr c R) g_X4_clashing 1 _ _ _ _ rfl ?_
  refine zx_go (pc1 := 8) (l1 := [some (zr 17), some (zi n), some (zi p), some (zi sh), some (zi (zshl 1 n)), none]) (st1 := [zi (zshl 1 n), zi sh]) (w1 := wr c R) g_X4_clashing 3 _ _ _ _ rfl ?_
  refine zx_go (pc1 := 9) (l1 := [some (zr 17), some (zi n), some (zi p), some (zi sh), some (zi (zshl 1 n)), none]) (st1 := [zi (zand sh (zshl 1 n))]) (w1 := wr c R) g_X4_clashing 1 _ _ _ _ rfl ?_
  refine zx_if g_X4_clashing rfl (zand_R _ _) (fun (h9 : (zand sh (zshl 1 n)) = 0) => ?_) (fun (h9 : ¬ (zand sh (zshl 1 n)) = 0) => ?_)
  · refine zx_go (pc1 := 26) (l1 := [some (zr 17), some (zi n), some (zi p), some (zi sh), some (zi (zshl 1 n)), none]) (st1 := [zi p, zr 19]) (w1 := wr c R) g_X4_clashing 3 _ _ _ _ rfl ?_
    refine gz_iald g_X4_clashing rfl (n := cS c) rfl (by decide) rfl (by have := hg.S; omega) (by omega) (by omega) ?_
    refine zx_go (pc1 := 32) (l1 := [some (zr 17), some (zi n), some (zi p), some (zi sh), some (zi (zshl 1 n)), none]) (st1 := [zi p, zr 20, zi (R 19 p)]) (w1 := wr c R) g_X4_clashing 3 _ _ _ _ rfl ?_
    refine gz_iald g_X4_clashing rfl (n := cS c) rfl (by decide) rfl (by have := hg.S; omega) (by omega) (by omega) ?_
    refine zx_go (pc1 := 34) (l1 := [some (zr 17), some (zi n), some (zi p), some (zi sh), some (zi (zshl 1 n)), none]) (st1 := [zi sh, zi (R 20 p), zi (R 19 p)]) (w1 := wr c R) g_X4_clashing 1 _ _ _ _ rfl ?_
    refine zx_go (pc1 := 35) (l1 := [some (zr 17), some (zi n), some (zi p), some (zi sh), some (zi (zshl 1 n)), none]) (st1 := [zi (zand (R 20 p) sh), zi (R 19 p)]) (w1 := wr c R) g_X4_clashing 1 _ _ _ _ rfl ?_
    refine zx_go (pc1 := 36) (l1 := [some (zr 17), some (zi n), some (zi p), some (zi sh), some (zi (zshl 1 n)), none]) (st1 := [zi (zor (R 19 p) (zand (R 20 p) sh))]) (w1 := wr c R) g_X4_clashing 1 _ _ _ _ rfl ?_
    refine zx_go (pc1 := 43) (l1 := [some (zr 17), some (zi n), some (zi p), some (zi sh), some (zi (zshl 1 n)), some (zi (zor (R 19 p) (zand (R 20 p) sh)))]) (st1 := [zi (-1), zi (zshl 1 n), zi (zor (R 19 p) (zand (R 20 p) sh))]) (w1 := wr c R) g_X4_clashing 4 _ _ _ _ rfl ?_
    refine zx_go (pc1 := 44) (l1 := [some (zr 17), some (zi n), some (zi p), some (zi sh), some (zi (zshl 1 n)), some (zi (zor (R 19 p) (zand (R 20 p) sh)))]) (st1 := [zi (zxor (zshl 1 n) (-1)), zi (zor (R 19 p) (zand (R 20 p) sh))]) (w1 := wr c R) g_X4_clashing 1 _ _ _ _ rfl ?_
    refine zx_go (pc1 := 45) (l1 := [some (zr 17), some (zi n), some (zi p), some (zi sh), some (zi (zshl 1 n)), some (zi (zor (R 19 p) (zand (R 20 p) sh)))]) (st1 := [zi (zand (zor (R 19 p) (zand (R 20 p) sh)) (zxor (zshl 1 n) (-1)))]) (w1 := wr c R) g_X4_clashing 1 _ _ _ _ rfl ?_
    refine zx_iret g_X4_clashing rfl (.inl rfl) ?_
    refine qF_i ?_
    unfold clv
    first | (rw [pI_t h9]; done) | (rw [pI_f h9]; done) | (rw [pI_f (fun q => q h9)]; done)
  · refine zx_go (pc1 := 17) (l1 := [some (zr 17), some (zi n), some (zi p), some (zi sh), some (zi (zshl 1 n)), none]) (st1 := [zi p, zr 20]) (w1 := wr c R) g_X4_clashing 3 _ _ _ _ rfl ?_
    refine gz_iald g_X4_clashing rfl (n := cS c) rfl (by decide) rfl (by have := hg.S; omega) (by omega) (by omega) ?_
    refine zx_go (pc1 := 43) (l1 := [some (zr 17), some (zi n), some (zi p), some (zi sh), some (zi (zshl 1 n)), some (zi (R 20 p))]) (st1 := [zi (-1), zi (zshl 1 n), zi (R 20 p)]) (w1 := wr c R) g_X4_clashing 5 _ _ _ _ rfl ?_
    refine zx_go (pc1 := 44) (l1 := [some (zr 17), some (zi n), some (zi p), some (zi sh), some (zi (zshl 1 n)), some (zi (R 20 p))]) (st1 := [zi (zxor (zshl 1 n) (-1)), zi (R 20 p)]) (w1 := wr c R) g_X4_clashing 1 _ _ _ _ rfl ?_
    refine zx_go (pc1 := 45) (l1 := [some (zr 17), some (zi n), some (zi p), some (zi sh), some (zi (zshl 1 n)), some (zi (R 20 p))]) (st1 := [zi (zand (R 20 p) (zxor (zshl 1 n) (-1)))]) (w1 := wr c R) g_X4_clashing 1 _ _ _ _ rfl ?_
    refine zx_iret g_X4_clashing rfl (.inl rfl) ?_
    refine qF_i ?_
    unfold clv
    first | (rw [pI_t h9]; done) | (rw [pI_f h9]; done) | (rw [pI_f (fun q => q h9)]; done)

set_option maxHeartbeats 1000000 in
theorem s_mark19 {c : zC} {R : zI} (hg : Geo c) {n q d : Int} (h0 : 0 ≤ q) (h1 : q < (cS c : Int)) (d0 : 0 ≤ d) (d1 : d ≤ 3) : MZ m_X4_mark [zr 17, zr 19, zi n, zi q, zi d] (wr c R) (gU (fun R1 => R1 = mkd c R 19 n q d (fun _ => True)) c) := by
  refine MZ.of g_X4_mark ?_
  show ZX m_X4_mark 0 [some (zr 17), some (zr 19), some (zi n), some (zi q), some (zi d), none, none, none, none, none, none, none] [] (wr c R) _
  have gq := place_geo hg h0 h1
  have g2 := hg
  unfold Geo at g2
  have g3 := hg.S
  refine zx_go (pc1 := 8) (l1 := [some (zr 17), some (zr 19), some (zi n), some (zi q), some (zi d), none, none, none, none, none, none, none]) (st1 := [zi q, zr 6]) (w1 := wr c R) g_X4_mark 4 _ _ _ _ rfl ?_
  refine gz_ld6 g_X4_mark rfl hg (by omega) (by omega) ?_
  refine zx_go (pc1 := 20) (l1 := [some (zr 17), some (zr 19), some (zi n), some (zi q), some (zi d), some (zi (lay c q)), none, none, none, none, none, none]) (st1 := [zi q, zr 7, zi 0]) (w1 := wr c R) g_X4_mark 6 _ _ _ _ rfl ?_
  refine gz_ld7 g_X4_mark rfl hg (by omega) (by omega) ?_
  refine zx_go (pc1 := 24) (l1 := [some (zr 17), some (zr 19), some (zi n), some (zi q), some (zi d), some (zi (lay c q)), none, none, none, none, none, none]) (st1 := [zi ((xo c q) - d), zi 0]) (w1 := wr c R) g_X4_mark 2 _ _ _ _ rfl ?_
  refine zx_imax g_X4_mark rfl (Nat.le_of_ble_eq_true rfl) (by decide) (by omega) ?_
  refine zx_go (pc1 := 46) (l1 := [some (zr 17), some (zr 19), some (zi n), some (zi q), some (zi d), some (zi (lay c q)), some (zi (max 0 ((xo c q) - d))), none, none, none, none, none]) (st1 := [zi q, zr 7, zi ((cW c) - 1)]) (w1 := wr c R) g_X4_mark 10 _ _ _ _ rfl ?_
  refine gz_ld7 g_X4_mark rfl hg (by omega) (by omega) ?_
  refine zx_go (pc1 := 50) (l1 := [some (zr 17), some (zr 19), some (zi n), some (zi q), some (zi d), some (zi (lay c q)), some (zi (max 0 ((xo c q) - d))), none, none, none, none, none]) (st1 := [zi ((xo c q) + d), zi ((cW c) - 1)]) (w1 := wr c R) g_X4_mark 2 _ _ _ _ rfl ?_
  refine zx_imin g_X4_mark rfl (Nat.le_of_ble_eq_true rfl) (by omega) (by omega) ?_
  refine zx_go (pc1 := 64) (l1 := [some (zr 17), some (zr 19), some (zi n), some (zi q), some (zi d), some (zi (lay c q)), some (zi (max 0 ((xo c q) - d))), some (zi (min ((cW c) - 1) ((xo c q) + d))), none, none, none, none]) (st1 := [zi q, zr 8, zi 0]) (w1 := wr c R) g_X4_mark 6 _ _ _ _ rfl ?_
  refine gz_ld8 g_X4_mark rfl hg (by omega) (by omega) ?_
  refine zx_go (pc1 := 68) (l1 := [some (zr 17), some (zr 19), some (zi n), some (zi q), some (zi d), some (zi (lay c q)), some (zi (max 0 ((xo c q) - d))), some (zi (min ((cW c) - 1) ((xo c q) + d))), none, none, none, none]) (st1 := [zi ((yo c q) - d), zi 0]) (w1 := wr c R) g_X4_mark 2 _ _ _ _ rfl ?_
  refine zx_imax g_X4_mark rfl (Nat.le_of_ble_eq_true rfl) (by decide) (by omega) ?_
  refine zx_go (pc1 := 90) (l1 := [some (zr 17), some (zr 19), some (zi n), some (zi q), some (zi d), some (zi (lay c q)), some (zi (max 0 ((xo c q) - d))), some (zi (min ((cW c) - 1) ((xo c q) + d))), some (zi (max 0 ((yo c q) - d))), none, none, none]) (st1 := [zi q, zr 8, zi ((cH c) - 1)]) (w1 := wr c R) g_X4_mark 10 _ _ _ _ rfl ?_
  refine gz_ld8 g_X4_mark rfl hg (by omega) (by omega) ?_
  refine zx_go (pc1 := 94) (l1 := [some (zr 17), some (zr 19), some (zi n), some (zi q), some (zi d), some (zi (lay c q)), some (zi (max 0 ((xo c q) - d))), some (zi (min ((cW c) - 1) ((xo c q) + d))), some (zi (max 0 ((yo c q) - d))), none, none, none]) (st1 := [zi ((yo c q) + d), zi ((cH c) - 1)]) (w1 := wr c R) g_X4_mark 2 _ _ _ _ rfl ?_
  refine zx_imin g_X4_mark rfl (Nat.le_of_ble_eq_true rfl) (by omega) (by omega) ?_
  refine zx_go (pc1 := 103) (l1 := [some (zr 17), some (zr 19), some (zi n), some (zi q), some (zi d), some (zi (lay c q)), some (zi (max 0 ((xo c q) - d))), some (zi (min ((cW c) - 1) ((xo c q) + d))), some (zi (max 0 ((yo c q) - d))), some (zi (min ((cH c) - 1) ((yo c q) + d))), some (zi (max 0 ((yo c q) - d))), none]) (st1 := []) (w1 := wr c R) g_X4_mark 3 _ _ _ _ rfl ?_
  have lp103 : ∀ (it : Nat) (y : Int) (R1 : zI) (o11 : Option zV), (it : Int) = min (cH c - 1) (yo c q + d) + 1 - y → (max 0 (yo c q - d) ≤ y ∧ y ≤ min (cH c - 1) (yo c q + d) + 1 ∧ R1 = mkd c R 19 n q d (fun j => yo c j < y)) → ZX m_X4_mark 103 [some (zr 17), some (zr 19), some (zi n), some (zi q), some (zi d), some (zi (lay c q)), some (zi (max 0 ((xo c q) - d))), some (zi (min ((cW c) - 1) ((xo c q) + d))), some (zi (max 0 ((yo c q) - d))), some (zi (min ((cH c) - 1) ((yo c q) + d))), some (zi y), o11] [] (wr c R1) (gU (fun R1 => R1 = mkd c R 19 n q d (fun _ => True)) c) := by
    refine fun it => Nat.strongRecOn it (fun it ih103 => ?_)
    intro y R1 o11 hn103 hi103
    obtain ⟨y0, y1, y2⟩ := hi103
    refine zx_go (pc1 := 107) (l1 := [some (zr 17), some (zr 19), some (zi n), some (zi q), some (zi d), some (zi (lay c q)), some (zi (max 0 ((xo c q) - d))), some (zi (min ((cW c) - 1) ((xo c q) + d))), some (zi (max 0 ((yo c q) - d))), some (zi (min ((cH c) - 1) ((yo c q) + d))), some (zi y), o11]) (st1 := [zi (min ((cH c) - 1) ((yo c q) + d)), zi y]) (w1 := wr c R1) g_X4_mark 2 _ _ _ _ rfl ?_
    refine zx_cmp g_X4_mark rfl (by omega) (by omega) (fun (h107 : (min ((cH c) - 1) ((yo c q) + d)) < y) => ?_) (fun (h107 : ¬ ((min ((cH c) - 1) ((yo c q) + d)) < y)) => ?_)
    · refine zx_vret g_X4_mark rfl ?_
      refine gU_i ?_
      rw [y2]
      unfold mkd
      refine ch_congr fun b j => ?_
      constructor
      · rintro ⟨z0, z1, z2, z3, z4⟩
        exact ⟨z0, z1, z2, z3, trivial⟩
      · rintro ⟨z0, z1, z2, z3, z4⟩
        have gj := place_geo hg z1 z2
        refine ⟨z0, z1, z2, z3, ?_⟩
        unfold nr at z3
        omega
    · refine zx_go (pc1 := 114) (l1 := [some (zr 17), some (zr 19), some (zi n), some (zi q), some (zi d), some (zi (lay c q)), some (zi (max 0 ((xo c q) - d))), some (zi (min ((cW c) - 1) ((xo c q) + d))), some (zi (max 0 ((yo c q) - d))), some (zi (min ((cH c) - 1) ((yo c q) + d))), some (zi y), some (zi (max 0 ((xo c q) - d)))]) (st1 := []) (w1 := wr c R1) g_X4_mark 2 _ _ _ _ rfl ?_
      have lp114 : ∀ (it : Nat) (x : Int) (R2 : zI), (it : Int) = min (cW c - 1) (xo c q + d) + 1 - x → (max 0 (xo c q - d) ≤ x ∧ x ≤ min (cW c - 1) (xo c q + d) + 1 ∧ R2 = mkd c R 19 n q d (fun j => yo c j < y ∨ (yo c j = y ∧ xo c j < x))) → ZX m_X4_mark 114 [some (zr 17), some (zr 19), some (zi n), some (zi q), some (zi d), some (zi (lay c q)), some (zi (max 0 ((xo c q) - d))), some (zi (min ((cW c) - 1) ((xo c q) + d))), some (zi (max 0 ((yo c q) - d))), some (zi (min ((cH c) - 1) ((yo c q) + d))), some (zi y), some (zi x)] [] (wr c R2) (gU (fun R1 => R1 = mkd c R 19 n q d (fun _ => True)) c) := by
        refine fun it => Nat.strongRecOn it (fun it ih114 => ?_)
        intro x R2 hn114 hi114
        obtain ⟨x0, x1, x2⟩ := hi114
        refine zx_go (pc1 := 118) (l1 := [some (zr 17), some (zr 19), some (zi n), some (zi q), some (zi d), some (zi (lay c q)), some (zi (max 0 ((xo c q) - d))), some (zi (min ((cW c) - 1) ((xo c q) + d))), some (zi (max 0 ((yo c q) - d))), some (zi (min ((cH c) - 1) ((yo c q) + d))), some (zi y), some (zi x)]) (st1 := [zi (min ((cW c) - 1) ((xo c q) + d)), zi x]) (w1 := wr c R2) g_X4_mark 2 _ _ _ _ rfl ?_
        refine zx_cmp g_X4_mark rfl (by omega) (by omega) (fun (h118 : (min ((cW c) - 1) ((xo c q) + d)) < x) => ?_) (fun (h118 : ¬ ((min ((cW c) - 1) ((xo c q) + d)) < x)) => ?_)
        · refine zx_go (pc1 := 103) (l1 := [some (zr 17), some (zr 19), some (zi n), some (zi q), some (zi d), some (zi (lay c q)), some (zi (max 0 ((xo c q) - d))), some (zi (min ((cW c) - 1) ((xo c q) + d))), some (zi (max 0 ((yo c q) - d))), some (zi (min ((cH c) - 1) ((yo c q) + d))), some (zi (y + 1)), some (zi x)]) (st1 := []) (w1 := wr c R2) g_X4_mark 2 _ _ _ _ rfl ?_
          refine ih103 (Int.toNat (min (cH c - 1) (yo c q + d) + 1 - (y + 1))) (by omega) (y + 1) R2 (some (zi x)) (by omega) ?_
          refine ⟨by omega, by omega, ?_⟩
          rw [x2]
          unfold mkd
          refine ch_congr fun b j => ?_
          constructor
          · rintro ⟨z0, z1, z2, z3, z4⟩
            exact ⟨z0, z1, z2, z3, by omega⟩
          · rintro ⟨z0, z1, z2, z3, z4⟩
            have gj := place_geo hg z1 z2
            refine ⟨z0, z1, z2, z3, ?_⟩
            unfold nr at z3
            omega
        · have gp := pl_geo hg (z := lay c q) (x := x) (y := y) (by omega) (by omega) (by omega) (by omega) (by omega) (by omega)
          refine zx_go (pc1 := 132) (l1 := [some (zr 17), some (zr 19), some (zi n), some (zi q), some (zi d), some (zi (lay c q)), some (zi (max 0 ((xo c q) - d))), some (zi (min ((cW c) - 1) ((xo c q) + d))), some (zi (max 0 ((yo c q) - d))), some (zi (min ((cH c) - 1) ((yo c q) + d))), some (zi y), some (zi x)]) (st1 := [zi y, zi x, zi (lay c q), zr 2, zr 19]) (w1 := wr c R2) g_X4_mark 6 _ _ _ _ rfl ?_
          refine zx_cvF (As := [zi (lay c q), zi x, zi y]) (rest := [zr 19]) g_X4_mark rfl g_X2_placeAt rfl rfl (Nat.le_of_ble_eq_true rfl) (Nat.le_of_ble_eq_true rfl) rfl (by decide) (s_placeAt (lay c q) x y) ?_
          refine zx_go (pc1 := 136) (l1 := [some (zr 17), some (zr 19), some (zi n), some (zi q), some (zi d), some (zi (lay c q)), some (zi (max 0 ((xo c q) - d))), some (zi (min ((cW c) - 1) ((xo c q) + d))), some (zi (max 0 ((yo c q) - d))), some (zi (min ((cH c) - 1) ((yo c q) + d))), some (zi y), some (zi x)]) (st1 := [zi (pl c (lay c q) x y), zr 19, zi (pl c (lay c q) x y), zr 19]) (w1 := wr c R2) g_X4_mark 1 _ _ _ _ rfl ?_
          refine gz_iald g_X4_mark rfl (n := cS c) rfl (by decide) rfl (by have := hg.S; omega) (by omega) (by omega) ?_
          refine zx_go (pc1 := 139) (l1 := [some (zr 17), some (zr 19), some (zi n), some (zi q), some (zi d), some (zi (lay c q)), some (zi (max 0 ((xo c q) - d))), some (zi (min ((cW c) - 1) ((xo c q) + d))), some (zi (max 0 ((yo c q) - d))), some (zi (min ((cH c) - 1) ((yo c q) + d))), some (zi y), some (zi x)]) (st1 := [zi n, zi 1, zi (R2 19 (pl c (lay c q) x y)), zi (pl c (lay c q) x y), zr 19]) (w1 := wr c R2) g_X4_mark 2 _ _ _ _ rfl ?_
          refine zx_go (pc1 := 140) (l1 := [some (zr 17), some (zr 19), some (zi n), some (zi q), some (zi d), some (zi (lay c q)), some (zi (max 0 ((xo c q) - d))), some (zi (min ((cW c) - 1) ((xo c q) + d))), some (zi (max 0 ((yo c q) - d))), some (zi (min ((cH c) - 1) ((yo c q) + d))), some (zi y), some (zi x)]) (st1 := [zi (zshl 1 n), zi (R2 19 (pl c (lay c q) x y)), zi (pl c (lay c q) x y), zr 19]) (w1 := wr c R2) g_X4_mark 1 _ _ _ _ rfl ?_
          refine zx_go (pc1 := 141) (l1 := [some (zr 17), some (zr 19), some (zi n), some (zi q), some (zi d), some (zi (lay c q)), some (zi (max 0 ((xo c q) - d))), some (zi (min ((cW c) - 1) ((xo c q) + d))), some (zi (max 0 ((yo c q) - d))), some (zi (min ((cH c) - 1) ((yo c q) + d))), some (zi y), some (zi x)]) (st1 := [zi (zor (R2 19 (pl c (lay c q) x y)) (zshl 1 n)), zi (pl c (lay c q) x y), zr 19]) (w1 := wr c R2) g_X4_mark 1 _ _ _ _ rfl ?_
          refine gz_iast g_X4_mark rfl (n := cS c) rfl (by decide) (by refine ⟨?_, ?_, ?_, ?_, ?_⟩ <;> simp) (by have := hg.S; omega) (by omega) (by omega) ?_
          refine zx_go (pc1 := 114) (l1 := [some (zr 17), some (zr 19), some (zi n), some (zi q), some (zi d), some (zi (lay c q)), some (zi (max 0 ((xo c q) - d))), some (zi (min ((cW c) - 1) ((xo c q) + d))), some (zi (max 0 ((yo c q) - d))), some (zi (min ((cH c) - 1) ((yo c q) + d))), some (zi y), some (zi (x + 1))]) (st1 := []) (w1 := wr c (zU R2 19 (pl c (lay c q) x y) (zor (R2 19 (pl c (lay c q) x y)) (zshl 1 n)))) g_X4_mark 2 _ _ _ _ rfl ?_
          refine ih114 (Int.toNat (min (cW c - 1) (xo c q + d) + 1 - (x + 1))) (by omega) (x + 1) (zU R2 19 (pl c (lay c q) x y) (zor (R2 19 (pl c (lay c q) x y)) (zshl 1 n))) (by omega) ?_
          refine ⟨by omega, by omega, ?_⟩
          rw [x2]
          unfold mkd
          refine ch_step ?_ fun b j => ?_
          · rw [ch_f]
            rintro ⟨-, -, -, -, z⟩
            omega
          · constructor
            · rintro ⟨z0, z1, z2, z3, z4⟩
              have gj := place_geo hg z1 z2
              by_cases e : yo c j = y ∧ xo c j = x
              · refine .inr ⟨z0, ?_⟩
                rw [← gj.2.2.2.2.2.2, e.1, e.2, z3.1]
              · exact .inl ⟨z0, z1, z2, z3, by omega⟩
            · rintro (⟨z0, z1, z2, z3, z4⟩ | ⟨z0, z1⟩)
              · exact ⟨z0, z1, z2, z3, by omega⟩
              · subst z1
                refine ⟨z0, gp.1, gp.2.1, ?_, by omega⟩
                unfold nr
                omega
      refine lp114 (Int.toNat (min (cW c - 1) (xo c q + d) + 1 - (max 0 ((xo c q) - d)))) (max 0 ((xo c q) - d)) R1 (by omega) ?_
      refine ⟨by omega, by omega, ?_⟩
      rw [y2]
      unfold mkd
      refine ch_congr fun b j => ?_
      constructor
      · rintro ⟨z0, z1, z2, z3, z4⟩
        exact ⟨z0, z1, z2, z3, .inl z4⟩
      · rintro ⟨z0, z1, z2, z3, z4⟩
        have gj := place_geo hg z1 z2
        refine ⟨z0, z1, z2, z3, ?_⟩
        unfold nr at z3
        omega
  refine lp103 (Int.toNat (min (cH c - 1) (yo c q + d) + 1 - (max 0 ((yo c q) - d)))) (max 0 ((yo c q) - d)) R none (by omega) ?_
  refine ⟨by omega, by omega, ?_⟩
  unfold mkd
  refine (ch_none fun b j z => ?_).symm
  obtain ⟨-, z1, z2, ⟨z3, z4⟩, z5⟩ := z
  have gj := place_geo hg z1 z2
  omega

set_option maxHeartbeats 1000000 in
theorem s_mark20 {c : zC} {R : zI} (hg : Geo c) {n q d : Int} (h0 : 0 ≤ q) (h1 : q < (cS c : Int)) (d0 : 0 ≤ d) (d1 : d ≤ 3) : MZ m_X4_mark [zr 17, zr 20, zi n, zi q, zi d] (wr c R) (gU (fun R1 => R1 = mkd c R 20 n q d (fun _ => True)) c) := by
  refine MZ.of g_X4_mark ?_
  show ZX m_X4_mark 0 [some (zr 17), some (zr 20), some (zi n), some (zi q), some (zi d), none, none, none, none, none, none, none] [] (wr c R) _
  have gq := place_geo hg h0 h1
  have g2 := hg
  unfold Geo at g2
  have g3 := hg.S
  refine zx_go (pc1 := 8) (l1 := [some (zr 17), some (zr 20), some (zi n), some (zi q), some (zi d), none, none, none, none, none, none, none]) (st1 := [zi q, zr 6]) (w1 := wr c R) g_X4_mark 4 _ _ _ _ rfl ?_
  refine gz_ld6 g_X4_mark rfl hg (by omega) (by omega) ?_
  refine zx_go (pc1 := 20) (l1 := [some (zr 17), some (zr 20), some (zi n), some (zi q), some (zi d), some (zi (lay c q)), none, none, none, none, none, none]) (st1 := [zi q, zr 7, zi 0]) (w1 := wr c R) g_X4_mark 6 _ _ _ _ rfl ?_
  refine gz_ld7 g_X4_mark rfl hg (by omega) (by omega) ?_
  refine zx_go (pc1 := 24) (l1 := [some (zr 17), some (zr 20), some (zi n), some (zi q), some (zi d), some (zi (lay c q)), none, none, none, none, none, none]) (st1 := [zi ((xo c q) - d), zi 0]) (w1 := wr c R) g_X4_mark 2 _ _ _ _ rfl ?_
  refine zx_imax g_X4_mark rfl (Nat.le_of_ble_eq_true rfl) (by decide) (by omega) ?_
  refine zx_go (pc1 := 46) (l1 := [some (zr 17), some (zr 20), some (zi n), some (zi q), some (zi d), some (zi (lay c q)), some (zi (max 0 ((xo c q) - d))), none, none, none, none, none]) (st1 := [zi q, zr 7, zi ((cW c) - 1)]) (w1 := wr c R) g_X4_mark 10 _ _ _ _ rfl ?_
  refine gz_ld7 g_X4_mark rfl hg (by omega) (by omega) ?_
  refine zx_go (pc1 := 50) (l1 := [some (zr 17), some (zr 20), some (zi n), some (zi q), some (zi d), some (zi (lay c q)), some (zi (max 0 ((xo c q) - d))), none, none, none, none, none]) (st1 := [zi ((xo c q) + d), zi ((cW c) - 1)]) (w1 := wr c R) g_X4_mark 2 _ _ _ _ rfl ?_
  refine zx_imin g_X4_mark rfl (Nat.le_of_ble_eq_true rfl) (by omega) (by omega) ?_
  refine zx_go (pc1 := 64) (l1 := [some (zr 17), some (zr 20), some (zi n), some (zi q), some (zi d), some (zi (lay c q)), some (zi (max 0 ((xo c q) - d))), some (zi (min ((cW c) - 1) ((xo c q) + d))), none, none, none, none]) (st1 := [zi q, zr 8, zi 0]) (w1 := wr c R) g_X4_mark 6 _ _ _ _ rfl ?_
  refine gz_ld8 g_X4_mark rfl hg (by omega) (by omega) ?_
  refine zx_go (pc1 := 68) (l1 := [some (zr 17), some (zr 20), some (zi n), some (zi q), some (zi d), some (zi (lay c q)), some (zi (max 0 ((xo c q) - d))), some (zi (min ((cW c) - 1) ((xo c q) + d))), none, none, none, none]) (st1 := [zi ((yo c q) - d), zi 0]) (w1 := wr c R) g_X4_mark 2 _ _ _ _ rfl ?_
  refine zx_imax g_X4_mark rfl (Nat.le_of_ble_eq_true rfl) (by decide) (by omega) ?_
  refine zx_go (pc1 := 90) (l1 := [some (zr 17), some (zr 20), some (zi n), some (zi q), some (zi d), some (zi (lay c q)), some (zi (max 0 ((xo c q) - d))), some (zi (min ((cW c) - 1) ((xo c q) + d))), some (zi (max 0 ((yo c q) - d))), none, none, none]) (st1 := [zi q, zr 8, zi ((cH c) - 1)]) (w1 := wr c R) g_X4_mark 10 _ _ _ _ rfl ?_
  refine gz_ld8 g_X4_mark rfl hg (by omega) (by omega) ?_
  refine zx_go (pc1 := 94) (l1 := [some (zr 17), some (zr 20), some (zi n), some (zi q), some (zi d), some (zi (lay c q)), some (zi (max 0 ((xo c q) - d))), some (zi (min ((cW c) - 1) ((xo c q) + d))), some (zi (max 0 ((yo c q) - d))), none, none, none]) (st1 := [zi ((yo c q) + d), zi ((cH c) - 1)]) (w1 := wr c R) g_X4_mark 2 _ _ _ _ rfl ?_
  refine zx_imin g_X4_mark rfl (Nat.le_of_ble_eq_true rfl) (by omega) (by omega) ?_
  refine zx_go (pc1 := 103) (l1 := [some (zr 17), some (zr 20), some (zi n), some (zi q), some (zi d), some (zi (lay c q)), some (zi (max 0 ((xo c q) - d))), some (zi (min ((cW c) - 1) ((xo c q) + d))), some (zi (max 0 ((yo c q) - d))), some (zi (min ((cH c) - 1) ((yo c q) + d))), some (zi (max 0 ((yo c q) - d))), none]) (st1 := []) (w1 := wr c R) g_X4_mark 3 _ _ _ _ rfl ?_
  have lp103 : ∀ (it : Nat) (y : Int) (R1 : zI) (o11 : Option zV), (it : Int) = min (cH c - 1) (yo c q + d) + 1 - y → (max 0 (yo c q - d) ≤ y ∧ y ≤ min (cH c - 1) (yo c q + d) + 1 ∧ R1 = mkd c R 20 n q d (fun j => yo c j < y)) → ZX m_X4_mark 103 [some (zr 17), some (zr 20), some (zi n), some (zi q), some (zi d), some (zi (lay c q)), some (zi (max 0 ((xo c q) - d))), some (zi (min ((cW c) - 1) ((xo c q) + d))), some (zi (max 0 ((yo c q) - d))), some (zi (min ((cH c) - 1) ((yo c q) + d))), some (zi y), o11] [] (wr c R1) (gU (fun R1 => R1 = mkd c R 20 n q d (fun _ => True)) c) := by
    refine fun it => Nat.strongRecOn it (fun it ih103 => ?_)
    intro y R1 o11 hn103 hi103
    obtain ⟨y0, y1, y2⟩ := hi103
    refine zx_go (pc1 := 107) (l1 := [some (zr 17), some (zr 20), some (zi n), some (zi q), some (zi d), some (zi (lay c q)), some (zi (max 0 ((xo c q) - d))), some (zi (min ((cW c) - 1) ((xo c q) + d))), some (zi (max 0 ((yo c q) - d))), some (zi (min ((cH c) - 1) ((yo c q) + d))), some (zi y), o11]) (st1 := [zi (min ((cH c) - 1) ((yo c q) + d)), zi y]) (w1 := wr c R1) g_X4_mark 2 _ _ _ _ rfl ?_
    refine zx_cmp g_X4_mark rfl (by omega) (by omega) (fun (h107 : (min ((cH c) - 1) ((yo c q) + d)) < y) => ?_) (fun (h107 : ¬ ((min ((cH c) - 1) ((yo c q) + d)) < y)) => ?_)
    · refine zx_vret g_X4_mark rfl ?_
      refine gU_i ?_
      rw [y2]
      unfold mkd
      refine ch_congr fun b j => ?_
      constructor
      · rintro ⟨z0, z1, z2, z3, z4⟩
        exact ⟨z0, z1, z2, z3, trivial⟩
      · rintro ⟨z0, z1, z2, z3, z4⟩
        have gj := place_geo hg z1 z2
        refine ⟨z0, z1, z2, z3, ?_⟩
        unfold nr at z3
        omega
    · refine zx_go (pc1 := 114) (l1 := [some (zr 17), some (zr 20), some (zi n), some (zi q), some (zi d), some (zi (lay c q)), some (zi (max 0 ((xo c q) - d))), some (zi (min ((cW c) - 1) ((xo c q) + d))), some (zi (max 0 ((yo c q) - d))), some (zi (min ((cH c) - 1) ((yo c q) + d))), some (zi y), some (zi (max 0 ((xo c q) - d)))]) (st1 := []) (w1 := wr c R1) g_X4_mark 2 _ _ _ _ rfl ?_
      have lp114 : ∀ (it : Nat) (x : Int) (R2 : zI), (it : Int) = min (cW c - 1) (xo c q + d) + 1 - x → (max 0 (xo c q - d) ≤ x ∧ x ≤ min (cW c - 1) (xo c q + d) + 1 ∧ R2 = mkd c R 20 n q d (fun j => yo c j < y ∨ (yo c j = y ∧ xo c j < x))) → ZX m_X4_mark 114 [some (zr 17), some (zr 20), some (zi n), some (zi q), some (zi d), some (zi (lay c q)), some (zi (max 0 ((xo c q) - d))), some (zi (min ((cW c) - 1) ((xo c q) + d))), some (zi (max 0 ((yo c q) - d))), some (zi (min ((cH c) - 1) ((yo c q) + d))), some (zi y), some (zi x)] [] (wr c R2) (gU (fun R1 => R1 = mkd c R 20 n q d (fun _ => True)) c) := by
        refine fun it => Nat.strongRecOn it (fun it ih114 => ?_)
        intro x R2 hn114 hi114
        obtain ⟨x0, x1, x2⟩ := hi114
        refine zx_go (pc1 := 118) (l1 := [some (zr 17), some (zr 20), some (zi n), some (zi q), some (zi d), some (zi (lay c q)), some (zi (max 0 ((xo c q) - d))), some (zi (min ((cW c) - 1) ((xo c q) + d))), some (zi (max 0 ((yo c q) - d))), some (zi (min ((cH c) - 1) ((yo c q) + d))), some (zi y), some (zi x)]) (st1 := [zi (min ((cW c) - 1) ((xo c q) + d)), zi x]) (w1 := wr c R2) g_X4_mark 2 _ _ _ _ rfl ?_
        refine zx_cmp g_X4_mark rfl (by omega) (by omega) (fun (h118 : (min ((cW c) - 1) ((xo c q) + d)) < x) => ?_) (fun (h118 : ¬ ((min ((cW c) - 1) ((xo c q) + d)) < x)) => ?_)
        · refine zx_go (pc1 := 103) (l1 := [some (zr 17), some (zr 20), some (zi n), some (zi q), some (zi d), some (zi (lay c q)), some (zi (max 0 ((xo c q) - d))), some (zi (min ((cW c) - 1) ((xo c q) + d))), some (zi (max 0 ((yo c q) - d))), some (zi (min ((cH c) - 1) ((yo c q) + d))), some (zi (y + 1)), some (zi x)]) (st1 := []) (w1 := wr c R2) g_X4_mark 2 _ _ _ _ rfl ?_
          refine ih103 (Int.toNat (min (cH c - 1) (yo c q + d) + 1 - (y + 1))) (by omega) (y + 1) R2 (some (zi x)) (by omega) ?_
          refine ⟨by omega, by omega, ?_⟩
          rw [x2]
          unfold mkd
          refine ch_congr fun b j => ?_
          constructor
          · rintro ⟨z0, z1, z2, z3, z4⟩
            exact ⟨z0, z1, z2, z3, by omega⟩
          · rintro ⟨z0, z1, z2, z3, z4⟩
            have gj := place_geo hg z1 z2
            refine ⟨z0, z1, z2, z3, ?_⟩
            unfold nr at z3
            omega
        · have gp := pl_geo hg (z := lay c q) (x := x) (y := y) (by omega) (by omega) (by omega) (by omega) (by omega) (by omega)
          refine zx_go (pc1 := 132) (l1 := [some (zr 17), some (zr 20), some (zi n), some (zi q), some (zi d), some (zi (lay c q)), some (zi (max 0 ((xo c q) - d))), some (zi (min ((cW c) - 1) ((xo c q) + d))), some (zi (max 0 ((yo c q) - d))), some (zi (min ((cH c) - 1) ((yo c q) + d))), some (zi y), some (zi x)]) (st1 := [zi y, zi x, zi (lay c q), zr 2, zr 20]) (w1 := wr c R2) g_X4_mark 6 _ _ _ _ rfl ?_
          refine zx_cvF (As := [zi (lay c q), zi x, zi y]) (rest := [zr 20]) g_X4_mark rfl g_X2_placeAt rfl rfl (Nat.le_of_ble_eq_true rfl) (Nat.le_of_ble_eq_true rfl) rfl (by decide) (s_placeAt (lay c q) x y) ?_
          refine zx_go (pc1 := 136) (l1 := [some (zr 17), some (zr 20), some (zi n), some (zi q), some (zi d), some (zi (lay c q)), some (zi (max 0 ((xo c q) - d))), some (zi (min ((cW c) - 1) ((xo c q) + d))), some (zi (max 0 ((yo c q) - d))), some (zi (min ((cH c) - 1) ((yo c q) + d))), some (zi y), some (zi x)]) (st1 := [zi (pl c (lay c q) x y), zr 20, zi (pl c (lay c q) x y), zr 20]) (w1 := wr c R2) g_X4_mark 1 _ _ _ _ rfl ?_
          refine gz_iald g_X4_mark rfl (n := cS c) rfl (by decide) rfl (by have := hg.S; omega) (by omega) (by omega) ?_
          refine zx_go (pc1 := 139) (l1 := [some (zr 17), some (zr 20), some (zi n), some (zi q), some (zi d), some (zi (lay c q)), some (zi (max 0 ((xo c q) - d))), some (zi (min ((cW c) - 1) ((xo c q) + d))), some (zi (max 0 ((yo c q) - d))), some (zi (min ((cH c) - 1) ((yo c q) + d))), some (zi y), some (zi x)]) (st1 := [zi n, zi 1, zi (R2 20 (pl c (lay c q) x y)), zi (pl c (lay c q) x y), zr 20]) (w1 := wr c R2) g_X4_mark 2 _ _ _ _ rfl ?_
          refine zx_go (pc1 := 140) (l1 := [some (zr 17), some (zr 20), some (zi n), some (zi q), some (zi d), some (zi (lay c q)), some (zi (max 0 ((xo c q) - d))), some (zi (min ((cW c) - 1) ((xo c q) + d))), some (zi (max 0 ((yo c q) - d))), some (zi (min ((cH c) - 1) ((yo c q) + d))), some (zi y), some (zi x)]) (st1 := [zi (zshl 1 n), zi (R2 20 (pl c (lay c q) x y)), zi (pl c (lay c q) x y), zr 20]) (w1 := wr c R2) g_X4_mark 1 _ _ _ _ rfl ?_
          refine zx_go (pc1 := 141) (l1 := [some (zr 17), some (zr 20), some (zi n), some (zi q), some (zi d), some (zi (lay c q)), some (zi (max 0 ((xo c q) - d))), some (zi (min ((cW c) - 1) ((xo c q) + d))), some (zi (max 0 ((yo c q) - d))), some (zi (min ((cH c) - 1) ((yo c q) + d))), some (zi y), some (zi x)]) (st1 := [zi (zor (R2 20 (pl c (lay c q) x y)) (zshl 1 n)), zi (pl c (lay c q) x y), zr 20]) (w1 := wr c R2) g_X4_mark 1 _ _ _ _ rfl ?_
          refine gz_iast g_X4_mark rfl (n := cS c) rfl (by decide) (by refine ⟨?_, ?_, ?_, ?_, ?_⟩ <;> simp) (by have := hg.S; omega) (by omega) (by omega) ?_
          refine zx_go (pc1 := 114) (l1 := [some (zr 17), some (zr 20), some (zi n), some (zi q), some (zi d), some (zi (lay c q)), some (zi (max 0 ((xo c q) - d))), some (zi (min ((cW c) - 1) ((xo c q) + d))), some (zi (max 0 ((yo c q) - d))), some (zi (min ((cH c) - 1) ((yo c q) + d))), some (zi y), some (zi (x + 1))]) (st1 := []) (w1 := wr c (zU R2 20 (pl c (lay c q) x y) (zor (R2 20 (pl c (lay c q) x y)) (zshl 1 n)))) g_X4_mark 2 _ _ _ _ rfl ?_
          refine ih114 (Int.toNat (min (cW c - 1) (xo c q + d) + 1 - (x + 1))) (by omega) (x + 1) (zU R2 20 (pl c (lay c q) x y) (zor (R2 20 (pl c (lay c q) x y)) (zshl 1 n))) (by omega) ?_
          refine ⟨by omega, by omega, ?_⟩
          rw [x2]
          unfold mkd
          refine ch_step ?_ fun b j => ?_
          · rw [ch_f]
            rintro ⟨-, -, -, -, z⟩
            omega
          · constructor
            · rintro ⟨z0, z1, z2, z3, z4⟩
              have gj := place_geo hg z1 z2
              by_cases e : yo c j = y ∧ xo c j = x
              · refine .inr ⟨z0, ?_⟩
                rw [← gj.2.2.2.2.2.2, e.1, e.2, z3.1]
              · exact .inl ⟨z0, z1, z2, z3, by omega⟩
            · rintro (⟨z0, z1, z2, z3, z4⟩ | ⟨z0, z1⟩)
              · exact ⟨z0, z1, z2, z3, by omega⟩
              · subst z1
                refine ⟨z0, gp.1, gp.2.1, ?_, by omega⟩
                unfold nr
                omega
      refine lp114 (Int.toNat (min (cW c - 1) (xo c q + d) + 1 - (max 0 ((xo c q) - d)))) (max 0 ((xo c q) - d)) R1 (by omega) ?_
      refine ⟨by omega, by omega, ?_⟩
      rw [y2]
      unfold mkd
      refine ch_congr fun b j => ?_
      constructor
      · rintro ⟨z0, z1, z2, z3, z4⟩
        exact ⟨z0, z1, z2, z3, .inl z4⟩
      · rintro ⟨z0, z1, z2, z3, z4⟩
        have gj := place_geo hg z1 z2
        refine ⟨z0, z1, z2, z3, ?_⟩
        unfold nr at z3
        omega
  refine lp103 (Int.toNat (min (cH c - 1) (yo c q + d) + 1 - (max 0 ((yo c q) - d)))) (max 0 ((yo c q) - d)) R none (by omega) ?_
  refine ⟨by omega, by omega, ?_⟩
  unfold mkd
  refine (ch_none fun b j z => ?_).symm
  obtain ⟨-, z1, z2, ⟨z3, z4⟩, z5⟩ := z
  have gj := place_geo hg z1 z2
  omega

set_option maxHeartbeats 1000000 in
theorem s_clashing21 {c : zC} {R : zI} (hg : Geo c) {n p sh : Int} (h0 : 0 ≤ p) (h1 : p < (cS c : Int)) : MZ m_X4_clashing [zr 21, zi n, zi p, zi sh] (wr c R) (qF (zi (clv (R 23) (R 24) n p sh)) (wr c R)) := by
  refine MZ.of g_X4_clashing ?_
  show ZX m_X4_clashing 0 [some (zr 21), some (zi n), some (zi p), some (zi sh), none, none] [] (wr c R) _
  refine zx_go (pc1 := 2) (l1 := [some (zr 21), some (zi n), some (zi p), some (zi sh), none, none]) (st1 := [zi n, zi 1]) (w1 := wr c R) g_X4_clashing 2 _ _ _ _ rfl ?_
  refine zx_go (pc1 := 3) (l1 := [some (zr 21), some (zi n), some (zi p), some (zi sh), none, none]) (st1 := [zi (zshl 1 n)]) (w1 := wr c R) g_X4_clashing 1 _ _ _ _ rfl ?_
  refine zx_go (pc1 := 8) (l1 := [some (zr 21), some (zi n), some (zi p), some (zi sh), some (zi (zshl 1 n)), none]) (st1 := [zi (zshl 1 n), zi sh]) (w1 := wr c R) g_X4_clashing 3 _ _ _ _ rfl ?_
  refine zx_go (pc1 := 9) (l1 := [some (zr 21), some (zi n), some (zi p), some (zi sh), some (zi (zshl 1 n)), none]) (st1 := [zi (zand sh (zshl 1 n))]) (w1 := wr c R) g_X4_clashing 1 _ _ _ _ rfl ?_
  refine zx_if g_X4_clashing rfl (zand_R _ _) (fun (h9 : (zand sh (zshl 1 n)) = 0) => ?_) (fun (h9 : ¬ (zand sh (zshl 1 n)) = 0) => ?_)
  · refine zx_go (pc1 := 26) (l1 := [some (zr 21), some (zi n), some (zi p), some (zi sh), some (zi (zshl 1 n)), none]) (st1 := [zi p, zr 23]) (w1 := wr c R) g_X4_clashing 3 _ _ _ _ rfl ?_
    refine gz_iald g_X4_clashing rfl (n := cS c) rfl (by decide) rfl (by have := hg.S; omega) (by omega) (by omega) ?_
    refine zx_go (pc1 := 32) (l1 := [some (zr 21), some (zi n), some (zi p), some (zi sh), some (zi (zshl 1 n)), none]) (st1 := [zi p, zr 24, zi (R 23 p)]) (w1 := wr c R) g_X4_clashing 3 _ _ _ _ rfl ?_
    refine gz_iald g_X4_clashing rfl (n := cS c) rfl (by decide) rfl (by have := hg.S; omega) (by omega) (by omega) ?_
    refine zx_go (pc1 := 34) (l1 := [some (zr 21), some (zi n), some (zi p), some (zi sh), some (zi (zshl 1 n)), none]) (st1 := [zi sh, zi (R 24 p), zi (R 23 p)]) (w1 := wr c R) g_X4_clashing 1 _ _ _ _ rfl ?_
    refine zx_go (pc1 := 35) (l1 := [some (zr 21), some (zi n), some (zi p), some (zi sh), some (zi (zshl 1 n)), none]) (st1 := [zi (zand (R 24 p) sh), zi (R 23 p)]) (w1 := wr c R) g_X4_clashing 1 _ _ _ _ rfl ?_
    refine zx_go (pc1 := 36) (l1 := [some (zr 21), some (zi n), some (zi p), some (zi sh), some (zi (zshl 1 n)), none]) (st1 := [zi (zor (R 23 p) (zand (R 24 p) sh))]) (w1 := wr c R) g_X4_clashing 1 _ _ _ _ rfl ?_
    refine zx_go (pc1 := 43) (l1 := [some (zr 21), some (zi n), some (zi p), some (zi sh), some (zi (zshl 1 n)), some (zi (zor (R 23 p) (zand (R 24 p) sh)))]) (st1 := [zi (-1), zi (zshl 1 n), zi (zor (R 23 p) (zand (R 24 p) sh))]) (w1 := wr c R) g_X4_clashing 4 _ _ _ _ rfl ?_
    refine zx_go (pc1 := 44) (l1 := [some (zr 21), some (zi n), some (zi p), some (zi sh), some (zi (zshl 1 n)), some (zi (zor (R 23 p) (zand (R 24 p) sh)))]) (st1 := [zi (zxor (zshl 1 n) (-1)), zi (zor (R 23 p) (zand (R 24 p) sh))]) (w1 := wr c R) g_X4_clashing 1 _ _ _ _ rfl ?_
    refine zx_go (pc1 := 45) (l1 := [some (zr 21), some (zi n), some (zi p), some (zi sh), some (zi (zshl 1 n)), some (zi (zor (R 23 p) (zand (R 24 p) sh)))]) (st1 := [zi (zand (zor (R 23 p) (zand (R 24 p) sh)) (zxor (zshl 1 n) (-1)))]) (w1 := wr c R) g_X4_clashing 1 _ _ _ _ rfl ?_
    refine zx_iret g_X4_clashing rfl (.inl rfl) ?_
    refine qF_i ?_
    unfold clv
    first | (rw [pI_t h9]; done) | (rw [pI_f h9]; done) | (rw [pI_f (fun q => q h9)]; done)
  · refine zx_go (pc1 := 17) (l1 := [some (zr 21), some (zi n), some (zi p), some (zi sh), some (zi (zshl 1 n)), none]) (st1 := [zi p, zr 24]) (w1 := wr c R) g_X4_clashing 3 _ _ _ _ rfl ?_
    refine gz_iald g_X4_clashing rfl (n := cS c) rfl (by decide) rfl (by have := hg.S; omega) (by omega) (by omega) ?_
    refine zx_go (pc1 := 43) (l1 := [some (zr 21), some (zi n), some (zi p), some (zi sh), some (zi (zshl 1 n)), some (zi (R 24 p))]) (st1 := [zi (-1), zi (zshl 1 n), zi (R 24 p)]) (w1 := wr c R) g_X4_clashing 5 _ _ _ _ rfl ?_
    refine zx_go (pc1 := 44) (l1 := [some (zr 21), some (zi n), some (zi p), some (zi sh), some (zi (zshl 1 n)), some (zi (R 24 p))]) (st1 := [zi (zxor (zshl 1 n) (-1)), zi (R 24 p)]) (w1 := wr c R) g_X4_clashing 1 _ _ _ _ rfl ?_
    refine zx_go (pc1 := 45) (l1 := [some (zr 21), some (zi n), some (zi p), some (zi sh), some (zi (zshl 1 n)), some (zi (R 24 p))]) (st1 := [zi (zand (R 24 p) (zxor (zshl 1 n) (-1)))]) (w1 := wr c R) g_X4_clashing 1 _ _ _ _ rfl ?_
    refine zx_iret g_X4_clashing rfl (.inl rfl) ?_
    refine qF_i ?_
    unfold clv
    first | (rw [pI_t h9]; done) | (rw [pI_f h9]; done) | (rw [pI_f (fun q => q h9)]; done)

set_option maxHeartbeats 1000000 in
theorem s_mark23 {c : zC} {R : zI} (hg : Geo c) {n q d : Int} (h0 : 0 ≤ q) (h1 : q < (cS c : Int)) (d0 : 0 ≤ d) (d1 : d ≤ 3) : MZ m_X4_mark [zr 21, zr 23, zi n, zi q, zi d] (wr c R) (gU (fun R1 => R1 = mkd c R 23 n q d (fun _ => True)) c) := by
  refine MZ.of g_X4_mark ?_
  show ZX m_X4_mark 0 [some (zr 21), some (zr 23), some (zi n), some (zi q), some (zi d), none, none, none, none, none, none, none] [] (wr c R) _
  have gq := place_geo hg h0 h1
  have g2 := hg
  unfold Geo at g2
  have g3 := hg.S
  refine zx_go (pc1 := 8) (l1 := [some (zr 21), some (zr 23), some (zi n), some (zi q), some (zi d), none, none, none, none, none, none, none]) (st1 := [zi q, zr 6]) (w1 := wr c R) g_X4_mark 4 _ _ _ _ rfl ?_
  refine gz_ld6 g_X4_mark rfl hg (by omega) (by omega) ?_
  refine zx_go (pc1 := 20) (l1 := [some (zr 21), some (zr 23), some (zi n), some (zi q), some (zi d), some (zi (lay c q)), none, none, none, none, none, none]) (st1 := [zi q, zr 7, zi 0]) (w1 := wr c R) g_X4_mark 6 _ _ _ _ rfl ?_
  refine gz_ld7 g_X4_mark rfl hg (by omega) (by omega) ?_
  refine zx_go (pc1 := 24) (l1 := [some (zr 21), some (zr 23), some (zi n), some (zi q), some (zi d), some (zi (lay c q)), none, none, none, none, none, none]) (st1 := [zi ((xo c q) - d), zi 0]) (w1 := wr c R) g_X4_mark 2 _ _ _ _ rfl ?_
  refine zx_imax g_X4_mark rfl (Nat.le_of_ble_eq_true rfl) (by decide) (by omega) ?_
  refine zx_go (pc1 := 46) (l1 := [some (zr 21), some (zr 23), some (zi n), some (zi q), some (zi d), some (zi (lay c q)), some (zi (max 0 ((xo c q) - d))), none, none, none, none, none]) (st1 := [zi q, zr 7, zi ((cW c) - 1)]) (w1 := wr c R) g_X4_mark 10 _ _ _ _ rfl ?_
  refine gz_ld7 g_X4_mark rfl hg (by omega) (by omega) ?_
  refine zx_go (pc1 := 50) (l1 := [some (zr 21), some (zr 23), some (zi n), some (zi q), some (zi d), some (zi (lay c q)), some (zi (max 0 ((xo c q) - d))), none, none, none, none, none]) (st1 := [zi ((xo c q) + d), zi ((cW c) - 1)]) (w1 := wr c R) g_X4_mark 2 _ _ _ _ rfl ?_
  refine zx_imin g_X4_mark rfl (Nat.le_of_ble_eq_true rfl) (by omega) (by omega) ?_
  refine zx_go (pc1 := 64) (l1 := [some (zr 21), some (zr 23), some (zi n), some (zi q), some (zi d), some (zi (lay c q)), some (zi (max 0 ((xo c q) - d))), some (zi (min ((cW c) - 1) ((xo c q) + d))), none, none, none, none]) (st1 := [zi q, zr 8, zi 0]) (w1 := wr c R) g_X4_mark 6 _ _ _ _ rfl ?_
  refine gz_ld8 g_X4_mark rfl hg (by omega) (by omega) ?_
  refine zx_go (pc1 := 68) (l1 := [some (zr 21), some (zr 23), some (zi n), some (zi q), some (zi d), some (zi (lay c q)), some (zi (max 0 ((xo c q) - d))), some (zi (min ((cW c) - 1) ((xo c q) + d))), none, none, none, none]) (st1 := [zi ((yo c q) - d), zi 0]) (w1 := wr c R) g_X4_mark 2 _ _ _ _ rfl ?_
  refine zx_imax g_X4_mark rfl (Nat.le_of_ble_eq_true rfl) (by decide) (by omega) ?_
  refine zx_go (pc1 := 90) (l1 := [some (zr 21), some (zr 23), some (zi n), some (zi q), some (zi d), some (zi (lay c q)), some (zi (max 0 ((xo c q) - d))), some (zi (min ((cW c) - 1) ((xo c q) + d))), some (zi (max 0 ((yo c q) - d))), none, none, none]) (st1 := [zi q, zr 8, zi ((cH c) - 1)]) (w1 := wr c R) g_X4_mark 10 _ _ _ _ rfl ?_
  refine gz_ld8 g_X4_mark rfl hg (by omega) (by omega) ?_
  refine zx_go (pc1 := 94) (l1 := [some (zr 21), some (zr 23), some (zi n), some (zi q), some (zi d), some (zi (lay c q)), some (zi (max 0 ((xo c q) - d))), some (zi (min ((cW c) - 1) ((xo c q) + d))), some (zi (max 0 ((yo c q) - d))), none, none, none]) (st1 := [zi ((yo c q) + d), zi ((cH c) - 1)]) (w1 := wr c R) g_X4_mark 2 _ _ _ _ rfl ?_
  refine zx_imin g_X4_mark rfl (Nat.le_of_ble_eq_true rfl) (by omega) (by omega) ?_
  refine zx_go (pc1 := 103) (l1 := [some (zr 21), some (zr 23), some (zi n), some (zi q), some (zi d), some (zi (lay c q)), some (zi (max 0 ((xo c q) - d))), some (zi (min ((cW c) - 1) ((xo c q) + d))), some (zi (max 0 ((yo c q) - d))), some (zi (min ((cH c) - 1) ((yo c q) + d))), some (zi (max 0 ((yo c q) - d))), none]) (st1 := []) (w1 := wr c R) g_X4_mark 3 _ _ _ _ rfl ?_
  have lp103 : ∀ (it : Nat) (y : Int) (R1 : zI) (o11 : Option zV), (it : Int) = min (cH c - 1) (yo c q + d) + 1 - y → (max 0 (yo c q - d) ≤ y ∧ y ≤ min (cH c - 1) (yo c q + d) + 1 ∧ R1 = mkd c R 23 n q d (fun j => yo c j < y)) → ZX m_X4_mark 103 [some (zr 21), some (zr 23), some (zi n), some (zi q), some (zi d), some (zi (lay c q)), some (zi (max 0 ((xo c q) - d))), some (zi (min ((cW c) - 1) ((xo c q) + d))), some (zi (max 0 ((yo c q) - d))), some (zi (min ((cH c) - 1) ((yo c q) + d))), some (zi y), o11] [] (wr c R1) (gU (fun R1 => R1 = mkd c R 23 n q d (fun _ => True)) c) := by
    refine fun it => Nat.strongRecOn it (fun it ih103 => ?_)
    intro y R1 o11 hn103 hi103
    obtain ⟨y0, y1, y2⟩ := hi103
    refine zx_go (pc1 := 107) (l1 := [some (zr 21), some (zr 23), some (zi n), some (zi q), some (zi d), some (zi (lay c q)), some (zi (max 0 ((xo c q) - d))), some (zi (min ((cW c) - 1) ((xo c q) + d))), some (zi (max 0 ((yo c q) - d))), some (zi (min ((cH c) - 1) ((yo c q) + d))), some (zi y), o11]) (st1 := [zi (min ((cH c) - 1) ((yo c q) + d)), zi y]) (w1 := wr c R1) g_X4_mark 2 _ _ _ _ rfl ?_
    refine zx_cmp g_X4_mark rfl (by omega) (by omega) (fun (h107 : (min ((cH c) - 1) ((yo c q) + d)) < y) => ?_) (fun (h107 : ¬ ((min ((cH c) - 1) ((yo c q) + d)) < y)) => ?_)
    · refine zx_vret g_X4_mark rfl ?_
      refine gU_i ?_
      rw [y2]
      unfold mkd
      refine ch_congr fun b j => ?_
      constructor
      · rintro ⟨z0, z1, z2, z3, z4⟩
        exact ⟨z0, z1, z2, z3, trivial⟩
      · rintro ⟨z0, z1, z2, z3, z4⟩
        have gj := place_geo hg z1 z2
        refine ⟨z0, z1, z2, z3, ?_⟩
        unfold nr at z3
        omega
    · refine zx_go (pc1 := 114) (l1 := [some (zr 21), some (zr 23), some (zi n), some (zi q), some (zi d), some (zi (lay c q)), some (zi (max 0 ((xo c q) - d))), some (zi (min ((cW c) - 1) ((xo c q) + d))), some (zi (max 0 ((yo c q) - d))), some (zi (min ((cH c) - 1) ((yo c q) + d))), some (zi y), some (zi (max 0 ((xo c q) - d)))]) (st1 := []) (w1 := wr c R1) g_X4_mark 2 _ _ _ _ rfl ?_
      have lp114 : ∀ (it : Nat) (x : Int) (R2 : zI), (it : Int) = min (cW c - 1) (xo c q + d) + 1 - x → (max 0 (xo c q - d) ≤ x ∧ x ≤ min (cW c - 1) (xo c q + d) + 1 ∧ R2 = mkd c R 23 n q d (fun j => yo c j < y ∨ (yo c j = y ∧ xo c j < x))) → ZX m_X4_mark 114 [some (zr 21), some (zr 23), some (zi n), some (zi q), some (zi d), some (zi (lay c q)), some (zi (max 0 ((xo c q) - d))), some (zi (min ((cW c) - 1) ((xo c q) + d))), some (zi (max 0 ((yo c q) - d))), some (zi (min ((cH c) - 1) ((yo c q) + d))), some (zi y), some (zi x)] [] (wr c R2) (gU (fun R1 => R1 = mkd c R 23 n q d (fun _ => True)) c) := by
        refine fun it => Nat.strongRecOn it (fun it ih114 => ?_)
        intro x R2 hn114 hi114
        obtain ⟨x0, x1, x2⟩ := hi114
        refine zx_go (pc1 := 118) (l1 := [some (zr 21), some (zr 23), some (zi n), some (zi q), some (zi d), some (zi (lay c q)), some (zi (max 0 ((xo c q) - d))), some (zi (min ((cW c) - 1) ((xo c q) + d))), some (zi (max 0 ((yo c q) - d))), some (zi (min ((cH c) - 1) ((yo c q) + d))), some (zi y), some (zi x)]) (st1 := [zi (min ((cW c) - 1) ((xo c q) + d)), zi x]) (w1 := wr c R2) g_X4_mark 2 _ _ _ _ rfl ?_
        refine zx_cmp g_X4_mark rfl (by omega) (by omega) (fun (h118 : (min ((cW c) - 1) ((xo c q) + d)) < x) => ?_) (fun (h118 : ¬ ((min ((cW c) - 1) ((xo c q) + d)) < x)) => ?_)
        · refine zx_go (pc1 := 103) (l1 := [some (zr 21), some (zr 23), some (zi n), some (zi q), some (zi d), some (zi (lay c q)), some (zi (max 0 ((xo c q) - d))), some (zi (min ((cW c) - 1) ((xo c q) + d))), some (zi (max 0 ((yo c q) - d))), some (zi (min ((cH c) - 1) ((yo c q) + d))), some (zi (y + 1)), some (zi x)]) (st1 := []) (w1 := wr c R2) g_X4_mark 2 _ _ _ _ rfl ?_
          refine ih103 (Int.toNat (min (cH c - 1) (yo c q + d) + 1 - (y + 1))) (by omega) (y + 1) R2 (some (zi x)) (by omega) ?_
          refine ⟨by omega, by omega, ?_⟩
          rw [x2]
          unfold mkd
          refine ch_congr fun b j => ?_
          constructor
          · rintro ⟨z0, z1, z2, z3, z4⟩
            exact ⟨z0, z1, z2, z3, by omega⟩
          · rintro ⟨z0, z1, z2, z3, z4⟩
            have gj := place_geo hg z1 z2
            refine ⟨z0, z1, z2, z3, ?_⟩
            unfold nr at z3
            omega
        · have gp := pl_geo hg (z := lay c q) (x := x) (y := y) (by omega) (by omega) (by omega) (by omega) (by omega) (by omega)
          refine zx_go (pc1 := 132) (l1 := [some (zr 21), some (zr 23), some (zi n), some (zi q), some (zi d), some (zi (lay c q)), some (zi (max 0 ((xo c q) - d))), some (zi (min ((cW c) - 1) ((xo c q) + d))), some (zi (max 0 ((yo c q) - d))), some (zi (min ((cH c) - 1) ((yo c q) + d))), some (zi y), some (zi x)]) (st1 := [zi y, zi x, zi (lay c q), zr 2, zr 23]) (w1 := wr c R2) g_X4_mark 6 _ _ _ _ rfl ?_
          refine zx_cvF (As := [zi (lay c q), zi x, zi y]) (rest := [zr 23]) g_X4_mark rfl g_X2_placeAt rfl rfl (Nat.le_of_ble_eq_true rfl) (Nat.le_of_ble_eq_true rfl) rfl (by decide) (s_placeAt (lay c q) x y) ?_
          refine zx_go (pc1 := 136) (l1 := [some (zr 21), some (zr 23), some (zi n), some (zi q), some (zi d), some (zi (lay c q)), some (zi (max 0 ((xo c q) - d))), some (zi (min ((cW c) - 1) ((xo c q) + d))), some (zi (max 0 ((yo c q) - d))), some (zi (min ((cH c) - 1) ((yo c q) + d))), some (zi y), some (zi x)]) (st1 := [zi (pl c (lay c q) x y), zr 23, zi (pl c (lay c q) x y), zr 23]) (w1 := wr c R2) g_X4_mark 1 _ _ _ _ rfl ?_
          refine gz_iald g_X4_mark rfl (n := cS c) rfl (by decide) rfl (by have := hg.S; omega) (by omega) (by omega) ?_
          refine zx_go (pc1 := 139) (l1 := [some (zr 21), some (zr 23), some (zi n), some (zi q), some (zi d), some (zi (lay c q)), some (zi (max 0 ((xo c q) - d))), some (zi (min ((cW c) - 1) ((xo c q) + d))), some (zi (max 0 ((yo c q) - d))), some (zi (min ((cH c) - 1) ((yo c q) + d))), some (zi y), some (zi x)]) (st1 := [zi n, zi 1, zi (R2 23 (pl c (lay c q) x y)), zi (pl c (lay c q) x y), zr 23]) (w1 := wr c R2) g_X4_mark 2 _ _ _ _ rfl ?_
          refine zx_go (pc1 := 140) (l1 := [some (zr 21), some (zr 23), some (zi n), some (zi q), some (zi d), some (zi (lay c q)), some (zi (max 0 ((xo c q) - d))), some (zi (min ((cW c) - 1) ((xo c q) + d))), some (zi (max 0 ((yo c q) - d))), some (zi (min ((cH c) - 1) ((yo c q) + d))), some (zi y), some (zi x)]) (st1 := [zi (zshl 1 n), zi (R2 23 (pl c (lay c q) x y)), zi (pl c (lay c q) x y), zr 23]) (w1 := wr c R2) g_X4_mark 1 _ _ _ _ rfl ?_
          refine zx_go (pc1 := 141) (l1 := [some (zr 21), some (zr 23), some (zi n), some (zi q), some (zi d), some (zi (lay c q)), some (zi (max 0 ((xo c q) - d))), some (zi (min ((cW c) - 1) ((xo c q) + d))), some (zi (max 0 ((yo c q) - d))), some (zi (min ((cH c) - 1) ((yo c q) + d))), some (zi y), some (zi x)]) (st1 := [zi (zor (R2 23 (pl c (lay c q) x y)) (zshl 1 n)), zi (pl c (lay c q) x y), zr 23]) (w1 := wr c R2) g_X4_mark 1 _ _ _ _ rfl ?_
          refine gz_iast g_X4_mark rfl (n := cS c) rfl (by decide) (by refine ⟨?_, ?_, ?_, ?_, ?_⟩ <;> simp) (by have := hg.S; omega) (by omega) (by omega) ?_
          refine zx_go (pc1 := 114) (l1 := [some (zr 21), some (zr 23), some (zi n), some (zi q), some (zi d), some (zi (lay c q)), some (zi (max 0 ((xo c q) - d))), some (zi (min ((cW c) - 1) ((xo c q) + d))), some (zi (max 0 ((yo c q) - d))), some (zi (min ((cH c) - 1) ((yo c q) + d))), some (zi y), some (zi (x + 1))]) (st1 := []) (w1 := wr c (zU R2 23 (pl c (lay c q) x y) (zor (R2 23 (pl c (lay c q) x y)) (zshl 1 n)))) g_X4_mark 2 _ _ _ _ rfl ?_
          refine ih114 (Int.toNat (min (cW c - 1) (xo c q + d) + 1 - (x + 1))) (by omega) (x + 1) (zU R2 23 (pl c (lay c q) x y) (zor (R2 23 (pl c (lay c q) x y)) (zshl 1 n))) (by omega) ?_
          refine ⟨by omega, by omega, ?_⟩
          rw [x2]
          unfold mkd
          refine ch_step ?_ fun b j => ?_
          · rw [ch_f]
            rintro ⟨-, -, -, -, z⟩
            omega
          · constructor
            · rintro ⟨z0, z1, z2, z3, z4⟩
              have gj := place_geo hg z1 z2
              by_cases e : yo c j = y ∧ xo c j = x
              · refine .inr ⟨z0, ?_⟩
                rw [← gj.2.2.2.2.2.2, e.1, e.2, z3.1]
              · exact .inl ⟨z0, z1, z2, z3, by omega⟩
            · rintro (⟨z0, z1, z2, z3, z4⟩ | ⟨z0, z1⟩)
              · exact ⟨z0, z1, z2, z3, by omega⟩
              · subst z1
                refine ⟨z0, gp.1, gp.2.1, ?_, by omega⟩
                unfold nr
                omega
      refine lp114 (Int.toNat (min (cW c - 1) (xo c q + d) + 1 - (max 0 ((xo c q) - d)))) (max 0 ((xo c q) - d)) R1 (by omega) ?_
      refine ⟨by omega, by omega, ?_⟩
      rw [y2]
      unfold mkd
      refine ch_congr fun b j => ?_
      constructor
      · rintro ⟨z0, z1, z2, z3, z4⟩
        exact ⟨z0, z1, z2, z3, .inl z4⟩
      · rintro ⟨z0, z1, z2, z3, z4⟩
        have gj := place_geo hg z1 z2
        refine ⟨z0, z1, z2, z3, ?_⟩
        unfold nr at z3
        omega
  refine lp103 (Int.toNat (min (cH c - 1) (yo c q + d) + 1 - (max 0 ((yo c q) - d)))) (max 0 ((yo c q) - d)) R none (by omega) ?_
  refine ⟨by omega, by omega, ?_⟩
  unfold mkd
  refine (ch_none fun b j z => ?_).symm
  obtain ⟨-, z1, z2, ⟨z3, z4⟩, z5⟩ := z
  have gj := place_geo hg z1 z2
  omega

set_option maxHeartbeats 1000000 in
theorem s_mark24 {c : zC} {R : zI} (hg : Geo c) {n q d : Int} (h0 : 0 ≤ q) (h1 : q < (cS c : Int)) (d0 : 0 ≤ d) (d1 : d ≤ 3) : MZ m_X4_mark [zr 21, zr 24, zi n, zi q, zi d] (wr c R) (gU (fun R1 => R1 = mkd c R 24 n q d (fun _ => True)) c) := by
  refine MZ.of g_X4_mark ?_
  show ZX m_X4_mark 0 [some (zr 21), some (zr 24), some (zi n), some (zi q), some (zi d), none, none, none, none, none, none, none] [] (wr c R) _
  have gq := place_geo hg h0 h1
  have g2 := hg
  unfold Geo at g2
  have g3 := hg.S
  refine zx_go (pc1 := 8) (l1 := [some (zr 21), some (zr 24), some (zi n), some (zi q), some (zi d), none, none, none, none, none, none, none]) (st1 := [zi q, zr 6]) (w1 := wr c R) g_X4_mark 4 _ _ _ _ rfl ?_
  refine gz_ld6 g_X4_mark rfl hg (by omega) (by omega) ?_
  refine zx_go (pc1 := 20) (l1 := [some (zr 21), some (zr 24), some (zi n), some (zi q), some (zi d), some (zi (lay c q)), none, none, none, none, none, none]) (st1 := [zi q, zr 7, zi 0]) (w1 := wr c R) g_X4_mark 6 _ _ _ _ rfl ?_
  refine gz_ld7 g_X4_mark rfl hg (by omega) (by omega) ?_
  refine zx_go (pc1 := 24) (l1 := [some (zr 21), some (zr 24), some (zi n), some (zi q), some (zi d), some (zi (lay c q)), none, none, none, none, none, none]) (st1 := [zi ((xo c q) - d), zi 0]) (w1 := wr c R) g_X4_mark 2 _ _ _ _ rfl ?_
  refine zx_imax g_X4_mark rfl (Nat.le_of_ble_eq_true rfl) (by decide) (by omega) ?_
  refine zx_go (pc1 := 46) (l1 := [some (zr 21), some (zr 24), some (zi n), some (zi q), some (zi d), some (zi (lay c q)), some (zi (max 0 ((xo c q) - d))), none, none, none, none, none]) (st1 := [zi q, zr 7, zi ((cW c) - 1)]) (w1 := wr c R) g_X4_mark 10 _ _ _ _ rfl ?_
  refine gz_ld7 g_X4_mark rfl hg (by omega) (by omega) ?_
  refine zx_go (pc1 := 50) (l1 := [some (zr 21), some (zr 24), some (zi n), some (zi q), some (zi d), some (zi (lay c q)), some (zi (max 0 ((xo c q) - d))), none, none, none, none, none]) (st1 := [zi ((xo c q) + d), zi ((cW c) - 1)]) (w1 := wr c R) g_X4_mark 2 _ _ _ _ rfl ?_
  refine zx_imin g_X4_mark rfl (Nat.le_of_ble_eq_true rfl) (by omega) (by omega) ?_
  refine zx_go (pc1 := 64) (l1 := [some (zr 21), some (zr 24), some (zi n), some (zi q), some (zi d), some (zi (lay c q)), some (zi (max 0 ((xo c q) - d))), some (zi (min ((cW c) - 1) ((xo c q) + d))), none, none, none, none]) (st1 := [zi q, zr 8, zi 0]) (w1 := wr c R) g_X4_mark 6 _ _ _ _ rfl ?_
  refine gz_ld8 g_X4_mark rfl hg (by omega) (by omega) ?_
  refine zx_go (pc1 := 68) (l1 := [some (zr 21), some (zr 24), some (zi n), some (zi q), some (zi d), some (zi (lay c q)), some (zi (max 0 ((xo c q) - d))), some (zi (min ((cW c) - 1) ((xo c q) + d))), none, none, none, none]) (st1 := [zi ((yo c q) - d), zi 0]) (w1 := wr c R) g_X4_mark 2 _ _ _ _ rfl ?_
  refine zx_imax g_X4_mark rfl (Nat.le_of_ble_eq_true rfl) (by decide) (by omega) ?_
  refine zx_go (pc1 := 90) (l1 := [some (zr 21), some (zr 24), some (zi n), some (zi q), some (zi d), some (zi (lay c q)), some (zi (max 0 ((xo c q) - d))), some (zi (min ((cW c) - 1) ((xo c q) + d))), some (zi (max 0 ((yo c q) - d))), none, none, none]) (st1 := [zi q, zr 8, zi ((cH c) - 1)]) (w1 := wr c R) g_X4_mark 10 _ _ _ _ rfl ?_
  refine gz_ld8 g_X4_mark rfl hg (by omega) (by omega) ?_
  refine zx_go (pc1 := 94) (l1 := [some (zr 21), some (zr 24), some (zi n), some (zi q), some (zi d), some (zi (lay c q)), some (zi (max 0 ((xo c q) - d))), some (zi (min ((cW c) - 1) ((xo c q) + d))), some (zi (max 0 ((yo c q) - d))), none, none, none]) (st1 := [zi ((yo c q) + d), zi ((cH c) - 1)]) (w1 := wr c R) g_X4_mark 2 _ _ _ _ rfl ?_
  refine zx_imin g_X4_mark rfl (Nat.le_of_ble_eq_true rfl) (by omega) (by omega) ?_
  refine zx_go (pc1 := 103) (l1 := [some (zr 21), some (zr 24), some (zi n), some (zi q), some (zi d), some (zi (lay c q)), some (zi (max 0 ((xo c q) - d))), some (zi (min ((cW c) - 1) ((xo c q) + d))), some (zi (max 0 ((yo c q) - d))), some (zi (min ((cH c) - 1) ((yo c q) + d))), some (zi (max 0 ((yo c q) - d))), none]) (st1 := []) (w1 := wr c R) g_X4_mark 3 _ _ _ _ rfl ?_
  have lp103 : ∀ (it : Nat) (y : Int) (R1 : zI) (o11 : Option zV), (it : Int) = min (cH c - 1) (yo c q + d) + 1 - y → (max 0 (yo c q - d) ≤ y ∧ y ≤ min (cH c - 1) (yo c q + d) + 1 ∧ R1 = mkd c R 24 n q d (fun j => yo c j < y)) → ZX m_X4_mark 103 [some (zr 21), some (zr 24), some (zi n), some (zi q), some (zi d), some (zi (lay c q)), some (zi (max 0 ((xo c q) - d))), some (zi (min ((cW c) - 1) ((xo c q) + d))), some (zi (max 0 ((yo c q) - d))), some (zi (min ((cH c) - 1) ((yo c q) + d))), some (zi y), o11] [] (wr c R1) (gU (fun R1 => R1 = mkd c R 24 n q d (fun _ => True)) c) := by
    refine fun it => Nat.strongRecOn it (fun it ih103 => ?_)
    intro y R1 o11 hn103 hi103
    obtain ⟨y0, y1, y2⟩ := hi103
    refine zx_go (pc1 := 107) (l1 := [some (zr 21), some (zr 24), some (zi n), some (zi q), some (zi d), some (zi (lay c q)), some (zi (max 0 ((xo c q) - d))), some (zi (min ((cW c) - 1) ((xo c q) + d))), some (zi (max 0 ((yo c q) - d))), some (zi (min ((cH c) - 1) ((yo c q) + d))), some (zi y), o11]) (st1 := [zi (min ((cH c) - 1) ((yo c q) + d)), zi y]) (w1 := wr c R1) g_X4_mark 2 _ _ _ _ rfl ?_
    refine zx_cmp g_X4_mark rfl (by omega) (by omega) (fun (h107 : (min ((cH c) - 1) ((yo c q) + d)) < y) => ?_) (fun (h107 : ¬ ((min ((cH c) - 1) ((yo c q) + d)) < y)) => ?_)
    · refine zx_vret g_X4_mark rfl ?_
      refine gU_i ?_
      rw [y2]
      unfold mkd
      refine ch_congr fun b j => ?_
      constructor
      · rintro ⟨z0, z1, z2, z3, z4⟩
        exact ⟨z0, z1, z2, z3, trivial⟩
      · rintro ⟨z0, z1, z2, z3, z4⟩
        have gj := place_geo hg z1 z2
        refine ⟨z0, z1, z2, z3, ?_⟩
        unfold nr at z3
        omega
    · refine zx_go (pc1 := 114) (l1 := [some (zr 21), some (zr 24), some (zi n), some (zi q), some (zi d), some (zi (lay c q)), some (zi (max 0 ((xo c q) - d))), some (zi (min ((cW c) - 1) ((xo c q) + d))), some (zi (max 0 ((yo c q) - d))), some (zi (min ((cH c) - 1) ((yo c q) + d))), some (zi y), some (zi (max 0 ((xo c q) - d)))]) (st1 := []) (w1 := wr c R1) g_X4_mark 2 _ _ _ _ rfl ?_
      have lp114 : ∀ (it : Nat) (x : Int) (R2 : zI), (it : Int) = min (cW c - 1) (xo c q + d) + 1 - x → (max 0 (xo c q - d) ≤ x ∧ x ≤ min (cW c - 1) (xo c q + d) + 1 ∧ R2 = mkd c R 24 n q d (fun j => yo c j < y ∨ (yo c j = y ∧ xo c j < x))) → ZX m_X4_mark 114 [some (zr 21), some (zr 24), some (zi n), some (zi q), some (zi d), some (zi (lay c q)), some (zi (max 0 ((xo c q) - d))), some (zi (min ((cW c) - 1) ((xo c q) + d))), some (zi (max 0 ((yo c q) - d))), some (zi (min ((cH c) - 1) ((yo c q) + d))), some (zi y), some (zi x)] [] (wr c R2) (gU (fun R1 => R1 = mkd c R 24 n q d (fun _ => True)) c) := by
        refine fun it => Nat.strongRecOn it (fun it ih114 => ?_)
        intro x R2 hn114 hi114
        obtain ⟨x0, x1, x2⟩ := hi114
        refine zx_go (pc1 := 118) (l1 := [some (zr 21), some (zr 24), some (zi n), some (zi q), some (zi d), some (zi (lay c q)), some (zi (max 0 ((xo c q) - d))), some (zi (min ((cW c) - 1) ((xo c q) + d))), some (zi (max 0 ((yo c q) - d))), some (zi (min ((cH c) - 1) ((yo c q) + d))), some (zi y), some (zi x)]) (st1 := [zi (min ((cW c) - 1) ((xo c q) + d)), zi x]) (w1 := wr c R2) g_X4_mark 2 _ _ _ _ rfl ?_
        refine zx_cmp g_X4_mark rfl (by omega) (by omega) (fun (h118 : (min ((cW c) - 1) ((xo c q) + d)) < x) => ?_) (fun (h118 : ¬ ((min ((cW c) - 1) ((xo c q) + d)) < x)) => ?_)
        · refine zx_go (pc1 := 103) (l1 := [some (zr 21), some (zr 24), some (zi n), some (zi q), some (zi d), some (zi (lay c q)), some (zi (max 0 ((xo c q) - d))), some (zi (min ((cW c) - 1) ((xo c q) + d))), some (zi (max 0 ((yo c q) - d))), some (zi (min ((cH c) - 1) ((yo c q) + d))), some (zi (y + 1)), some (zi x)]) (st1 := []) (w1 := wr c R2) g_X4_mark 2 _ _ _ _ rfl ?_
          refine ih103 (Int.toNat (min (cH c - 1) (yo c q + d) + 1 - (y + 1))) (by omega) (y + 1) R2 (some (zi x)) (by omega) ?_
          refine ⟨by omega, by omega, ?_⟩
          rw [x2]
          unfold mkd
          refine ch_congr fun b j => ?_
          constructor
          · rintro ⟨z0, z1, z2, z3, z4⟩
            exact ⟨z0, z1, z2, z3, by omega⟩
          · rintro ⟨z0, z1, z2, z3, z4⟩
            have gj := place_geo hg z1 z2
            refine ⟨z0, z1, z2, z3, ?_⟩
            unfold nr at z3
            omega
        · have gp := pl_geo hg (z := lay c q) (x := x) (y := y) (by omega) (by omega) (by omega) (by omega) (by omega) (by omega)
          refine zx_go (pc1 := 132) (l1 := [some (zr 21), some (zr 24), some (zi n), some (zi q), some (zi d), some (zi (lay c q)), some (zi (max 0 ((xo c q) - d))), some (zi (min ((cW c) - 1) ((xo c q) + d))), some (zi (max 0 ((yo c q) - d))), some (zi (min ((cH c) - 1) ((yo c q) + d))), some (zi y), some (zi x)]) (st1 := [zi y, zi x, zi (lay c q), zr 2, zr 24]) (w1 := wr c R2) g_X4_mark 6 _ _ _ _ rfl ?_
          refine zx_cvF (As := [zi (lay c q), zi x, zi y]) (rest := [zr 24]) g_X4_mark rfl g_X2_placeAt rfl rfl (Nat.le_of_ble_eq_true rfl) (Nat.le_of_ble_eq_true rfl) rfl (by decide) (s_placeAt (lay c q) x y) ?_
          refine zx_go (pc1 := 136) (l1 := [some (zr 21), some (zr 24), some (zi n), some (zi q), some (zi d), some (zi (lay c q)), some (zi (max 0 ((xo c q) - d))), some (zi (min ((cW c) - 1) ((xo c q) + d))), some (zi (max 0 ((yo c q) - d))), some (zi (min ((cH c) - 1) ((yo c q) + d))), some (zi y), some (zi x)]) (st1 := [zi (pl c (lay c q) x y), zr 24, zi (pl c (lay c q) x y), zr 24]) (w1 := wr c R2) g_X4_mark 1 _ _ _ _ rfl ?_
          refine gz_iald g_X4_mark rfl (n := cS c) rfl (by decide) rfl (by have := hg.S; omega) (by omega) (by omega) ?_
          refine zx_go (pc1 := 139) (l1 := [some (zr 21), some (zr 24), some (zi n), some (zi q), some (zi d), some (zi (lay c q)), some (zi (max 0 ((xo c q) - d))), some (zi (min ((cW c) - 1) ((xo c q) + d))), some (zi (max 0 ((yo c q) - d))), some (zi (min ((cH c) - 1) ((yo c q) + d))), some (zi y), some (zi x)]) (st1 := [zi n, zi 1, zi (R2 24 (pl c (lay c q) x y)), zi (pl c (lay c q) x y), zr 24]) (w1 := wr c R2) g_X4_mark 2 _ _ _ _ rfl ?_
          refine zx_go (pc1 := 140) (l1 := [some (zr 21), some (zr 24), some (zi n), some (zi q), some (zi d), some (zi (lay c q)), some (zi (max 0 ((xo c q) - d))), some (zi (min ((cW c) - 1) ((xo c q) + d))), some (zi (max 0 ((yo c q) - d))), some (zi (min ((cH c) - 1) ((yo c q) + d))), some (zi y), some (zi x)]) (st1 := [zi (zshl 1 n), zi (R2 24 (pl c (lay c q) x y)), zi (pl c (lay c q) x y), zr 24]) (w1 := wr c R2) g_X4_mark 1 _ _ _ _ rfl ?_
          refine zx_go (pc1 := 141) (l1 := [some (zr 21), some (zr 24), some (zi n), some (zi q), some (zi d), some (zi (lay c q)), some (zi (max 0 ((xo c q) - d))), some (zi (min ((cW c) - 1) ((xo c q) + d))), some (zi (max 0 ((yo c q) - d))), some (zi (min ((cH c) - 1) ((yo c q) + d))), some (zi y), some (zi x)]) (st1 := [zi (zor (R2 24 (pl c (lay c q) x y)) (zshl 1 n)), zi (pl c (lay c q) x y), zr 24]) (w1 := wr c R2) g_X4_mark 1 _ _ _ _ rfl ?_
          refine gz_iast g_X4_mark rfl (n := cS c) rfl (by decide) (by refine ⟨?_, ?_, ?_, ?_, ?_⟩ <;> simp) (by have := hg.S; omega) (by omega) (by omega) ?_
          refine zx_go (pc1 := 114) (l1 := [some (zr 21), some (zr 24), some (zi n), some (zi q), some (zi d), some (zi (lay c q)), some (zi (max 0 ((xo c q) - d))), some (zi (min ((cW c) - 1) ((xo c q) + d))), some (zi (max 0 ((yo c q) - d))), some (zi (min ((cH c) - 1) ((yo c q) + d))), some (zi y), some (zi (x + 1))]) (st1 := []) (w1 := wr c (zU R2 24 (pl c (lay c q) x y) (zor (R2 24 (pl c (lay c q) x y)) (zshl 1 n)))) g_X4_mark 2 _ _ _ _ rfl ?_
          refine ih114 (Int.toNat (min (cW c - 1) (xo c q + d) + 1 - (x + 1))) (by omega) (x + 1) (zU R2 24 (pl c (lay c q) x y) (zor (R2 24 (pl c (lay c q) x y)) (zshl 1 n))) (by omega) ?_
          refine ⟨by omega, by omega, ?_⟩
          rw [x2]
          unfold mkd
          refine ch_step ?_ fun b j => ?_
          · rw [ch_f]
            rintro ⟨-, -, -, -, z⟩
            omega
          · constructor
            · rintro ⟨z0, z1, z2, z3, z4⟩
              have gj := place_geo hg z1 z2
              by_cases e : yo c j = y ∧ xo c j = x
              · refine .inr ⟨z0, ?_⟩
                rw [← gj.2.2.2.2.2.2, e.1, e.2, z3.1]
              · exact .inl ⟨z0, z1, z2, z3, by omega⟩
            · rintro (⟨z0, z1, z2, z3, z4⟩ | ⟨z0, z1⟩)
              · exact ⟨z0, z1, z2, z3, by omega⟩
              · subst z1
                refine ⟨z0, gp.1, gp.2.1, ?_, by omega⟩
                unfold nr
                omega
      refine lp114 (Int.toNat (min (cW c - 1) (xo c q + d) + 1 - (max 0 ((xo c q) - d)))) (max 0 ((xo c q) - d)) R1 (by omega) ?_
      refine ⟨by omega, by omega, ?_⟩
      rw [y2]
      unfold mkd
      refine ch_congr fun b j => ?_
      constructor
      · rintro ⟨z0, z1, z2, z3, z4⟩
        exact ⟨z0, z1, z2, z3, .inl z4⟩
      · rintro ⟨z0, z1, z2, z3, z4⟩
        have gj := place_geo hg z1 z2
        refine ⟨z0, z1, z2, z3, ?_⟩
        unfold nr at z3
        omega
  refine lp103 (Int.toNat (min (cH c - 1) (yo c q + d) + 1 - (max 0 ((yo c q) - d)))) (max 0 ((yo c q) - d)) R none (by omega) ?_
  refine ⟨by omega, by omega, ?_⟩
  unfold mkd
  refine (ch_none fun b j z => ?_).symm
  obtain ⟨-, z1, z2, ⟨z3, z4⟩, z5⟩ := z
  have gj := place_geo hg z1 z2
  omega

