/-! ===== the reference's answers ===== -/
noncomputable def cd3 (P Q N : Prop) : Int := pI P 1 (pI Q 2 (pI N 1 0))
theorem cd31 {P Q N : Prop} (h : P) : cd3 P Q N = 1 := pI_t h
theorem cd32 {P Q N : Prop} (h : ¬ P) (h1 : Q) : cd3 P Q N = 2 := by unfold cd3; rw [pI_f h, pI_t h1]
theorem cd33 {P Q N : Prop} (h : ¬ P) (h1 : ¬ Q) (h2 : N) : cd3 P Q N = 1 := by unfold cd3; rw [pI_f h, pI_f h1, pI_t h2]
theorem cd30 {P Q N : Prop} (h : ¬ P) (h1 : ¬ Q) (h2 : ¬ N) : cd3 P Q N = 0 := by unfold cd3; rw [pI_f h, pI_f h1, pI_f h2]
theorem zU_zU {R : zI} {a : Nat} {k v w : Int} : zU (zU R a k v) a k w = zU R a k w := by
  funext b j
  unfold zU
  by_cases h : b = a ∧ j = k
  · rw [if_pos h, if_pos h]
  · rw [if_neg h, if_neg h, if_neg h]
def znar (v : Int) : Int := (vp_nar .boolean (Int32.ofInt v)).toInt
theorem znar_b (P : Prop) : znar (bI P) = bI P := by
  by_cases h : P
  · rw [bI_t h]; decide
  · rw [bI_f h]; decide
section GBN
variable {mid pc x y : Nat} {k : Int32} {M : pmM} {l : zL} {st r : List zV} {c : zC} {R : zI} {Q : zO → zW → Prop}
theorem gz_bastN {j v : Int} {a n : Nat} (hG : pgG mid = some M) (hc : pmCode M pc = some (.bastore, x, y, k)) (hh : hd0 c.2.2.1 c.2.2.2.1 a = .inl (.boolean, n)) (ha : 1 ≤ a ∧ a ≤ 55) (hf : gFree a j) (hn : n < 2 ^ 31) (h0 : 0 ≤ j) (hj : j < n) (K : ZX mid (pc + 1) l r (wr c (zU R a j (znar v))) Q) : ZX mid pc l (.inl v :: .inl j :: .inr (.inr a) :: r) (wr c R) Q := by
  refine px_bast hG hc (show pmh (zw (wr c R)) a = .inl (.boolean, n) from hh) ha (i32_nat h0) (by omega) hn ?_
  have e0_v : wr c (zU R a j (znar v)) = (c.1, c.2.1, c.2.2.1, c.2.2.2.1, zU (gI c R) a j (znar v), c.2.2.2.2.2.2.2) := by rw [gI_set hf]
  rw [e0_v] at K
  unfold ZX at K
  rw [zw_set h0] at K
  have e : Int32.ofInt (znar v) = vp_nar .boolean (Int32.ofInt v) := i32_of _
  rw [e] at K
  exact K
end GBN
def std (c : zC) (D : zI) (s : aS) (b q : Int) : Prop := aR s b q ∨ pin c D b q
def brk (c : zC) (D : zI) (s : aS) (p : Int) : Prop := ∃ a b q, 0 ≤ a ∧ a < D 10 0 ∧ 0 ≤ b ∧ b < D 10 0 ∧ pls c q ∧ std c D s a p ∧ std c D s b q ∧ clash c D a p b q
noncomputable def pcv (c : zC) (s : aS) (n q w : Int) : Int := if w = 0 then lay c q else if w = 1 then xo c q else if w = 2 then yo c q else bI (aU s n q)
noncomputable def opv (c : zC) (D : zI) (s : aS) (q w : Int) : Int := if q = -1 then -1 else if w = 0 then q else pI (clo c D q) 1 (pI (aF s q) 2 3)
theorem kth_R {P : Int → Prop} {N : Nat} {k : Int} : -1 ≤ kth P N 0 k ∧ kth P N 0 k < N ∨ kth P N 0 k = -1 := by
  rcases kth_lt (P := P) N 0 k with h | h
  · exact .inr h
  · exact .inl ⟨by omega, by omega⟩

set_option maxHeartbeats 1000000 in
theorem m_stands {c : zC} {R : zI} {D : zI} {s : aS} {n p : Int} (hD : DOK c D) (hs : MS0 c D s R) (n0 : 0 ≤ n) (n1 : n < D 10 0) (hp : pls c p) : MZ m_X6_stands [zr 32, zi n, zi p] (wr c R) (qF (zi (bI (std c D s n p))) (wr c R)) := by
  refine MZ.of g_X6_stands ?_
  show ZX m_X6_stands 0 [some (zr 32), some (zi n), some (zi p), none, none] [] (wr c R) _
  have hg := hD.1
  have g3_v := hg.S
  have n16 := hD.2.1
  have p40 := hD.2.2.1
  have e10_v := hs.1.2.2.2.2.2.2
  obtain ⟨hp0, hp1⟩ := hp
  have hp : pls c p := ⟨hp0, hp1⟩
  have e46 := (hs.2.2.2.1 n p n0 n1 hp).1
  refine zx_go (pc1 := 11) (l1 := [some (zr 32), some (zi n), some (zi p), none, none]) (st1 := [zi ((1728 * n) + p), zr 46]) (w1 := wr c R) g_X6_stands 7 _ _ _ _ rfl ?_
  refine gz_bald g_X6_stands rfl (n := 27648) rfl (by decide) rfl (by decide) (by omega) (by omega) ?_
  refine zx_go (pc1 := 16) (l1 := [some (zr 32), some (zi n), some (zi p), some (zi (R 46 ((1728 * n) + p))), some (zi 0)]) (st1 := []) (w1 := wr c R) g_X6_stands 3 _ _ _ _ rfl ?_
  have lp16 : ∀ (it : Nat) (sv : Int) (k : Int), (it : Int) = D 10 2 - k → (0 ≤ k ∧ k ≤ D 10 2 ∧ sv = bI (aR s n p ∨ pinS c D k n p)) → ZX m_X6_stands 16 [some (zr 32), some (zi n), some (zi p), some (zi sv), some (zi k)] [] (wr c R) (qF (zi (bI (std c D s n p))) (wr c R)) := by
    refine fun it => Nat.strongRecOn it (fun it ih16 => ?_)
    intro sv k hn16 hi16
    obtain ⟨k0_v, k1_v, ev_v⟩ := hi16
    have s01 : sv = 0 ∨ sv = 1 := by rw [ev_v]; exact bI_01 _
    refine zx_go (pc1 := 22) (l1 := [some (zr 32), some (zi n), some (zi p), some (zi sv), some (zi k)]) (st1 := [zi (R 32 10), zi k]) (w1 := wr c R) g_X6_stands 3 _ _ _ _ rfl ?_
    refine zx_cmp g_X6_stands rfl (by omega) (by omega) (fun (h22 : (R 32 10) ≤ k) => ?_) (fun (h22 : ¬ ((R 32 10) ≤ k)) => ?_)
    · refine zx_go (pc1 := 63) (l1 := [some (zr 32), some (zi n), some (zi p), some (zi sv), some (zi k)]) (st1 := [zi sv]) (w1 := wr c R) g_X6_stands 1 _ _ _ _ rfl ?_
      refine zx_iret g_X6_stands rfl (by omega) ?_
      refine qF_i ?_
      rw [ev_v, show k = D 10 2 by omega]
      exact bI_congr Iff.rfl
    · refine zx_go (pc1 := 26) (l1 := [some (zr 32), some (zi n), some (zi p), some (zi sv), some (zi k)]) (st1 := [zi sv]) (w1 := wr c R) g_X6_stands 1 _ _ _ _ rfl ?_
      refine zx_if g_X6_stands rfl (by omega) (fun (h26 : sv ≠ 0) => ?_) (fun (h26 : ¬ sv ≠ 0) => ?_)
      · refine zx_go (pc1 := 16) (l1 := [some (zr 32), some (zi n), some (zi p), some (zi 1), some (zi (k + 1))]) (st1 := []) (w1 := wr c R) g_X6_stands 5 _ _ _ _ rfl ?_
        refine ih16 (Int.toNat (D 10 2 - (k + 1))) (by omega) 1 (k + 1) (by omega) ?_
        refine ⟨by omega, by omega, ?_⟩
        have w := bI_ne.mp (show bI (aR s n p ∨ pinS c D k n p) ≠ 0 by rw [← ev_v]; exact h26)
        exact (bI_t (w.imp id (fun ⟨j, j0, j1, j2_v⟩ => ⟨j, j0, by omega, j2_v⟩))).symm
      · have nk := hD.2.2.2.2.2.2.1 k k0_v (by omega)
        have e38 := (hs.1.2.2.2.1 k k0_v (by omega)).1
        have e41_v := hs.2.1 k k0_v (by omega)
        have pR := pk_R hD k0_v (show k < D 10 2 by omega)
        have mok := mpp_ok hD hs.1 k0_v (show k < D 10 2 by omega) e41_v
        have mI := mpp_I hD hs.1 k0_v (show k < D 10 2 by omega) e41_v
        refine zx_go (pc1 := 35) (l1 := [some (zr 32), some (zi n), some (zi p), some (zi sv), some (zi k)]) (st1 := [zi k, zr 38]) (w1 := wr c R) g_X6_stands 3 _ _ _ _ rfl ?_
        refine gz_iald g_X6_stands rfl (n := 40) rfl (by decide) rfl (by decide) (by omega) (by omega) ?_
        refine zx_go (pc1 := 37) (l1 := [some (zr 32), some (zi n), some (zi p), some (zi sv), some (zi k)]) (st1 := [zi n, zi (R 38 k)]) (w1 := wr c R) g_X6_stands 1 _ _ _ _ rfl ?_
        refine zx_cmp g_X6_stands rfl (by omega) (by omega) (fun (h37 : (R 38 k) ≠ n) => ?_) (fun (h37 : ¬ ((R 38 k) ≠ n)) => ?_)
        · refine zx_go (pc1 := 16) (l1 := [some (zr 32), some (zi n), some (zi p), some (zi 0), some (zi (k + 1))]) (st1 := []) (w1 := wr c R) g_X6_stands 4 _ _ _ _ rfl ?_
          refine ih16 (Int.toNat (D 10 2 - (k + 1))) (by omega) 0 (k + 1) (by omega) ?_
          refine ⟨by omega, by omega, ?_⟩
          refine (bI_f (fun z => ?_)).symm
          have nw : ¬ (aR s n p ∨ pinS c D k n p) := fun w => h26 (by rw [ev_v]; exact bI_ne.mpr w)
          rcases z with z | ⟨j, j0, j1, j2_v, j3_v, j4_v⟩
          · exact nw (.inl z)
          · by_cases y : j = k
            · subst y
              omega
            · exact nw (.inr ⟨j, j0, by omega, j2_v, j3_v, j4_v⟩)
        · refine zx_go (pc1 := 43) (l1 := [some (zr 32), some (zi n), some (zi p), some (zi sv), some (zi k)]) (st1 := [zi k, zr 32]) (w1 := wr c R) g_X6_stands 2 _ _ _ _ rfl ?_
          refine zx_cvF (As := [zi k]) (rest := []) g_X6_stands rfl g_X6_placeOfPin rfl rfl (Nat.le_of_ble_eq_true rfl) (Nat.le_of_ble_eq_true rfl) rfl (by decide) (m_placeOfPin (by omega) (by omega) (by omega) (by omega)) ?_
          refine zx_go (pc1 := 47) (l1 := [some (zr 32), some (zi n), some (zi p), some (zi sv), some (zi k)]) (st1 := [zi p, zi (mpp R k)]) (w1 := wr c R) g_X6_stands 1 _ _ _ _ rfl ?_
          refine zx_cmp g_X6_stands rfl (by omega) (by omega) (fun (h47 : (mpp R k) ≠ p) => ?_) (fun (h47 : ¬ ((mpp R k) ≠ p)) => ?_)
          · refine zx_go (pc1 := 16) (l1 := [some (zr 32), some (zi n), some (zi p), some (zi 0), some (zi (k + 1))]) (st1 := []) (w1 := wr c R) g_X6_stands 4 _ _ _ _ rfl ?_
            refine ih16 (Int.toNat (D 10 2 - (k + 1))) (by omega) 0 (k + 1) (by omega) ?_
            refine ⟨by omega, by omega, ?_⟩
            refine (bI_f (fun z => ?_)).symm
            have nw : ¬ (aR s n p ∨ pinS c D k n p) := fun w => h26 (by rw [ev_v]; exact bI_ne.mpr w)
            rcases z with z | ⟨j, j0, j1, j2_v, j3_v, j4_v⟩
            · exact nw (.inl z)
            · by_cases y : j = k
              · subst y
                have mk_v := mok.resolve_left (fun z => j3_v z.1)
                exact h47 (by rw [mk_v.2.1]; exact j4_v)
              · exact nw (.inr ⟨j, j0, by omega, j2_v, j3_v, j4_v⟩)
          · refine zx_go (pc1 := 16) (l1 := [some (zr 32), some (zi n), some (zi p), some (zi 1), some (zi (k + 1))]) (st1 := []) (w1 := wr c R) g_X6_stands 5 _ _ _ _ rfl ?_
            refine ih16 (Int.toNat (D 10 2 - (k + 1))) (by omega) 1 (k + 1) (by omega) ?_
            refine ⟨by omega, by omega, ?_⟩
            have mk_v := mok.resolve_left (fun z => by omega)
            exact (bI_t (.inr ⟨k, k0_v, by omega, by omega, mk_v.1, by rw [← mk_v.2.1]; omega⟩)).symm
  refine lp16 (Int.toNat (D 10 2 - 0)) (R 46 ((1728 * n) + p)) 0 (by omega) ?_
  refine ⟨by omega, by omega, ?_⟩
  rw [e46]
  exact bI_congr ⟨.inl, fun z => z.elim id (fun ⟨j, j0, j1, _⟩ => by omega)⟩

set_option maxHeartbeats 1000000 in
theorem m_piece {c : zC} {R : zI} {D : zI} {s : aS} {n k w : Int} (hD : DOK c D) (hm : MDn c D R) (h14 : R 32 14 = 0 ∨ R 32 14 = 1) (hs : R 32 14 ≠ 0 → MS0 c D s R) (nr1 : inR n) (kr : inR k) (wr1 : inR w) : MZ m_X6_piece [zr 32, zi n, zi k, zi w] (wr c R) (mP (cd3 (¬ (0 ≤ n ∧ n < D 10 0) ∨ ¬ (0 ≤ w ∧ w ≤ 3)) (R 32 14 = 0) ((kth (std c D s n) (cS c : Int).toNat 0 k) = -1)) (fun b R2 => b = pcv c s n (kth (std c D s n) (cS c : Int).toNat 0 k) w ∧ R2 = ac0 R) c R) := by
  refine MZ.of g_X6_piece ?_
  show ZX m_X6_piece 0 [some (zr 32), some (zi n), some (zi k), some (zi w), none, none] [] (wr c R) _
  have hg := hD.1
  have g3_v := hg.S
  have n16 := hD.2.1
  have p40 := hD.2.2.1
  have e8 := hm.2.2.2.2.2.1
  have e10_v := hm.2.2.2.2.2.2
  refine zx_go (pc1 := 3) (l1 := [some (zr 32), some (zi n), some (zi k), some (zi w), none, none]) (st1 := [zi n, zr 32, zr 32]) (w1 := wr c R) g_X6_piece 3 _ _ _ _ rfl ?_
  refine zx_cvF (As := [zi n]) (rest := [zr 32]) g_X6_piece rfl g_X6_isNet rfl rfl (Nat.le_of_ble_eq_true rfl) (Nat.le_of_ble_eq_true rfl) rfl (by decide) (m_isNet (by omega) (by omega)) ?_
  refine zx_ifeq g_X6_piece rfl (fun (h6 : ¬ (0 ≤ n ∧ n < R 32 8)) => ?_) (fun (h6 : (0 ≤ n ∧ n < R 32 8)) => ?_)
  · refine zx_go (pc1 := 37) (l1 := [some (zr 32), some (zi n), some (zi k), some (zi w), none, none]) (st1 := [zi 1, zr 32]) (w1 := wr c R) g_X6_piece 2 _ _ _ _ rfl ?_
    refine gx_cvG (As := [zi 1]) (rest := []) g_X6_piece rfl g_X6_refuses rfl rfl (Nat.le_of_ble_eq_true rfl) (Nat.le_of_ble_eq_true rfl) rfl (by decide) (m_ref (v := 1) (by decide) (bI_t (by decide))) ?_
    refine zx_ifF g_X6_piece rfl (by decide) (show ¬ ((1 : Int) = 0) by decide) ?_
    refine zx_go (pc1 := 44) (l1 := [some (zr 32), some (zi n), some (zi k), some (zi w), none, none]) (st1 := [zi 0]) (w1 := wr c (zU R 32 0 1)) g_X6_piece 1 _ _ _ _ rfl ?_
    refine zx_iret g_X6_piece rfl (.inl rfl) ?_
    exact mP_1 (cd31 (by first | exact .inl (by omega) | exact .inr (by omega)))
  · refine zx_go (pc1 := 10) (l1 := [some (zr 32), some (zi n), some (zi k), some (zi w), none, none]) (st1 := [zi w, zr 32]) (w1 := wr c R) g_X6_piece 1 _ _ _ _ rfl ?_
    refine zx_i2l g_X6_piece rfl (by omega) ?_
    refine zx_go (pc1 := 15) (l1 := [some (zr 32), some (zi n), some (zi k), some (zi w), none, none]) (st1 := [zl 3, zl 0, zl w, zr 32]) (w1 := wr c R) g_X6_piece 2 _ _ _ _ rfl ?_
    refine zx_csF (As := [zl w, zl 0, zl 3]) (rest := [zr 32]) g_X6_piece rfl g_X6_isIn rfl rfl (Nat.le_of_ble_eq_true rfl) (Nat.le_of_ble_eq_true rfl) (m_isIn (by omega) (by omega) (by omega)) ?_
    refine zx_ifne g_X6_piece rfl (fun (h18 : (0 ≤ w ∧ w ≤ 3)) => ?_) (fun (h18 : ¬ (0 ≤ w ∧ w ≤ 3)) => ?_)
    · refine zx_go (pc1 := 29) (l1 := [some (zr 32), some (zi n), some (zi k), some (zi w), none, none]) (st1 := [zi (R 32 14), zr 32]) (w1 := wr c R) g_X6_piece 2 _ _ _ _ rfl ?_
      refine zx_if g_X6_piece rfl (by omega) (fun (h29 : (R 32 14) ≠ 0) => ?_) (fun (h29 : ¬ (R 32 14) ≠ 0) => ?_)
      · refine zx_go (pc1 := 37) (l1 := [some (zr 32), some (zi n), some (zi k), some (zi w), none, none]) (st1 := [zi 0, zr 32]) (w1 := wr c R) g_X6_piece 1 _ _ _ _ rfl ?_
        refine gx_cvG (As := [zi 0]) (rest := []) g_X6_piece rfl g_X6_refuses rfl rfl (Nat.le_of_ble_eq_true rfl) (Nat.le_of_ble_eq_true rfl) rfl (by decide) (m_ref (v := 0) (by decide) (bI_f (by decide))) ?_
        refine zx_ifT g_X6_piece rfl (by decide) (show ((0 : Int) = 0) by decide) ?_
        generalize hR9 : zU R 32 0 0 = R9
        have f9_v : ∀ a, a ≠ 32 → R9 a = R a := fun a ha => by rw [← hR9, zU_cell ha]
        have f9j : ∀ j, j ≠ 0 → R9 32 j = R 32 j := fun j hj => by rw [← hR9, zU_at hj]
        have hm9 : MDn c D R9 := hm.of2 (fun a _ hb_v => f9_v a hb_v) (f9j 8 (by decide)) (f9j 10 (by decide))
        have hs0 := hs (by omega)
        have hs9 : MS0 c D s R9 := hs0.of hm9 (fun a h1 h2 => f9_v a (by omega))
        refine zx_go (pc1 := 51) (l1 := [some (zr 32), some (zi n), some (zi k), some (zi w), some (zi k), some (zi 0)]) (st1 := []) (w1 := wr c R9) g_X6_piece 4 _ _ _ _ rfl ?_
        have lp51 : ∀ (it : Nat) (lf_v : Int) (i : Int), (it : Int) = (cS c : Int) - i → (0 ≤ i ∧ i ≤ (cS c : Int) ∧ inR lf_v ∧ (0 ≤ lf_v ∨ lf_v = k ∨ lf_v = -1) ∧ (kth (std c D s n) (cS c : Int).toNat 0 k) = kth (std c D s n) ((cS c : Int) - i).toNat i lf_v) → ZX m_X6_piece 51 [some (zr 32), some (zi n), some (zi k), some (zi w), some (zi lf_v), some (zi i)] [] (wr c R9) (mP (cd3 (¬ (0 ≤ n ∧ n < D 10 0) ∨ ¬ (0 ≤ w ∧ w ≤ 3)) (R 32 14 = 0) ((kth (std c D s n) (cS c : Int).toNat 0 k) = -1)) (fun b R2 => b = pcv c s n (kth (std c D s n) (cS c : Int).toNat 0 k) w ∧ R2 = ac0 R) c R) := by
          refine fun it => Nat.strongRecOn it (fun it ih51 => ?_)
          intro lf_v i hn51 hi51
          obtain ⟨i0_v, i1_v, lr, l0, e⟩ := hi51
          refine zx_go (pc1 := 54) (l1 := [some (zr 32), some (zi n), some (zi k), some (zi w), some (zi lf_v), some (zi i)]) (st1 := [zr 32, zi i]) (w1 := wr c R9) g_X6_piece 2 _ _ _ _ rfl ?_
          refine zx_cvF (As := []) (rest := [zi i]) g_X6_piece rfl g_X6_all rfl rfl (Nat.le_of_ble_eq_true rfl) (Nat.le_of_ble_eq_true rfl) rfl (by decide) (m_all hg) ?_
          refine zx_cmp g_X6_piece rfl (by omega) (by omega) (fun (h57 : (cS c : Int) ≤ i) => ?_) (fun (h57 : ¬ ((cS c : Int) ≤ i)) => ?_)
          · refine zx_go (pc1 := 154) (l1 := [some (zr 32), some (zi n), some (zi k), some (zi w), some (zi lf_v), some (zi i)]) (st1 := [zi 1, zr 32]) (w1 := wr c R9) g_X6_piece 2 _ _ _ _ rfl ?_
            refine gz_put 0 g_X6_piece rfl rfl rfl (by decide) rfl (by refine ⟨?_, ?_, ?_, ?_, ?_⟩ <;> simp) ?_
            refine zx_go (pc1 := 158) (l1 := [some (zr 32), some (zi n), some (zi k), some (zi w), some (zi lf_v), some (zi i)]) (st1 := [zi 0]) (w1 := wr c (zU R9 32 0 1)) g_X6_piece 1 _ _ _ _ rfl ?_
            refine zx_iret g_X6_piece rfl (.inl rfl) ?_
            have en : (kth (std c D s n) (cS c : Int).toNat 0 k) = -1 := e.trans (kth_e (by omega))
            rw [← hR9, zU_zU]
            exact mP_1 (cd33 (by omega) (by omega) en)
          · refine zx_go (pc1 := 62) (l1 := [some (zr 32), some (zi n), some (zi k), some (zi w), some (zi lf_v), some (zi i)]) (st1 := [zi lf_v]) (w1 := wr c R9) g_X6_piece 1 _ _ _ _ rfl ?_
            refine zx_if g_X6_piece rfl (by omega) (fun (h62 : lf_v < 0) => ?_) (fun (h62 : ¬ lf_v < 0) => ?_)
            · refine zx_go (pc1 := 154) (l1 := [some (zr 32), some (zi n), some (zi k), some (zi w), some (zi lf_v), some (zi i)]) (st1 := [zi 1, zr 32]) (w1 := wr c R9) g_X6_piece 2 _ _ _ _ rfl ?_
              refine gz_put 0 g_X6_piece rfl rfl rfl (by decide) rfl (by refine ⟨?_, ?_, ?_, ?_, ?_⟩ <;> simp) ?_
              refine zx_go (pc1 := 158) (l1 := [some (zr 32), some (zi n), some (zi k), some (zi w), some (zi lf_v), some (zi i)]) (st1 := [zi 0]) (w1 := wr c (zU R9 32 0 1)) g_X6_piece 1 _ _ _ _ rfl ?_
              refine zx_iret g_X6_piece rfl (.inl rfl) ?_
              have en : (kth (std c D s n) (cS c : Int).toNat 0 k) = -1 := e.trans (kth_neg _ _ _ (by omega))
              rw [← hR9, zU_zU]
              exact mP_1 (cd33 (by omega) (by omega) en)
            · have hi_v : pls c i := ⟨by omega, by omega⟩
              refine zx_go (pc1 := 69) (l1 := [some (zr 32), some (zi n), some (zi k), some (zi w), some (zi lf_v), some (zi i)]) (st1 := [zi i, zi n, zr 32]) (w1 := wr c R9) g_X6_piece 3 _ _ _ _ rfl ?_
              refine zx_cvF (As := [zi n, zi i]) (rest := []) g_X6_piece rfl g_X6_stands rfl rfl (Nat.le_of_ble_eq_true rfl) (Nat.le_of_ble_eq_true rfl) rfl (by decide) (m_stands hD hs9 (by omega) (by omega) hi_v) ?_
              refine zx_ifeq g_X6_piece rfl (fun (h72 : ¬ (std c D s n i)) => ?_) (fun (h72 : (std c D s n i)) => ?_)
              · refine zx_go (pc1 := 51) (l1 := [some (zr 32), some (zi n), some (zi k), some (zi w), some (zi lf_v), some (zi (i + 1))]) (st1 := []) (w1 := wr c R9) g_X6_piece 2 _ _ _ _ rfl ?_
                refine ih51 (Int.toNat ((cS c : Int) - (i + 1))) (by omega) lf_v (i + 1) (by omega) ?_
                refine ⟨by omega, by omega, by omega, by omega, ?_⟩
                exact e.trans (kth_n (by omega) h72)
              · refine zx_go (pc1 := 77) (l1 := [some (zr 32), some (zi n), some (zi k), some (zi w), some (zi lf_v), some (zi i)]) (st1 := [zi lf_v]) (w1 := wr c R9) g_X6_piece 1 _ _ _ _ rfl ?_
                refine zx_if g_X6_piece rfl (by omega) (fun (h77 : lf_v ≠ 0) => ?_) (fun (h77 : ¬ lf_v ≠ 0) => ?_)
                · refine zx_go (pc1 := 51) (l1 := [some (zr 32), some (zi n), some (zi k), some (zi w), some (zi (lf_v + (-1))), some (zi (i + 1))]) (st1 := []) (w1 := wr c R9) g_X6_piece 3 _ _ _ _ rfl ?_
                  refine ih51 (Int.toNat ((cS c : Int) - (i + 1))) (by omega) (lf_v + (-1)) (i + 1) (by omega) ?_
                  refine ⟨by omega, by omega, by omega, by omega, ?_⟩
                  exact e.trans (kth_y (by omega) h72 (by omega))
                · refine zx_go (pc1 := 81) (l1 := [some (zr 32), some (zi n), some (zi k), some (zi w), some (zi lf_v), some (zi i)]) (st1 := [zi w]) (w1 := wr c R9) g_X6_piece 1 _ _ _ _ rfl ?_
                  refine zx_if g_X6_piece rfl (by omega) (fun (h81 : w ≠ 0) => ?_) (fun (h81 : ¬ w ≠ 0) => ?_)
                  · refine zx_go (pc1 := 95) (l1 := [some (zr 32), some (zi n), some (zi k), some (zi w), some (zi lf_v), some (zi i)]) (st1 := [zi 1, zi w]) (w1 := wr c R9) g_X6_piece 2 _ _ _ _ rfl ?_
                    refine zx_cmp g_X6_piece rfl (by omega) (by decide) (fun (h95 : w ≠ 1) => ?_) (fun (h95 : ¬ (w ≠ 1)) => ?_)
                    · refine zx_go (pc1 := 109) (l1 := [some (zr 32), some (zi n), some (zi k), some (zi w), some (zi lf_v), some (zi i)]) (st1 := [zi 2, zi w]) (w1 := wr c R9) g_X6_piece 2 _ _ _ _ rfl ?_
                      refine zx_cmp g_X6_piece rfl (by omega) (by decide) (fun (h109 : w ≠ 2) => ?_) (fun (h109 : ¬ (w ≠ 2)) => ?_)
                      · have e47 : R9 47 (1728 * n + i) = bI (aU s n i) := (hs9.2.2.2.1 n i (by omega) (by omega) hi_v).2
                        have u01 := bI_01 (aU s n i)
                        refine zx_go (pc1 := 133) (l1 := [some (zr 32), some (zi n), some (zi k), some (zi w), some (zi lf_v), some (zi i)]) (st1 := [zi ((1728 * n) + i), zr 47]) (w1 := wr c R9) g_X6_piece 7 _ _ _ _ rfl ?_
                        refine gz_bald g_X6_piece rfl (n := 27648) rfl (by decide) rfl (by decide) (by omega) (by omega) ?_
                        refine zx_if g_X6_piece rfl (by omega) (fun (h134 : (R9 47 ((1728 * n) + i)) = 0) => ?_) (fun (h134 : ¬ (R9 47 ((1728 * n) + i)) = 0) => ?_)
                        · refine zx_go (pc1 := 142) (l1 := [some (zr 32), some (zi n), some (zi k), some (zi w), some (zi lf_v), some (zi i)]) (st1 := [zi 0]) (w1 := wr c R9) g_X6_piece 1 _ _ _ _ rfl ?_
                          refine zx_iret g_X6_piece rfl (.inl rfl) ?_
                          have eq_v : (kth (std c D s n) (cS c : Int).toNat 0 k) = i := e.trans (kth_0 (by omega) h72 (by omega))
                          rw [← hR9]
                          refine mP_0 (cd30 (by omega) (by omega) (by omega)) ⟨?_, rfl⟩
                          rw [eq_v]
                          unfold pcv
                          rw [if_neg (by omega), if_neg (by omega), if_neg (by omega)]
                          exact (bI_f (fun z => bI_ne.mpr z (by rw [← e47]; exact h134))).symm
                        · refine zx_go (pc1 := 142) (l1 := [some (zr 32), some (zi n), some (zi k), some (zi w), some (zi lf_v), some (zi i)]) (st1 := [zi 1]) (w1 := wr c R9) g_X6_piece 2 _ _ _ _ rfl ?_
                          refine zx_iret g_X6_piece rfl (.inl rfl) ?_
                          have eq_v : (kth (std c D s n) (cS c : Int).toNat 0 k) = i := e.trans (kth_0 (by omega) h72 (by omega))
                          rw [← hR9]
                          refine mP_0 (cd30 (by omega) (by omega) (by omega)) ⟨?_, rfl⟩
                          rw [eq_v]
                          unfold pcv
                          rw [if_neg (by omega), if_neg (by omega), if_neg (by omega)]
                          exact (bI_t (bI_ne.mp (by rw [← e47]; exact h134))).symm
                      · refine zx_go (pc1 := 115) (l1 := [some (zr 32), some (zi n), some (zi k), some (zi w), some (zi lf_v), some (zi i)]) (st1 := [zi i, zr 32]) (w1 := wr c R9) g_X6_piece 2 _ _ _ _ rfl ?_
                        refine zx_cvF (As := [zi i]) (rest := []) g_X6_piece rfl g_X6_yOf rfl rfl (Nat.le_of_ble_eq_true rfl) (Nat.le_of_ble_eq_true rfl) rfl (by decide) (m_yOf hg (by omega) (by omega)) ?_
                        refine zx_go (pc1 := 142) (l1 := [some (zr 32), some (zi n), some (zi k), some (zi w), some (zi lf_v), some (zi i)]) (st1 := [zi (yo c i)]) (w1 := wr c R9) g_X6_piece 1 _ _ _ _ rfl ?_
                        refine zx_iret g_X6_piece rfl (.inl rfl) ?_
                        have eq_v : (kth (std c D s n) (cS c : Int).toNat 0 k) = i := e.trans (kth_0 (by omega) h72 (by omega))
                        rw [← hR9]
                        refine mP_0 (cd30 (by omega) (by omega) (by omega)) ⟨?_, rfl⟩
                        rw [eq_v]
                        unfold pcv
                        rw [if_neg (by omega), if_neg (by omega), if_pos (by omega)]
                    · refine zx_go (pc1 := 101) (l1 := [some (zr 32), some (zi n), some (zi k), some (zi w), some (zi lf_v), some (zi i)]) (st1 := [zi i, zr 32]) (w1 := wr c R9) g_X6_piece 2 _ _ _ _ rfl ?_
                      refine zx_cvF (As := [zi i]) (rest := []) g_X6_piece rfl g_X6_xOf rfl rfl (Nat.le_of_ble_eq_true rfl) (Nat.le_of_ble_eq_true rfl) rfl (by decide) (m_xOf hg (by omega) (by omega)) ?_
                      refine zx_go (pc1 := 142) (l1 := [some (zr 32), some (zi n), some (zi k), some (zi w), some (zi lf_v), some (zi i)]) (st1 := [zi (xo c i)]) (w1 := wr c R9) g_X6_piece 1 _ _ _ _ rfl ?_
                      refine zx_iret g_X6_piece rfl (.inl rfl) ?_
                      have eq_v : (kth (std c D s n) (cS c : Int).toNat 0 k) = i := e.trans (kth_0 (by omega) h72 (by omega))
                      rw [← hR9]
                      refine mP_0 (cd30 (by omega) (by omega) (by omega)) ⟨?_, rfl⟩
                      rw [eq_v]
                      unfold pcv
                      rw [if_neg (by omega), if_pos (by omega)]
                  · refine zx_go (pc1 := 87) (l1 := [some (zr 32), some (zi n), some (zi k), some (zi w), some (zi lf_v), some (zi i)]) (st1 := [zi i, zr 32]) (w1 := wr c R9) g_X6_piece 2 _ _ _ _ rfl ?_
                    refine zx_cvF (As := [zi i]) (rest := []) g_X6_piece rfl g_X6_layerOf rfl rfl (Nat.le_of_ble_eq_true rfl) (Nat.le_of_ble_eq_true rfl) rfl (by decide) (m_layerOf hg (by omega) (by omega)) ?_
                    refine zx_go (pc1 := 142) (l1 := [some (zr 32), some (zi n), some (zi k), some (zi w), some (zi lf_v), some (zi i)]) (st1 := [zi (lay c i)]) (w1 := wr c R9) g_X6_piece 1 _ _ _ _ rfl ?_
                    refine zx_iret g_X6_piece rfl (.inl rfl) ?_
                    have eq_v : (kth (std c D s n) (cS c : Int).toNat 0 k) = i := e.trans (kth_0 (by omega) h72 (by omega))
                    rw [← hR9]
                    refine mP_0 (cd30 (by omega) (by omega) (by omega)) ⟨?_, rfl⟩
                    rw [eq_v]
                    unfold pcv
                    rw [if_pos (by omega)]
        refine lp51 (Int.toNat ((cS c : Int) - 0)) k 0 (by omega) ?_
        exact ⟨by omega, by omega, by omega, by omega, by rw [Int.sub_zero]⟩
      · refine zx_go (pc1 := 37) (l1 := [some (zr 32), some (zi n), some (zi k), some (zi w), none, none]) (st1 := [zi 2, zr 32]) (w1 := wr c R) g_X6_piece 2 _ _ _ _ rfl ?_
        refine gx_cvG (As := [zi 2]) (rest := []) g_X6_piece rfl g_X6_refuses rfl rfl (Nat.le_of_ble_eq_true rfl) (Nat.le_of_ble_eq_true rfl) rfl (by decide) (m_ref (v := 1) (by decide) (bI_t (by decide))) ?_
        refine zx_ifF g_X6_piece rfl (by decide) (show ¬ ((1 : Int) = 0) by decide) ?_
        refine zx_go (pc1 := 44) (l1 := [some (zr 32), some (zi n), some (zi k), some (zi w), none, none]) (st1 := [zi 0]) (w1 := wr c (zU R 32 0 2)) g_X6_piece 1 _ _ _ _ rfl ?_
        refine zx_iret g_X6_piece rfl (.inl rfl) ?_
        exact mP_2 (cd32 (by omega) (by omega))
    · refine zx_go (pc1 := 37) (l1 := [some (zr 32), some (zi n), some (zi k), some (zi w), none, none]) (st1 := [zi 1, zr 32]) (w1 := wr c R) g_X6_piece 2 _ _ _ _ rfl ?_
      refine gx_cvG (As := [zi 1]) (rest := []) g_X6_piece rfl g_X6_refuses rfl rfl (Nat.le_of_ble_eq_true rfl) (Nat.le_of_ble_eq_true rfl) rfl (by decide) (m_ref (v := 1) (by decide) (bI_t (by decide))) ?_
      refine zx_ifF g_X6_piece rfl (by decide) (show ¬ ((1 : Int) = 0) by decide) ?_
      refine zx_go (pc1 := 44) (l1 := [some (zr 32), some (zi n), some (zi k), some (zi w), none, none]) (st1 := [zi 0]) (w1 := wr c (zU R 32 0 1)) g_X6_piece 1 _ _ _ _ rfl ?_
      refine zx_iret g_X6_piece rfl (.inl rfl) ?_
      exact mP_1 (cd31 (by first | exact .inl (by omega) | exact .inr (by omega)))

set_option maxHeartbeats 1000000 in
theorem m_chosen {c : zC} {R : zI} {D : zI} {s : aS} {k : Int} (hD : DOK c D) (hm : MDn c D R) (h14 : R 32 14 = 0 ∨ R 32 14 = 1) (hs : R 32 14 ≠ 0 → MS0 c D s R) (kr : inR k) : MZ m_X6_chosen [zr 32, zi k] (wr c R) (mP (cdv (¬ (0 ≤ k ∧ k < D 10 2)) (R 32 14 = 0)) (fun b R2 => b = pk c D k ∧ R2 = ac0 R) c R) := by
  refine MZ.of g_X6_chosen ?_
  show ZX m_X6_chosen 0 [some (zr 32), some (zi k)] [] (wr c R) _
  have hg := hD.1
  have g3_v := hg.S
  have n16 := hD.2.1
  have p40 := hD.2.2.1
  have e8 := hm.2.2.2.2.2.1
  have e10_v := hm.2.2.2.2.2.2
  refine zx_go (pc1 := 3) (l1 := [some (zr 32), some (zi k)]) (st1 := [zi k, zr 32, zr 32]) (w1 := wr c R) g_X6_chosen 3 _ _ _ _ rfl ?_
  refine zx_cvF (As := [zi k]) (rest := [zr 32]) g_X6_chosen rfl g_X6_isPin rfl rfl (Nat.le_of_ble_eq_true rfl) (Nat.le_of_ble_eq_true rfl) rfl (by decide) (m_isPin (by omega) (by omega)) ?_
  refine zx_ifne g_X6_chosen rfl (fun (h6 : (0 ≤ k ∧ k < R 32 10)) => ?_) (fun (h6 : ¬ (0 ≤ k ∧ k < R 32 10)) => ?_)
  · refine zx_go (pc1 := 17) (l1 := [some (zr 32), some (zi k)]) (st1 := [zi (R 32 14), zr 32]) (w1 := wr c R) g_X6_chosen 2 _ _ _ _ rfl ?_
    refine zx_if g_X6_chosen rfl (by omega) (fun (h17 : (R 32 14) ≠ 0) => ?_) (fun (h17 : ¬ (R 32 14) ≠ 0) => ?_)
    · refine zx_go (pc1 := 25) (l1 := [some (zr 32), some (zi k)]) (st1 := [zi 0, zr 32]) (w1 := wr c R) g_X6_chosen 1 _ _ _ _ rfl ?_
      refine gx_cvG (As := [zi 0]) (rest := []) g_X6_chosen rfl g_X6_refuses rfl rfl (Nat.le_of_ble_eq_true rfl) (Nat.le_of_ble_eq_true rfl) rfl (by decide) (m_ref (v := 0) (by decide) (bI_f (by decide))) ?_
      refine zx_ifT g_X6_chosen rfl (by decide) (show ((0 : Int) = 0) by decide) ?_
      refine zx_go (pc1 := 40) (l1 := [some (zr 32), some (zi k)]) (st1 := [zi k, zr 41]) (w1 := wr c (zU R 32 0 0)) g_X6_chosen 3 _ _ _ _ rfl ?_
      refine gz_iald g_X6_chosen rfl (n := 40) rfl (by decide) rfl (by decide) (by omega) (by omega) ?_
      refine zx_iret g_X6_chosen rfl (.inl rfl) ?_
      have hs0 := hs (by omega)
      refine mP_0 (cdv0 (by omega) (by omega)) ⟨?_, rfl⟩
      rw [zU_cell' (by decide)]
      exact hs0.2.1 k (by omega) (by omega)
    · refine zx_go (pc1 := 25) (l1 := [some (zr 32), some (zi k)]) (st1 := [zi 2, zr 32]) (w1 := wr c R) g_X6_chosen 2 _ _ _ _ rfl ?_
      refine gx_cvG (As := [zi 2]) (rest := []) g_X6_chosen rfl g_X6_refuses rfl rfl (Nat.le_of_ble_eq_true rfl) (Nat.le_of_ble_eq_true rfl) rfl (by decide) (m_ref (v := 1) (by decide) (bI_t (by decide))) ?_
      refine zx_ifF g_X6_chosen rfl (by decide) (show ¬ ((1 : Int) = 0) by decide) ?_
      refine zx_go (pc1 := 41) (l1 := [some (zr 32), some (zi k)]) (st1 := [zi 0]) (w1 := wr c (zU R 32 0 2)) g_X6_chosen 2 _ _ _ _ rfl ?_
      refine zx_iret g_X6_chosen rfl (.inl rfl) ?_
      exact mP_2 (cdv2 (by omega) (by omega))
  · refine zx_go (pc1 := 25) (l1 := [some (zr 32), some (zi k)]) (st1 := [zi 1, zr 32]) (w1 := wr c R) g_X6_chosen 2 _ _ _ _ rfl ?_
    refine gx_cvG (As := [zi 1]) (rest := []) g_X6_chosen rfl g_X6_refuses rfl rfl (Nat.le_of_ble_eq_true rfl) (Nat.le_of_ble_eq_true rfl) rfl (by decide) (m_ref (v := 1) (by decide) (bI_t (by decide))) ?_
    refine zx_ifF g_X6_chosen rfl (by decide) (show ¬ ((1 : Int) = 0) by decide) ?_
    refine zx_go (pc1 := 41) (l1 := [some (zr 32), some (zi k)]) (st1 := [zi 0]) (w1 := wr c (zU R 32 0 1)) g_X6_chosen 2 _ _ _ _ rfl ?_
    refine zx_iret g_X6_chosen rfl (.inl rfl) ?_
    exact mP_1 (cdv1 (by omega))

set_option maxHeartbeats 1000000 in
theorem m_open {c : zC} {R : zI} {D : zI} {s : aS} {k w : Int} (hD : DOK c D) (hm : MDn c D R) (h14 : R 32 14 = 0 ∨ R 32 14 = 1) (hs : R 32 14 ≠ 0 → MS0 c D s R) (kr : inR k) (wr1 : inR w) : MZ m_X6_open [zr 32, zi k, zi w] (wr c R) (mP (cdv (¬ (0 ≤ w ∧ w ≤ 1) ∨ k < 0) (R 32 14 = 0)) (fun b R2 => b = opv c D s (kth (fun i => ¬ aJ s i) (D 10 0).toNat 0 k) w ∧ R2 = ac0 R) c R) := by
  refine MZ.of g_X6_open ?_
  show ZX m_X6_open 0 [some (zr 32), some (zi k), some (zi w), none, none] [] (wr c R) _
  have hg := hD.1
  have g3_v := hg.S
  have n16 := hD.2.1
  have p40 := hD.2.2.1
  have e8 := hm.2.2.2.2.2.1
  have e10_v := hm.2.2.2.2.2.2
  refine zx_go (pc1 := 2) (l1 := [some (zr 32), some (zi k), some (zi w), none, none]) (st1 := [zi w, zr 32]) (w1 := wr c R) g_X6_open 2 _ _ _ _ rfl ?_
  refine zx_i2l g_X6_open rfl (by omega) ?_
  refine zx_go (pc1 := 5) (l1 := [some (zr 32), some (zi k), some (zi w), none, none]) (st1 := [zl 1, zl 0, zl w, zr 32]) (w1 := wr c R) g_X6_open 2 _ _ _ _ rfl ?_
  refine zx_csF (As := [zl w, zl 0, zl 1]) (rest := [zr 32]) g_X6_open rfl g_X6_isIn rfl rfl (Nat.le_of_ble_eq_true rfl) (Nat.le_of_ble_eq_true rfl) (m_isIn (by omega) (by omega) (by omega)) ?_
  refine zx_ifeq g_X6_open rfl (fun (h8 : ¬ (0 ≤ w ∧ w ≤ 1)) => ?_) (fun (h8 : (0 ≤ w ∧ w ≤ 1)) => ?_)
  · refine zx_go (pc1 := 31) (l1 := [some (zr 32), some (zi k), some (zi w), none, none]) (st1 := [zi 1, zr 32]) (w1 := wr c R) g_X6_open 2 _ _ _ _ rfl ?_
    refine gx_cvG (As := [zi 1]) (rest := []) g_X6_open rfl g_X6_refuses rfl rfl (Nat.le_of_ble_eq_true rfl) (Nat.le_of_ble_eq_true rfl) rfl (by decide) (m_ref (v := 1) (by decide) (bI_t (by decide))) ?_
    refine zx_ifF g_X6_open rfl (by decide) (show ¬ ((1 : Int) = 0) by decide) ?_
    refine zx_go (pc1 := 38) (l1 := [some (zr 32), some (zi k), some (zi w), none, none]) (st1 := [zi 0]) (w1 := wr c (zU R 32 0 1)) g_X6_open 1 _ _ _ _ rfl ?_
    refine zx_iret g_X6_open rfl (.inl rfl) ?_
    exact mP_1 (cdv1 (by first | exact .inl (by omega) | exact .inr (by omega)))
  · refine zx_go (pc1 := 12) (l1 := [some (zr 32), some (zi k), some (zi w), none, none]) (st1 := [zi k, zr 32]) (w1 := wr c R) g_X6_open 1 _ _ _ _ rfl ?_
    refine zx_if g_X6_open rfl (by omega) (fun (h12 : 0 ≤ k) => ?_) (fun (h12 : ¬ 0 ≤ k) => ?_)
    · refine zx_go (pc1 := 23) (l1 := [some (zr 32), some (zi k), some (zi w), none, none]) (st1 := [zi (R 32 14), zr 32]) (w1 := wr c R) g_X6_open 2 _ _ _ _ rfl ?_
      refine zx_if g_X6_open rfl (by omega) (fun (h23 : (R 32 14) ≠ 0) => ?_) (fun (h23 : ¬ (R 32 14) ≠ 0) => ?_)
      · refine zx_go (pc1 := 31) (l1 := [some (zr 32), some (zi k), some (zi w), none, none]) (st1 := [zi 0, zr 32]) (w1 := wr c R) g_X6_open 1 _ _ _ _ rfl ?_
        refine gx_cvG (As := [zi 0]) (rest := []) g_X6_open rfl g_X6_refuses rfl rfl (Nat.le_of_ble_eq_true rfl) (Nat.le_of_ble_eq_true rfl) rfl (by decide) (m_ref (v := 0) (by decide) (bI_f (by decide))) ?_
        refine zx_ifT g_X6_open rfl (by decide) (show ((0 : Int) = 0) by decide) ?_
        generalize hR9 : zU R 32 0 0 = R9
        have f9_v : ∀ a, a ≠ 32 → R9 a = R a := fun a ha => by rw [← hR9, zU_cell ha]
        have f9j : ∀ j, j ≠ 0 → R9 32 j = R 32 j := fun j hj => by rw [← hR9, zU_at hj]
        have hm9 : MDn c D R9 := hm.of2 (fun a _ hb_v => f9_v a hb_v) (f9j 8 (by decide)) (f9j 10 (by decide))
        have hs0 := hs (by omega)
        have hs9 : MS0 c D s R9 := hs0.of hm9 (fun a h1 h2 => f9_v a (by omega))
        refine zx_go (pc1 := 44) (l1 := [some (zr 32), some (zi k), some (zi w), some (zi k), some (zi 0)]) (st1 := []) (w1 := wr c R9) g_X6_open 4 _ _ _ _ rfl ?_
        have lp44 : ∀ (it : Nat) (lf_v : Int) (i : Int), (it : Int) = D 10 0 - i → (0 ≤ i ∧ i ≤ D 10 0 ∧ 0 ≤ lf_v ∧ lf_v ≤ k ∧ (kth (fun i => ¬ aJ s i) (D 10 0).toNat 0 k) = kth (fun i => ¬ aJ s i) (D 10 0 - i).toNat i lf_v) → ZX m_X6_open 44 [some (zr 32), some (zi k), some (zi w), some (zi lf_v), some (zi i)] [] (wr c R9) (mP (cdv (¬ (0 ≤ w ∧ w ≤ 1) ∨ k < 0) (R 32 14 = 0)) (fun b R2 => b = opv c D s (kth (fun i => ¬ aJ s i) (D 10 0).toNat 0 k) w ∧ R2 = ac0 R) c R) := by
          refine fun it => Nat.strongRecOn it (fun it ih44 => ?_)
          intro lf_v i hn44 hi44
          obtain ⟨i0_v, i1_v, l0, l1, e⟩ := hi44
          have e89 : R9 32 8 = D 10 0 := hm9.2.2.2.2.2.1
          refine zx_go (pc1 := 50) (l1 := [some (zr 32), some (zi k), some (zi w), some (zi lf_v), some (zi i)]) (st1 := [zi (R9 32 8), zi i]) (w1 := wr c R9) g_X6_open 3 _ _ _ _ rfl ?_
          refine zx_cmp g_X6_open rfl (by omega) (by omega) (fun (h50 : (R9 32 8) ≤ i) => ?_) (fun (h50 : ¬ ((R9 32 8) ≤ i)) => ?_)
          · refine zx_go (pc1 := 94) (l1 := [some (zr 32), some (zi k), some (zi w), some (zi lf_v), some (zi i)]) (st1 := [zi (-1)]) (w1 := wr c R9) g_X6_open 1 _ _ _ _ rfl ?_
            refine zx_iret g_X6_open rfl (.inl rfl) ?_
            rw [← hR9]
            refine mP_0 (cdv0 (by omega) (by omega)) ⟨?_, rfl⟩
            rw [e.trans (kth_e (by omega))]
            rfl
          · have e43 : R9 43 i = bI (aJ s i) := hs9.2.2.2.2.2.1 i i0_v (by omega)
            have j01 := bI_01 (aJ s i)
            refine zx_go (pc1 := 59) (l1 := [some (zr 32), some (zi k), some (zi w), some (zi lf_v), some (zi i)]) (st1 := [zi i, zr 43]) (w1 := wr c R9) g_X6_open 3 _ _ _ _ rfl ?_
            refine gz_bald g_X6_open rfl (n := 16) rfl (by decide) rfl (by decide) (by omega) (by omega) ?_
            refine zx_if g_X6_open rfl (by omega) (fun (h60 : (R9 43 i) ≠ 0) => ?_) (fun (h60 : ¬ (R9 43 i) ≠ 0) => ?_)
            · refine zx_go (pc1 := 44) (l1 := [some (zr 32), some (zi k), some (zi w), some (zi lf_v), some (zi (i + 1))]) (st1 := []) (w1 := wr c R9) g_X6_open 2 _ _ _ _ rfl ?_
              refine ih44 (Int.toNat (D 10 0 - (i + 1))) (by omega) lf_v (i + 1) (by omega) ?_
              refine ⟨by omega, by omega, by omega, by omega, ?_⟩
              exact e.trans (kth_n (by omega) (fun z => z (bI_ne.mp (by rw [← e43]; exact h60))))
            · refine zx_go (pc1 := 64) (l1 := [some (zr 32), some (zi k), some (zi w), some (zi lf_v), some (zi i)]) (st1 := [zi lf_v]) (w1 := wr c R9) g_X6_open 1 _ _ _ _ rfl ?_
              refine zx_if g_X6_open rfl (by omega) (fun (h64 : lf_v ≠ 0) => ?_) (fun (h64 : ¬ lf_v ≠ 0) => ?_)
              · refine zx_go (pc1 := 44) (l1 := [some (zr 32), some (zi k), some (zi w), some (zi (lf_v + (-1))), some (zi (i + 1))]) (st1 := []) (w1 := wr c R9) g_X6_open 3 _ _ _ _ rfl ?_
                refine ih44 (Int.toNat (D 10 0 - (i + 1))) (by omega) (lf_v + (-1)) (i + 1) (by omega) ?_
                refine ⟨by omega, by omega, by omega, by omega, ?_⟩
                exact e.trans (kth_y (by omega) (fun z => h60 (by rw [e43]; exact bI_ne.mpr z)) (by omega))
              · refine zx_go (pc1 := 68) (l1 := [some (zr 32), some (zi k), some (zi w), some (zi lf_v), some (zi i)]) (st1 := [zi w]) (w1 := wr c R9) g_X6_open 1 _ _ _ _ rfl ?_
                refine zx_if g_X6_open rfl (by omega) (fun (h68 : w ≠ 0) => ?_) (fun (h68 : ¬ w ≠ 0) => ?_)
                · refine zx_go (pc1 := 82) (l1 := [some (zr 32), some (zi k), some (zi w), some (zi lf_v), some (zi i)]) (st1 := [zi i, zr 44]) (w1 := wr c R9) g_X6_open 3 _ _ _ _ rfl ?_
                  refine gz_iald g_X6_open rfl (n := 16) rfl (by decide) rfl (by decide) (by omega) (by omega) ?_
                  refine zx_iret g_X6_open rfl (.inl rfl) ?_
                  have nj : ¬ aJ s i := fun z => h60 (by rw [e43]; exact bI_ne.mpr z)
                  have eq_v : (kth (fun i => ¬ aJ s i) (D 10 0).toNat 0 k) = i := e.trans (kth_0 (by omega) nj (by omega))
                  refine mP_0 (cdv0 (by omega) (by omega)) ⟨?_, hR9.symm⟩
                  rw [eq_v]
                  unfold opv
                  rw [if_neg (by omega)]
                  rw [if_neg (by omega)]
                  exact hs9.2.2.2.2.2.2 i i0_v (by omega) nj
                · refine zx_go (pc1 := 83) (l1 := [some (zr 32), some (zi k), some (zi w), some (zi lf_v), some (zi i)]) (st1 := [zi i]) (w1 := wr c R9) g_X6_open 2 _ _ _ _ rfl ?_
                  refine zx_iret g_X6_open rfl (.inl rfl) ?_
                  have nj : ¬ aJ s i := fun z => h60 (by rw [e43]; exact bI_ne.mpr z)
                  have eq_v : (kth (fun i => ¬ aJ s i) (D 10 0).toNat 0 k) = i := e.trans (kth_0 (by omega) nj (by omega))
                  refine mP_0 (cdv0 (by omega) (by omega)) ⟨?_, hR9.symm⟩
                  rw [eq_v]
                  unfold opv
                  rw [if_neg (by omega)]
                  rw [if_pos (by omega)]
        refine lp44 (Int.toNat (D 10 0 - 0)) k 0 (by omega) ?_
        exact ⟨by omega, by omega, by omega, by omega, by rw [Int.sub_zero]⟩
      · refine zx_go (pc1 := 31) (l1 := [some (zr 32), some (zi k), some (zi w), none, none]) (st1 := [zi 2, zr 32]) (w1 := wr c R) g_X6_open 2 _ _ _ _ rfl ?_
        refine gx_cvG (As := [zi 2]) (rest := []) g_X6_open rfl g_X6_refuses rfl rfl (Nat.le_of_ble_eq_true rfl) (Nat.le_of_ble_eq_true rfl) rfl (by decide) (m_ref (v := 1) (by decide) (bI_t (by decide))) ?_
        refine zx_ifF g_X6_open rfl (by decide) (show ¬ ((1 : Int) = 0) by decide) ?_
        refine zx_go (pc1 := 38) (l1 := [some (zr 32), some (zi k), some (zi w), none, none]) (st1 := [zi 0]) (w1 := wr c (zU R 32 0 2)) g_X6_open 1 _ _ _ _ rfl ?_
        refine zx_iret g_X6_open rfl (.inl rfl) ?_
        exact mP_2 (cdv2 (by omega) (by omega))
    · refine zx_go (pc1 := 31) (l1 := [some (zr 32), some (zi k), some (zi w), none, none]) (st1 := [zi 1, zr 32]) (w1 := wr c R) g_X6_open 2 _ _ _ _ rfl ?_
      refine gx_cvG (As := [zi 1]) (rest := []) g_X6_open rfl g_X6_refuses rfl rfl (Nat.le_of_ble_eq_true rfl) (Nat.le_of_ble_eq_true rfl) rfl (by decide) (m_ref (v := 1) (by decide) (bI_t (by decide))) ?_
      refine zx_ifF g_X6_open rfl (by decide) (show ¬ ((1 : Int) = 0) by decide) ?_
      refine zx_go (pc1 := 38) (l1 := [some (zr 32), some (zi k), some (zi w), none, none]) (st1 := [zi 0]) (w1 := wr c (zU R 32 0 1)) g_X6_open 1 _ _ _ _ rfl ?_
      refine zx_iret g_X6_open rfl (.inl rfl) ?_
      exact mP_1 (cdv1 (by first | exact .inl (by omega) | exact .inr (by omega)))

set_option maxHeartbeats 1000000 in
theorem m_joined {c : zC} {R : zI} {D : zI} {s : aS} {n : Int} (hD : DOK c D) (hm : MDn c D R) (h14 : R 32 14 = 0 ∨ R 32 14 = 1) (hs : R 32 14 ≠ 0 → MS0 c D s R) (nr1 : inR n) : MZ m_X6_joined [zr 32, zi n] (wr c R) (mP (cdv (¬ (0 ≤ n ∧ n < D 10 0)) (R 32 14 = 0)) (fun b R2 => b = bI (aJ s n) ∧ R2 = ac0 R) c R) := by
  refine MZ.of g_X6_joined ?_
  show ZX m_X6_joined 0 [some (zr 32), some (zi n)] [] (wr c R) _
  have hg := hD.1
  have g3_v := hg.S
  have n16 := hD.2.1
  have p40 := hD.2.2.1
  have e8 := hm.2.2.2.2.2.1
  have e10_v := hm.2.2.2.2.2.2
  refine zx_go (pc1 := 3) (l1 := [some (zr 32), some (zi n)]) (st1 := [zi n, zr 32, zr 32]) (w1 := wr c R) g_X6_joined 3 _ _ _ _ rfl ?_
  refine zx_cvF (As := [zi n]) (rest := [zr 32]) g_X6_joined rfl g_X6_isNet rfl rfl (Nat.le_of_ble_eq_true rfl) (Nat.le_of_ble_eq_true rfl) rfl (by decide) (m_isNet (by omega) (by omega)) ?_
  refine zx_ifne g_X6_joined rfl (fun (h6 : (0 ≤ n ∧ n < R 32 8)) => ?_) (fun (h6 : ¬ (0 ≤ n ∧ n < R 32 8)) => ?_)
  · refine zx_go (pc1 := 17) (l1 := [some (zr 32), some (zi n)]) (st1 := [zi (R 32 14), zr 32]) (w1 := wr c R) g_X6_joined 2 _ _ _ _ rfl ?_
    refine zx_if g_X6_joined rfl (by omega) (fun (h17 : (R 32 14) ≠ 0) => ?_) (fun (h17 : ¬ (R 32 14) ≠ 0) => ?_)
    · refine zx_go (pc1 := 25) (l1 := [some (zr 32), some (zi n)]) (st1 := [zi 0, zr 32]) (w1 := wr c R) g_X6_joined 1 _ _ _ _ rfl ?_
      refine gx_cvG (As := [zi 0]) (rest := []) g_X6_joined rfl g_X6_refuses rfl rfl (Nat.le_of_ble_eq_true rfl) (Nat.le_of_ble_eq_true rfl) rfl (by decide) (m_ref (v := 0) (by decide) (bI_f (by decide))) ?_
      refine zx_ifF g_X6_joined rfl (by decide) (show ¬ ((0 : Int) ≠ 0) by decide) ?_
      have hs0 := hs (by omega)
      have e43 : zU R 32 0 0 43 n = bI (aJ s n) := by rw [zU_cell' (by decide)]; exact hs0.2.2.2.2.2.1 n (by omega) (by omega)
      have j01 := bI_01 (aJ s n)
      refine zx_go (pc1 := 36) (l1 := [some (zr 32), some (zi n)]) (st1 := [zi n, zr 43]) (w1 := wr c (zU R 32 0 0)) g_X6_joined 3 _ _ _ _ rfl ?_
      refine gz_bald g_X6_joined rfl (n := 16) rfl (by decide) rfl (by decide) (by omega) (by omega) ?_
      refine zx_if g_X6_joined rfl (by omega) (fun (h37 : ((zU R 32 0 0) 43 n) = 0) => ?_) (fun (h37 : ¬ ((zU R 32 0 0) 43 n) = 0) => ?_)
      · refine zx_go (pc1 := 45) (l1 := [some (zr 32), some (zi n)]) (st1 := [zi 0]) (w1 := wr c (zU R 32 0 0)) g_X6_joined 1 _ _ _ _ rfl ?_
        refine zx_iret g_X6_joined rfl (.inr (.inl rfl)) ?_
        refine mP_0 (cdv0 (by omega) (by omega)) ⟨?_, rfl⟩
        exact (bI_f (fun z => bI_ne.mpr z (by rw [← e43]; exact h37))).symm
      · refine zx_go (pc1 := 45) (l1 := [some (zr 32), some (zi n)]) (st1 := [zi 1]) (w1 := wr c (zU R 32 0 0)) g_X6_joined 2 _ _ _ _ rfl ?_
        refine zx_iret g_X6_joined rfl (.inr (.inr rfl)) ?_
        refine mP_0 (cdv0 (by omega) (by omega)) ⟨?_, rfl⟩
        exact (bI_t (bI_ne.mp (by rw [← e43]; exact h37))).symm
    · refine zx_go (pc1 := 25) (l1 := [some (zr 32), some (zi n)]) (st1 := [zi 2, zr 32]) (w1 := wr c R) g_X6_joined 2 _ _ _ _ rfl ?_
      refine gx_cvG (As := [zi 2]) (rest := []) g_X6_joined rfl g_X6_refuses rfl rfl (Nat.le_of_ble_eq_true rfl) (Nat.le_of_ble_eq_true rfl) rfl (by decide) (m_ref (v := 1) (by decide) (bI_t (by decide))) ?_
      refine zx_ifT g_X6_joined rfl (by decide) (show ((1 : Int) ≠ 0) by decide) ?_
      refine zx_go (pc1 := 45) (l1 := [some (zr 32), some (zi n)]) (st1 := [zi 0]) (w1 := wr c (zU R 32 0 2)) g_X6_joined 1 _ _ _ _ rfl ?_
      refine zx_iret g_X6_joined rfl (.inr (.inl rfl)) ?_
      exact mP_2 (cdv2 (by omega) (by omega))
  · refine zx_go (pc1 := 25) (l1 := [some (zr 32), some (zi n)]) (st1 := [zi 1, zr 32]) (w1 := wr c R) g_X6_joined 2 _ _ _ _ rfl ?_
    refine gx_cvG (As := [zi 1]) (rest := []) g_X6_joined rfl g_X6_refuses rfl rfl (Nat.le_of_ble_eq_true rfl) (Nat.le_of_ble_eq_true rfl) rfl (by decide) (m_ref (v := 1) (by decide) (bI_t (by decide))) ?_
    refine zx_ifT g_X6_joined rfl (by decide) (show ((1 : Int) ≠ 0) by decide) ?_
    refine zx_go (pc1 := 45) (l1 := [some (zr 32), some (zi n)]) (st1 := [zi 0]) (w1 := wr c (zU R 32 0 1)) g_X6_joined 1 _ _ _ _ rfl ?_
    refine zx_iret g_X6_joined rfl (.inr (.inl rfl)) ?_
    exact mP_1 (cdv1 (by omega))

set_option maxHeartbeats 1000000 in
theorem m_history {c : zC} {R : zI} {D : zI} {s : aS} {z x y : Int} (hD : DOK c D) (hm : MDn c D R) (h14 : R 32 14 = 0 ∨ R 32 14 = 1) (hs : R 32 14 ≠ 0 → MS0 c D s R) (zr1 : inR z) (xr : inR64 x) (yr : inR64 y) : MZ m_X6_history [zr 32, zi z, zl x, zl y] (wr c R) (mP (cdv (plo c z x y = -1) (R 32 14 = 0)) (fun b R2 => b = aP s (plo c z x y) ∧ R2 = ac0 R) c R) := by
  refine MZ.of g_X6_history ?_
  show ZX m_X6_history 0 [some (zr 32), some (zi z), some (zl x), none, some (zl y), none, none] [] (wr c R) _
  have hg := hD.1
  have g3_v := hg.S
  have n16 := hD.2.1
  have p40 := hD.2.2.1
  have e8 := hm.2.2.2.2.2.1
  have e10_v := hm.2.2.2.2.2.2
  refine zx_go (pc1 := 5) (l1 := [some (zr 32), some (zi z), some (zl x), none, some (zl y), none, none]) (st1 := [zl y, zl x, zi z, zr 32]) (w1 := wr c R) g_X6_history 4 _ _ _ _ rfl ?_
  refine zx_cvF (As := [zi z, zl x, zl y]) (rest := []) g_X6_history rfl g_X6_placeOf rfl rfl (Nat.le_of_ble_eq_true rfl) (Nat.le_of_ble_eq_true rfl) rfl (by decide) (m_placeOf hg (by omega) (by omega) (by omega)) ?_
  have pI1 := plo_I hg z x y
  refine zx_go (pc1 := 14) (l1 := [some (zr 32), some (zi z), some (zl x), none, some (zl y), none, some (zi (plo c z x y))]) (st1 := [zi (-1), zi (plo c z x y), zr 32]) (w1 := wr c R) g_X6_history 4 _ _ _ _ rfl ?_
  refine zx_cmp g_X6_history rfl (by omega) (by omega) (fun (h14 : (plo c z x y) ≠ (-1)) => ?_) (fun (h14 : ¬ ((plo c z x y) ≠ (-1))) => ?_)
  · refine zx_go (pc1 := 25) (l1 := [some (zr 32), some (zi z), some (zl x), none, some (zl y), none, some (zi (plo c z x y))]) (st1 := [zi (R 32 14), zr 32]) (w1 := wr c R) g_X6_history 2 _ _ _ _ rfl ?_
    refine zx_if g_X6_history rfl (by omega) (fun (h25 : (R 32 14) ≠ 0) => ?_) (fun (h25 : ¬ (R 32 14) ≠ 0) => ?_)
    · refine zx_go (pc1 := 33) (l1 := [some (zr 32), some (zi z), some (zl x), none, some (zl y), none, some (zi (plo c z x y))]) (st1 := [zi 0, zr 32]) (w1 := wr c R) g_X6_history 1 _ _ _ _ rfl ?_
      refine gx_cvG (As := [zi 0]) (rest := []) g_X6_history rfl g_X6_refuses rfl rfl (Nat.le_of_ble_eq_true rfl) (Nat.le_of_ble_eq_true rfl) rfl (by decide) (m_ref (v := 0) (by decide) (bI_f (by decide))) ?_
      refine zx_ifT g_X6_history rfl (by decide) (show ((0 : Int) = 0) by decide) ?_
      refine zx_go (pc1 := 49) (l1 := [some (zr 32), some (zi z), some (zl x), none, some (zl y), none, some (zi (plo c z x y))]) (st1 := [zi (plo c z x y), zr 45]) (w1 := wr c (zU R 32 0 0)) g_X6_history 3 _ _ _ _ rfl ?_
      refine gz_iald g_X6_history rfl (n := 1728) rfl (by decide) rfl (by decide) (by omega) (by omega) ?_
      refine zx_iret g_X6_history rfl (.inl rfl) ?_
      have hs0 := hs (by omega)
      refine mP_0 (cdv0 (by omega) (by omega)) ⟨?_, rfl⟩
      rw [zU_cell' (by decide)]
      exact hs0.2.2.2.2.1 _ ⟨by omega, by omega⟩
    · refine zx_go (pc1 := 33) (l1 := [some (zr 32), some (zi z), some (zl x), none, some (zl y), none, some (zi (plo c z x y))]) (st1 := [zi 2, zr 32]) (w1 := wr c R) g_X6_history 2 _ _ _ _ rfl ?_
      refine gx_cvG (As := [zi 2]) (rest := []) g_X6_history rfl g_X6_refuses rfl rfl (Nat.le_of_ble_eq_true rfl) (Nat.le_of_ble_eq_true rfl) rfl (by decide) (m_ref (v := 1) (by decide) (bI_t (by decide))) ?_
      refine zx_ifF g_X6_history rfl (by decide) (show ¬ ((1 : Int) = 0) by decide) ?_
      refine zx_go (pc1 := 50) (l1 := [some (zr 32), some (zi z), some (zl x), none, some (zl y), none, some (zi (plo c z x y))]) (st1 := [zi 0]) (w1 := wr c (zU R 32 0 2)) g_X6_history 2 _ _ _ _ rfl ?_
      refine zx_iret g_X6_history rfl (.inl rfl) ?_
      exact mP_2 (cdv2 (by omega) (by omega))
  · refine zx_go (pc1 := 33) (l1 := [some (zr 32), some (zi z), some (zl x), none, some (zl y), none, some (zi (plo c z x y))]) (st1 := [zi 1, zr 32]) (w1 := wr c R) g_X6_history 2 _ _ _ _ rfl ?_
    refine gx_cvG (As := [zi 1]) (rest := []) g_X6_history rfl g_X6_refuses rfl rfl (Nat.le_of_ble_eq_true rfl) (Nat.le_of_ble_eq_true rfl) rfl (by decide) (m_ref (v := 1) (by decide) (bI_t (by decide))) ?_
    refine zx_ifF g_X6_history rfl (by decide) (show ¬ ((1 : Int) = 0) by decide) ?_
    refine zx_go (pc1 := 50) (l1 := [some (zr 32), some (zi z), some (zl x), none, some (zl y), none, some (zi (plo c z x y))]) (st1 := [zi 0]) (w1 := wr c (zU R 32 0 1)) g_X6_history 2 _ _ _ _ rfl ?_
    refine zx_iret g_X6_history rfl (.inl rfl) ?_
    exact mP_1 (cdv1 (by omega))

set_option maxHeartbeats 1000000 in
theorem m_count {c : zC} {R : zI} {D : zI} {w : Int} (hD : DOK c D) (hm : MDn c D R) (h14 : R 32 14 = 0 ∨ R 32 14 = 1) (wr1 : inR w) : MZ m_X6_count [zr 32, zi w] (wr c R) (mP (cdv (¬ (0 ≤ w ∧ w ≤ 5)) False) (fun b R2 => b = (if w = 0 then D 10 0 else if w = 1 then D 10 2 else if w = 2 then cnt (fun p => D 9 p ≠ 0) (cS c) else if R 32 14 = 0 then 0 else if w = 3 then R 32 22 else if w = 4 then R 32 23 else R 32 24) ∧ R2 = ac0 R) c R) := by
  refine MZ.of g_X6_count ?_
  show ZX m_X6_count 0 [some (zr 32), some (zi w), none, none] [] (wr c R) _
  have hg := hD.1
  have g3_v := hg.S
  have n16 := hD.2.1
  have p40 := hD.2.2.1
  have e8 := hm.2.2.2.2.2.1
  have e10_v := hm.2.2.2.2.2.2
  refine zx_go (pc1 := 2) (l1 := [some (zr 32), some (zi w), none, none]) (st1 := [zi w, zr 32]) (w1 := wr c R) g_X6_count 2 _ _ _ _ rfl ?_
  refine zx_i2l g_X6_count rfl (by omega) ?_
  refine zx_go (pc1 := 7) (l1 := [some (zr 32), some (zi w), none, none]) (st1 := [zl 5, zl 0, zl w, zr 32]) (w1 := wr c R) g_X6_count 2 _ _ _ _ rfl ?_
  refine zx_csF (As := [zl w, zl 0, zl 5]) (rest := [zr 32]) g_X6_count rfl g_X6_isIn rfl rfl (Nat.le_of_ble_eq_true rfl) (Nat.le_of_ble_eq_true rfl) (m_isIn (by omega) (by omega) (by omega)) ?_
  refine zx_ifeq g_X6_count rfl (fun (h10 : ¬ (0 ≤ w ∧ w ≤ 5)) => ?_) (fun (h10 : (0 ≤ w ∧ w ≤ 5)) => ?_)
  · refine zx_go (pc1 := 18) (l1 := [some (zr 32), some (zi w), none, none]) (st1 := [zi 1, zr 32]) (w1 := wr c R) g_X6_count 1 _ _ _ _ rfl ?_
    refine gx_cvG (As := [zi 1]) (rest := []) g_X6_count rfl g_X6_refuses rfl rfl (Nat.le_of_ble_eq_true rfl) (Nat.le_of_ble_eq_true rfl) rfl (by decide) (m_ref (v := 1) (by decide) (bI_t (by decide))) ?_
    refine zx_ifF g_X6_count rfl (by decide) (show ¬ ((1 : Int) = 0) by decide) ?_
    refine zx_go (pc1 := 25) (l1 := [some (zr 32), some (zi w), none, none]) (st1 := [zi 0]) (w1 := wr c (zU R 32 0 1)) g_X6_count 1 _ _ _ _ rfl ?_
    refine zx_iret g_X6_count rfl (.inl rfl) ?_
    exact mP_1 (cdv1 (by omega))
  · refine zx_go (pc1 := 18) (l1 := [some (zr 32), some (zi w), none, none]) (st1 := [zi 0, zr 32]) (w1 := wr c R) g_X6_count 2 _ _ _ _ rfl ?_
    refine gx_cvG (As := [zi 0]) (rest := []) g_X6_count rfl g_X6_refuses rfl rfl (Nat.le_of_ble_eq_true rfl) (Nat.le_of_ble_eq_true rfl) rfl (by decide) (m_ref (v := 0) (by decide) (bI_f (by decide))) ?_
    refine zx_ifT g_X6_count rfl (by decide) (show ((0 : Int) = 0) by decide) ?_
    generalize hR9 : zU R 32 0 0 = R9
    have f9_v : ∀ a, a ≠ 32 → R9 a = R a := fun a ha => by rw [← hR9, zU_cell ha]
    have f9j : ∀ j, j ≠ 0 → R9 32 j = R 32 j := fun j hj => by rw [← hR9, zU_at hj]
    have hm9 : MDn c D R9 := hm.of2 (fun a _ hb_v => f9_v a hb_v) (f9j 8 (by decide)) (f9j 10 (by decide))
    have e89 : R9 32 8 = D 10 0 := hm9.2.2.2.2.2.1
    have e109_v : R9 32 10 = D 10 2 := hm9.2.2.2.2.2.2
    have e14_v := f9j 14 (by decide)
    have e22_v := f9j 22 (by decide)
    have e23_v := f9j 23 (by decide)
    have e24_v := f9j 24 (by decide)
    refine zx_go (pc1 := 28) (l1 := [some (zr 32), some (zi w), none, none]) (st1 := [zi 2, zi w]) (w1 := wr c R9) g_X6_count 2 _ _ _ _ rfl ?_
    refine zx_cmp g_X6_count rfl (by omega) (by decide) (fun (h28 : 2 ≤ w) => ?_) (fun (h28 : ¬ (2 ≤ w)) => ?_)
    · refine zx_go (pc1 := 49) (l1 := [some (zr 32), some (zi w), none, none]) (st1 := [zi 2, zi w]) (w1 := wr c R9) g_X6_count 2 _ _ _ _ rfl ?_
      refine zx_cmp g_X6_count rfl (by omega) (by decide) (fun (h49 : w ≠ 2) => ?_) (fun (h49 : ¬ (w ≠ 2)) => ?_)
      · refine zx_go (pc1 := 93) (l1 := [some (zr 32), some (zi w), none, none]) (st1 := [zi (R9 32 14)]) (w1 := wr c R9) g_X6_count 2 _ _ _ _ rfl ?_
        refine zx_if g_X6_count rfl (by omega) (fun (h93 : (R9 32 14) ≠ 0) => ?_) (fun (h93 : ¬ (R9 32 14) ≠ 0) => ?_)
        · refine zx_go (pc1 := 102) (l1 := [some (zr 32), some (zi w), none, none]) (st1 := [zi 3, zi w]) (w1 := wr c R9) g_X6_count 2 _ _ _ _ rfl ?_
          refine zx_cmp g_X6_count rfl (by omega) (by decide) (fun (h102 : w ≠ 3) => ?_) (fun (h102 : ¬ (w ≠ 3)) => ?_)
          · refine zx_go (pc1 := 114) (l1 := [some (zr 32), some (zi w), none, none]) (st1 := [zi 4, zi w]) (w1 := wr c R9) g_X6_count 2 _ _ _ _ rfl ?_
            refine zx_cmp g_X6_count rfl (by omega) (by decide) (fun (h114 : w ≠ 4) => ?_) (fun (h114 : ¬ (w ≠ 4)) => ?_)
            · refine zx_go (pc1 := 128) (l1 := [some (zr 32), some (zi w), none, none]) (st1 := [zi (R9 32 24)]) (w1 := wr c R9) g_X6_count 2 _ _ _ _ rfl ?_
              refine zx_iret g_X6_count rfl (.inl rfl) ?_
              refine mP_0 (cdv0 (by omega) id) ⟨?_, hR9.symm⟩
              omega
            · refine zx_go (pc1 := 128) (l1 := [some (zr 32), some (zi w), none, none]) (st1 := [zi (R9 32 23)]) (w1 := wr c R9) g_X6_count 3 _ _ _ _ rfl ?_
              refine zx_iret g_X6_count rfl (.inl rfl) ?_
              refine mP_0 (cdv0 (by omega) id) ⟨?_, hR9.symm⟩
              omega
          · refine zx_go (pc1 := 128) (l1 := [some (zr 32), some (zi w), none, none]) (st1 := [zi (R9 32 22)]) (w1 := wr c R9) g_X6_count 3 _ _ _ _ rfl ?_
            refine zx_iret g_X6_count rfl (.inl rfl) ?_
            refine mP_0 (cdv0 (by omega) id) ⟨?_, hR9.symm⟩
            omega
        · refine zx_go (pc1 := 128) (l1 := [some (zr 32), some (zi w), none, none]) (st1 := [zi 0]) (w1 := wr c R9) g_X6_count 2 _ _ _ _ rfl ?_
          refine zx_iret g_X6_count rfl (.inl rfl) ?_
          refine mP_0 (cdv0 (by omega) id) ⟨?_, hR9.symm⟩
          omega
      · refine zx_go (pc1 := 56) (l1 := [some (zr 32), some (zi w), some (zi 0), some (zi 0)]) (st1 := []) (w1 := wr c R9) g_X6_count 4 _ _ _ _ rfl ?_
        have lp56 : ∀ (it : Nat) (m : Int) (i : Int), (it : Int) = (cS c : Int) - i → (0 ≤ i ∧ i ≤ (cS c : Int) ∧ m = cnt (fun p => D 9 p ≠ 0) i.toNat) → ZX m_X6_count 56 [some (zr 32), some (zi w), some (zi m), some (zi i)] [] (wr c R9) (mP (cdv (¬ (0 ≤ w ∧ w ≤ 5)) False) (fun b R2 => b = (if w = 0 then D 10 0 else if w = 1 then D 10 2 else if w = 2 then cnt (fun p => D 9 p ≠ 0) (cS c) else if R 32 14 = 0 then 0 else if w = 3 then R 32 22 else if w = 4 then R 32 23 else R 32 24) ∧ R2 = ac0 R) c R) := by
          refine fun it => Nat.strongRecOn it (fun it ih56 => ?_)
          intro m i hn56 hi56
          obtain ⟨i0_v, i1_v, em⟩ := hi56
          have cR0 := cnt_R (fun p => D 9 p ≠ 0) i.toNat
          refine zx_go (pc1 := 58) (l1 := [some (zr 32), some (zi w), some (zi m), some (zi i)]) (st1 := [zr 32, zi i]) (w1 := wr c R9) g_X6_count 2 _ _ _ _ rfl ?_
          refine zx_cvF (As := []) (rest := [zi i]) g_X6_count rfl g_X6_all rfl rfl (Nat.le_of_ble_eq_true rfl) (Nat.le_of_ble_eq_true rfl) rfl (by decide) (m_all hg) ?_
          refine zx_cmp g_X6_count rfl (by omega) (by omega) (fun (h61 : (cS c : Int) ≤ i) => ?_) (fun (h61 : ¬ ((cS c : Int) ≤ i)) => ?_)
          · refine zx_go (pc1 := 88) (l1 := [some (zr 32), some (zi w), some (zi m), some (zi i)]) (st1 := [zi m]) (w1 := wr c R9) g_X6_count 1 _ _ _ _ rfl ?_
            refine zx_iret g_X6_count rfl (.inl rfl) ?_
            refine mP_0 (cdv0 (by omega) id) ⟨?_, hR9.symm⟩
            rw [if_neg (by omega), if_neg (by omega), if_pos (by omega), em, show i.toNat = cS c by omega]
          · have hi_v : pls c i := ⟨by omega, by omega⟩
            have e36 : R9 36 i = D 9 i := hm9.2.1 i hi_v
            have b9 := hD.2.2.2.2.2.1 i
            have cg := cnt_go (P := fun p => D 9 p ≠ 0) i0_v
            refine zx_go (pc1 := 70) (l1 := [some (zr 32), some (zi w), some (zi m), some (zi i)]) (st1 := [zi i, zr 36, zi m]) (w1 := wr c R9) g_X6_count 4 _ _ _ _ rfl ?_
            refine gz_bald g_X6_count rfl (n := 1728) rfl (by decide) rfl (by decide) (by omega) (by omega) ?_
            refine zx_if g_X6_count rfl (by omega) (fun (h71 : (R9 36 i) = 0) => ?_) (fun (h71 : ¬ (R9 36 i) = 0) => ?_)
            · refine zx_go (pc1 := 56) (l1 := [some (zr 32), some (zi w), some (zi (m + 0)), some (zi (i + 1))]) (st1 := []) (w1 := wr c R9) g_X6_count 5 _ _ _ _ rfl ?_
              refine ih56 (Int.toNat ((cS c : Int) - (i + 1))) (by omega) (m + 0) (i + 1) (by omega) ?_
              refine ⟨by omega, by omega, ?_⟩
              rw [cg, em]
              rw [bI_f (fun z => z (by rw [← e36]; exact h71))]
            · refine zx_go (pc1 := 56) (l1 := [some (zr 32), some (zi w), some (zi (m + 1)), some (zi (i + 1))]) (st1 := []) (w1 := wr c R9) g_X6_count 6 _ _ _ _ rfl ?_
              refine ih56 (Int.toNat ((cS c : Int) - (i + 1))) (by omega) (m + 1) (i + 1) (by omega) ?_
              refine ⟨by omega, by omega, ?_⟩
              rw [cg, em]
              rw [bI_t (show D 9 i ≠ 0 by rw [← e36]; exact h71)]
        refine lp56 (Int.toNat ((cS c : Int) - 0)) 0 0 (by omega) ?_
        exact ⟨by omega, by omega, rfl⟩
    · refine zx_go (pc1 := 32) (l1 := [some (zr 32), some (zi w), none, none]) (st1 := [zi w]) (w1 := wr c R9) g_X6_count 1 _ _ _ _ rfl ?_
      refine zx_if g_X6_count rfl (by omega) (fun (h32 : w ≠ 0) => ?_) (fun (h32 : ¬ w ≠ 0) => ?_)
      · refine zx_go (pc1 := 46) (l1 := [some (zr 32), some (zi w), none, none]) (st1 := [zi (R9 32 10)]) (w1 := wr c R9) g_X6_count 2 _ _ _ _ rfl ?_
        refine zx_iret g_X6_count rfl (.inl rfl) ?_
        refine mP_0 (cdv0 (by omega) id) ⟨?_, hR9.symm⟩
        omega
      · refine zx_go (pc1 := 46) (l1 := [some (zr 32), some (zi w), none, none]) (st1 := [zi (R9 32 8)]) (w1 := wr c R9) g_X6_count 3 _ _ _ _ rfl ?_
        refine zx_iret g_X6_count rfl (.inl rfl) ?_
        refine mP_0 (cdv0 (by omega) id) ⟨?_, hR9.symm⟩
        omega

