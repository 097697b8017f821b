/-! ===== contracts of the reference (1): small methods ===== -/
section ZXG
variable {mid pc x y : Nat} {k : Int32} {M M2 : pmM} {l : zL} {st r rest As : List zV} {c : zC} {R : zI} {Q : zO → zW → Prop} {idx a : Nat}
theorem gx_cvG {v0 : Int} {R0 : zI} (hG : pgG mid = some M) (hc : pmCode M pc = some (.invokevirtual idx, x, y, k)) (hG2 : pgG x = some M2) (hst : st = As.reverse ++ .inr (.inr a) :: rest) (hy : As.length + 1 = y) (hs : pmSum (rest.map zc) ≤ 8) (he : (zEnt (.inr (.inr a) :: As)).length ≤ M2.2.1) (hh : hd0 c.2.2.1 c.2.2.2.1 a = .inr M2.2.2.2) (ha : 1 ≤ a ∧ a ≤ 55) (hM : MZ x (.inr (.inr a) :: As) (wr c R) (gR (fun v R1 => v = v0 ∧ R1 = R0) c)) (K : ZX mid (pc + 3) l (.inl v0 :: rest) (wr c R0) Q) : ZX mid pc l st (wr c R) Q :=
  gx_cvR hG hc hG2 hst hy hs he hh ha hM (fun v R1 h => by rw [h.1, h.2]; exact K)
end ZXG
def plo (c : zC) (z x y : Int) : Int := if 0 ≤ z ∧ z < cLa c ∧ 0 ≤ x ∧ x < cW c ∧ 0 ≤ y ∧ y < cH c then pl c z x y else -1
def apt (a b : Int) : Int := if a < b then b - a else a - b
def mpp (R : zI) (k : Int) : Int := if R 41 k = -1 then -1 else R 39 (4 * k + R 41 k)
/-- the reference holds the same input -/
def MDn (c : zC) (D R : zI) : Prop := (∀ z, 0 ≤ z → z < 3 → R 33 z = D 3 z ∧ R 34 z = D 4 z ∧ R 35 z = D 5 z) ∧ (∀ p, pls c p → R 36 p = D 9 p) ∧ (∀ n, 0 ≤ n → n < 16 → R 37 n = bI (shd D n)) ∧ (∀ k, 0 ≤ k → k < 40 → R 38 k = D 11 k ∧ R 40 k = D 13 k) ∧ (∀ i, 0 ≤ i → i < 160 → R 39 i = D 14 i) ∧ R 32 8 = D 10 0 ∧ R 32 10 = D 10 2
theorem MDn.of {c : zC} {D R R1 : zI} (h : MDn c D R) (hf : ∀ a : Nat, 32 ≤ a → a ≤ 40 → R1 a = R a) : MDn c D R1 := by
  unfold MDn at *
  rw [hf 32 (by decide) (by decide), hf 33 (by decide) (by decide), hf 34 (by decide) (by decide), hf 35 (by decide) (by decide), hf 36 (by decide) (by decide), hf 37 (by decide) (by decide), hf 38 (by decide) (by decide), hf 39 (by decide) (by decide), hf 40 (by decide) (by decide)]
  exact h
theorem rch_1 {c : zC} {D : zI} {a b p v : Int} (h : shd D a ∨ shd D b) (e : v = D 3 (lay c p)) : v + 1 = rch c D a b p := by
  unfold rch
  rw [bI_t h, e]
theorem rch_0 {c : zC} {D : zI} {a b p v : Int} (h : ¬ (shd D a ∨ shd D b)) (e : v = D 3 (lay c p)) : v + 0 = rch c D a b p := by
  unfold rch
  rw [bI_f h, e]
theorem rch_R {c : zC} {D : zI} (hD : DOK c D) {a b p : Int} (hp : pls c p) : 0 ≤ rch c D a b p ∧ rch c D a b p ≤ 3 := by
  have gp := place_geo hD.1 hp.1 hp.2
  have g2 := hD.1
  unfold Geo at g2
  have r1_v := hD.2.2.2.2.1 (lay c p) (by omega) (by omega)
  have b1 := bI_01 (shd D a ∨ shd D b)
  unfold rch
  omega
theorem clash_iff {c : zC} {D : zI} {a b p q s : Int} (hs : s = rch c D a b p) : clash c D a p b q ↔ (a ≠ b ∧ lay c p = lay c q ∧ apt (xo c p) (xo c q) ≤ s ∧ apt (yo c p) (yo c q) ≤ s) := by
  unfold clash nr apt
  rw [← hs]
  omega

set_option maxHeartbeats 1000000 in
theorem m_thrown {c : zC} {R : zI}  : MZ m_X6_thrown [zr 32] (wr c R) (qF (zi (R 32 0)) (wr c R)) := by
  refine MZ.of g_X6_thrown ?_
  show ZX m_X6_thrown 0 [some (zr 32)] [] (wr c R) _
  refine zx_go (pc1 := 4) (l1 := [some (zr 32)]) (st1 := [zi (R 32 0)]) (w1 := wr c R) g_X6_thrown 2 _ _ _ _ rfl ?_
  refine zx_iret g_X6_thrown rfl (.inl rfl) ?_
  exact qF_i (by rfl)

set_option maxHeartbeats 1000000 in
theorem m_isIn {c : zC} {R : zI} {v lo hi : Int} (h0 : inR64 v) (h1 : inR64 lo) (h2 : inR64 hi) : MZ m_X6_isIn [zl v, zl lo, zl hi] (wr c R) (qF (zi (bI (lo ≤ v ∧ v ≤ hi))) (wr c R)) := by
  refine MZ.of g_X6_isIn ?_
  show ZX m_X6_isIn 0 [some (zl v), none, some (zl lo), none, some (zl hi), none] [] (wr c R) _
  refine zx_go (pc1 := 2) (l1 := [some (zl v), none, some (zl lo), none, some (zl hi), none]) (st1 := [zl lo, zl v]) (w1 := wr c R) g_X6_isIn 2 _ _ _ _ rfl ?_
  refine zx_lcif g_X6_isIn rfl rfl (by omega) (by omega) (fun (h2 : v < lo) => ?_) (fun (h2 : ¬ (v < lo)) => ?_)
  · refine zx_go (pc1 := 18) (l1 := [some (zl v), none, some (zl lo), none, some (zl hi), none]) (st1 := [zi 0]) (w1 := wr c R) g_X6_isIn 1 _ _ _ _ rfl ?_
    refine zx_iret g_X6_isIn rfl (.inr (.inl rfl)) ?_
    exact qF_f (by omega)
  · refine zx_go (pc1 := 9) (l1 := [some (zl v), none, some (zl lo), none, some (zl hi), none]) (st1 := [zl hi, zl v]) (w1 := wr c R) g_X6_isIn 2 _ _ _ _ rfl ?_
    refine zx_lcif g_X6_isIn rfl rfl (by omega) (by omega) (fun (h9 : hi < v) => ?_) (fun (h9 : ¬ (hi < v)) => ?_)
    · refine zx_go (pc1 := 18) (l1 := [some (zl v), none, some (zl lo), none, some (zl hi), none]) (st1 := [zi 0]) (w1 := wr c R) g_X6_isIn 1 _ _ _ _ rfl ?_
      refine zx_iret g_X6_isIn rfl (.inr (.inl rfl)) ?_
      exact qF_f (by omega)
    · refine zx_go (pc1 := 18) (l1 := [some (zl v), none, some (zl lo), none, some (zl hi), none]) (st1 := [zi 1]) (w1 := wr c R) g_X6_isIn 2 _ _ _ _ rfl ?_
      refine zx_iret g_X6_isIn rfl (.inr (.inr rfl)) ?_
      exact qF_t (by omega)

set_option maxHeartbeats 1000000 in
theorem m_refuses {c : zC} {R : zI} {k : Int} (hk : inR k) : MZ m_X6_refuses [zr 32, zi k] (wr c R) (gR (fun v R1 => v = bI (0 < k) ∧ R1 = zU R 32 0 k) c) := by
  refine MZ.of g_X6_refuses ?_
  show ZX m_X6_refuses 0 [some (zr 32), some (zi k)] [] (wr c R) _
  refine zx_go (pc1 := 2) (l1 := [some (zr 32), some (zi k)]) (st1 := [zi k, zr 32]) (w1 := wr c R) g_X6_refuses 2 _ _ _ _ rfl ?_
  refine gz_put 0 g_X6_refuses rfl rfl rfl (by decide) rfl (by refine ⟨?_, ?_, ?_, ?_, ?_⟩ <;> simp) ?_
  refine zx_go (pc1 := 6) (l1 := [some (zr 32), some (zi k)]) (st1 := [zi k]) (w1 := wr c (zU R 32 0 k)) g_X6_refuses 1 _ _ _ _ rfl ?_
  refine zx_if g_X6_refuses rfl (by omega) (fun (h6 : k ≤ 0) => ?_) (fun (h6 : ¬ k ≤ 0) => ?_)
  · refine zx_go (pc1 := 14) (l1 := [some (zr 32), some (zi k)]) (st1 := [zi 0]) (w1 := wr c (zU R 32 0 k)) g_X6_refuses 1 _ _ _ _ rfl ?_
    refine zx_iret g_X6_refuses rfl (.inr (.inl rfl)) ?_
    exact gR_i ⟨(bI_f (by omega)).symm, rfl⟩
  · refine zx_go (pc1 := 14) (l1 := [some (zr 32), some (zi k)]) (st1 := [zi 1]) (w1 := wr c (zU R 32 0 k)) g_X6_refuses 2 _ _ _ _ rfl ?_
    refine zx_iret g_X6_refuses rfl (.inr (.inr rfl)) ?_
    exact gR_i ⟨(bI_t (by omega)).symm, rfl⟩

theorem m_ref {c : zC} {R : zI} {k v : Int} (hk : inR k) (hv : bI (0 < k) = v) : MZ m_X6_refuses [zr 32, zi k] (wr c R) (gR (fun u R1 => u = v ∧ R1 = zU R 32 0 k) c) := by
  rw [← hv]
  exact m_refuses hk

set_option maxHeartbeats 1000000 in
theorem m_all {c : zC} {R : zI} (hg : Geo c) : MZ m_X6_all [zr 32] (wr c R) (qF (zi (cS c : Int)) (wr c R)) := by
  refine MZ.of g_X6_all ?_
  show ZX m_X6_all 0 [some (zr 32)] [] (wr c R) _
  refine zx_go (pc1 := 14) (l1 := [some (zr 32)]) (st1 := [zi (((cLa c) * (cW c)) * (cH c))]) (w1 := wr c R) g_X6_all 8 _ _ _ _ rfl ?_
  refine zx_iret g_X6_all rfl (.inl rfl) ?_
  refine qF_i ?_
  rw [Int.mul_assoc]
  exact hg.2.2.2.2.2.2.symm

set_option maxHeartbeats 1000000 in
theorem m_layerOf {c : zC} {R : zI} (hg : Geo c) {p : Int} (h0 : 0 ≤ p) (h1 : p < (cS c : Int)) : MZ m_X6_layerOf [zr 32, zi p] (wr c R) (qF (zi (lay c p)) (wr c R)) := by
  refine MZ.of g_X6_layerOf ?_
  show ZX m_X6_layerOf 0 [some (zr 32), some (zi p)] [] (wr c R) _
  have g2 := hg
  unfold Geo at g2
  have g3_v := hg.S
  refine zx_go (pc1 := 10) (l1 := [some (zr 32), some (zi p)]) (st1 := [zi ((cW c) * (cH c)), zi p]) (w1 := wr c R) g_X6_layerOf 6 _ _ _ _ rfl ?_
  refine zx_idiv g_X6_layerOf rfl (by omega) (by omega) (by omega) (by omega) ?_
  refine zx_iret g_X6_layerOf rfl (.inl rfl) ?_
  exact qF_i (by rfl)

set_option maxHeartbeats 1000000 in
theorem m_xOf {c : zC} {R : zI} (hg : Geo c) {p : Int} (h0 : 0 ≤ p) (h1 : p < (cS c : Int)) : MZ m_X6_xOf [zr 32, zi p] (wr c R) (qF (zi (xo c p)) (wr c R)) := by
  refine MZ.of g_X6_xOf ?_
  show ZX m_X6_xOf 0 [some (zr 32), some (zi p)] [] (wr c R) _
  have g2 := hg
  unfold Geo at g2
  have g3_v := hg.S
  refine zx_go (pc1 := 5) (l1 := [some (zr 32), some (zi p)]) (st1 := [zi (cW c), zi p]) (w1 := wr c R) g_X6_xOf 3 _ _ _ _ rfl ?_
  refine zx_irem g_X6_xOf rfl (by omega) (by omega) (by omega) (by omega) ?_
  refine zx_iret g_X6_xOf rfl (.inl rfl) ?_
  exact qF_i (by rfl)

set_option maxHeartbeats 1000000 in
theorem m_yOf {c : zC} {R : zI} (hg : Geo c) {p : Int} (h0 : 0 ≤ p) (h1 : p < (cS c : Int)) : MZ m_X6_yOf [zr 32, zi p] (wr c R) (qF (zi (yo c p)) (wr c R)) := by
  refine MZ.of g_X6_yOf ?_
  show ZX m_X6_yOf 0 [some (zr 32), some (zi p)] [] (wr c R) _
  have g2 := hg
  unfold Geo at g2
  have g3_v := hg.S
  refine zx_go (pc1 := 5) (l1 := [some (zr 32), some (zi p)]) (st1 := [zi (cW c), zi p]) (w1 := wr c R) g_X6_yOf 3 _ _ _ _ rfl ?_
  refine zx_idiv g_X6_yOf rfl (by omega) (by omega) (by omega) (by omega) ?_
  refine zx_go (pc1 := 10) (l1 := [some (zr 32), some (zi p)]) (st1 := [zi (cH c), zi (p / (cW c))]) (w1 := wr c R) g_X6_yOf 2 _ _ _ _ rfl ?_
  refine zx_irem g_X6_yOf rfl (Int.ediv_nonneg h0 (by omega)) (by omega) (by have := Int.ediv_le_self (cW c) h0; omega) (by omega) ?_
  refine zx_iret g_X6_yOf rfl (.inl rfl) ?_
  exact qF_i (by rfl)

set_option maxHeartbeats 1000000 in
theorem m_placeOf {c : zC} {R : zI} (hg : Geo c) {z x y : Int} (hz : inR z) (hx : inR64 x) (hy : inR64 y) : MZ m_X6_placeOf [zr 32, zi z, zl x, zl y] (wr c R) (qF (zi (plo c z x y)) (wr c R)) := by
  refine MZ.of g_X6_placeOf ?_
  show ZX m_X6_placeOf 0 [some (zr 32), some (zi z), some (zl x), none, some (zl y), none, none] [] (wr c R) _
  have g2 := hg
  unfold Geo at g2
  have g3_v := hg.S
  refine zx_go (pc1 := 1) (l1 := [some (zr 32), some (zi z), some (zl x), none, some (zl y), none, none]) (st1 := [zi z]) (w1 := wr c R) g_X6_placeOf 1 _ _ _ _ rfl ?_
  refine zx_i2l g_X6_placeOf rfl (by omega) ?_
  refine zx_go (pc1 := 9) (l1 := [some (zr 32), some (zi z), some (zl x), none, some (zl y), none, none]) (st1 := [zi ((cLa c) - 1), zl 0, zl z]) (w1 := wr c R) g_X6_placeOf 5 _ _ _ _ rfl ?_
  refine zx_i2l g_X6_placeOf rfl (by omega) ?_
  refine zx_csF (As := [zl z, zl 0, zl ((cLa c) - 1)]) (rest := []) g_X6_placeOf rfl g_X6_isIn rfl rfl (Nat.le_of_ble_eq_true rfl) (Nat.le_of_ble_eq_true rfl) (m_isIn (by omega) (by omega) (by omega)) ?_
  refine zx_ifeq g_X6_placeOf rfl (fun (h13 : ¬ (0 ≤ z ∧ z ≤ ((cLa c) - 1))) => ?_) (fun (h13 : (0 ≤ z ∧ z ≤ ((cLa c) - 1))) => ?_)
  · refine zx_go (pc1 := 56) (l1 := [some (zr 32), some (zi z), some (zl x), none, some (zl y), none, some (zi 0)]) (st1 := [zi 0]) (w1 := wr c R) g_X6_placeOf 3 _ _ _ _ rfl ?_
    refine zx_ifT g_X6_placeOf rfl (by decide) (show ((0 : Int) = 0) by decide) ?_
    refine zx_go (pc1 := 81) (l1 := [some (zr 32), some (zi z), some (zl x), none, some (zl y), none, some (zi 0)]) (st1 := [zi (-1)]) (w1 := wr c R) g_X6_placeOf 1 _ _ _ _ rfl ?_
    refine zx_iret g_X6_placeOf rfl (.inl rfl) ?_
    refine qF_i ?_
    unfold plo
    rw [if_neg (by omega)]
  · refine zx_go (pc1 := 24) (l1 := [some (zr 32), some (zi z), some (zl x), none, some (zl y), none, none]) (st1 := [zi ((cW c) - 1), zl 0, zl x]) (w1 := wr c R) g_X6_placeOf 6 _ _ _ _ rfl ?_
    refine zx_i2l g_X6_placeOf rfl (by omega) ?_
    refine zx_csF (As := [zl x, zl 0, zl ((cW c) - 1)]) (rest := []) g_X6_placeOf rfl g_X6_isIn rfl rfl (Nat.le_of_ble_eq_true rfl) (Nat.le_of_ble_eq_true rfl) (m_isIn (by omega) (by omega) (by omega)) ?_
    refine zx_ifeq g_X6_placeOf rfl (fun (h28 : ¬ (0 ≤ x ∧ x ≤ ((cW c) - 1))) => ?_) (fun (h28 : (0 ≤ x ∧ x ≤ ((cW c) - 1))) => ?_)
    · refine zx_go (pc1 := 56) (l1 := [some (zr 32), some (zi z), some (zl x), none, some (zl y), none, some (zi 0)]) (st1 := [zi 0]) (w1 := wr c R) g_X6_placeOf 3 _ _ _ _ rfl ?_
      refine zx_ifT g_X6_placeOf rfl (by decide) (show ((0 : Int) = 0) by decide) ?_
      refine zx_go (pc1 := 81) (l1 := [some (zr 32), some (zi z), some (zl x), none, some (zl y), none, some (zi 0)]) (st1 := [zi (-1)]) (w1 := wr c R) g_X6_placeOf 1 _ _ _ _ rfl ?_
      refine zx_iret g_X6_placeOf rfl (.inl rfl) ?_
      refine qF_i ?_
      unfold plo
      rw [if_neg (by omega)]
    · refine zx_go (pc1 := 40) (l1 := [some (zr 32), some (zi z), some (zl x), none, some (zl y), none, none]) (st1 := [zi ((cH c) - 1), zl 0, zl y]) (w1 := wr c R) g_X6_placeOf 6 _ _ _ _ rfl ?_
      refine zx_i2l g_X6_placeOf rfl (by omega) ?_
      refine zx_csF (As := [zl y, zl 0, zl ((cH c) - 1)]) (rest := []) g_X6_placeOf rfl g_X6_isIn rfl rfl (Nat.le_of_ble_eq_true rfl) (Nat.le_of_ble_eq_true rfl) (m_isIn (by omega) (by omega) (by omega)) ?_
      refine zx_ifeq g_X6_placeOf rfl (fun (h44 : ¬ (0 ≤ y ∧ y ≤ ((cH c) - 1))) => ?_) (fun (h44 : (0 ≤ y ∧ y ≤ ((cH c) - 1))) => ?_)
      · refine zx_go (pc1 := 56) (l1 := [some (zr 32), some (zi z), some (zl x), none, some (zl y), none, some (zi 0)]) (st1 := [zi 0]) (w1 := wr c R) g_X6_placeOf 3 _ _ _ _ rfl ?_
        refine zx_ifT g_X6_placeOf rfl (by decide) (show ((0 : Int) = 0) by decide) ?_
        refine zx_go (pc1 := 81) (l1 := [some (zr 32), some (zi z), some (zl x), none, some (zl y), none, some (zi 0)]) (st1 := [zi (-1)]) (w1 := wr c R) g_X6_placeOf 1 _ _ _ _ rfl ?_
        refine zx_iret g_X6_placeOf rfl (.inl rfl) ?_
        refine qF_i ?_
        unfold plo
        rw [if_neg (by omega)]
      · refine zx_go (pc1 := 56) (l1 := [some (zr 32), some (zi z), some (zl x), none, some (zl y), none, some (zi 1)]) (st1 := [zi 1]) (w1 := wr c R) g_X6_placeOf 4 _ _ _ _ rfl ?_
        refine zx_ifF g_X6_placeOf rfl (by decide) (show ¬ ((1 : Int) = 0) by decide) ?_
        refine zx_go (pc1 := 81) (l1 := [some (zr 32), some (zi z), some (zl x), none, some (zl y), none, some (zi 1)]) (st1 := [zi ((((z * (cH c)) + y) * (cW c)) + x)]) (w1 := wr c R) g_X6_placeOf 14 _ _ _ _ rfl ?_
        refine zx_iret g_X6_placeOf rfl (.inl rfl) ?_
        refine qF_i ?_
        unfold plo pl
        rw [if_pos (by omega), Int.add_mul, Int.mul_assoc, Int.mul_comm (cH c)]

set_option maxHeartbeats 1000000 in
theorem m_isNet {c : zC} {R : zI} {n : Int} (h0 : inR n) (h1 : inR (R 32 8)) : MZ m_X6_isNet [zr 32, zi n] (wr c R) (qF (zi (bI (0 ≤ n ∧ n < R 32 8))) (wr c R)) := by
  refine MZ.of g_X6_isNet ?_
  show ZX m_X6_isNet 0 [some (zr 32), some (zi n)] [] (wr c R) _
  refine zx_go (pc1 := 1) (l1 := [some (zr 32), some (zi n)]) (st1 := [zi n]) (w1 := wr c R) g_X6_isNet 1 _ _ _ _ rfl ?_
  refine zx_if g_X6_isNet rfl (by omega) (fun (h1 : n < 0) => ?_) (fun (h1 : ¬ n < 0) => ?_)
  · refine zx_go (pc1 := 17) (l1 := [some (zr 32), some (zi n)]) (st1 := [zi 0]) (w1 := wr c R) g_X6_isNet 1 _ _ _ _ rfl ?_
    refine zx_iret g_X6_isNet rfl (.inr (.inl rfl)) ?_
    exact qF_f (by omega)
  · refine zx_go (pc1 := 9) (l1 := [some (zr 32), some (zi n)]) (st1 := [zi (R 32 8), zi n]) (w1 := wr c R) g_X6_isNet 3 _ _ _ _ rfl ?_
    refine zx_cmp g_X6_isNet rfl (by omega) (by omega) (fun (h9 : (R 32 8) ≤ n) => ?_) (fun (h9 : ¬ ((R 32 8) ≤ n)) => ?_)
    · refine zx_go (pc1 := 17) (l1 := [some (zr 32), some (zi n)]) (st1 := [zi 0]) (w1 := wr c R) g_X6_isNet 1 _ _ _ _ rfl ?_
      refine zx_iret g_X6_isNet rfl (.inr (.inl rfl)) ?_
      exact qF_f (by omega)
    · refine zx_go (pc1 := 17) (l1 := [some (zr 32), some (zi n)]) (st1 := [zi 1]) (w1 := wr c R) g_X6_isNet 2 _ _ _ _ rfl ?_
      refine zx_iret g_X6_isNet rfl (.inr (.inr rfl)) ?_
      exact qF_t (by omega)

set_option maxHeartbeats 1000000 in
theorem m_isPin {c : zC} {R : zI} {n : Int} (h0 : inR n) (h1 : inR (R 32 10)) : MZ m_X6_isPin [zr 32, zi n] (wr c R) (qF (zi (bI (0 ≤ n ∧ n < R 32 10))) (wr c R)) := by
  refine MZ.of g_X6_isPin ?_
  show ZX m_X6_isPin 0 [some (zr 32), some (zi n)] [] (wr c R) _
  refine zx_go (pc1 := 1) (l1 := [some (zr 32), some (zi n)]) (st1 := [zi n]) (w1 := wr c R) g_X6_isPin 1 _ _ _ _ rfl ?_
  refine zx_if g_X6_isPin rfl (by omega) (fun (h1 : n < 0) => ?_) (fun (h1 : ¬ n < 0) => ?_)
  · refine zx_go (pc1 := 17) (l1 := [some (zr 32), some (zi n)]) (st1 := [zi 0]) (w1 := wr c R) g_X6_isPin 1 _ _ _ _ rfl ?_
    refine zx_iret g_X6_isPin rfl (.inr (.inl rfl)) ?_
    exact qF_f (by omega)
  · refine zx_go (pc1 := 9) (l1 := [some (zr 32), some (zi n)]) (st1 := [zi (R 32 10), zi n]) (w1 := wr c R) g_X6_isPin 3 _ _ _ _ rfl ?_
    refine zx_cmp g_X6_isPin rfl (by omega) (by omega) (fun (h9 : (R 32 10) ≤ n) => ?_) (fun (h9 : ¬ ((R 32 10) ≤ n)) => ?_)
    · refine zx_go (pc1 := 17) (l1 := [some (zr 32), some (zi n)]) (st1 := [zi 0]) (w1 := wr c R) g_X6_isPin 1 _ _ _ _ rfl ?_
      refine zx_iret g_X6_isPin rfl (.inr (.inl rfl)) ?_
      exact qF_f (by omega)
    · refine zx_go (pc1 := 17) (l1 := [some (zr 32), some (zi n)]) (st1 := [zi 1]) (w1 := wr c R) g_X6_isPin 2 _ _ _ _ rfl ?_
      refine zx_iret g_X6_isPin rfl (.inr (.inr rfl)) ?_
      exact qF_t (by omega)

set_option maxHeartbeats 1000000 in
theorem m_apart {c : zC} {R : zI} {a b : Int} (h0 : inR a) (h1 : inR b) : MZ m_X6_apart [zi a, zi b] (wr c R) (qF (zi (apt a b)) (wr c R)) := by
  refine MZ.of g_X6_apart ?_
  show ZX m_X6_apart 0 [some (zi a), some (zi b)] [] (wr c R) _
  refine zx_go (pc1 := 2) (l1 := [some (zi a), some (zi b)]) (st1 := [zi b, zi a]) (w1 := wr c R) g_X6_apart 2 _ _ _ _ rfl ?_
  refine zx_cmp g_X6_apart rfl (by omega) (by omega) (fun (h2 : b ≤ a) => ?_) (fun (h2 : ¬ (b ≤ a)) => ?_)
  · refine zx_go (pc1 := 14) (l1 := [some (zi a), some (zi b)]) (st1 := [zi (a - b)]) (w1 := wr c R) g_X6_apart 3 _ _ _ _ rfl ?_
    refine zx_iret g_X6_apart rfl (.inl rfl) ?_
    refine qF_i ?_
    unfold apt
    omega
  · refine zx_go (pc1 := 14) (l1 := [some (zi a), some (zi b)]) (st1 := [zi (b - a)]) (w1 := wr c R) g_X6_apart 4 _ _ _ _ rfl ?_
    refine zx_iret g_X6_apart rfl (.inl rfl) ?_
    refine qF_i ?_
    unfold apt
    omega

set_option maxHeartbeats 1000000 in
theorem m_clashes {c : zC} {R : zI} {D : zI} {a p b q : Int} (hD : DOK c D) (hm : MDn c D R) (hp : pls c p) (hq : pls c q) (a0 : 0 ≤ a) (a1 : a < 16) (b0 : 0 ≤ b) (b1 : b < 16) : MZ m_X6_clashes [zr 32, zi a, zi p, zi b, zi q] (wr c R) (qF (zi (bI (clash c D a p b q))) (wr c R)) := by
  refine MZ.of g_X6_clashes ?_
  show ZX m_X6_clashes 0 [some (zr 32), some (zi a), some (zi p), some (zi b), some (zi q), none] [] (wr c R) _
  have hg := hD.1
  have g2 := hg
  unfold Geo at g2
  have g3_v := hg.S
  obtain ⟨hp0, hp1⟩ := hp
  obtain ⟨hq0, hq1⟩ := hq
  have gp := place_geo hg hp0 hp1
  have gq := place_geo hg hq0 hq1
  have sp_v := hD.2.2.2.2.1 (lay c p) (by omega) (by omega)
  have e33_v := (hm.1 (lay c p) (by omega) (by omega)).1
  have ea := hm.2.2.1 a a0 a1
  have eb := hm.2.2.1 b b0 b1
  have ra := bI_01 (shd D a)
  have rb := bI_01 (shd D b)
  have ax1 : inR (apt (xo c p) (xo c q)) := by unfold apt; omega
  have ay1 : inR (apt (yo c p) (yo c q)) := by unfold apt; omega
  refine zx_go (pc1 := 6) (l1 := [some (zr 32), some (zi a), some (zi p), some (zi b), some (zi q), none]) (st1 := [zi p, zr 32, zr 33]) (w1 := wr c R) g_X6_clashes 4 _ _ _ _ rfl ?_
  refine zx_cvF (As := [zi p]) (rest := [zr 33]) g_X6_clashes rfl g_X6_layerOf rfl rfl (Nat.le_of_ble_eq_true rfl) (Nat.le_of_ble_eq_true rfl) rfl (by decide) (m_layerOf hg (by omega) (by omega)) ?_
  refine gz_iald g_X6_clashes rfl (n := 3) rfl (by decide) rfl (by decide) (by omega) (by omega) ?_
  refine zx_go (pc1 := 15) (l1 := [some (zr 32), some (zi a), some (zi p), some (zi b), some (zi q), none]) (st1 := [zi a, zr 37, zi (R 33 (lay c p))]) (w1 := wr c R) g_X6_clashes 3 _ _ _ _ rfl ?_
  refine gz_bald g_X6_clashes rfl (n := 16) rfl (by decide) rfl (by decide) (by omega) (by omega) ?_
  refine zx_if g_X6_clashes rfl (by omega) (fun (h16_v : (R 37 a) ≠ 0) => ?_) (fun (h16_v : ¬ (R 37 a) ≠ 0) => ?_)
  · refine zx_go (pc1 := 34) (l1 := [some (zr 32), some (zi a), some (zi p), some (zi b), some (zi q), none]) (st1 := [zi ((R 33 (lay c p)) + 1)]) (w1 := wr c R) g_X6_clashes 3 _ _ _ _ rfl ?_
    have hs : (R 33 (lay c p)) + 1 = rch c D a b p := by
      first
      | exact rch_1 (.inl (bI_ne.mp (by rw [← ea]; exact h16_v))) e33_v
      | exact rch_1 (.inr (bI_ne.mp (by rw [← eb]; exact h25))) e33_v
      | exact rch_0 (fun z => z.elim (fun y => h16_v (by rw [ea]; exact bI_ne.mpr y)) (fun y => bI_ne.mpr y (by rw [← eb]; exact h25))) e33_v
    have hsi := clash_iff (q := q) hs
    refine zx_go (pc1 := 38) (l1 := [some (zr 32), some (zi a), some (zi p), some (zi b), some (zi q), some (zi ((R 33 (lay c p)) + 1))]) (st1 := [zi b, zi a]) (w1 := wr c R) g_X6_clashes 3 _ _ _ _ rfl ?_
    refine zx_cmp g_X6_clashes rfl (by omega) (by omega) (fun (h38 : a = b) => ?_) (fun (h38 : ¬ (a = b)) => ?_)
    · refine zx_go (pc1 := 98) (l1 := [some (zr 32), some (zi a), some (zi p), some (zi b), some (zi q), some (zi ((R 33 (lay c p)) + 1))]) (st1 := [zi 0]) (w1 := wr c R) g_X6_clashes 1 _ _ _ _ rfl ?_
      refine zx_iret g_X6_clashes rfl (.inr (.inl rfl)) ?_
      exact qF_f (fun z => absurd (hsi.mp z) (by omega))
    · refine zx_go (pc1 := 43) (l1 := [some (zr 32), some (zi a), some (zi p), some (zi b), some (zi q), some (zi ((R 33 (lay c p)) + 1))]) (st1 := [zi p, zr 32]) (w1 := wr c R) g_X6_clashes 2 _ _ _ _ rfl ?_
      refine zx_cvF (As := [zi p]) (rest := []) g_X6_clashes rfl g_X6_layerOf rfl rfl (Nat.le_of_ble_eq_true rfl) (Nat.le_of_ble_eq_true rfl) rfl (by decide) (m_layerOf hg (by omega) (by omega)) ?_
      refine zx_go (pc1 := 49) (l1 := [some (zr 32), some (zi a), some (zi p), some (zi b), some (zi q), some (zi ((R 33 (lay c p)) + 1))]) (st1 := [zi q, zr 32, zi (lay c p)]) (w1 := wr c R) g_X6_clashes 2 _ _ _ _ rfl ?_
      refine zx_cvF (As := [zi q]) (rest := [zi (lay c p)]) g_X6_clashes rfl g_X6_layerOf rfl rfl (Nat.le_of_ble_eq_true rfl) (Nat.le_of_ble_eq_true rfl) rfl (by decide) (m_layerOf hg (by omega) (by omega)) ?_
      refine zx_cmp g_X6_clashes rfl (by omega) (by omega) (fun (h52 : (lay c p) ≠ (lay c q)) => ?_) (fun (h52 : ¬ ((lay c p) ≠ (lay c q))) => ?_)
      · refine zx_go (pc1 := 98) (l1 := [some (zr 32), some (zi a), some (zi p), some (zi b), some (zi q), some (zi ((R 33 (lay c p)) + 1))]) (st1 := [zi 0]) (w1 := wr c R) g_X6_clashes 1 _ _ _ _ rfl ?_
        refine zx_iret g_X6_clashes rfl (.inr (.inl rfl)) ?_
        exact qF_f (fun z => absurd (hsi.mp z) (by omega))
      · refine zx_go (pc1 := 57) (l1 := [some (zr 32), some (zi a), some (zi p), some (zi b), some (zi q), some (zi ((R 33 (lay c p)) + 1))]) (st1 := [zi p, zr 32]) (w1 := wr c R) g_X6_clashes 2 _ _ _ _ rfl ?_
        refine zx_cvF (As := [zi p]) (rest := []) g_X6_clashes rfl g_X6_xOf rfl rfl (Nat.le_of_ble_eq_true rfl) (Nat.le_of_ble_eq_true rfl) rfl (by decide) (m_xOf hg (by omega) (by omega)) ?_
        refine zx_go (pc1 := 63) (l1 := [some (zr 32), some (zi a), some (zi p), some (zi b), some (zi q), some (zi ((R 33 (lay c p)) + 1))]) (st1 := [zi q, zr 32, zi (xo c p)]) (w1 := wr c R) g_X6_clashes 2 _ _ _ _ rfl ?_
        refine zx_cvF (As := [zi q]) (rest := [zi (xo c p)]) g_X6_clashes rfl g_X6_xOf rfl rfl (Nat.le_of_ble_eq_true rfl) (Nat.le_of_ble_eq_true rfl) rfl (by decide) (m_xOf hg (by omega) (by omega)) ?_
        refine zx_csF (As := [zi (xo c p), zi (xo c q)]) (rest := []) g_X6_clashes rfl g_X6_apart rfl rfl (Nat.le_of_ble_eq_true rfl) (Nat.le_of_ble_eq_true rfl) (m_apart (by omega) (by omega)) ?_
        refine zx_go (pc1 := 71) (l1 := [some (zr 32), some (zi a), some (zi p), some (zi b), some (zi q), some (zi ((R 33 (lay c p)) + 1))]) (st1 := [zi ((R 33 (lay c p)) + 1), zi (apt (xo c p) (xo c q))]) (w1 := wr c R) g_X6_clashes 1 _ _ _ _ rfl ?_
        refine zx_cmp g_X6_clashes rfl (by omega) (by omega) (fun (h71 : ((R 33 (lay c p)) + 1) < (apt (xo c p) (xo c q))) => ?_) (fun (h71 : ¬ (((R 33 (lay c p)) + 1) < (apt (xo c p) (xo c q)))) => ?_)
        · refine zx_go (pc1 := 98) (l1 := [some (zr 32), some (zi a), some (zi p), some (zi b), some (zi q), some (zi ((R 33 (lay c p)) + 1))]) (st1 := [zi 0]) (w1 := wr c R) g_X6_clashes 1 _ _ _ _ rfl ?_
          refine zx_iret g_X6_clashes rfl (.inr (.inl rfl)) ?_
          exact qF_f (fun z => absurd (hsi.mp z) (by omega))
        · refine zx_go (pc1 := 76) (l1 := [some (zr 32), some (zi a), some (zi p), some (zi b), some (zi q), some (zi ((R 33 (lay c p)) + 1))]) (st1 := [zi p, zr 32]) (w1 := wr c R) g_X6_clashes 2 _ _ _ _ rfl ?_
          refine zx_cvF (As := [zi p]) (rest := []) g_X6_clashes rfl g_X6_yOf rfl rfl (Nat.le_of_ble_eq_true rfl) (Nat.le_of_ble_eq_true rfl) rfl (by decide) (m_yOf hg (by omega) (by omega)) ?_
          refine zx_go (pc1 := 82) (l1 := [some (zr 32), some (zi a), some (zi p), some (zi b), some (zi q), some (zi ((R 33 (lay c p)) + 1))]) (st1 := [zi q, zr 32, zi (yo c p)]) (w1 := wr c R) g_X6_clashes 2 _ _ _ _ rfl ?_
          refine zx_cvF (As := [zi q]) (rest := [zi (yo c p)]) g_X6_clashes rfl g_X6_yOf rfl rfl (Nat.le_of_ble_eq_true rfl) (Nat.le_of_ble_eq_true rfl) rfl (by decide) (m_yOf hg (by omega) (by omega)) ?_
          refine zx_csF (As := [zi (yo c p), zi (yo c q)]) (rest := []) g_X6_clashes rfl g_X6_apart rfl rfl (Nat.le_of_ble_eq_true rfl) (Nat.le_of_ble_eq_true rfl) (m_apart (by omega) (by omega)) ?_
          refine zx_go (pc1 := 90) (l1 := [some (zr 32), some (zi a), some (zi p), some (zi b), some (zi q), some (zi ((R 33 (lay c p)) + 1))]) (st1 := [zi ((R 33 (lay c p)) + 1), zi (apt (yo c p) (yo c q))]) (w1 := wr c R) g_X6_clashes 1 _ _ _ _ rfl ?_
          refine zx_cmp g_X6_clashes rfl (by omega) (by omega) (fun (h90 : ((R 33 (lay c p)) + 1) < (apt (yo c p) (yo c q))) => ?_) (fun (h90 : ¬ (((R 33 (lay c p)) + 1) < (apt (yo c p) (yo c q)))) => ?_)
          · refine zx_go (pc1 := 98) (l1 := [some (zr 32), some (zi a), some (zi p), some (zi b), some (zi q), some (zi ((R 33 (lay c p)) + 1))]) (st1 := [zi 0]) (w1 := wr c R) g_X6_clashes 1 _ _ _ _ rfl ?_
            refine zx_iret g_X6_clashes rfl (.inr (.inl rfl)) ?_
            exact qF_f (fun z => absurd (hsi.mp z) (by omega))
          · refine zx_go (pc1 := 98) (l1 := [some (zr 32), some (zi a), some (zi p), some (zi b), some (zi q), some (zi ((R 33 (lay c p)) + 1))]) (st1 := [zi 1]) (w1 := wr c R) g_X6_clashes 2 _ _ _ _ rfl ?_
            refine zx_iret g_X6_clashes rfl (.inr (.inr rfl)) ?_
            exact qF_t (hsi.mpr (by omega))
  · refine zx_go (pc1 := 24) (l1 := [some (zr 32), some (zi a), some (zi p), some (zi b), some (zi q), none]) (st1 := [zi b, zr 37, zi (R 33 (lay c p))]) (w1 := wr c R) g_X6_clashes 3 _ _ _ _ rfl ?_
    refine gz_bald g_X6_clashes rfl (n := 16) rfl (by decide) rfl (by decide) (by omega) (by omega) ?_
    refine zx_if g_X6_clashes rfl (by omega) (fun (h25 : (R 37 b) = 0) => ?_) (fun (h25 : ¬ (R 37 b) = 0) => ?_)
    · refine zx_go (pc1 := 34) (l1 := [some (zr 32), some (zi a), some (zi p), some (zi b), some (zi q), none]) (st1 := [zi ((R 33 (lay c p)) + 0)]) (w1 := wr c R) g_X6_clashes 2 _ _ _ _ rfl ?_
      have hs : (R 33 (lay c p)) + 0 = rch c D a b p := by
        first
        | exact rch_1 (.inl (bI_ne.mp (by rw [← ea]; exact h16_v))) e33_v
        | exact rch_1 (.inr (bI_ne.mp (by rw [← eb]; exact h25))) e33_v
        | exact rch_0 (fun z => z.elim (fun y => h16_v (by rw [ea]; exact bI_ne.mpr y)) (fun y => bI_ne.mpr y (by rw [← eb]; exact h25))) e33_v
      have hsi := clash_iff (q := q) hs
      refine zx_go (pc1 := 38) (l1 := [some (zr 32), some (zi a), some (zi p), some (zi b), some (zi q), some (zi ((R 33 (lay c p)) + 0))]) (st1 := [zi b, zi a]) (w1 := wr c R) g_X6_clashes 3 _ _ _ _ rfl ?_
      refine zx_cmp g_X6_clashes rfl (by omega) (by omega) (fun (h38 : a = b) => ?_) (fun (h38 : ¬ (a = b)) => ?_)
      · refine zx_go (pc1 := 98) (l1 := [some (zr 32), some (zi a), some (zi p), some (zi b), some (zi q), some (zi ((R 33 (lay c p)) + 0))]) (st1 := [zi 0]) (w1 := wr c R) g_X6_clashes 1 _ _ _ _ rfl ?_
        refine zx_iret g_X6_clashes rfl (.inr (.inl rfl)) ?_
        exact qF_f (fun z => absurd (hsi.mp z) (by omega))
      · refine zx_go (pc1 := 43) (l1 := [some (zr 32), some (zi a), some (zi p), some (zi b), some (zi q), some (zi ((R 33 (lay c p)) + 0))]) (st1 := [zi p, zr 32]) (w1 := wr c R) g_X6_clashes 2 _ _ _ _ rfl ?_
        refine zx_cvF (As := [zi p]) (rest := []) g_X6_clashes rfl g_X6_layerOf rfl rfl (Nat.le_of_ble_eq_true rfl) (Nat.le_of_ble_eq_true rfl) rfl (by decide) (m_layerOf hg (by omega) (by omega)) ?_
        refine zx_go (pc1 := 49) (l1 := [some (zr 32), some (zi a), some (zi p), some (zi b), some (zi q), some (zi ((R 33 (lay c p)) + 0))]) (st1 := [zi q, zr 32, zi (lay c p)]) (w1 := wr c R) g_X6_clashes 2 _ _ _ _ rfl ?_
        refine zx_cvF (As := [zi q]) (rest := [zi (lay c p)]) g_X6_clashes rfl g_X6_layerOf rfl rfl (Nat.le_of_ble_eq_true rfl) (Nat.le_of_ble_eq_true rfl) rfl (by decide) (m_layerOf hg (by omega) (by omega)) ?_
        refine zx_cmp g_X6_clashes rfl (by omega) (by omega) (fun (h52 : (lay c p) ≠ (lay c q)) => ?_) (fun (h52 : ¬ ((lay c p) ≠ (lay c q))) => ?_)
        · refine zx_go (pc1 := 98) (l1 := [some (zr 32), some (zi a), some (zi p), some (zi b), some (zi q), some (zi ((R 33 (lay c p)) + 0))]) (st1 := [zi 0]) (w1 := wr c R) g_X6_clashes 1 _ _ _ _ rfl ?_
          refine zx_iret g_X6_clashes rfl (.inr (.inl rfl)) ?_
          exact qF_f (fun z => absurd (hsi.mp z) (by omega))
        · refine zx_go (pc1 := 57) (l1 := [some (zr 32), some (zi a), some (zi p), some (zi b), some (zi q), some (zi ((R 33 (lay c p)) + 0))]) (st1 := [zi p, zr 32]) (w1 := wr c R) g_X6_clashes 2 _ _ _ _ rfl ?_
          refine zx_cvF (As := [zi p]) (rest := []) g_X6_clashes rfl g_X6_xOf rfl rfl (Nat.le_of_ble_eq_true rfl) (Nat.le_of_ble_eq_true rfl) rfl (by decide) (m_xOf hg (by omega) (by omega)) ?_
          refine zx_go (pc1 := 63) (l1 := [some (zr 32), some (zi a), some (zi p), some (zi b), some (zi q), some (zi ((R 33 (lay c p)) + 0))]) (st1 := [zi q, zr 32, zi (xo c p)]) (w1 := wr c R) g_X6_clashes 2 _ _ _ _ rfl ?_
          refine zx_cvF (As := [zi q]) (rest := [zi (xo c p)]) g_X6_clashes rfl g_X6_xOf rfl rfl (Nat.le_of_ble_eq_true rfl) (Nat.le_of_ble_eq_true rfl) rfl (by decide) (m_xOf hg (by omega) (by omega)) ?_
          refine zx_csF (As := [zi (xo c p), zi (xo c q)]) (rest := []) g_X6_clashes rfl g_X6_apart rfl rfl (Nat.le_of_ble_eq_true rfl) (Nat.le_of_ble_eq_true rfl) (m_apart (by omega) (by omega)) ?_
          refine zx_go (pc1 := 71) (l1 := [some (zr 32), some (zi a), some (zi p), some (zi b), some (zi q), some (zi ((R 33 (lay c p)) + 0))]) (st1 := [zi ((R 33 (lay c p)) + 0), zi (apt (xo c p) (xo c q))]) (w1 := wr c R) g_X6_clashes 1 _ _ _ _ rfl ?_
          refine zx_cmp g_X6_clashes rfl (by omega) (by omega) (fun (h71 : ((R 33 (lay c p)) + 0) < (apt (xo c p) (xo c q))) => ?_) (fun (h71 : ¬ (((R 33 (lay c p)) + 0) < (apt (xo c p) (xo c q)))) => ?_)
          · refine zx_go (pc1 := 98) (l1 := [some (zr 32), some (zi a), some (zi p), some (zi b), some (zi q), some (zi ((R 33 (lay c p)) + 0))]) (st1 := [zi 0]) (w1 := wr c R) g_X6_clashes 1 _ _ _ _ rfl ?_
            refine zx_iret g_X6_clashes rfl (.inr (.inl rfl)) ?_
            exact qF_f (fun z => absurd (hsi.mp z) (by omega))
          · refine zx_go (pc1 := 76) (l1 := [some (zr 32), some (zi a), some (zi p), some (zi b), some (zi q), some (zi ((R 33 (lay c p)) + 0))]) (st1 := [zi p, zr 32]) (w1 := wr c R) g_X6_clashes 2 _ _ _ _ rfl ?_
            refine zx_cvF (As := [zi p]) (rest := []) g_X6_clashes rfl g_X6_yOf rfl rfl (Nat.le_of_ble_eq_true rfl) (Nat.le_of_ble_eq_true rfl) rfl (by decide) (m_yOf hg (by omega) (by omega)) ?_
            refine zx_go (pc1 := 82) (l1 := [some (zr 32), some (zi a), some (zi p), some (zi b), some (zi q), some (zi ((R 33 (lay c p)) + 0))]) (st1 := [zi q, zr 32, zi (yo c p)]) (w1 := wr c R) g_X6_clashes 2 _ _ _ _ rfl ?_
            refine zx_cvF (As := [zi q]) (rest := [zi (yo c p)]) g_X6_clashes rfl g_X6_yOf rfl rfl (Nat.le_of_ble_eq_true rfl) (Nat.le_of_ble_eq_true rfl) rfl (by decide) (m_yOf hg (by omega) (by omega)) ?_
            refine zx_csF (As := [zi (yo c p), zi (yo c q)]) (rest := []) g_X6_clashes rfl g_X6_apart rfl rfl (Nat.le_of_ble_eq_true rfl) (Nat.le_of_ble_eq_true rfl) (m_apart (by omega) (by omega)) ?_
            refine zx_go (pc1 := 90) (l1 := [some (zr 32), some (zi a), some (zi p), some (zi b), some (zi q), some (zi ((R 33 (lay c p)) + 0))]) (st1 := [zi ((R 33 (lay c p)) + 0), zi (apt (yo c p) (yo c q))]) (w1 := wr c R) g_X6_clashes 1 _ _ _ _ rfl ?_
            refine zx_cmp g_X6_clashes rfl (by omega) (by omega) (fun (h90 : ((R 33 (lay c p)) + 0) < (apt (yo c p) (yo c q))) => ?_) (fun (h90 : ¬ (((R 33 (lay c p)) + 0) < (apt (yo c p) (yo c q)))) => ?_)
            · refine zx_go (pc1 := 98) (l1 := [some (zr 32), some (zi a), some (zi p), some (zi b), some (zi q), some (zi ((R 33 (lay c p)) + 0))]) (st1 := [zi 0]) (w1 := wr c R) g_X6_clashes 1 _ _ _ _ rfl ?_
              refine zx_iret g_X6_clashes rfl (.inr (.inl rfl)) ?_
              exact qF_f (fun z => absurd (hsi.mp z) (by omega))
            · refine zx_go (pc1 := 98) (l1 := [some (zr 32), some (zi a), some (zi p), some (zi b), some (zi q), some (zi ((R 33 (lay c p)) + 0))]) (st1 := [zi 1]) (w1 := wr c R) g_X6_clashes 2 _ _ _ _ rfl ?_
              refine zx_iret g_X6_clashes rfl (.inr (.inr rfl)) ?_
              exact qF_t (hsi.mpr (by omega))
    · refine zx_go (pc1 := 34) (l1 := [some (zr 32), some (zi a), some (zi p), some (zi b), some (zi q), none]) (st1 := [zi ((R 33 (lay c p)) + 1)]) (w1 := wr c R) g_X6_clashes 3 _ _ _ _ rfl ?_
      have hs : (R 33 (lay c p)) + 1 = rch c D a b p := by
        first
        | exact rch_1 (.inl (bI_ne.mp (by rw [← ea]; exact h16_v))) e33_v
        | exact rch_1 (.inr (bI_ne.mp (by rw [← eb]; exact h25))) e33_v
        | exact rch_0 (fun z => z.elim (fun y => h16_v (by rw [ea]; exact bI_ne.mpr y)) (fun y => bI_ne.mpr y (by rw [← eb]; exact h25))) e33_v
      have hsi := clash_iff (q := q) hs
      refine zx_go (pc1 := 38) (l1 := [some (zr 32), some (zi a), some (zi p), some (zi b), some (zi q), some (zi ((R 33 (lay c p)) + 1))]) (st1 := [zi b, zi a]) (w1 := wr c R) g_X6_clashes 3 _ _ _ _ rfl ?_
      refine zx_cmp g_X6_clashes rfl (by omega) (by omega) (fun (h38 : a = b) => ?_) (fun (h38 : ¬ (a = b)) => ?_)
      · refine zx_go (pc1 := 98) (l1 := [some (zr 32), some (zi a), some (zi p), some (zi b), some (zi q), some (zi ((R 33 (lay c p)) + 1))]) (st1 := [zi 0]) (w1 := wr c R) g_X6_clashes 1 _ _ _ _ rfl ?_
        refine zx_iret g_X6_clashes rfl (.inr (.inl rfl)) ?_
        exact qF_f (fun z => absurd (hsi.mp z) (by omega))
      · refine zx_go (pc1 := 43) (l1 := [some (zr 32), some (zi a), some (zi p), some (zi b), some (zi q), some (zi ((R 33 (lay c p)) + 1))]) (st1 := [zi p, zr 32]) (w1 := wr c R) g_X6_clashes 2 _ _ _ _ rfl ?_
        refine zx_cvF (As := [zi p]) (rest := []) g_X6_clashes rfl g_X6_layerOf rfl rfl (Nat.le_of_ble_eq_true rfl) (Nat.le_of_ble_eq_true rfl) rfl (by decide) (m_layerOf hg (by omega) (by omega)) ?_
        refine zx_go (pc1 := 49) (l1 := [some (zr 32), some (zi a), some (zi p), some (zi b), some (zi q), some (zi ((R 33 (lay c p)) + 1))]) (st1 := [zi q, zr 32, zi (lay c p)]) (w1 := wr c R) g_X6_clashes 2 _ _ _ _ rfl ?_
        refine zx_cvF (As := [zi q]) (rest := [zi (lay c p)]) g_X6_clashes rfl g_X6_layerOf rfl rfl (Nat.le_of_ble_eq_true rfl) (Nat.le_of_ble_eq_true rfl) rfl (by decide) (m_layerOf hg (by omega) (by omega)) ?_
        refine zx_cmp g_X6_clashes rfl (by omega) (by omega) (fun (h52 : (lay c p) ≠ (lay c q)) => ?_) (fun (h52 : ¬ ((lay c p) ≠ (lay c q))) => ?_)
        · refine zx_go (pc1 := 98) (l1 := [some (zr 32), some (zi a), some (zi p), some (zi b), some (zi q), some (zi ((R 33 (lay c p)) + 1))]) (st1 := [zi 0]) (w1 := wr c R) g_X6_clashes 1 _ _ _ _ rfl ?_
          refine zx_iret g_X6_clashes rfl (.inr (.inl rfl)) ?_
          exact qF_f (fun z => absurd (hsi.mp z) (by omega))
        · refine zx_go (pc1 := 57) (l1 := [some (zr 32), some (zi a), some (zi p), some (zi b), some (zi q), some (zi ((R 33 (lay c p)) + 1))]) (st1 := [zi p, zr 32]) (w1 := wr c R) g_X6_clashes 2 _ _ _ _ rfl ?_
          refine zx_cvF (As := [zi p]) (rest := []) g_X6_clashes rfl g_X6_xOf rfl rfl (Nat.le_of_ble_eq_true rfl) (Nat.le_of_ble_eq_true rfl) rfl (by decide) (m_xOf hg (by omega) (by omega)) ?_
          refine zx_go (pc1 := 63) (l1 := [some (zr 32), some (zi a), some (zi p), some (zi b), some (zi q), some (zi ((R 33 (lay c p)) + 1))]) (st1 := [zi q, zr 32, zi (xo c p)]) (w1 := wr c R) g_X6_clashes 2 _ _ _ _ rfl ?_
          refine zx_cvF (As := [zi q]) (rest := [zi (xo c p)]) g_X6_clashes rfl g_X6_xOf rfl rfl (Nat.le_of_ble_eq_true rfl) (Nat.le_of_ble_eq_true rfl) rfl (by decide) (m_xOf hg (by omega) (by omega)) ?_
          refine zx_csF (As := [zi (xo c p), zi (xo c q)]) (rest := []) g_X6_clashes rfl g_X6_apart rfl rfl (Nat.le_of_ble_eq_true rfl) (Nat.le_of_ble_eq_true rfl) (m_apart (by omega) (by omega)) ?_
          refine zx_go (pc1 := 71) (l1 := [some (zr 32), some (zi a), some (zi p), some (zi b), some (zi q), some (zi ((R 33 (lay c p)) + 1))]) (st1 := [zi ((R 33 (lay c p)) + 1), zi (apt (xo c p) (xo c q))]) (w1 := wr c R) g_X6_clashes 1 _ _ _ _ rfl ?_
          refine zx_cmp g_X6_clashes rfl (by omega) (by omega) (fun (h71 : ((R 33 (lay c p)) + 1) < (apt (xo c p) (xo c q))) => ?_) (fun (h71 : ¬ (((R 33 (lay c p)) + 1) < (apt (xo c p) (xo c q)))) => ?_)
          · refine zx_go (pc1 := 98) (l1 := [some (zr 32), some (zi a), some (zi p), some (zi b), some (zi q), some (zi ((R 33 (lay c p)) + 1))]) (st1 := [zi 0]) (w1 := wr c R) g_X6_clashes 1 _ _ _ _ rfl ?_
            refine zx_iret g_X6_clashes rfl (.inr (.inl rfl)) ?_
            exact qF_f (fun z => absurd (hsi.mp z) (by omega))
          · refine zx_go (pc1 := 76) (l1 := [some (zr 32), some (zi a), some (zi p), some (zi b), some (zi q), some (zi ((R 33 (lay c p)) + 1))]) (st1 := [zi p, zr 32]) (w1 := wr c R) g_X6_clashes 2 _ _ _ _ rfl ?_
            refine zx_cvF (As := [zi p]) (rest := []) g_X6_clashes rfl g_X6_yOf rfl rfl (Nat.le_of_ble_eq_true rfl) (Nat.le_of_ble_eq_true rfl) rfl (by decide) (m_yOf hg (by omega) (by omega)) ?_
            refine zx_go (pc1 := 82) (l1 := [some (zr 32), some (zi a), some (zi p), some (zi b), some (zi q), some (zi ((R 33 (lay c p)) + 1))]) (st1 := [zi q, zr 32, zi (yo c p)]) (w1 := wr c R) g_X6_clashes 2 _ _ _ _ rfl ?_
            refine zx_cvF (As := [zi q]) (rest := [zi (yo c p)]) g_X6_clashes rfl g_X6_yOf rfl rfl (Nat.le_of_ble_eq_true rfl) (Nat.le_of_ble_eq_true rfl) rfl (by decide) (m_yOf hg (by omega) (by omega)) ?_
            refine zx_csF (As := [zi (yo c p), zi (yo c q)]) (rest := []) g_X6_clashes rfl g_X6_apart rfl rfl (Nat.le_of_ble_eq_true rfl) (Nat.le_of_ble_eq_true rfl) (m_apart (by omega) (by omega)) ?_
            refine zx_go (pc1 := 90) (l1 := [some (zr 32), some (zi a), some (zi p), some (zi b), some (zi q), some (zi ((R 33 (lay c p)) + 1))]) (st1 := [zi ((R 33 (lay c p)) + 1), zi (apt (yo c p) (yo c q))]) (w1 := wr c R) g_X6_clashes 1 _ _ _ _ rfl ?_
            refine zx_cmp g_X6_clashes rfl (by omega) (by omega) (fun (h90 : ((R 33 (lay c p)) + 1) < (apt (yo c p) (yo c q))) => ?_) (fun (h90 : ¬ (((R 33 (lay c p)) + 1) < (apt (yo c p) (yo c q)))) => ?_)
            · refine zx_go (pc1 := 98) (l1 := [some (zr 32), some (zi a), some (zi p), some (zi b), some (zi q), some (zi ((R 33 (lay c p)) + 1))]) (st1 := [zi 0]) (w1 := wr c R) g_X6_clashes 1 _ _ _ _ rfl ?_
              refine zx_iret g_X6_clashes rfl (.inr (.inl rfl)) ?_
              exact qF_f (fun z => absurd (hsi.mp z) (by omega))
            · refine zx_go (pc1 := 98) (l1 := [some (zr 32), some (zi a), some (zi p), some (zi b), some (zi q), some (zi ((R 33 (lay c p)) + 1))]) (st1 := [zi 1]) (w1 := wr c R) g_X6_clashes 2 _ _ _ _ rfl ?_
              refine zx_iret g_X6_clashes rfl (.inr (.inr rfl)) ?_
              exact qF_t (hsi.mpr (by omega))

set_option maxHeartbeats 1000000 in
theorem m_placeOfPin {c : zC} {R : zI} {k : Int} (k0 : 0 ≤ k) (k1 : k < 40) (h0 : -1 ≤ R 41 k) (h1 : R 41 k < 4) : MZ m_X6_placeOfPin [zr 32, zi k] (wr c R) (qF (zi (mpp R k)) (wr c R)) := by
  refine MZ.of g_X6_placeOfPin ?_
  show ZX m_X6_placeOfPin 0 [some (zr 32), some (zi k)] [] (wr c R) _
  refine zx_go (pc1 := 5) (l1 := [some (zr 32), some (zi k)]) (st1 := [zi k, zr 41]) (w1 := wr c R) g_X6_placeOfPin 3 _ _ _ _ rfl ?_
  refine gz_iald g_X6_placeOfPin rfl (n := 40) rfl (by decide) rfl (by decide) (by omega) (by omega) ?_
  refine zx_go (pc1 := 7) (l1 := [some (zr 32), some (zi k)]) (st1 := [zi (-1), zi (R 41 k)]) (w1 := wr c R) g_X6_placeOfPin 1 _ _ _ _ rfl ?_
  refine zx_cmp g_X6_placeOfPin rfl (by omega) (by omega) (fun (h7 : (R 41 k) ≠ (-1)) => ?_) (fun (h7 : ¬ ((R 41 k) ≠ (-1))) => ?_)
  · refine zx_go (pc1 := 26) (l1 := [some (zr 32), some (zi k)]) (st1 := [zi k, zr 41, zi (4 * k), zr 39]) (w1 := wr c R) g_X6_placeOfPin 8 _ _ _ _ rfl ?_
    refine gz_iald g_X6_placeOfPin rfl (n := 40) rfl (by decide) rfl (by decide) (by omega) (by omega) ?_
    refine zx_go (pc1 := 28) (l1 := [some (zr 32), some (zi k)]) (st1 := [zi ((4 * k) + (R 41 k)), zr 39]) (w1 := wr c R) g_X6_placeOfPin 1 _ _ _ _ rfl ?_
    refine gz_iald g_X6_placeOfPin rfl (n := 160) rfl (by decide) rfl (by decide) (by omega) (by omega) ?_
    refine zx_iret g_X6_placeOfPin rfl (.inl rfl) ?_
    refine qF_i ?_
    unfold mpp
    first | rw [if_pos (by omega)] | rw [if_neg (by omega)]
  · refine zx_go (pc1 := 29) (l1 := [some (zr 32), some (zi k)]) (st1 := [zi (-1)]) (w1 := wr c R) g_X6_placeOfPin 2 _ _ _ _ rfl ?_
    refine zx_iret g_X6_placeOfPin rfl (.inl rfl) ?_
    refine qF_i ?_
    unfold mpp
    first | rw [if_pos (by omega)] | rw [if_neg (by omega)]

