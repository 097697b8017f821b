/-! ===== worlds with a grid ===== -/
/-- cells made, slots made, the script's length, the number of places, layers, width, height, longs -/
abbrev zC : Type := Nat × Nat × Nat × Nat × Int × Int × Int × zI
def cS (c : zC) : Nat := c.2.2.2.1
def cLa (c : zC) : Int := c.2.2.2.2.1
def cW (c : zC) : Int := c.2.2.2.2.2.1
def cH (c : zC) : Int := c.2.2.2.2.2.2.1
def cJ (c : zC) : zI := c.2.2.2.2.2.2.2
def lay (c : zC) (p : Int) : Int := p / (cW c * cH c)
def xo (c : zC) (p : Int) : Int := p % cW c
def yo (c : zC) (p : Int) : Int := p / cW c % cH c
def pl (c : zC) (z x y : Int) : Int := z * (cW c * cH c) + y * cW c + x
def Geo (c : zC) : Prop := 1 ≤ cLa c ∧ cLa c ≤ 3 ∧ 1 ≤ cW c ∧ cW c ≤ 24 ∧ 1 ≤ cH c ∧ cH c ≤ 24 ∧ (cS c : Int) = cLa c * (cW c * cH c)
def gI2 (c : zC) (f : Int → Int) (k : Int) : Int := match k with
  | 0 => cLa c
  | 1 => cW c
  | 2 => cH c
  | 3 => cW c * cH c
  | 4 => (cS c : Int)
  | k => f k
def gI32 (c : zC) (f : Int → Int) (k : Int) : Int := match k with
  | 1 => cLa c
  | 2 => cW c
  | 3 => cH c
  | k => f k
def gI (c : zC) (R : zI) : zI := fun a k => match a with
  | 2 => gI2 c (R 2) k
  | 6 => if 0 ≤ k ∧ k < (cS c : Int) then lay c k else 0
  | 7 => if 0 ≤ k ∧ k < (cS c : Int) then xo c k else 0
  | 8 => if 0 ≤ k ∧ k < (cS c : Int) then yo c k else 0
  | 32 => gI32 c (R 32) k
  | a => R a k
abbrev wr (c : zC) (R : zI) : zW := (c.1, c.2.1, c.2.2.1, c.2.2.2.1, gI c R, c.2.2.2.2.2.2.2)
abbrev cBmp (c : zC) : zC := (c.1 + 1, c.2.1 + 6, c.2.2)
def gFree (a : Nat) (k : Int) : Prop := a ≠ 6 ∧ a ≠ 7 ∧ a ≠ 8 ∧ (a = 2 → k = 12) ∧ (a = 32 → k ≠ 1 ∧ k ≠ 2 ∧ k ≠ 3)
theorem gI_set {c : zC} {R : zI} {a : Nat} {k v : Int} (h : gFree a k) : zU (gI c R) a k v = gI c (zU R a k v) := by
  obtain ⟨h6, h7, h8, h2, h32⟩ := h
  funext b j
  by_cases hb : b = a
  · subst hb
    by_cases hj : j = k
    · subst hj
      rw [zU_same]
      unfold gI
      split
      · have hk := h2 rfl
        subst hk
        exact (zU_same _ _ _ _).symm
      · exact absurd rfl h6
      · exact absurd rfl h7
      · exact absurd rfl h8
      · obtain ⟨q1, q2, q3⟩ := h32 rfl
        unfold gI32
        split
        · exact absurd rfl q1
        · exact absurd rfl q2
        · exact absurd rfl q3
        · exact (zU_same _ _ _ _).symm
      · exact (zU_same _ _ _ _).symm
    · rw [zU_at hj]
      unfold gI
      split
      · unfold gI2
        split <;> first | rfl | exact (zU_at hj).symm
      · rfl
      · rfl
      · rfl
      · unfold gI32
        split <;> first | rfl | exact (zU_at hj).symm
      · exact (zU_at hj).symm
  · rw [zU_cell' hb]
    unfold gI
    split
    · rw [zU_cell hb]
    · rfl
    · rfl
    · rfl
    · rw [zU_cell hb]
    · rw [zU_cell hb]
theorem Geo.S {c : zC} (h : Geo c) : 1 ≤ cS c ∧ cS c ≤ 1728 ∧ 1 ≤ cW c * cH c ∧ cW c * cH c ≤ 576 := by
  obtain ⟨h1, h2, h3, h4, h5, h6, h7⟩ := h
  have a1 : 1 * 1 ≤ cW c * cH c := Int.mul_le_mul h3 h5 (by omega) (by omega)
  have a2 : cW c * cH c ≤ 24 * 24 := Int.mul_le_mul h4 h6 (by omega) (by omega)
  have b1 : 1 * 1 ≤ cLa c * (cW c * cH c) := Int.mul_le_mul h1 a1 (by omega) (by omega)
  have b2 : cLa c * (cW c * cH c) ≤ 3 * 576 := Int.mul_le_mul h2 a2 (by omega) (by omega)
  refine ⟨?_, ?_, ?_, ?_⟩ <;> omega
theorem pl_geo {c : zC} (h : Geo c) {z x y : Int} (hz : 0 ≤ z) (hz2 : z < cLa c) (hx : 0 ≤ x) (hx2 : x < cW c) (hy : 0 ≤ y) (hy2 : y < cH c) : 0 ≤ pl c z x y ∧ pl c z x y < (cS c : Int) ∧ lay c (pl c z x y) = z ∧ xo c (pl c z x y) = x ∧ yo c (pl c z x y) = y := by
  obtain ⟨h1, h2, h3, h4, h5, h6, h7⟩ := h
  have hw : 0 < cW c := by omega
  have e1 : pl c z x y = (z * cH c + y) * cW c + x := by
    unfold pl
    rw [Int.add_mul, Int.mul_assoc, Int.mul_comm (cH c)]
  have d1 : pl c z x y / cW c = z * cH c + y := by
    rw [e1, Int.add_comm, Int.add_mul_ediv_right _ _ (by omega), Int.ediv_eq_zero_of_lt hx hx2, Int.zero_add]
  have m1 : pl c z x y % cW c = x := by
    rw [e1, Int.add_comm, Int.add_mul_emod_self_right, Int.emod_eq_of_lt hx hx2]
  have d2 : (z * cH c + y) / cH c = z := by
    rw [Int.add_comm, Int.add_mul_ediv_right _ _ (by omega), Int.ediv_eq_zero_of_lt hy hy2, Int.zero_add]
  have m2 : (z * cH c + y) % cH c = y := by
    rw [Int.add_comm, Int.add_mul_emod_self_right, Int.emod_eq_of_lt hy hy2]
  have p0 : 0 ≤ z * cH c + y := by
    have := Int.mul_nonneg hz (show 0 ≤ cH c by omega)
    omega
  refine ⟨?_, ?_, ?_, m1, ?_⟩
  · rw [e1]
    have := Int.mul_nonneg p0 (show 0 ≤ cW c by omega)
    omega
  · rw [h7, e1]
    have q1 : z * cH c + y + 1 ≤ cLa c * cH c := by
      have : (z + 1) * cH c ≤ cLa c * cH c := Int.mul_le_mul_of_nonneg_right (by omega) (by omega)
      rw [Int.add_mul] at this
      omega
    have q2 : (z * cH c + y + 1) * cW c ≤ cLa c * cH c * cW c := Int.mul_le_mul_of_nonneg_right q1 (by omega)
    rw [Int.add_mul] at q2
    rw [show cLa c * (cW c * cH c) = cLa c * cH c * cW c by rw [Int.mul_assoc, Int.mul_comm (cW c)]]
    omega
  · unfold lay
    rw [← Int.ediv_ediv_of_nonneg (by omega), d1, d2]
  · unfold yo
    rw [d1, m2]
theorem place_geo {c : zC} (h : Geo c) {p : Int} (hp : 0 ≤ p) (hp2 : p < (cS c : Int)) : 0 ≤ lay c p ∧ lay c p < cLa c ∧ 0 ≤ xo c p ∧ xo c p < cW c ∧ 0 ≤ yo c p ∧ yo c p < cH c ∧ pl c (lay c p) (xo c p) (yo c p) = p := by
  obtain ⟨h1, h2, h3, h4, h5, h6, h7⟩ := h
  have hw : 0 < cW c := by omega
  have a1 : 1 * 1 ≤ cW c * cH c := Int.mul_le_mul h3 h5 (by omega) (by omega)
  have e2 : p / (cW c * cH c) = p / cW c / cH c := (Int.ediv_ediv_of_nonneg (by omega)).symm
  refine ⟨Int.ediv_nonneg hp (by omega), ?_, Int.emod_nonneg _ (by omega), Int.emod_lt_of_pos _ hw, Int.emod_nonneg _ (by omega), Int.emod_lt_of_pos _ (by omega), ?_⟩
  · unfold lay
    exact Int.ediv_lt_of_lt_mul (by omega) (by rw [← h7]; exact hp2)
  · unfold pl lay xo yo
    have q1 := Int.mul_ediv_add_emod p (cW c)
    have q2 := Int.mul_ediv_add_emod (p / cW c) (cH c)
    rw [e2]
    have q3 : p / cW c / cH c * (cW c * cH c) + p / cW c % cH c * cW c = cW c * (p / cW c) := by
      generalize p / cW c / cH c = A at q2 ⊢
      generalize p / cW c % cH c = B at q2 ⊢
      rw [← q2, Int.mul_add, Int.mul_comm B, ← Int.mul_assoc (cW c), Int.mul_comm A]
    omega
section GR
variable {mid pc x y : Nat} {k : Int32} {M : pmM} {l : zL} {st r : List zV} {c : zC} {R : zI} {Q : zO → zW → Prop}
theorem gz_iast {j v : Int} {a n : Nat} (hG : pgG mid = some M) (hc : pmCode M pc = some (.iastore, x, y, k)) (hh : hd0 c.2.2.1 c.2.2.2.1 a = .inl (.int, n)) (ha : 1 ≤ a ∧ a ≤ 55) (hf : gFree a j) (hn : n < 2 ^ 31) (h0 : 0 ≤ j) (hj : j < n) (K : ZX mid (pc + 1) l r (wr c (zU R a j v)) Q) : ZX mid pc l (.inl v :: .inl j :: .inr (.inr a) :: r) (wr c R) Q := by
  refine zx_iast hG hc hh ha hn h0 hj ?_
  rw [gI_set hf]
  exact K
theorem gz_bast {j v : Int} {a n : Nat} (hG : pgG mid = some M) (hc : pmCode M pc = some (.bastore, x, y, k)) (hh : hd0 c.2.2.1 c.2.2.2.1 a = .inl (.boolean, n)) (ha : 1 ≤ a ∧ a ≤ 55) (hf : gFree a j) (hn : n < 2 ^ 31) (h0 : 0 ≤ j) (hj : j < n) (hv : v = 0 ∨ v = 1) (K : ZX mid (pc + 1) l r (wr c (zU R a j v)) Q) : ZX mid pc l (.inl v :: .inl j :: .inr (.inr a) :: r) (wr c R) Q := by
  refine zx_bast hG hc hh ha hn h0 hj hv ?_
  rw [gI_set hf]
  exact K
theorem gz_putb {i : Nat} {v : Int} {a : Nat} (ky : Int) (hG : pgG mid = some M) (hc : pmCode M pc = some (.putfield i, x, y, k)) (hky : (y : Int) = ky) (hh : hd0 c.2.2.1 c.2.2.2.1 a = .inr x) (ha : 1 ≤ a ∧ a ≤ 55) (ht : pgTy x y = .boolean) (hf : gFree a ky) (hv : v = 0 ∨ v = 1) (K : ZX mid (pc + 3) l r (wr c (zU R a ky v)) Q) : ZX mid pc l (.inl v :: .inr (.inr a) :: r) (wr c R) Q := by
  subst hky
  refine zx_putb hG hc hh ha ht hv ?_
  rw [gI_set hf]
  exact K
theorem gz_put {i : Nat} {v : Int} {a : Nat} (ky : Int) (hG : pgG mid = some M) (hc : pmCode M pc = some (.putfield i, x, y, k)) (hky : (y : Int) = ky) (hh : hd0 c.2.2.1 c.2.2.2.1 a = .inr x) (ha : 1 ≤ a ∧ a ≤ 55) (ht : pgTy x y = .int) (hf : gFree a ky) (K : ZX mid (pc + 3) l r (wr c (zU R a ky v)) Q) : ZX mid pc l (.inl v :: .inr (.inr a) :: r) (wr c R) Q := by
  subst hky
  have hB : zB (.putfield i) x y pc l (.inl v :: .inr (.inr a) :: r) (wr c R) = some (pc + 3, l, r, wr c (zU R a (y : Int) v)) := by
    simp only [zB]
    rw [show hd0 (wr c R).2.2.1 (wr c R).2.2.2.1 a = .inr x from hh]
    simp only
    rw [show decide (True ∧ 1 ≤ a ∧ a ≤ 55) = true from decide_eq_true ⟨trivial, ha⟩]
    simp only [ht]
    rw [gI_set hf]
  exact PX.step (fun n => pmX_B hG hc (pmB_A (zB_c hB)) (zB_c hB)) K
theorem gz_iald {j : Int} {a n : Nat} (hG : pgG mid = some M) (hc : pmCode M pc = some (.iaload, x, y, k)) (hh : hd0 c.2.2.1 c.2.2.2.1 a = .inl (.int, n)) (ha : a ≤ 55) (hf : gI c R a j = R a j) (hn : n < 2 ^ 31) (h0 : 0 ≤ j) (hj : j < n) (K : ZX mid (pc + 1) l (.inl (R a j) :: r) (wr c R) Q) : ZX mid pc l (.inl j :: .inr (.inr a) :: r) (wr c R) Q := by
  refine zx_iald hG hc hh ha hn h0 hj ?_
  rw [show (wr c R).2.2.2.2.1 a j = R a j from hf]
  exact K
theorem gz_bald {j : Int} {a n : Nat} (hG : pgG mid = some M) (hc : pmCode M pc = some (.baload, x, y, k)) (hh : hd0 c.2.2.1 c.2.2.2.1 a = .inl (.boolean, n)) (ha : 1 ≤ a ∧ a ≤ 55) (hf : gI c R a j = R a j) (hn : n < 2 ^ 31) (h0 : 0 ≤ j) (hj : j < n) (K : ZX mid (pc + 1) l (.inl (R a j) :: r) (wr c R) Q) : ZX mid pc l (.inl j :: .inr (.inr a) :: r) (wr c R) Q := by
  refine zx_bald hG hc hh ha hn h0 hj ?_
  rw [show (wr c R).2.2.2.2.1 a j = R a j from hf]
  exact K
theorem gz_ld6 {j : Int} (hG : pgG mid = some M) (hc : pmCode M pc = some (.iaload, x, y, k)) (hg : Geo c) (h0 : 0 ≤ j) (hj : j < (cS c : Int)) (K : ZX mid (pc + 1) l (.inl (lay c j) :: r) (wr c R) Q) : ZX mid pc l (.inl j :: .inr (.inr 6) :: r) (wr c R) Q := by
  refine zx_iald (n := cS c) hG hc rfl (by decide) (by have := hg.S; omega) h0 hj ?_
  rw [show (wr c R).2.2.2.2.1 6 j = lay c j from if_pos ⟨h0, hj⟩]
  exact K
theorem gz_ld7 {j : Int} (hG : pgG mid = some M) (hc : pmCode M pc = some (.iaload, x, y, k)) (hg : Geo c) (h0 : 0 ≤ j) (hj : j < (cS c : Int)) (K : ZX mid (pc + 1) l (.inl (xo c j) :: r) (wr c R) Q) : ZX mid pc l (.inl j :: .inr (.inr 7) :: r) (wr c R) Q := by
  refine zx_iald (n := cS c) hG hc rfl (by decide) (by have := hg.S; omega) h0 hj ?_
  rw [show (wr c R).2.2.2.2.1 7 j = xo c j from if_pos ⟨h0, hj⟩]
  exact K
theorem gz_ld8 {j : Int} (hG : pgG mid = some M) (hc : pmCode M pc = some (.iaload, x, y, k)) (hg : Geo c) (h0 : 0 ≤ j) (hj : j < (cS c : Int)) (K : ZX mid (pc + 1) l (.inl (yo c j) :: r) (wr c R) Q) : ZX mid pc l (.inl j :: .inr (.inr 8) :: r) (wr c R) Q := by
  refine zx_iald (n := cS c) hG hc rfl (by decide) (by have := hg.S; omega) h0 hj ?_
  rw [show (wr c R).2.2.2.2.1 8 j = yo c j from if_pos ⟨h0, hj⟩]
  exact K
end GR
