/-! ===== the course of a run ===== -/
/-- routes, steps up, history, joined, failed, rounds, ways, ways that tore -/
abbrev aS : Type := (Int → Int → Prop) × (Int → Int → Prop) × (Int → Int) × (Int → Prop) × (Int → Prop) × Int × Int × Int
def aR (s : aS) : Int → Int → Prop := s.1
def aU (s : aS) : Int → Int → Prop := s.2.1
def aP (s : aS) : Int → Int := s.2.2.1
def aJ (s : aS) : Int → Prop := s.2.2.2.1
def aF (s : aS) : Int → Prop := s.2.2.2.2.1
def aN (s : aS) : Int := s.2.2.2.2.2.1
def aA (s : aS) : Int := s.2.2.2.2.2.2.1
def aT (s : aS) : Int := s.2.2.2.2.2.2.2
def opn (c : zC) (D : zI) (s : aS) (n : Int) (tr : Prop) (p : Int) : Prop := D 9 p = 0 ∧ ¬ nearC c D n p ∧ (tr ∨ ¬ nearR c D (aR s) n p)
noncomputable def ext (c : zC) (D : zI) (s : aS) (n : Int) (p : Int) : Int := aP s p + pI (nearR c D (aR s) n p) 20 0
noncomputable def fd (c : zC) (D : zI) (s : aS) (n : Int) (tr : Prop) (t : Int → Prop) : Int → Int := dst c D (opn c D s n tr) (ext c D s n) t
def cnd (c : zC) (D : zI) (n : Int) (t : Int → Prop) (f : Int → Int) (p : Int) : Prop := pls c p ∧ (pin c D n p ∧ ¬ t p) ∧ f p < FAR
noncomputable def gE (c : zC) (D : zI) (s : aS) (n : Int) (tr : Prop) (t : Int → Prop) : Int := gl (cnd c D n t (fd c D s n tr t)) (fd c D s n tr t)
noncomputable def wE (c : zC) (D : zI) (s : aS) (n : Int) (tr : Prop) (t : Int → Prop) : Nat → Int := wy c D (ext c D s n) (fd c D s n tr t) (gE c D s n tr t)
def onw (t : Int → Prop) (w : Nat → Int) (k : Nat) : Prop := ∀ j, j ≤ k → ¬ t (w j)
def inw (t : Int → Prop) (w : Nat → Int) (p : Int) : Prop := ∃ k, onw t w k ∧ w k = p
def los (c : zC) (D : zI) (rt : Int → Int → Prop) (n : Int) (t : Int → Prop) (w : Nat → Int) (b : Int) : Prop := ∃ k, onw t w k ∧ hitP c D rt n b (w k)
/-- routing: the tree, its steps up, the rest -/
abbrev aX : Type := (Int → Prop) × (Int → Prop) × aS
noncomputable def aW (c : zC) (D : zI) (n : Int) (tr : Prop) (x : aX) : aX :=
  (fun p => x.1 p ∨ inw x.1 (wE c D x.2.2 n tr x.1) p,
   fun p => x.2.1 p ∨ ∃ k, onw x.1 (wE c D x.2.2 n tr x.1) k ∧ lay c (wE c D x.2.2 n tr x.1 k) ≠ lay c (wE c D x.2.2 n tr x.1 (k + 1)) ∧ p = min (wE c D x.2.2 n tr x.1 k) (wE c D x.2.2 n tr x.1 (k + 1)),
   (fun b q => aR x.2.2 b q ∧ ¬ los c D (aR x.2.2) n x.1 (wE c D x.2.2 n tr x.1) b,
    fun b q => aU x.2.2 b q ∧ ¬ los c D (aR x.2.2) n x.1 (wE c D x.2.2 n tr x.1) b,
    fun p => aP x.2.2 p + pI (inw x.1 (wE c D x.2.2 n tr x.1) p ∧ nearR c D (aR x.2.2) n p) 5 0,
    fun b => aJ x.2.2 b ∧ ¬ los c D (aR x.2.2) n x.1 (wE c D x.2.2 n tr x.1) b,
    aF x.2.2, aN x.2.2, aA x.2.2 + bI (¬ tr), aT x.2.2 + bI tr))
def mix (n : Int) (t : Int → Prop) (rt : Int → Int → Prop) : Int → Int → Prop := fun b q => (b = n ∧ t q) ∨ (b ≠ n ∧ rt b q)
def mixs (n : Int) (x : aX) : aS := (mix n x.1 (aR x.2.2), mix n x.2.1 (aU x.2.2), aP x.2.2, aJ x.2.2, aF x.2.2, aN x.2.2, aA x.2.2, aT x.2.2)
def fnn (n : Int) (x : aX) : aS := (mix n x.1 (aR x.2.2), mix n x.2.1 (aU x.2.2), aP x.2.2, fun b => aJ x.2.2 b ∨ b = n, fun b => aF x.2.2 b ∧ b ≠ n, aN x.2.2, aA x.2.2, aT x.2.2)
def fll (n : Int) (s : aS) : aS := (aR s, aU s, aP s, aJ s, fun b => aF s b ∨ b = n, aN s, aA s, aT s)
def dne (c : zC) (D : zI) (n : Int) (t : Int → Prop) : Prop := ∀ p, pin c D n p → t p
noncomputable def aL (c : zC) (D : zI) (n : Int) : Nat → aX → aS
  | 0, x => fnn n x
  | k + 1, x => cI (dne c D n x.1) (fnn n x) (cI (gE c D x.2.2 n False x.1 ≠ -1) (aL c D n k (aW c D n False x)) (cI (gE c D x.2.2 n True x.1 ≠ -1) (aL c D n k (aW c D n True x)) (fll n x.2.2)))
noncomputable def strt (c : zC) (D : zI) (n : Int) : Int := pp c D (kth (fun k => D 11 k = n) (D 10 2).toNat 0 0)
noncomputable def aRt (c : zC) (D : zI) (n : Int) (s : aS) : aS := aL c D n 40 (fun p => p = strt c D n, fun _ => False, s)
noncomputable def aNs (c : zC) (D : zI) : Nat → aS → aS
  | 0, s => s
  | n + 1, s => cI (clo c D n ∨ aJ (aNs c D n s) n) (aNs c D n s) (aRt c D n (aNs c D n s))
def wai (c : zC) (D : zI) (s : aS) : Prop := ∃ n, 0 ≤ n ∧ n < D 10 0 ∧ ¬ clo c D n ∧ ¬ aJ s n
def bump (s : aS) : aS := (aR s, aU s, aP s, aJ s, aF s, aN s + 1, aA s, aT s)
noncomputable def aRs (c : zC) (D : zI) : Nat → aS → aS
  | 0, s => s
  | k + 1, s => cI (wai c D s) (aRs c D k (aNs c D (D 10 0).toNat (bump s))) s
noncomputable def s0 (c : zC) (D : zI) : aS := (fun _ _ => False, fun _ _ => False, fun _ => 0, fun n => 0 ≤ n ∧ n < D 10 0 ∧ ¬ clo c D n ∧ cnt (fun k => D 11 k = n) (D 10 2).toNat ≤ 1, fun _ => False, 0, 0, 0)
noncomputable def aRun (c : zC) (D : zI) (k : Int) : aS := aRs c D k.toNat (s0 c D)
/-- what holds all along -/
def AI (c : zC) (D : zI) (s : aS) (B : Int) : Prop :=
  (∀ b q, aR s b q → 0 ≤ b ∧ b < D 10 0 ∧ pls c q ∧ aJ s b ∧ ¬ aF s b ∧ (∃ k, 0 ≤ k ∧ k < D 10 2 ∧ D 11 k = b) ∧ ∀ n p, pin c D n p → ¬ clash c D n p b q) ∧
  (∀ b, 0 ≤ b → b < D 10 0 → ¬ clo c D b → ¬ aJ s b → ∃ k, 0 ≤ k ∧ k < D 10 2 ∧ D 11 k = b) ∧ (∀ b, aJ s b → 0 ≤ b ∧ b < D 10 0 ∧ ¬ clo c D b) ∧ (∀ p, pls c p → 0 ≤ aP s p ∧ aP s p ≤ 5 * aT s) ∧ 0 ≤ aT s ∧ aT s ≤ B ∧ 0 ≤ aA s ∧ aA s ≤ B ∧ 0 ≤ aN s ∧ ∀ b q, aU s b q → aJ s b
def RI (c : zC) (D : zI) (n : Int) (x : aX) (B : Int) : Prop := AI c D x.2.2 B ∧ 0 ≤ n ∧ n < D 10 0 ∧ ¬ clo c D n ∧ ¬ aJ x.2.2 n ∧ (∀ p, x.1 p → pls c p ∧ ¬ nearC c D n p ∧ ¬ nearR c D (aR x.2.2) n p) ∧ (∃ k, 0 ≤ k ∧ k < D 10 2 ∧ D 11 k = n)
theorem gl_ok {c : zC} {cand : Int → Prop} {f : Int → Int} (h : ∀ p, cand p → pls c p ∧ 0 ≤ f p) (hx : ∃ p, cand p) : cand (gl cand f) ∧ ∀ p, cand p → ¬ bef f p (gl cand f) := by
  obtain ⟨p0_v, h0⟩ := hx
  have k0_v := h p0_v h0
  have kk : ∀ p, cand p → 0 ≤ f p * (cS c : Int) + p := fun p hp => by
    have a := h p hp
    have := Int.mul_nonneg a.2 (show 0 ≤ (cS c : Int) by omega)
    have := a.1.1
    omega
  obtain ⟨m, ⟨e, h1, h2⟩, h3⟩ := leastN (P := fun m : Nat => ∃ p, cand p ∧ f p * (cS c : Int) + p = m) (n := (f p0_v * (cS c : Int) + p0_v).toNat) ⟨p0_v, h0, by have := kk p0_v h0; omega⟩
  have hm_v : ∀ p, cand p → ¬ bef f p e := fun p hp z => by
    have a := h3 (f p * (cS c : Int) + p).toNat ⟨p, hp, by have := kk p hp; omega⟩
    have b := kk p hp
    have hp1 := (h p hp).1
    have he1 := (h e h1).1
    have q1_v := hp1.1
    have q2_v := hp1.2
    have q3_v := he1.1
    rcases z with z | ⟨z1, z2⟩
    · have := Int.mul_le_mul_of_nonneg_right (show f p + 1 ≤ f e by omega) (show 0 ≤ (cS c : Int) by omega)
      rw [Int.add_mul] at this
      omega
    · rw [z1] at a b
      omega
  rw [gl_eq h1 hm_v]
  exact ⟨h1, hm_v⟩
section RUN
variable {c : zC} {D : zI} {n : Int} {x : aX} {B : Int} {tr : Prop}
theorem ext_0 (h : AI c D x.2.2 B) : ∀ p, pls c p → 0 ≤ ext c D x.2.2 n p := fun p hp => by
  have := h.2.2.2.1 p hp
  unfold ext
  by_cases q : nearR c D (aR x.2.2) n p
  · rw [pI_t q]; omega
  · rw [pI_f q]; omega
theorem ext_B (h : AI c D x.2.2 B) : ∀ p, pls c p → ext c D x.2.2 n p ≤ 5 * B + 20 := fun p hp => by
  have := h.2.2.2.1 p hp
  have := h.2.2.2.2.2.1
  unfold ext
  by_cases q : nearR c D (aR x.2.2) n p
  · rw [pI_t q]; omega
  · rw [pI_f q]; omega
theorem fd_Dst (hD : DOK c D) (h : AI c D x.2.2 B) : Dst c D (opn c D x.2.2 n tr) (ext c D x.2.2 n) x.1 (fd c D x.2.2 n tr x.1) := dst_Dst hD (ext_0 h)
theorem gE_ok (hD : DOK c D) (h : AI c D x.2.2 B) (hg : gE c D x.2.2 n tr x.1 ≠ -1) : cnd c D n x.1 (fd c D x.2.2 n tr x.1) (gE c D x.2.2 n tr x.1) := by
  by_cases q : ∃ p, cnd c D n x.1 (fd c D x.2.2 n tr x.1) p
  · exact (gl_ok (fun p hp => ⟨hp.1, ((fd_Dst (n := n) (tr := tr) hD h).2.1 p hp.1).1⟩) q).1
  · exact absurd (gl_no (fun p z => q ⟨p, z⟩)) hg
/-- places of the way -/
theorem way_ok (hD : DOK c D) (h : AI c D x.2.2 B) (hg : gE c D x.2.2 n tr x.1 ≠ -1) {k : Nat} (hk : onw x.1 (wE c D x.2.2 n tr x.1) k) : pls c (wE c D x.2.2 n tr x.1 k) ∧ opn c D x.2.2 n tr (wE c D x.2.2 n tr x.1 k) := by
  have g_v := gE_ok hD h hg
  have a := wy_in hD (ext_0 h) (fd_Dst (n := n) (tr := tr) hD h) g_v.1 g_v.2.2 k (fun j hj => hk j (by omega))
  exact ⟨a.1, (bd_ok hD (ext_0 h) (fd_Dst hD h) a.1 (hk k (by omega)) a.2.1).2.2.2.2.2.2⟩
theorem inw_ok (hD : DOK c D) (h : AI c D x.2.2 B) (hg : gE c D x.2.2 n tr x.1 ≠ -1) {p : Int} (hp : inw x.1 (wE c D x.2.2 n tr x.1) p) : pls c p ∧ opn c D x.2.2 n tr p := by
  obtain ⟨k, k1_v, k2_v⟩ := hp
  rw [← k2_v]
  exact way_ok hD h hg k1_v
theorem RI_step (hD : DOK c D) (h : RI c D n x B) (hg : gE c D x.2.2 n tr x.1 ≠ -1) : RI c D n (aW c D n tr x) (B + 1) := by
  obtain ⟨⟨i1_v, i2_v, i3_v, i4_v, i5_v, i6_v, i7_v, i8_v, i9_v, i10_v⟩, n0, n1, nc, nj, tp, np⟩ := h
  have hA : AI c D x.2.2 B := ⟨i1_v, i2_v, i3_v, i4_v, i5_v, i6_v, i7_v, i8_v, i9_v, i10_v⟩
  have t01 := bI_01 tr
  have u01 := bI_01 (¬ tr)
  refine ⟨⟨?_, ?_, ?_, ?_, ?_, ?_, ?_, ?_, i9_v, fun b q z => ⟨i10_v b q z.1, z.2⟩⟩, n0, n1, nc, fun z => nj z.1, ?_, np⟩
  · rintro b q ⟨z1, z2⟩
    obtain ⟨k1_v, k2_v, k3_v, k4_v, k5_v, k6_v, k7_v⟩ := i1_v b q z1
    exact ⟨k1_v, k2_v, k3_v, ⟨k4_v, z2⟩, k5_v, k6_v, k7_v⟩
  · intro b b0 b1 b2 b3
    by_cases z : aJ x.2.2 b
    · have z2 : los c D (aR x.2.2) n x.1 (wE c D x.2.2 n tr x.1) b := Classical.byContradiction fun y => b3 ⟨z, y⟩
      obtain ⟨k, k1_v, q, q1_v, q2_v, q3_v⟩ := z2
      exact (i1_v b q q2_v).2.2.2.2.2.1
    · exact i2_v b b0 b1 b2 z
  · exact fun b z => i3_v b z.1
  · intro p hp
    have a := i4_v p hp
    show 0 ≤ aP x.2.2 p + pI (inw x.1 (wE c D x.2.2 n tr x.1) p ∧ nearR c D (aR x.2.2) n p) 5 0 ∧ aP x.2.2 p + pI (inw x.1 (wE c D x.2.2 n tr x.1) p ∧ nearR c D (aR x.2.2) n p) 5 0 ≤ 5 * (aT x.2.2 + bI tr)
    by_cases z : inw x.1 (wE c D x.2.2 n tr x.1) p ∧ nearR c D (aR x.2.2) n p
    · have y := (inw_ok hD hA hg z.1).2.2.2.resolve_right (fun w => w z.2)
      rw [pI_t z, bI_t y]
      omega
    · rw [pI_f z]
      omega
  · show 0 ≤ aT x.2.2 + bI tr
    omega
  · show aT x.2.2 + bI tr ≤ B + 1
    omega
  · show 0 ≤ aA x.2.2 + bI (¬ tr)
    omega
  · show aA x.2.2 + bI (¬ tr) ≤ B + 1
    omega
  · rintro p (z | z)
    · obtain ⟨a, b, d⟩ := tp p z
      exact ⟨a, b, fun ⟨b1, q, q1_v, q2_v, q3_v⟩ => d ⟨b1, q, q1_v, q2_v.1, q3_v⟩⟩
    · have y := inw_ok hD hA hg z
      refine ⟨y.1, y.2.2.1, fun ⟨b1, q, q1_v, q2_v, q3_v⟩ => q2_v.2 ?_⟩
      obtain ⟨k, k1_v, k2_v⟩ := z
      exact ⟨k, k1_v, q, q1_v, q2_v.1, by rw [k2_v]; exact q3_v⟩
theorem fnn_AI (h : RI c D n x B) : AI c D (fnn n x) B := by
  obtain ⟨⟨i1_v, i2_v, i3_v, i4_v, i5_v, i6_v, i7_v, i8_v, i9_v, i10_v⟩, n0, n1, nc, nj, tp, np⟩ := h
  refine ⟨?_, ?_, ?_, i4_v, i5_v, i6_v, i7_v, i8_v, i9_v, fun b q z => z.elim (fun y => .inr y.1) (fun y => .inl (i10_v b q y.2))⟩
  · rintro b q (⟨z1, z2⟩ | ⟨z1, z2⟩)
    · obtain ⟨a, b', d⟩ := tp q z2
      subst z1
      exact ⟨n0, n1, a, .inr rfl, fun z => z.2 rfl, np, fun m p hp z => b' ⟨m, p, hp, clash_symm z⟩⟩
    · obtain ⟨k1_v, k2_v, k3_v, k4_v, k5_v, k6_v, k7_v⟩ := i1_v b q z2
      exact ⟨k1_v, k2_v, k3_v, .inl k4_v, fun z => k5_v z.1, k6_v, k7_v⟩
  · intro b b0 b1 b2 b3
    exact i2_v b b0 b1 b2 (fun z => b3 (.inl z))
  · rintro b (z | z)
    · exact i3_v b z
    · subst z; exact ⟨n0, n1, nc⟩
theorem fll_AI (h : RI c D n x B) : AI c D (fll n x.2.2) B := by
  obtain ⟨⟨i1_v, i2_v, i3_v, i4_v, i5_v, i6_v, i7_v, i8_v, i9_v, i10_v⟩, n0, n1, nc, nj, tp, np⟩ := h
  refine ⟨?_, i2_v, i3_v, i4_v, i5_v, i6_v, i7_v, i8_v, i9_v, i10_v⟩
  rintro b q z
  obtain ⟨k1_v, k2_v, k3_v, k4_v, k5_v, k6_v, k7_v⟩ := i1_v b q z
  refine ⟨k1_v, k2_v, k3_v, k4_v, fun z => z.elim k5_v (fun y => ?_), k6_v, k7_v⟩
  subst y
  exact nj k4_v
theorem AI.le (h : AI c D x.2.2 B) {B1 : Int} (hb : B ≤ B1) : AI c D x.2.2 B1 := by
  obtain ⟨i1_v, i2_v, i3_v, i4_v, i5_v, i6_v, i7_v, i8_v, i9_v, i10_v⟩ := h
  exact ⟨i1_v, i2_v, i3_v, i4_v, i5_v, by omega, i7_v, by omega, i9_v, i10_v⟩
theorem aL_AI (hD : DOK c D) : ∀ (k : Nat) (x : aX) (B : Int), RI c D n x B → AI c D (aL c D n k x) (B + k)
  | 0, x, B, h => by
    show AI c D (fnn n x) (B + ((0 : Nat) : Int))
    rw [show B + ((0 : Nat) : Int) = B by omega]
    exact fnn_AI h
  | k + 1, x, B, h => by
    unfold aL
    have hB_v : B ≤ B + ((k + 1 : Nat) : Int) := by omega
    by_cases q1_v : dne c D n x.1
    · rw [cI_t q1_v]
      exact AI.le (x := (x.1, x.1, fnn n x)) (fnn_AI h) hB_v
    · rw [cI_f q1_v]
      by_cases q2_v : gE c D x.2.2 n False x.1 ≠ -1
      · rw [cI_t q2_v]
        have := aL_AI hD k _ _ (RI_step hD h q2_v)
        rw [show B + 1 + (k : Int) = B + ((k + 1 : Nat) : Int) by omega] at this
        exact this
      · rw [cI_f q2_v]
        by_cases q3_v : gE c D x.2.2 n True x.1 ≠ -1
        · rw [cI_t q3_v]
          have := aL_AI hD k _ _ (RI_step hD h q3_v)
          rw [show B + 1 + (k : Int) = B + ((k + 1 : Nat) : Int) by omega] at this
          exact this
        · rw [cI_f q3_v]
          exact AI.le (x := (x.1, x.1, fll n x.2.2)) (fll_AI h) hB_v
end RUN
/-- the first pin of a net that is not closed -/
theorem strt_ok {c : zC} {D : zI} (hD : DOK c D) {n : Int} (nc : ¬ clo c D n) (np : ∃ k, 0 ≤ k ∧ k < D 10 2 ∧ D 11 k = n) : pin c D n (strt c D n) := by
  obtain ⟨k, k0_v, k1_v, k2_v⟩ := np
  have p0_v := hD.2.2.1
  rcases kth_lt (P := fun k => D 11 k = n) (D 10 2).toNat 0 0 with q | ⟨q1_v, q2_v, q3_v⟩
  · exact absurd k2_v (kth_none _ 0 (by omega) q k k0_v (by omega))
  · refine ⟨_, q1_v, by omega, q3_v, fun z => nc ⟨_, q1_v, by omega, q3_v, z⟩, rfl⟩
theorem RI_0 {c : zC} {D : zI} (hD : DOK c D) {n : Int} {s : aS} {B : Int} (h : AI c D s B) (n0 : 0 ≤ n) (n1 : n < D 10 0) (nc : ¬ clo c D n) (nj : ¬ aJ s n) : RI c D n (fun p => p = strt c D n, fun _ => False, s) B := by
  have np := h.2.1 n n0 n1 nc nj
  have st_v := strt_ok hD nc np
  refine ⟨h, n0, n1, nc, nj, fun p hp => ?_, np⟩
  have hp : p = strt c D n := hp
  rw [hp]
  exact ⟨(pin_R hD st_v).2.2.1, fun ⟨b, q, q1_v, q2_v⟩ => pin_free hD st_v q1_v q2_v, fun ⟨b, q, q1_v, q2_v, q3_v⟩ => (h.1 b q q2_v).2.2.2.2.2.2 n _ st_v q3_v⟩
theorem aNs_AI {c : zC} {D : zI} (hD : DOK c D) {s : aS} {B : Int} (h : AI c D s B) : ∀ n : Nat, (n : Int) ≤ D 10 0 → AI c D (aNs c D n s) (B + 40 * n)
  | 0, _ => by
    show AI c D s (B + 40 * ((0 : Nat) : Int))
    rw [show B + 40 * ((0 : Nat) : Int) = B by omega]
    exact h
  | n + 1, hn => by
    have ih_v := aNs_AI hD h n (by omega)
    unfold aNs
    by_cases q : clo c D n ∨ aJ (aNs c D n s) n
    · rw [cI_t q]
      exact AI.le (x := (fun _ => True, fun _ => True, aNs c D n s)) ih_v (by omega)
    · rw [cI_f q]
      have := aL_AI hD 40 _ _ (RI_0 hD ih_v (by omega) (by omega) (fun z => q (.inl z)) (fun z => q (.inr z)))
      rw [show B + 40 * (n : Int) + ((40 : Nat) : Int) = B + 40 * ((n + 1 : Nat) : Int) by omega] at this
      exact this
theorem bump_AI {c : zC} {D : zI} {s : aS} {B : Int} (h : AI c D s B) : AI c D (bump s) B := by
  obtain ⟨i1_v, i2_v, i3_v, i4_v, i5_v, i6_v, i7_v, i8_v, i9_v, i10_v⟩ := h
  refine ⟨i1_v, i2_v, i3_v, i4_v, i5_v, i6_v, i7_v, i8_v, ?_, i10_v⟩
  show 0 ≤ aN s + 1
  omega
theorem cnt_one {P : Int → Prop} : ∀ n : Nat, 2 ≤ cnt P n → ∃ k : Int, 0 ≤ k ∧ k < n ∧ P k
  | 0, h => by unfold cnt at h; omega
  | n + 1, h => by
    by_cases q : P n
    · exact ⟨n, by omega, by omega, q⟩
    · unfold cnt at h
      rw [bI_f q] at h
      obtain ⟨k, k0_v, k1_v, k2_v⟩ := cnt_one (P := P) n (by omega)
      exact ⟨k, k0_v, by omega, k2_v⟩
theorem s0_AI {c : zC} {D : zI} (hD : DOK c D) : AI c D (s0 c D) 0 := by
  refine ⟨fun b q z => z.elim, fun b b0 b1 b2 b3 => ?_, fun b z => ⟨z.1, z.2.1, z.2.2.1⟩, fun p hp => ⟨Int.le_refl 0, Int.le_refl 0⟩, Int.le_refl 0, Int.le_refl 0, Int.le_refl 0, Int.le_refl 0, Int.le_refl 0, fun b q z => z.elim⟩
  have p0_v := hD.2.2.1
  by_cases q : cnt (fun k => D 11 k = b) (D 10 2).toNat ≤ 1
  · exact absurd ⟨b0, b1, b2, q⟩ b3
  · obtain ⟨k, k0_v, k1_v, k2_v⟩ := cnt_one _ (show 2 ≤ cnt (fun k => D 11 k = b) (D 10 2).toNat by omega)
    exact ⟨k, k0_v, by omega, k2_v⟩
