/-! parts of cells changed at once -/
noncomputable def pI (P : Prop) (a b : Int) : Int := @ite Int P (Classical.propDecidable P) a b
theorem pI_t {P : Prop} {a b : Int} (h : P) : pI P a b = a := @if_pos P (Classical.propDecidable P) h Int a b
theorem pI_f {P : Prop} {a b : Int} (h : ¬ P) : pI P a b = b := @if_neg P (Classical.propDecidable P) h Int a b
noncomputable def pIR (P : Prop) (a b : zI) : zI := @ite zI P (Classical.propDecidable P) a b
theorem pIR_t {P : Prop} {a b : zI} (h : P) : pIR P a b = a := @if_pos P (Classical.propDecidable P) h zI a b
theorem pIR_f {P : Prop} {a b : zI} (h : ¬ P) : pIR P a b = b := @if_neg P (Classical.propDecidable P) h zI a b
theorem pI_congr {P P1 : Prop} {a b : Int} (h : P ↔ P1) : pI P a b = pI P1 a b := by rw [propext h]
/-- where P holds the places become f -/
noncomputable def ch (R : zI) (P : Nat → Int → Prop) (f : Nat → Int → Int) : zI := fun b j => pI (P b j) (f b j) (R b j)
theorem ch_t {R : zI} {P : Nat → Int → Prop} {f : Nat → Int → Int} {b : Nat} {j : Int} (h : P b j) : ch R P f b j = f b j := pI_t h
theorem ch_f {R : zI} {P : Nat → Int → Prop} {f : Nat → Int → Int} {b : Nat} {j : Int} (h : ¬ P b j) : ch R P f b j = R b j := pI_f h
theorem ch_none {R : zI} {P : Nat → Int → Prop} {f : Nat → Int → Int} (h : ∀ b j, ¬ P b j) : ch R P f = R := by
  funext b j
  exact ch_f (h b j)
theorem ch_congr {R : zI} {P P1 : Nat → Int → Prop} {f : Nat → Int → Int} (h : ∀ b j, P b j ↔ P1 b j) : ch R P f = ch R P1 f := by
  funext b j
  exact pI_congr (h b j)
theorem ch_step {R : zI} {P P1 : Nat → Int → Prop} {f : Nat → Int → Int} {a : Nat} {k v : Int} (hv : v = f a k) (h : ∀ b j, P1 b j ↔ (P b j ∨ (b = a ∧ j = k))) : zU (ch R P f) a k v = ch R P1 f := by
  funext b j
  unfold zU
  by_cases hb : b = a ∧ j = k
  · rw [if_pos hb, ch_t ((h b j).mpr (.inr hb))]
    obtain ⟨rfl, rfl⟩ := hb
    exact hv
  · rw [if_neg hb]
    exact pI_congr ⟨fun q => (h b j).mpr (.inl q), fun q => ((h b j).mp q).resolve_right hb⟩
/-- a row filled up to n -/
noncomputable abbrev fl (R : zI) (A : Nat) (n v : Int) : zI := ch R (fun b j => b = A ∧ 0 ≤ j ∧ j < n) (fun _ _ => v)
theorem gI_free {c : zC} {R : zI} {a : Nat} {k : Int} (h2 : a ≠ 2) (h6 : a ≠ 6) (h7 : a ≠ 7) (h8 : a ≠ 8) (h32 : a ≠ 32) : gI c R a k = R a k := by
  unfold gI
  split <;> first | rfl | contradiction
def nr (c : zC) (p q d : Int) : Prop := lay c p = lay c q ∧ xo c p - xo c q ≤ d ∧ xo c q - xo c p ≤ d ∧ yo c p - yo c q ≤ d ∧ yo c q - yo c p ≤ d
section GL
variable {mid pc x y : Nat} {k : Int32} {M : pmM} {l : zL} {st r : List zV} {c : zC} {R : zI} {Q : zO → zW → Prop}
theorem gz_alen {a : Nat} {q : FieldType × Nat} (hG : pgG mid = some M) (hc : pmCode M pc = some (.arraylength, x, y, k)) (hh : hd0 c.2.2.1 c.2.2.2.1 a = .inl q) (ha : a ≤ 55) (K : ZX mid (pc + 1) l (.inl (q.2 : Int) :: r) (wr c R) Q) : ZX mid pc l (.inr (.inr a) :: r) (wr c R) Q := by
  have hB : zB .arraylength x y pc l (.inr (.inr a) :: r) (wr c R) = some (pc + 1, l, .inl (q.2 : Int) :: r, wr c R) := by
    simp only [zB]
    rw [show hd0 (wr c R).2.2.1 (wr c R).2.2.2.1 a = .inl q from hh]
    simp only
    rw [decide_eq_true ha]
  exact PX.step (fun n => pmX_B hG hc (pmB_A (zB_c hB)) (zB_c hB)) K
end GL
set_option maxHeartbeats 1000000 in
theorem s_fill {c : zC} {R : zI} {A n : Nat} {v : Int} (hh : hd0 c.2.2.1 c.2.2.2.1 A = .inl (.int, n)) (ha : 1 ≤ A ∧ A ≤ 55) (hf : A ≠ 2 ∧ A ≠ 6 ∧ A ≠ 7 ∧ A ≠ 8 ∧ A ≠ 32) (hn : n < 2 ^ 31) : MZ m_J7_fill_53178 [zr A, zi v] (wr c R) (gU (fun R1 => R1 = fl R A n v) c) := by
  refine MZ.of g_J7_fill_53178 ?_
  show ZX m_J7_fill_53178 0 [some (zr A), some (zi v), none, none] [] (wr c R) _
  refine zx_go (pc1 := 3) (l1 := [some (zr A), some (zi v), some (zi 0), none]) (st1 := [zr A]) (w1 := wr c R) g_J7_fill_53178 3 _ _ _ _ rfl ?_
  refine gz_alen g_J7_fill_53178 rfl hh ha.2 ?_
  refine zx_go (pc1 := 5) (l1 := [some (zr A), some (zi v), some (zi 0), some (zi (n : Int))]) (st1 := []) (w1 := wr c R) g_J7_fill_53178 1 _ _ _ _ rfl ?_
  have lp : ∀ (m : Nat) (i : Int) (R1 : zI), (m : Int) = n - i → (0 ≤ i ∧ R1 = fl R A i v) → ZX m_J7_fill_53178 5 [some (zr A), some (zi v), some (zi i), some (zi (n : Int))] [] (wr c R1) (gU (fun R1 => R1 = fl R A n v) c) := by
    refine fun m => Nat.strongRecOn m (fun m ih => ?_)
    intro i R1 hm ⟨i0, hR⟩
    refine zx_go (pc1 := 7) (l1 := [some (zr A), some (zi v), some (zi i), some (zi (n : Int))]) (st1 := [zi (n : Int), zi i]) (w1 := wr c R1) g_J7_fill_53178 2 _ _ _ _ rfl ?_
    refine zx_cmp g_J7_fill_53178 rfl (by omega) (by omega) (fun (h7 : (n : Int) ≤ i) => ?_) (fun (h7 : ¬ ((n : Int) ≤ i)) => ?_)
    · refine zx_vret g_J7_fill_53178 rfl ?_
      have e : i = n := by omega
      subst e
      exact gU_i hR
    · refine zx_go (pc1 := 13) (l1 := [some (zr A), some (zi v), some (zi i), some (zi (n : Int))]) (st1 := [zi v, zi i, zr A]) (w1 := wr c R1) g_J7_fill_53178 3 _ _ _ _ rfl ?_
      refine gz_iast g_J7_fill_53178 rfl hh ha ⟨hf.2.1, hf.2.2.1, hf.2.2.2.1, fun q => absurd q hf.1, fun q => absurd q hf.2.2.2.2⟩ hn i0 (by omega) ?_
      refine zx_go (pc1 := 5) (l1 := [some (zr A), some (zi v), some (zi (i + 1)), some (zi (n : Int))]) (st1 := []) (w1 := wr c (zU R1 A i v)) g_J7_fill_53178 2 _ _ _ _ rfl ?_
      refine ih (Int.toNat (n - (i + 1))) (by omega) (i + 1) _ (by omega) ⟨by omega, ?_⟩
      rw [hR]
      refine ch_step rfl fun b j => ?_
      constructor
      · rintro ⟨q1, q2, q3⟩
        by_cases q : j = i
        · exact .inr ⟨q1, q⟩
        · exact .inl ⟨q1, q2, by omega⟩
      · rintro (⟨q1, q2, q3⟩ | ⟨q1, q2⟩)
        · exact ⟨q1, q2, by omega⟩
        · exact ⟨q1, by omega, by omega⟩
  refine lp n 0 R (by omega) ⟨by omega, ?_⟩
  exact (ch_none (fun b j q => by have := q.2; omega)).symm
/-- the left-th from i on of which P holds, among n, or -1 -/
noncomputable def kth (P : Int → Prop) : Nat → Int → Int → Int
  | 0, _, _ => -1
  | n + 1, i, left => pI (P i) (if left = 0 then i else kth P n (i + 1) (left - 1)) (kth P n (i + 1) left)
theorem kth_neg {P : Int → Prop} : ∀ (n : Nat) (i left : Int), left < 0 → kth P n i left = -1
  | 0, _, _, _ => rfl
  | n + 1, i, left, h => by
    unfold kth
    rw [kth_neg n (i + 1) left h, if_neg (by omega), kth_neg n (i + 1) (left - 1) (by omega)]
    by_cases q : P i
    · rw [pI_t q]
    · rw [pI_f q]
theorem kth_y {P : Int → Prop} {N i left : Int} (h : i < N) (hp : P i) (hl : left ≠ 0) : kth P (N - i).toNat i left = kth P (N - (i + 1)).toNat (i + 1) (left - 1) := by
  rw [show (N - i).toNat = (N - (i + 1)).toNat + 1 by omega]
  rw [kth, pI_t hp, if_neg hl]
theorem kth_0 {P : Int → Prop} {N i left : Int} (h : i < N) (hp : P i) (hl : left = 0) : kth P (N - i).toNat i left = i := by
  rw [show (N - i).toNat = (N - (i + 1)).toNat + 1 by omega]
  rw [kth, pI_t hp, if_pos hl]
theorem kth_n {P : Int → Prop} {N i left : Int} (h : i < N) (hp : ¬ P i) : kth P (N - i).toNat i left = kth P (N - (i + 1)).toNat (i + 1) left := by
  rw [show (N - i).toNat = (N - (i + 1)).toNat + 1 by omega]
  rw [kth, pI_f hp]
theorem kth_e {P : Int → Prop} {N i left : Int} (h : N ≤ i) : kth P (N - i).toNat i left = -1 := by
  rw [show (N - i).toNat = 0 by omega]
  rfl
theorem kth_congr {P P1 : Int → Prop} : ∀ (n : Nat) (i left : Int), (∀ j, i ≤ j → j < i + n → (P j ↔ P1 j)) → kth P n i left = kth P1 n i left
  | 0, _, _, _ => rfl
  | n + 1, i, left, h => by
    unfold kth
    rw [kth_congr n (i + 1) left (fun j h1 h2 => h j (by omega) (by omega)), kth_congr n (i + 1) (left - 1) (fun j h1 h2 => h j (by omega) (by omega))]
    exact pI_congr (h i (by omega) (by omega))
theorem kth_lt {P : Int → Prop} : ∀ (n : Nat) (i left : Int), kth P n i left = -1 ∨ (i ≤ kth P n i left ∧ kth P n i left < i + n ∧ P (kth P n i left))
  | 0, _, _ => .inl rfl
  | n + 1, i, left => by
    unfold kth
    have h1 := kth_lt (P := P) n (i + 1) left
    have h2 := kth_lt (P := P) n (i + 1) (left - 1)
    by_cases q : P i
    · rw [pI_t q]
      by_cases z : left = 0
      · rw [if_pos z]
        exact .inr ⟨by omega, by omega, q⟩
      · rw [if_neg z]
        rcases h2 with h2 | ⟨a, b, e⟩
        · exact .inl h2
        · exact .inr ⟨by omega, by omega, e⟩
    · rw [pI_f q]
      rcases h1 with h1 | ⟨a, b, e⟩
      · exact .inl h1
      · exact .inr ⟨by omega, by omega, e⟩
/-- r is the first below n of which P holds, or -1 -/
def fstI (P : Int → Prop) (n r : Int) : Prop := (0 ≤ r ∧ r < n ∧ P r ∧ ∀ j, 0 ≤ j → j < r → ¬ P j) ∨ (r = -1 ∧ ∀ j, 0 ≤ j → j < n → ¬ P j)
theorem fstI_uniq {P P1 : Int → Prop} {n r r1 : Int} (hP : ∀ j, 0 ≤ j → j < n → (P j ↔ P1 j)) (h : fstI P n r) (h1 : fstI P1 n r1) : r = r1 := by
  rcases h with ⟨a1, a2, a3, a4⟩ | ⟨a1, a2⟩ <;> rcases h1 with ⟨b1, b2, b3, b4⟩ | ⟨b1, b2⟩
  · by_cases q : r < r1
    · exact absurd ((hP r a1 a2).mp a3) (b4 r a1 q)
    · by_cases z : r1 < r
      · exact absurd ((hP r1 b1 b2).mpr b3) (a4 r1 b1 z)
      · omega
  · exact absurd ((hP r a1 a2).mp a3) (b2 r a1 a2)
  · exact absurd ((hP r1 b1 b2).mpr b3) (a2 r1 b1 b2)
  · omega
