/-! ===== contracts (3): sets of nets ===== -/
theorem drop3 {R R1 : zI} {P P1 : Nat → Int → Prop} {A B C : Nat} {i m : Int} (hAB : A ≠ B) (hAC : A ≠ C) (hBC : B ≠ C) (hP : ∀ b, ¬ P b i) (h1 : ∀ b j, P1 b j ↔ (P b j ∨ ((b = A ∨ b = B ∨ b = C) ∧ j = i))) (h : R1 = ch R P (fun b j => zand (R b j) m)) : zU (zU (zU R1 A i (zand (R1 A i) m)) B i (zand (zU R1 A i (zand (R1 A i) m) B i) m)) C i (zand (zU (zU R1 A i (zand (R1 A i) m)) B i (zand (zU R1 A i (zand (R1 A i) m) B i) m) C i) m) = ch R P1 (fun b j => zand (R b j) m) := by
  subst h
  have e1 : zU (ch R P (fun b j => zand (R b j) m)) A i (zand (ch R P (fun b j => zand (R b j) m) A i) m) = ch R (fun b j => P b j ∨ (b = A ∧ j = i)) (fun b j => zand (R b j) m) := ch_step (by rw [ch_f (hP A)]) (fun b j => Iff.rfl)
  rw [e1]
  have e2 : zU (ch R (fun b j => P b j ∨ (b = A ∧ j = i)) (fun b j => zand (R b j) m)) B i (zand (ch R (fun b j => P b j ∨ (b = A ∧ j = i)) (fun b j => zand (R b j) m) B i) m) = ch R (fun b j => (P b j ∨ (b = A ∧ j = i)) ∨ (b = B ∧ j = i)) (fun b j => zand (R b j) m) := ch_step (by rw [ch_f (fun q => q.elim (hP B) (fun z => hAB z.1.symm))]) (fun b j => Iff.rfl)
  rw [e2]
  refine ch_step (by rw [ch_f (fun q => q.elim (fun q => q.elim (hP C) (fun z => hAC z.1.symm)) (fun z => hBC z.1.symm))]) (fun b j => ?_)
  rw [h1]
  constructor
  · rintro (q | ⟨q | q | q, z⟩)
    · exact .inl (.inl (.inl q))
    · exact .inl (.inl (.inr ⟨q, z⟩))
    · exact .inl (.inr ⟨q, z⟩)
    · exact .inr ⟨q, z⟩
  · rintro (((q | ⟨q, z⟩) | ⟨q, z⟩) | ⟨q, z⟩)
    · exact .inl q
    · exact .inr ⟨.inl q, z⟩
    · exact .inr ⟨.inr (.inl q), z⟩
    · exact .inr ⟨.inr (.inr q), z⟩
theorem drop1 {R R1 : zI} {P P1 : Nat → Int → Prop} {A : Nat} {i m : Int} (hP : ¬ P A i) (h1 : ∀ b j, P1 b j ↔ (P b j ∨ (b = A ∧ j = i))) (h : R1 = ch R P (fun b j => zand (R b j) m)) : zU R1 A i (zand (R1 A i) m) = ch R P1 (fun b j => zand (R b j) m) := by
  subst h
  exact ch_step (by rw [ch_f hP]) h1
noncomputable def entv (R : zI) (n p tr : Int) : Int := pI (R 9 p ≠ 0 ∨ clv (R 19) (R 20) n p (R 10 1) ≠ 0) (-1) (pI (clv (R 23) (R 24) n p (R 10 1) = 0) (R 29 p) (pI (tr ≠ 0) (R 29 p + 20) (-1)))
noncomputable def outp (R : zI) (n : Int) (k : Int) : Int := if k = -1 then -1 else R 14 (k * 4 + R 16 k)
def outs (R : zI) (n : Int) (k : Int) : Prop := R 11 k = n ∧ R 16 k ≠ -1 ∧ ¬ tb (R 22 (R 14 (k * 4 + R 16 k))) n
def fitP (R : zI) (pin n : Int) (i : Int) : Prop := R 9 (R 14 (pin * 4 + i)) = 0 ∧ clv (R 19) (R 20) n (R 14 (pin * 4 + i)) (R 10 1) = 0
def hasC (R : zI) (p : Int) : Prop := ∃ n, 0 ≤ n ∧ n < R 10 0 ∧ tb (zor (R 18 p) (R 22 p)) n ∧ zor (clv (R 19) (R 20) n p (R 10 1)) (clv (R 23) (R 24) n p (R 10 1)) ≠ 0

set_option maxHeartbeats 1000000 in
theorem s_add17 {c : zC} {R : zI} (hg : Geo c) {n p : Int} (h0 : 0 ≤ p) (h1 : p < (cS c : Int)) (s0 : 0 ≤ R 3 (lay c p)) (s1 : R 3 (lay c p) ≤ 2) : MZ m_X4_add [zr 17, zi n, zi p] (wr c R) (gU (fun R1 => R1 = mkd c (mkd c (zU R 18 p (zor (R 18 p) (zshl 1 n))) 19 n p (R 3 (lay c p)) (fun _ => True)) 20 n p (R 3 (lay c p) + 1) (fun _ => True)) c) := by
  refine MZ.of g_X4_add ?_
  show ZX m_X4_add 0 [some (zr 17), some (zi n), some (zi p), none] [] (wr c R) _
  have gq := place_geo hg h0 h1
  have g2 := hg
  unfold Geo at g2
  have g3 := hg.S
  refine zx_go (pc1 := 15) (l1 := [some (zr 17), some (zi n), some (zi p), none]) (st1 := [zi p, zr 6, zr 3]) (w1 := wr c R) g_X4_add 7 _ _ _ _ rfl ?_
  refine gz_ld6 g_X4_add rfl hg (by omega) (by omega) ?_
  refine gz_iald g_X4_add rfl (n := 3) rfl (by decide) rfl (by decide) (by omega) (by omega) ?_
  refine zx_go (pc1 := 24) (l1 := [some (zr 17), some (zi n), some (zi p), some (zi (R 3 (lay c p)))]) (st1 := [zi p, zr 18, zi p, zr 18]) (w1 := wr c R) g_X4_add 5 _ _ _ _ rfl ?_
  refine gz_iald g_X4_add rfl (n := cS c) rfl (by decide) rfl (by have := hg.S; omega) (by omega) (by omega) ?_
  refine zx_go (pc1 := 27) (l1 := [some (zr 17), some (zi n), some (zi p), some (zi (R 3 (lay c p)))]) (st1 := [zi n, zi 1, zi (R 18 p), zi p, zr 18]) (w1 := wr c R) g_X4_add 2 _ _ _ _ rfl ?_
  refine zx_go (pc1 := 28) (l1 := [some (zr 17), some (zi n), some (zi p), some (zi (R 3 (lay c p)))]) (st1 := [zi (zshl 1 n), zi (R 18 p), zi p, zr 18]) (w1 := wr c R) g_X4_add 1 _ _ _ _ rfl ?_
  refine zx_go (pc1 := 29) (l1 := [some (zr 17), some (zi n), some (zi p), some (zi (R 3 (lay c p)))]) (st1 := [zi (zor (R 18 p) (zshl 1 n)), zi p, zr 18]) (w1 := wr c R) g_X4_add 1 _ _ _ _ rfl ?_
  refine gz_iast g_X4_add rfl (n := cS c) rfl (by decide) (by refine ⟨?_, ?_, ?_, ?_, ?_⟩ <;> simp) (by have := hg.S; omega) (by omega) (by omega) ?_
  refine zx_go (pc1 := 38) (l1 := [some (zr 17), some (zi n), some (zi p), some (zi (R 3 (lay c p)))]) (st1 := [zi (R 3 (lay c p)), zi p, zi n, zr 19, zr 17]) (w1 := wr c (zU R 18 p (zor (R 18 p) (zshl 1 n)))) g_X4_add 6 _ _ _ _ rfl ?_
  refine gx_cvU (As := [zr 19, zi n, zi p, zi (R 3 (lay c p))]) (rest := []) g_X4_add rfl g_X4_mark rfl rfl (Nat.le_of_ble_eq_true rfl) (Nat.le_of_ble_eq_true rfl) rfl (by decide) (s_mark19 hg (by omega) (by omega) (by omega) (by omega)) (fun R38 hR38 => ?_)
  refine zx_go (pc1 := 51) (l1 := [some (zr 17), some (zi n), some (zi p), some (zi (R 3 (lay c p)))]) (st1 := [zi ((R 3 (lay c p)) + 1), zi p, zi n, zr 20, zr 17]) (w1 := wr c R38) g_X4_add 8 _ _ _ _ rfl ?_
  refine gx_cvU (As := [zr 20, zi n, zi p, zi ((R 3 (lay c p)) + 1)]) (rest := []) g_X4_add rfl g_X4_mark rfl rfl (Nat.le_of_ble_eq_true rfl) (Nat.le_of_ble_eq_true rfl) rfl (by decide) (s_mark20 hg (by omega) (by omega) (by omega) (by omega)) (fun R51 hR51 => ?_)
  refine zx_vret g_X4_add rfl ?_
  refine gU_i ?_
  rw [hR51, hR38]

set_option maxHeartbeats 1000000 in
theorem s_add21 {c : zC} {R : zI} (hg : Geo c) {n p : Int} (h0 : 0 ≤ p) (h1 : p < (cS c : Int)) (s0 : 0 ≤ R 3 (lay c p)) (s1 : R 3 (lay c p) ≤ 2) : MZ m_X4_add [zr 21, zi n, zi p] (wr c R) (gU (fun R1 => R1 = mkd c (mkd c (zU R 22 p (zor (R 22 p) (zshl 1 n))) 23 n p (R 3 (lay c p)) (fun _ => True)) 24 n p (R 3 (lay c p) + 1) (fun _ => True)) c) := by
  refine MZ.of g_X4_add ?_
  show ZX m_X4_add 0 [some (zr 21), some (zi n), some (zi p), none] [] (wr c R) _
  have gq := place_geo hg h0 h1
  have g2 := hg
  unfold Geo at g2
  have g3 := hg.S
  refine zx_go (pc1 := 15) (l1 := [some (zr 21), some (zi n), some (zi p), none]) (st1 := [zi p, zr 6, zr 3]) (w1 := wr c R) g_X4_add 7 _ _ _ _ rfl ?_
  refine gz_ld6 g_X4_add rfl hg (by omega) (by omega) ?_
  refine gz_iald g_X4_add rfl (n := 3) rfl (by decide) rfl (by decide) (by omega) (by omega) ?_
  refine zx_go (pc1 := 24) (l1 := [some (zr 21), some (zi n), some (zi p), some (zi (R 3 (lay c p)))]) (st1 := [zi p, zr 22, zi p, zr 22]) (w1 := wr c R) g_X4_add 5 _ _ _ _ rfl ?_
  refine gz_iald g_X4_add rfl (n := cS c) rfl (by decide) rfl (by have := hg.S; omega) (by omega) (by omega) ?_
  refine zx_go (pc1 := 27) (l1 := [some (zr 21), some (zi n), some (zi p), some (zi (R 3 (lay c p)))]) (st1 := [zi n, zi 1, zi (R 22 p), zi p, zr 22]) (w1 := wr c R) g_X4_add 2 _ _ _ _ rfl ?_
  refine zx_go (pc1 := 28) (l1 := [some (zr 21), some (zi n), some (zi p), some (zi (R 3 (lay c p)))]) (st1 := [zi (zshl 1 n), zi (R 22 p), zi p, zr 22]) (w1 := wr c R) g_X4_add 1 _ _ _ _ rfl ?_
  refine zx_go (pc1 := 29) (l1 := [some (zr 21), some (zi n), some (zi p), some (zi (R 3 (lay c p)))]) (st1 := [zi (zor (R 22 p) (zshl 1 n)), zi p, zr 22]) (w1 := wr c R) g_X4_add 1 _ _ _ _ rfl ?_
  refine gz_iast g_X4_add rfl (n := cS c) rfl (by decide) (by refine ⟨?_, ?_, ?_, ?_, ?_⟩ <;> simp) (by have := hg.S; omega) (by omega) (by omega) ?_
  refine zx_go (pc1 := 38) (l1 := [some (zr 21), some (zi n), some (zi p), some (zi (R 3 (lay c p)))]) (st1 := [zi (R 3 (lay c p)), zi p, zi n, zr 23, zr 21]) (w1 := wr c (zU R 22 p (zor (R 22 p) (zshl 1 n)))) g_X4_add 6 _ _ _ _ rfl ?_
  refine gx_cvU (As := [zr 23, zi n, zi p, zi (R 3 (lay c p))]) (rest := []) g_X4_add rfl g_X4_mark rfl rfl (Nat.le_of_ble_eq_true rfl) (Nat.le_of_ble_eq_true rfl) rfl (by decide) (s_mark23 hg (by omega) (by omega) (by omega) (by omega)) (fun R38 hR38 => ?_)
  refine zx_go (pc1 := 51) (l1 := [some (zr 21), some (zi n), some (zi p), some (zi (R 3 (lay c p)))]) (st1 := [zi ((R 3 (lay c p)) + 1), zi p, zi n, zr 24, zr 21]) (w1 := wr c R38) g_X4_add 8 _ _ _ _ rfl ?_
  refine gx_cvU (As := [zr 24, zi n, zi p, zi ((R 3 (lay c p)) + 1)]) (rest := []) g_X4_add rfl g_X4_mark rfl rfl (Nat.le_of_ble_eq_true rfl) (Nat.le_of_ble_eq_true rfl) rfl (by decide) (s_mark24 hg (by omega) (by omega) (by omega) (by omega)) (fun R51 hR51 => ?_)
  refine zx_vret g_X4_add rfl ?_
  refine gU_i ?_
  rw [hR51, hR38]

set_option maxHeartbeats 1000000 in
theorem s_drop21 {c : zC} {R : zI} (hg : Geo c) {n : Int} : MZ m_X4_drop [zr 21, zi n] (wr c R) (gU (fun R1 => R1 = ch R (fun b j => (b = 22 ∨ b = 23 ∨ b = 24) ∧ 0 ≤ j ∧ j < (cS c : Int)) (fun b j => zand (R b j) (zxor (zshl 1 n) (-1)))) c) := by
  refine MZ.of g_X4_drop ?_
  show ZX m_X4_drop 0 [some (zr 21), some (zi n), none, none] [] (wr c R) _
  have g3 := hg.S
  refine zx_go (pc1 := 2) (l1 := [some (zr 21), some (zi n), none, none]) (st1 := [zi n, zi 1]) (w1 := wr c R) g_X4_drop 2 _ _ _ _ rfl ?_
  refine zx_go (pc1 := 3) (l1 := [some (zr 21), some (zi n), none, none]) (st1 := [zi (zshl 1 n)]) (w1 := wr c R) g_X4_drop 1 _ _ _ _ rfl ?_
  refine zx_go (pc1 := 4) (l1 := [some (zr 21), some (zi n), none, none]) (st1 := [zi (-1), zi (zshl 1 n)]) (w1 := wr c R) g_X4_drop 1 _ _ _ _ rfl ?_
  refine zx_go (pc1 := 5) (l1 := [some (zr 21), some (zi n), none, none]) (st1 := [zi (zxor (zshl 1 n) (-1))]) (w1 := wr c R) g_X4_drop 1 _ _ _ _ rfl ?_
  refine zx_go (pc1 := 8) (l1 := [some (zr 21), some (zi n), some (zi (zxor (zshl 1 n) (-1))), some (zi 0)]) (st1 := []) (w1 := wr c R) g_X4_drop 3 _ _ _ _ rfl ?_
  have lp8 : ∀ (it : Nat) (i : Int) (R1 : zI), (it : Int) = (cS c : Int) - i → (0 ≤ i ∧ i ≤ (cS c : Int) ∧ R1 = ch R (fun b j => (b = 22 ∨ b = 23 ∨ b = 24) ∧ 0 ≤ j ∧ j < i) (fun b j => zand (R b j) (zxor (zshl 1 n) (-1)))) → ZX m_X4_drop 8 [some (zr 21), some (zi n), some (zi (zxor (zshl 1 n) (-1))), some (zi i)] [] (wr c R1) (gU (fun R1 => R1 = ch R (fun b j => (b = 22 ∨ b = 23 ∨ b = 24) ∧ 0 ≤ j ∧ j < (cS c : Int)) (fun b j => zand (R b j) (zxor (zshl 1 n) (-1)))) c) := by
    refine fun it => Nat.strongRecOn it (fun it ih8 => ?_)
    intro i R1 hn8 hi8
    obtain ⟨i0, i1, i2⟩ := hi8
    refine zx_go (pc1 := 16) (l1 := [some (zr 21), some (zi n), some (zi (zxor (zshl 1 n) (-1))), some (zi i)]) (st1 := [zi (cS c : Int), zi i]) (w1 := wr c R1) g_X4_drop 4 _ _ _ _ rfl ?_
    refine zx_cmp g_X4_drop rfl (by omega) (by omega) (fun (h16 : (cS c : Int) ≤ i) => ?_) (fun (h16 : ¬ ((cS c : Int) ≤ i)) => ?_)
    · refine zx_vret g_X4_drop rfl ?_
      have e : i = (cS c : Int) := by omega
      subst e
      exact gU_i i2
    · refine zx_go (pc1 := 25) (l1 := [some (zr 21), some (zi n), some (zi (zxor (zshl 1 n) (-1))), some (zi i)]) (st1 := [zi i, zr 22, zi i, zr 22]) (w1 := wr c R1) g_X4_drop 4 _ _ _ _ rfl ?_
      refine gz_iald g_X4_drop rfl (n := cS c) rfl (by decide) rfl (by have := hg.S; omega) (by omega) (by omega) ?_
      refine zx_go (pc1 := 27) (l1 := [some (zr 21), some (zi n), some (zi (zxor (zshl 1 n) (-1))), some (zi i)]) (st1 := [zi (zxor (zshl 1 n) (-1)), zi (R1 22 i), zi i, zr 22]) (w1 := wr c R1) g_X4_drop 1 _ _ _ _ rfl ?_
      refine zx_go (pc1 := 28) (l1 := [some (zr 21), some (zi n), some (zi (zxor (zshl 1 n) (-1))), some (zi i)]) (st1 := [zi (zand (R1 22 i) (zxor (zshl 1 n) (-1))), zi i, zr 22]) (w1 := wr c R1) g_X4_drop 1 _ _ _ _ rfl ?_
      refine gz_iast g_X4_drop rfl (n := cS c) rfl (by decide) (by refine ⟨?_, ?_, ?_, ?_, ?_⟩ <;> simp) (by have := hg.S; omega) (by omega) (by omega) ?_
      refine zx_go (pc1 := 35) (l1 := [some (zr 21), some (zi n), some (zi (zxor (zshl 1 n) (-1))), some (zi i)]) (st1 := [zi i, zr 23, zi i, zr 23]) (w1 := wr c (zU R1 22 i (zand (R1 22 i) (zxor (zshl 1 n) (-1))))) g_X4_drop 4 _ _ _ _ rfl ?_
      refine gz_iald g_X4_drop rfl (n := cS c) rfl (by decide) rfl (by have := hg.S; omega) (by omega) (by omega) ?_
      refine zx_go (pc1 := 37) (l1 := [some (zr 21), some (zi n), some (zi (zxor (zshl 1 n) (-1))), some (zi i)]) (st1 := [zi (zxor (zshl 1 n) (-1)), zi ((zU R1 22 i (zand (R1 22 i) (zxor (zshl 1 n) (-1)))) 23 i), zi i, zr 23]) (w1 := wr c (zU R1 22 i (zand (R1 22 i) (zxor (zshl 1 n) (-1))))) g_X4_drop 1 _ _ _ _ rfl ?_
      refine zx_go (pc1 := 38) (l1 := [some (zr 21), some (zi n), some (zi (zxor (zshl 1 n) (-1))), some (zi i)]) (st1 := [zi (zand ((zU R1 22 i (zand (R1 22 i) (zxor (zshl 1 n) (-1)))) 23 i) (zxor (zshl 1 n) (-1))), zi i, zr 23]) (w1 := wr c (zU R1 22 i (zand (R1 22 i) (zxor (zshl 1 n) (-1))))) g_X4_drop 1 _ _ _ _ rfl ?_
      refine gz_iast g_X4_drop rfl (n := cS c) rfl (by decide) (by refine ⟨?_, ?_, ?_, ?_, ?_⟩ <;> simp) (by have := hg.S; omega) (by omega) (by omega) ?_
      refine zx_go (pc1 := 45) (l1 := [some (zr 21), some (zi n), some (zi (zxor (zshl 1 n) (-1))), some (zi i)]) (st1 := [zi i, zr 24, zi i, zr 24]) (w1 := wr c (zU (zU R1 22 i (zand (R1 22 i) (zxor (zshl 1 n) (-1)))) 23 i (zand ((zU R1 22 i (zand (R1 22 i) (zxor (zshl 1 n) (-1)))) 23 i) (zxor (zshl 1 n) (-1))))) g_X4_drop 4 _ _ _ _ rfl ?_
      refine gz_iald g_X4_drop rfl (n := cS c) rfl (by decide) rfl (by have := hg.S; omega) (by omega) (by omega) ?_
      refine zx_go (pc1 := 47) (l1 := [some (zr 21), some (zi n), some (zi (zxor (zshl 1 n) (-1))), some (zi i)]) (st1 := [zi (zxor (zshl 1 n) (-1)), zi ((zU (zU R1 22 i (zand (R1 22 i) (zxor (zshl 1 n) (-1)))) 23 i (zand ((zU R1 22 i (zand (R1 22 i) (zxor (zshl 1 n) (-1)))) 23 i) (zxor (zshl 1 n) (-1)))) 24 i), zi i, zr 24]) (w1 := wr c (zU (zU R1 22 i (zand (R1 22 i) (zxor (zshl 1 n) (-1)))) 23 i (zand ((zU R1 22 i (zand (R1 22 i) (zxor (zshl 1 n) (-1)))) 23 i) (zxor (zshl 1 n) (-1))))) g_X4_drop 1 _ _ _ _ rfl ?_
      refine zx_go (pc1 := 48) (l1 := [some (zr 21), some (zi n), some (zi (zxor (zshl 1 n) (-1))), some (zi i)]) (st1 := [zi (zand ((zU (zU R1 22 i (zand (R1 22 i) (zxor (zshl 1 n) (-1)))) 23 i (zand ((zU R1 22 i (zand (R1 22 i) (zxor (zshl 1 n) (-1)))) 23 i) (zxor (zshl 1 n) (-1)))) 24 i) (zxor (zshl 1 n) (-1))), zi i, zr 24]) (w1 := wr c (zU (zU R1 22 i (zand (R1 22 i) (zxor (zshl 1 n) (-1)))) 23 i (zand ((zU R1 22 i (zand (R1 22 i) (zxor (zshl 1 n) (-1)))) 23 i) (zxor (zshl 1 n) (-1))))) g_X4_drop 1 _ _ _ _ rfl ?_
      refine gz_iast g_X4_drop rfl (n := cS c) rfl (by decide) (by refine ⟨?_, ?_, ?_, ?_, ?_⟩ <;> simp) (by have := hg.S; omega) (by omega) (by omega) ?_
      refine zx_go (pc1 := 8) (l1 := [some (zr 21), some (zi n), some (zi (zxor (zshl 1 n) (-1))), some (zi (i + 1))]) (st1 := []) (w1 := wr c (zU (zU (zU R1 22 i (zand (R1 22 i) (zxor (zshl 1 n) (-1)))) 23 i (zand ((zU R1 22 i (zand (R1 22 i) (zxor (zshl 1 n) (-1)))) 23 i) (zxor (zshl 1 n) (-1)))) 24 i (zand ((zU (zU R1 22 i (zand (R1 22 i) (zxor (zshl 1 n) (-1)))) 23 i (zand ((zU R1 22 i (zand (R1 22 i) (zxor (zshl 1 n) (-1)))) 23 i) (zxor (zshl 1 n) (-1)))) 24 i) (zxor (zshl 1 n) (-1))))) g_X4_drop 2 _ _ _ _ rfl ?_
      refine ih8 (Int.toNat ((cS c : Int) - (i + 1))) (by omega) (i + 1) (zU (zU (zU R1 22 i (zand (R1 22 i) (zxor (zshl 1 n) (-1)))) 23 i (zand ((zU R1 22 i (zand (R1 22 i) (zxor (zshl 1 n) (-1)))) 23 i) (zxor (zshl 1 n) (-1)))) 24 i (zand ((zU (zU R1 22 i (zand (R1 22 i) (zxor (zshl 1 n) (-1)))) 23 i (zand ((zU R1 22 i (zand (R1 22 i) (zxor (zshl 1 n) (-1)))) 23 i) (zxor (zshl 1 n) (-1)))) 24 i) (zxor (zshl 1 n) (-1)))) (by omega) ?_
      refine ⟨by omega, by omega, drop3 (by decide) (by decide) (by decide) (fun b z => by have := z.2.2; omega) (fun b j => ?_) i2⟩
      constructor
      · rintro ⟨z0, z1, z2⟩
        by_cases e : j = i
        · exact .inr ⟨z0, e⟩
        · exact .inl ⟨z0, z1, by omega⟩
      · rintro (⟨z0, z1, z2⟩ | ⟨z0, z1⟩)
        · exact ⟨z0, z1, by omega⟩
        · exact ⟨z0, by omega, by omega⟩
  refine lp8 (Int.toNat ((cS c : Int) - 0)) 0 R (by omega) ?_
  refine ⟨by omega, by omega, (ch_none fun b j z => ?_).symm⟩
  obtain ⟨-, z1, z2⟩ := z
  omega

set_option maxHeartbeats 1000000 in
theorem s_isGoal {c : zC} {R : zI} (hg : Geo c) {n p : Int} (h0 : 0 ≤ p) (h1 : p < (cS c : Int)) : MZ m_X3_isGoal [zr 15, zi n, zi p] (wr c R) (qF (zi (bI (tb (zand (R 18 p) (zxor (R 22 p) (-1))) n))) (wr c R)) := by
  refine MZ.of g_X3_isGoal ?_
  show ZX m_X3_isGoal 0 [some (zr 15), some (zi n), some (zi p)] [] (wr c R) _
  refine zx_go (pc1 := 8) (l1 := [some (zr 15), some (zi n), some (zi p)]) (st1 := [zi p, zr 18]) (w1 := wr c R) g_X3_isGoal 4 _ _ _ _ rfl ?_
  refine gz_iald g_X3_isGoal rfl (n := cS c) rfl (by decide) rfl (by have := hg.S; omega) (by omega) (by omega) ?_
  refine zx_go (pc1 := 17) (l1 := [some (zr 15), some (zi n), some (zi p)]) (st1 := [zi p, zr 22, zi (R 18 p)]) (w1 := wr c R) g_X3_isGoal 4 _ _ _ _ rfl ?_
  refine gz_iald g_X3_isGoal rfl (n := cS c) rfl (by decide) rfl (by have := hg.S; omega) (by omega) (by omega) ?_
  refine zx_go (pc1 := 19) (l1 := [some (zr 15), some (zi n), some (zi p)]) (st1 := [zi (-1), zi (R 22 p), zi (R 18 p)]) (w1 := wr c R) g_X3_isGoal 1 _ _ _ _ rfl ?_
  refine zx_go (pc1 := 20) (l1 := [some (zr 15), some (zi n), some (zi p)]) (st1 := [zi (zxor (R 22 p) (-1)), zi (R 18 p)]) (w1 := wr c R) g_X3_isGoal 1 _ _ _ _ rfl ?_
  refine zx_go (pc1 := 21) (l1 := [some (zr 15), some (zi n), some (zi p)]) (st1 := [zi (zand (R 18 p) (zxor (R 22 p) (-1)))]) (w1 := wr c R) g_X3_isGoal 1 _ _ _ _ rfl ?_
  refine zx_go (pc1 := 22) (l1 := [some (zr 15), some (zi n), some (zi p)]) (st1 := [zi n, zi (zand (R 18 p) (zxor (R 22 p) (-1)))]) (w1 := wr c R) g_X3_isGoal 1 _ _ _ _ rfl ?_
  refine zx_csF (As := [zi (zand (R 18 p) (zxor (R 22 p) (-1))), zi n]) (rest := []) g_X3_isGoal rfl g_X5_isIn rfl rfl (Nat.le_of_ble_eq_true rfl) (Nat.le_of_ble_eq_true rfl) (s_isIn (zand (R 18 p) (zxor (R 22 p) (-1))) n) ?_
  refine zx_iret g_X3_isGoal rfl (.inr (bI_01 _)) ?_
  exact qF_i (by rfl)

set_option maxHeartbeats 1000000 in
theorem s_entryCost {c : zC} {R : zI} (hg : Geo c) {n p tr : Int} (h0 : 0 ≤ p) (h1 : p < (cS c : Int)) (ht : tr = 0 ∨ tr = 1) (hb : inR (R 9 p)) : MZ m_X3_entryCost [zr 15, zi n, zi p, zi tr] (wr c R) (qF (zi (entv R n p tr)) (wr c R)) := by
  refine MZ.of g_X3_entryCost ?_
  show ZX m_X3_entryCost 0 [some (zr 15), some (zi n), some (zi p), some (zi tr)] [] (wr c R) _
  refine zx_go (pc1 := 8) (l1 := [some (zr 15), some (zi n), some (zi p), some (zi tr)]) (st1 := [zi p, zr 9]) (w1 := wr c R) g_X3_entryCost 4 _ _ _ _ rfl ?_
  refine gz_bald g_X3_entryCost rfl (n := cS c) rfl (by decide) rfl (by have := hg.S; omega) (by omega) (by omega) ?_
  refine zx_if g_X3_entryCost rfl (by omega) (fun (h9 : (R 9 p) ≠ 0) => ?_) (fun (h9 : ¬ (R 9 p) ≠ 0) => ?_)
  · refine zx_go (pc1 := 32) (l1 := [some (zr 15), some (zi n), some (zi p), some (zi tr)]) (st1 := [zi (-1)]) (w1 := wr c R) g_X3_entryCost 1 _ _ _ _ rfl ?_
    refine zx_iret g_X3_entryCost rfl (.inl rfl) ?_
    refine qF_i ?_
    unfold entv
    first | (rw [pI_t (.inl h9)]; done) | (rw [pI_t (.inr h28)]; done) | (rw [pI_f (fun q => q.elim h9 (fun z => z h28)), pI_t (Classical.not_not.mp h49)]; done) | (rw [pI_f (fun q => q.elim h9 (fun z => z h28)), pI_f h49, pI_f (fun z => z h60)]; done) | (rw [pI_f (fun q => q.elim h9 (fun z => z h28)), pI_f h49, pI_t h60]; done)
  · refine zx_go (pc1 := 25) (l1 := [some (zr 15), some (zi n), some (zi p), some (zi tr)]) (st1 := [zi (R 10 1), zi p, zi n, zr 17]) (w1 := wr c R) g_X3_entryCost 7 _ _ _ _ rfl ?_
    refine zx_cvF (As := [zi n, zi p, zi (R 10 1)]) (rest := []) g_X3_entryCost rfl g_X4_clashing rfl rfl (Nat.le_of_ble_eq_true rfl) (Nat.le_of_ble_eq_true rfl) rfl (by decide) (s_clashing17 hg (by omega) (by omega)) ?_
    refine zx_if g_X3_entryCost rfl (clv_R _ _ _ _ _) (fun (h28 : (clv (R 19) (R 20) n p (R 10 1)) = 0) => ?_) (fun (h28 : ¬ (clv (R 19) (R 20) n p (R 10 1)) = 0) => ?_)
    · refine zx_go (pc1 := 46) (l1 := [some (zr 15), some (zi n), some (zi p), some (zi tr)]) (st1 := [zi (R 10 1), zi p, zi n, zr 21]) (w1 := wr c R) g_X3_entryCost 7 _ _ _ _ rfl ?_
      refine zx_cvF (As := [zi n, zi p, zi (R 10 1)]) (rest := []) g_X3_entryCost rfl g_X4_clashing rfl rfl (Nat.le_of_ble_eq_true rfl) (Nat.le_of_ble_eq_true rfl) rfl (by decide) (s_clashing21 hg (by omega) (by omega)) ?_
      refine zx_if g_X3_entryCost rfl (clv_R _ _ _ _ _) (fun (h49 : (clv (R 23) (R 24) n p (R 10 1)) ≠ 0) => ?_) (fun (h49 : ¬ (clv (R 23) (R 24) n p (R 10 1)) ≠ 0) => ?_)
      · refine zx_go (pc1 := 60) (l1 := [some (zr 15), some (zi n), some (zi p), some (zi tr)]) (st1 := [zi tr]) (w1 := wr c R) g_X3_entryCost 1 _ _ _ _ rfl ?_
        refine zx_if g_X3_entryCost rfl (by omega) (fun (h60 : tr = 0) => ?_) (fun (h60 : ¬ tr = 0) => ?_)
        · refine zx_go (pc1 := 76) (l1 := [some (zr 15), some (zi n), some (zi p), some (zi tr)]) (st1 := [zi (-1)]) (w1 := wr c R) g_X3_entryCost 1 _ _ _ _ rfl ?_
          refine zx_iret g_X3_entryCost rfl (.inl rfl) ?_
          refine qF_i ?_
          unfold entv
          first | (rw [pI_t (.inl h9)]; done) | (rw [pI_t (.inr h28)]; done) | (rw [pI_f (fun q => q.elim h9 (fun z => z h28)), pI_t (Classical.not_not.mp h49)]; done) | (rw [pI_f (fun q => q.elim h9 (fun z => z h28)), pI_f h49, pI_f (fun z => z h60)]; done) | (rw [pI_f (fun q => q.elim h9 (fun z => z h28)), pI_f h49, pI_t h60]; done)
        · refine zx_go (pc1 := 68) (l1 := [some (zr 15), some (zi n), some (zi p), some (zi tr)]) (st1 := [zi p, zr 29]) (w1 := wr c R) g_X3_entryCost 3 _ _ _ _ rfl ?_
          refine gz_iald g_X3_entryCost rfl (n := cS c) rfl (by decide) rfl (by have := hg.S; omega) (by omega) (by omega) ?_
          refine zx_go (pc1 := 76) (l1 := [some (zr 15), some (zi n), some (zi p), some (zi tr)]) (st1 := [zi ((R 29 p) + 20)]) (w1 := wr c R) g_X3_entryCost 3 _ _ _ _ rfl ?_
          refine zx_iret g_X3_entryCost rfl (.inl rfl) ?_
          refine qF_i ?_
          unfold entv
          first | (rw [pI_t (.inl h9)]; done) | (rw [pI_t (.inr h28)]; done) | (rw [pI_f (fun q => q.elim h9 (fun z => z h28)), pI_t (Classical.not_not.mp h49)]; done) | (rw [pI_f (fun q => q.elim h9 (fun z => z h28)), pI_f h49, pI_f (fun z => z h60)]; done) | (rw [pI_f (fun q => q.elim h9 (fun z => z h28)), pI_f h49, pI_t h60]; done)
      · refine zx_go (pc1 := 57) (l1 := [some (zr 15), some (zi n), some (zi p), some (zi tr)]) (st1 := [zi p, zr 29]) (w1 := wr c R) g_X3_entryCost 3 _ _ _ _ rfl ?_
        refine gz_iald g_X3_entryCost rfl (n := cS c) rfl (by decide) rfl (by have := hg.S; omega) (by omega) (by omega) ?_
        refine zx_iret g_X3_entryCost rfl (.inl rfl) ?_
        refine qF_i ?_
        unfold entv
        first | (rw [pI_t (.inl h9)]; done) | (rw [pI_t (.inr h28)]; done) | (rw [pI_f (fun q => q.elim h9 (fun z => z h28)), pI_t (Classical.not_not.mp h49)]; done) | (rw [pI_f (fun q => q.elim h9 (fun z => z h28)), pI_f h49, pI_f (fun z => z h60)]; done) | (rw [pI_f (fun q => q.elim h9 (fun z => z h28)), pI_f h49, pI_t h60]; done)
    · refine zx_go (pc1 := 32) (l1 := [some (zr 15), some (zi n), some (zi p), some (zi tr)]) (st1 := [zi (-1)]) (w1 := wr c R) g_X3_entryCost 1 _ _ _ _ rfl ?_
      refine zx_iret g_X3_entryCost rfl (.inl rfl) ?_
      refine qF_i ?_
      unfold entv
      first | (rw [pI_t (.inl h9)]; done) | (rw [pI_t (.inr h28)]; done) | (rw [pI_f (fun q => q.elim h9 (fun z => z h28)), pI_t (Classical.not_not.mp h49)]; done) | (rw [pI_f (fun q => q.elim h9 (fun z => z h28)), pI_f h49, pI_f (fun z => z h60)]; done) | (rw [pI_f (fun q => q.elim h9 (fun z => z h28)), pI_f h49, pI_t h60]; done)

set_option maxHeartbeats 1000000 in
theorem s_waits {c : zC} {R : zI} {n : Int} : MZ m_X3_waits [zr 15, zi n] (wr c R) (qF (zi (bI (¬ tb (zor (R 15 10) (R 15 11)) n))) (wr c R)) := by
  refine MZ.of g_X3_waits ?_
  show ZX m_X3_waits 0 [some (zr 15), some (zi n)] [] (wr c R) _
  refine zx_go (pc1 := 8) (l1 := [some (zr 15), some (zi n)]) (st1 := [zi (R 15 11), zi (R 15 10)]) (w1 := wr c R) g_X3_waits 4 _ _ _ _ rfl ?_
  refine zx_go (pc1 := 9) (l1 := [some (zr 15), some (zi n)]) (st1 := [zi (zor (R 15 10) (R 15 11))]) (w1 := wr c R) g_X3_waits 1 _ _ _ _ rfl ?_
  refine zx_go (pc1 := 10) (l1 := [some (zr 15), some (zi n)]) (st1 := [zi n, zi (zor (R 15 10) (R 15 11))]) (w1 := wr c R) g_X3_waits 1 _ _ _ _ rfl ?_
  refine zx_csF (As := [zi (zor (R 15 10) (R 15 11)), zi n]) (rest := []) g_X3_waits rfl g_X5_isIn rfl rfl (Nat.le_of_ble_eq_true rfl) (Nat.le_of_ble_eq_true rfl) (s_isIn (zor (R 15 10) (R 15 11)) n) ?_
  refine zx_ifne g_X3_waits rfl (fun (h13 : (tb (zor (R 15 10) (R 15 11)) n)) => ?_) (fun (h13 : ¬ (tb (zor (R 15 10) (R 15 11)) n)) => ?_)
  · refine zx_go (pc1 := 21) (l1 := [some (zr 15), some (zi n)]) (st1 := [zi 0]) (w1 := wr c R) g_X3_waits 1 _ _ _ _ rfl ?_
    refine zx_iret g_X3_waits rfl (.inr (.inl rfl)) ?_
    exact qF_f (fun z => z h13)
  · refine zx_go (pc1 := 21) (l1 := [some (zr 15), some (zi n)]) (st1 := [zi 1]) (w1 := wr c R) g_X3_waits 2 _ _ _ _ rfl ?_
    refine zx_iret g_X3_waits rfl (.inr (.inr rfl)) ?_
    exact qF_t h13

set_option maxHeartbeats 1000000 in
theorem s_countWay {c : zC} {R : zI} {t : Int} (ht : t = 0 ∨ t = 1) : MZ m_X3_countWay [zr 15, zi t] (wr c R) (gU (fun R1 => R1 = pIR (t ≠ 0) (zU R 15 15 (R 15 15 + 1)) (zU R 15 14 (R 15 14 + 1))) c) := by
  refine MZ.of g_X3_countWay ?_
  show ZX m_X3_countWay 0 [some (zr 15), some (zi t)] [] (wr c R) _
  refine zx_go (pc1 := 1) (l1 := [some (zr 15), some (zi t)]) (st1 := [zi t]) (w1 := wr c R) g_X3_countWay 1 _ _ _ _ rfl ?_
  refine zx_if g_X3_countWay rfl (by omega) (fun (h1 : t = 0) => ?_) (fun (h1 : ¬ t = 0) => ?_)
  · refine zx_go (pc1 := 24) (l1 := [some (zr 15), some (zi t)]) (st1 := [zi ((R 15 14) + 1), zr 15]) (w1 := wr c R) g_X3_countWay 5 _ _ _ _ rfl ?_
    refine gz_put 14 g_X3_countWay rfl rfl rfl (by decide) rfl (by refine ⟨?_, ?_, ?_, ?_, ?_⟩ <;> simp) ?_
    refine zx_vret g_X3_countWay rfl ?_
    refine gU_i ?_
    first | (rw [pIR_f (fun z => z h1)]; done) | (rw [pIR_t h1]; done)
  · refine zx_go (pc1 := 11) (l1 := [some (zr 15), some (zi t)]) (st1 := [zi ((R 15 15) + 1), zr 15]) (w1 := wr c R) g_X3_countWay 5 _ _ _ _ rfl ?_
    refine gz_put 15 g_X3_countWay rfl rfl rfl (by decide) rfl (by refine ⟨?_, ?_, ?_, ?_, ?_⟩ <;> simp) ?_
    refine zx_go (pc1 := 27) (l1 := [some (zr 15), some (zi t)]) (st1 := []) (w1 := wr c (zU R 15 15 ((R 15 15) + 1))) g_X3_countWay 1 _ _ _ _ rfl ?_
    refine zx_vret g_X3_countWay rfl ?_
    refine gU_i ?_
    first | (rw [pIR_f (fun z => z h1)]; done) | (rw [pIR_t h1]; done)

set_option maxHeartbeats 1000000 in
theorem s_whyOpen {c : zC} {R : zI} {n : Int} : MZ m_X3_whyOpen [zr 15, zi n] (wr c R) (qF (zi (pI (tb (R 15 10) n) 1 (pI (tb (R 15 12) n) 2 3))) (wr c R)) := by
  refine MZ.of g_X3_whyOpen ?_
  show ZX m_X3_whyOpen 0 [some (zr 15), some (zi n)] [] (wr c R) _
  refine zx_go (pc1 := 5) (l1 := [some (zr 15), some (zi n)]) (st1 := [zi n, zi (R 15 10)]) (w1 := wr c R) g_X3_whyOpen 3 _ _ _ _ rfl ?_
  refine zx_csF (As := [zi (R 15 10), zi n]) (rest := []) g_X3_whyOpen rfl g_X5_isIn rfl rfl (Nat.le_of_ble_eq_true rfl) (Nat.le_of_ble_eq_true rfl) (s_isIn (R 15 10) n) ?_
  refine zx_ifeq g_X3_whyOpen rfl (fun (h8 : ¬ (tb (R 15 10) n)) => ?_) (fun (h8 : (tb (R 15 10) n)) => ?_)
  · refine zx_go (pc1 := 18) (l1 := [some (zr 15), some (zi n)]) (st1 := [zi n, zi (R 15 12)]) (w1 := wr c R) g_X3_whyOpen 3 _ _ _ _ rfl ?_
    refine zx_csF (As := [zi (R 15 12), zi n]) (rest := []) g_X3_whyOpen rfl g_X5_isIn rfl rfl (Nat.le_of_ble_eq_true rfl) (Nat.le_of_ble_eq_true rfl) (s_isIn (R 15 12) n) ?_
    refine zx_ifeq g_X3_whyOpen rfl (fun (h21 : ¬ (tb (R 15 12) n)) => ?_) (fun (h21 : (tb (R 15 12) n)) => ?_)
    · refine zx_go (pc1 := 29) (l1 := [some (zr 15), some (zi n)]) (st1 := [zi 3]) (w1 := wr c R) g_X3_whyOpen 1 _ _ _ _ rfl ?_
      refine zx_iret g_X3_whyOpen rfl (.inl rfl) ?_
      refine qF_i ?_
      first | (rw [pI_t h8]; done) | (rw [pI_f h8, pI_t h21]; done) | (rw [pI_f h8, pI_f h21]; done)
    · refine zx_go (pc1 := 29) (l1 := [some (zr 15), some (zi n)]) (st1 := [zi 2]) (w1 := wr c R) g_X3_whyOpen 2 _ _ _ _ rfl ?_
      refine zx_iret g_X3_whyOpen rfl (.inl rfl) ?_
      refine qF_i ?_
      first | (rw [pI_t h8]; done) | (rw [pI_f h8, pI_t h21]; done) | (rw [pI_f h8, pI_f h21]; done)
  · refine zx_go (pc1 := 12) (l1 := [some (zr 15), some (zi n)]) (st1 := [zi 1]) (w1 := wr c R) g_X3_whyOpen 1 _ _ _ _ rfl ?_
    refine zx_iret g_X3_whyOpen rfl (.inl rfl) ?_
    refine qF_i ?_
    first | (rw [pI_t h8]; done) | (rw [pI_f h8, pI_t h21]; done) | (rw [pI_f h8, pI_f h21]; done)

set_option maxHeartbeats 1000000 in
theorem s_openNet {c : zC} {R : zI} {k : Int} (n0 : 0 ≤ R 10 0) (n1 : R 10 0 ≤ 16) (k0 : 0 ≤ k) (kr : inR k) : MZ m_X3_openNet [zr 15, zi k] (wr c R) (qF (zi (kth (fun i => ¬ tb (R 15 11) i) (R 10 0).toNat 0 k)) (wr c R)) := by
  refine MZ.of g_X3_openNet ?_
  show ZX m_X3_openNet 0 [some (zr 15), some (zi k), none, none] [] (wr c R) _
  refine zx_go (pc1 := 4) (l1 := [some (zr 15), some (zi k), some (zi k), some (zi 0)]) (st1 := []) (w1 := wr c R) g_X3_openNet 4 _ _ _ _ rfl ?_
  have lp4 : ∀ (it : Nat) (lf : Int) (i : Int), (it : Int) = R 10 0 - i → (0 ≤ i ∧ i ≤ R 10 0 ∧ 0 ≤ lf ∧ lf ≤ k ∧ kth (fun i => ¬ tb (R 15 11) i) (R 10 0).toNat 0 k = kth (fun i => ¬ tb (R 15 11) i) (R 10 0 - i).toNat i lf) → ZX m_X3_openNet 4 [some (zr 15), some (zi k), some (zi lf), some (zi i)] [] (wr c R) (qF (zi (kth (fun i => ¬ tb (R 15 11) i) (R 10 0).toNat 0 k)) (wr c R)) := by
    refine fun it => Nat.strongRecOn it (fun it ih4 => ?_)
    intro lf i hn4 hi4
    obtain ⟨i0, i1, l0, l1, e⟩ := hi4
    refine zx_go (pc1 := 12) (l1 := [some (zr 15), some (zi k), some (zi lf), some (zi i)]) (st1 := [zi (R 10 0), zi i]) (w1 := wr c R) g_X3_openNet 4 _ _ _ _ rfl ?_
    refine zx_cmp g_X3_openNet rfl (by omega) (by omega) (fun (h12 : (R 10 0) ≤ i) => ?_) (fun (h12 : ¬ ((R 10 0) ≤ i)) => ?_)
    · refine zx_go (pc1 := 42) (l1 := [some (zr 15), some (zi k), some (zi lf), some (zi i)]) (st1 := [zi (-1)]) (w1 := wr c R) g_X3_openNet 1 _ _ _ _ rfl ?_
      refine zx_iret g_X3_openNet rfl (.inl rfl) ?_
      exact qF_i (e.trans (kth_e (by omega))).symm
    · refine zx_go (pc1 := 20) (l1 := [some (zr 15), some (zi k), some (zi lf), some (zi i)]) (st1 := [zi i, zi (R 15 11)]) (w1 := wr c R) g_X3_openNet 3 _ _ _ _ rfl ?_
      refine zx_csF (As := [zi (R 15 11), zi i]) (rest := []) g_X3_openNet rfl g_X5_isIn rfl rfl (Nat.le_of_ble_eq_true rfl) (Nat.le_of_ble_eq_true rfl) (s_isIn (R 15 11) i) ?_
      refine zx_ifne g_X3_openNet rfl (fun (h23 : (tb (R 15 11) i)) => ?_) (fun (h23 : ¬ (tb (R 15 11) i)) => ?_)
      · refine zx_go (pc1 := 4) (l1 := [some (zr 15), some (zi k), some (zi lf), some (zi (i + 1))]) (st1 := []) (w1 := wr c R) g_X3_openNet 2 _ _ _ _ rfl ?_
        refine ih4 (Int.toNat (R 10 0 - (i + 1))) (by omega) lf (i + 1) (by omega) ?_
        refine ⟨by omega, by omega, by omega, by omega, ?_⟩
        first | exact e.trans (kth_n (by omega) (fun z => z h23)) | exact e.trans (kth_y (by omega) h23 (by omega))
      · refine zx_go (pc1 := 27) (l1 := [some (zr 15), some (zi k), some (zi lf), some (zi i)]) (st1 := [zi lf]) (w1 := wr c R) g_X3_openNet 1 _ _ _ _ rfl ?_
        refine zx_if g_X3_openNet rfl (by omega) (fun (h27 : lf ≠ 0) => ?_) (fun (h27 : ¬ lf ≠ 0) => ?_)
        · refine zx_go (pc1 := 4) (l1 := [some (zr 15), some (zi k), some (zi (lf + (-1))), some (zi (i + 1))]) (st1 := []) (w1 := wr c R) g_X3_openNet 3 _ _ _ _ rfl ?_
          refine ih4 (Int.toNat (R 10 0 - (i + 1))) (by omega) (lf + (-1)) (i + 1) (by omega) ?_
          refine ⟨by omega, by omega, by omega, by omega, ?_⟩
          first | exact e.trans (kth_n (by omega) (fun z => z h23)) | exact e.trans (kth_y (by omega) h23 (by omega))
        · refine zx_go (pc1 := 31) (l1 := [some (zr 15), some (zi k), some (zi lf), some (zi i)]) (st1 := [zi i]) (w1 := wr c R) g_X3_openNet 1 _ _ _ _ rfl ?_
          refine zx_iret g_X3_openNet rfl (.inl rfl) ?_
          exact qF_i (e.trans (kth_0 (by omega) h23 (by omega))).symm
  refine lp4 (Int.toNat (R 10 0 - 0)) k 0 (by omega) ?_
  exact ⟨by omega, by omega, by omega, by omega, by rw [Int.sub_zero]⟩

set_option maxHeartbeats 1000000 in
theorem s_standingAt {c : zC} {R : zI} (hg : Geo c) {n k : Int} (kr : inR k) : MZ m_X3_standingAt [zr 15, zi n, zi k] (wr c R) (qF (zi (kth (fun i => tb (zor (R 18 i) (R 22 i)) n) (cS c : Int).toNat 0 k)) (wr c R)) := by
  refine MZ.of g_X3_standingAt ?_
  show ZX m_X3_standingAt 0 [some (zr 15), some (zi n), some (zi k), none, none] [] (wr c R) _
  have g3 := hg.S
  refine zx_go (pc1 := 5) (l1 := [some (zr 15), some (zi n), some (zi k), some (zi k), some (zi 0)]) (st1 := []) (w1 := wr c R) g_X3_standingAt 4 _ _ _ _ rfl ?_
  have lp5 : ∀ (it : Nat) (lf : Int) (i : Int), (it : Int) = (cS c : Int) - i → (0 ≤ i ∧ i ≤ (cS c : Int) ∧ inR lf ∧ (0 ≤ lf ∨ lf = k ∨ lf = -1) ∧ kth (fun i => tb (zor (R 18 i) (R 22 i)) n) (cS c : Int).toNat 0 k = kth (fun i => tb (zor (R 18 i) (R 22 i)) n) ((cS c : Int) - i).toNat i lf) → ZX m_X3_standingAt 5 [some (zr 15), some (zi n), some (zi k), some (zi lf), some (zi i)] [] (wr c R) (qF (zi (kth (fun i => tb (zor (R 18 i) (R 22 i)) n) (cS c : Int).toNat 0 k)) (wr c R)) := by
    refine fun it => Nat.strongRecOn it (fun it ih5 => ?_)
    intro lf i hn5 hi5
    obtain ⟨i0, i1, lr, l0, e⟩ := hi5
    refine zx_go (pc1 := 14) (l1 := [some (zr 15), some (zi n), some (zi k), some (zi lf), some (zi i)]) (st1 := [zi (cS c : Int), zi i]) (w1 := wr c R) g_X3_standingAt 4 _ _ _ _ rfl ?_
    refine zx_cmp g_X3_standingAt rfl (by omega) (by omega) (fun (h14 : (cS c : Int) ≤ i) => ?_) (fun (h14 : ¬ ((cS c : Int) ≤ i)) => ?_)
    · refine zx_go (pc1 := 66) (l1 := [some (zr 15), some (zi n), some (zi k), some (zi lf), some (zi i)]) (st1 := [zi (-1)]) (w1 := wr c R) g_X3_standingAt 1 _ _ _ _ rfl ?_
      refine zx_iret g_X3_standingAt rfl (.inl rfl) ?_
      first | exact qF_i (e.trans (kth_neg _ _ _ (by omega))).symm | exact qF_i (e.trans (kth_e (by omega))).symm
    · refine zx_go (pc1 := 18) (l1 := [some (zr 15), some (zi n), some (zi k), some (zi lf), some (zi i)]) (st1 := [zi lf]) (w1 := wr c R) g_X3_standingAt 1 _ _ _ _ rfl ?_
      refine zx_if g_X3_standingAt rfl (by omega) (fun (h18 : lf < 0) => ?_) (fun (h18 : ¬ lf < 0) => ?_)
      · refine zx_go (pc1 := 66) (l1 := [some (zr 15), some (zi n), some (zi k), some (zi lf), some (zi i)]) (st1 := [zi (-1)]) (w1 := wr c R) g_X3_standingAt 1 _ _ _ _ rfl ?_
        refine zx_iret g_X3_standingAt rfl (.inl rfl) ?_
        first | exact qF_i (e.trans (kth_neg _ _ _ (by omega))).symm | exact qF_i (e.trans (kth_e (by omega))).symm
      · refine zx_go (pc1 := 30) (l1 := [some (zr 15), some (zi n), some (zi k), some (zi lf), some (zi i)]) (st1 := [zi i, zr 18]) (w1 := wr c R) g_X3_standingAt 4 _ _ _ _ rfl ?_
        refine gz_iald g_X3_standingAt rfl (n := cS c) rfl (by decide) rfl (by have := hg.S; omega) (by omega) (by omega) ?_
        refine zx_go (pc1 := 40) (l1 := [some (zr 15), some (zi n), some (zi k), some (zi lf), some (zi i)]) (st1 := [zi i, zr 22, zi (R 18 i)]) (w1 := wr c R) g_X3_standingAt 4 _ _ _ _ rfl ?_
        refine gz_iald g_X3_standingAt rfl (n := cS c) rfl (by decide) rfl (by have := hg.S; omega) (by omega) (by omega) ?_
        refine zx_go (pc1 := 42) (l1 := [some (zr 15), some (zi n), some (zi k), some (zi lf), some (zi i)]) (st1 := [zi (zor (R 18 i) (R 22 i))]) (w1 := wr c R) g_X3_standingAt 1 _ _ _ _ rfl ?_
        refine zx_go (pc1 := 43) (l1 := [some (zr 15), some (zi n), some (zi k), some (zi lf), some (zi i)]) (st1 := [zi n, zi (zor (R 18 i) (R 22 i))]) (w1 := wr c R) g_X3_standingAt 1 _ _ _ _ rfl ?_
        refine zx_csF (As := [zi (zor (R 18 i) (R 22 i)), zi n]) (rest := []) g_X3_standingAt rfl g_X5_isIn rfl rfl (Nat.le_of_ble_eq_true rfl) (Nat.le_of_ble_eq_true rfl) (s_isIn (zor (R 18 i) (R 22 i)) n) ?_
        refine zx_ifeq g_X3_standingAt rfl (fun (h46 : ¬ (tb (zor (R 18 i) (R 22 i)) n)) => ?_) (fun (h46 : (tb (zor (R 18 i) (R 22 i)) n)) => ?_)
        · refine zx_go (pc1 := 5) (l1 := [some (zr 15), some (zi n), some (zi k), some (zi lf), some (zi (i + 1))]) (st1 := []) (w1 := wr c R) g_X3_standingAt 2 _ _ _ _ rfl ?_
          refine ih5 (Int.toNat ((cS c : Int) - (i + 1))) (by omega) lf (i + 1) (by omega) ?_
          refine ⟨by omega, by omega, by omega, by omega, ?_⟩
          first | exact e.trans (kth_n (by omega) h46) | exact e.trans (kth_y (by omega) h46 (by omega))
        · refine zx_go (pc1 := 50) (l1 := [some (zr 15), some (zi n), some (zi k), some (zi lf), some (zi i)]) (st1 := [zi lf]) (w1 := wr c R) g_X3_standingAt 1 _ _ _ _ rfl ?_
          refine zx_if g_X3_standingAt rfl (by omega) (fun (h50 : lf ≠ 0) => ?_) (fun (h50 : ¬ lf ≠ 0) => ?_)
          · refine zx_go (pc1 := 5) (l1 := [some (zr 15), some (zi n), some (zi k), some (zi (lf + (-1))), some (zi (i + 1))]) (st1 := []) (w1 := wr c R) g_X3_standingAt 3 _ _ _ _ rfl ?_
            refine ih5 (Int.toNat ((cS c : Int) - (i + 1))) (by omega) (lf + (-1)) (i + 1) (by omega) ?_
            refine ⟨by omega, by omega, by omega, by omega, ?_⟩
            first | exact e.trans (kth_n (by omega) h46) | exact e.trans (kth_y (by omega) h46 (by omega))
          · refine zx_go (pc1 := 55) (l1 := [some (zr 15), some (zi n), some (zi k), some (zi lf), some (zi i)]) (st1 := [zi i]) (w1 := wr c R) g_X3_standingAt 1 _ _ _ _ rfl ?_
            refine zx_iret g_X3_standingAt rfl (.inl rfl) ?_
            exact qF_i (e.trans (kth_0 (by omega) h46 (by omega))).symm
  refine lp5 (Int.toNat ((cS c : Int) - 0)) k 0 (by omega) ?_
  exact ⟨by omega, by omega, by omega, by omega, by rw [Int.sub_zero]⟩

set_option maxHeartbeats 1000000 in
theorem s_hasClash {c : zC} {R : zI} (hg : Geo c) {p : Int} (h0 : 0 ≤ p) (h1 : p < (cS c : Int)) (n0 : 0 ≤ R 10 0) (n1 : R 10 0 ≤ 16) : MZ m_X3_hasClash [zr 15, zi p] (wr c R) (qF (zi (bI (hasC R p))) (wr c R)) := by
  refine MZ.of g_X3_hasClash ?_
  show ZX m_X3_hasClash 0 [some (zr 15), some (zi p), none, none] [] (wr c R) _
  refine zx_go (pc1 := 8) (l1 := [some (zr 15), some (zi p), none, none]) (st1 := [zi p, zr 18]) (w1 := wr c R) g_X3_hasClash 4 _ _ _ _ rfl ?_
  refine gz_iald g_X3_hasClash rfl (n := cS c) rfl (by decide) rfl (by have := hg.S; omega) (by omega) (by omega) ?_
  refine zx_go (pc1 := 17) (l1 := [some (zr 15), some (zi p), none, none]) (st1 := [zi p, zr 22, zi (R 18 p)]) (w1 := wr c R) g_X3_hasClash 4 _ _ _ _ rfl ?_
  refine gz_iald g_X3_hasClash rfl (n := cS c) rfl (by decide) rfl (by have := hg.S; omega) (by omega) (by omega) ?_
  refine zx_go (pc1 := 19) (l1 := [some (zr 15), some (zi p), none, none]) (st1 := [zi (zor (R 18 p) (R 22 p))]) (w1 := wr c R) g_X3_hasClash 1 _ _ _ _ rfl ?_
  refine zx_go (pc1 := 22) (l1 := [some (zr 15), some (zi p), some (zi (zor (R 18 p) (R 22 p))), some (zi 0)]) (st1 := []) (w1 := wr c R) g_X3_hasClash 3 _ _ _ _ rfl ?_
  have lp22 : ∀ (it : Nat) (i : Int), (it : Int) = R 10 0 - i → (0 ≤ i ∧ i ≤ R 10 0 ∧ ∀ n, 0 ≤ n → n < i → ¬ (tb (zor (R 18 p) (R 22 p)) n ∧ zor (clv (R 19) (R 20) n p (R 10 1)) (clv (R 23) (R 24) n p (R 10 1)) ≠ 0)) → ZX m_X3_hasClash 22 [some (zr 15), some (zi p), some (zi (zor (R 18 p) (R 22 p))), some (zi i)] [] (wr c R) (qF (zi (bI (hasC R p))) (wr c R)) := by
    refine fun it => Nat.strongRecOn it (fun it ih22 => ?_)
    intro i hn22 hi22
    obtain ⟨i0, i1, e⟩ := hi22
    refine zx_go (pc1 := 30) (l1 := [some (zr 15), some (zi p), some (zi (zor (R 18 p) (R 22 p))), some (zi i)]) (st1 := [zi (R 10 0), zi i]) (w1 := wr c R) g_X3_hasClash 4 _ _ _ _ rfl ?_
    refine zx_cmp g_X3_hasClash rfl (by omega) (by omega) (fun (h30 : (R 10 0) ≤ i) => ?_) (fun (h30 : ¬ ((R 10 0) ≤ i)) => ?_)
    · refine zx_go (pc1 := 86) (l1 := [some (zr 15), some (zi p), some (zi (zor (R 18 p) (R 22 p))), some (zi i)]) (st1 := [zi 0]) (w1 := wr c R) g_X3_hasClash 1 _ _ _ _ rfl ?_
      refine zx_iret g_X3_hasClash rfl (.inr (.inl rfl)) ?_
      exact qF_f (fun ⟨n, a, b, z⟩ => e n a (by omega) z)
    · refine zx_go (pc1 := 35) (l1 := [some (zr 15), some (zi p), some (zi (zor (R 18 p) (R 22 p))), some (zi i)]) (st1 := [zi i, zi (zor (R 18 p) (R 22 p))]) (w1 := wr c R) g_X3_hasClash 2 _ _ _ _ rfl ?_
      refine zx_csF (As := [zi (zor (R 18 p) (R 22 p)), zi i]) (rest := []) g_X3_hasClash rfl g_X5_isIn rfl rfl (Nat.le_of_ble_eq_true rfl) (Nat.le_of_ble_eq_true rfl) (s_isIn (zor (R 18 p) (R 22 p)) i) ?_
      refine zx_ifeq g_X3_hasClash rfl (fun (h38 : ¬ (tb (zor (R 18 p) (R 22 p)) i)) => ?_) (fun (h38 : (tb (zor (R 18 p) (R 22 p)) i)) => ?_)
      · refine zx_go (pc1 := 22) (l1 := [some (zr 15), some (zi p), some (zi (zor (R 18 p) (R 22 p))), some (zi (i + 1))]) (st1 := []) (w1 := wr c R) g_X3_hasClash 2 _ _ _ _ rfl ?_
        refine ih22 (Int.toNat (R 10 0 - (i + 1))) (by omega) (i + 1) (by omega) ?_
        refine ⟨by omega, by omega, fun n a b => ?_⟩
        by_cases q : n = i
        · subst q
          first | exact fun z => h38 z.1 | exact fun z => z.2 h74
        · exact e n a (by omega)
      · refine zx_go (pc1 := 54) (l1 := [some (zr 15), some (zi p), some (zi (zor (R 18 p) (R 22 p))), some (zi i)]) (st1 := [zi (R 10 1), zi p, zi i, zr 17]) (w1 := wr c R) g_X3_hasClash 7 _ _ _ _ rfl ?_
        refine zx_cvF (As := [zi i, zi p, zi (R 10 1)]) (rest := []) g_X3_hasClash rfl g_X4_clashing rfl rfl (Nat.le_of_ble_eq_true rfl) (Nat.le_of_ble_eq_true rfl) rfl (by decide) (s_clashing17 hg (by omega) (by omega)) ?_
        refine zx_go (pc1 := 70) (l1 := [some (zr 15), some (zi p), some (zi (zor (R 18 p) (R 22 p))), some (zi i)]) (st1 := [zi (R 10 1), zi p, zi i, zr 21, zi (clv (R 19) (R 20) i p (R 10 1))]) (w1 := wr c R) g_X3_hasClash 7 _ _ _ _ rfl ?_
        refine zx_cvF (As := [zi i, zi p, zi (R 10 1)]) (rest := [zi (clv (R 19) (R 20) i p (R 10 1))]) g_X3_hasClash rfl g_X4_clashing rfl rfl (Nat.le_of_ble_eq_true rfl) (Nat.le_of_ble_eq_true rfl) rfl (by decide) (s_clashing21 hg (by omega) (by omega)) ?_
        refine zx_go (pc1 := 74) (l1 := [some (zr 15), some (zi p), some (zi (zor (R 18 p) (R 22 p))), some (zi i)]) (st1 := [zi (zor (clv (R 19) (R 20) i p (R 10 1)) (clv (R 23) (R 24) i p (R 10 1)))]) (w1 := wr c R) g_X3_hasClash 1 _ _ _ _ rfl ?_
        refine zx_if g_X3_hasClash rfl (zor_R _ _) (fun (h74 : (zor (clv (R 19) (R 20) i p (R 10 1)) (clv (R 23) (R 24) i p (R 10 1))) = 0) => ?_) (fun (h74 : ¬ (zor (clv (R 19) (R 20) i p (R 10 1)) (clv (R 23) (R 24) i p (R 10 1))) = 0) => ?_)
        · refine zx_go (pc1 := 22) (l1 := [some (zr 15), some (zi p), some (zi (zor (R 18 p) (R 22 p))), some (zi (i + 1))]) (st1 := []) (w1 := wr c R) g_X3_hasClash 2 _ _ _ _ rfl ?_
          refine ih22 (Int.toNat (R 10 0 - (i + 1))) (by omega) (i + 1) (by omega) ?_
          refine ⟨by omega, by omega, fun n a b => ?_⟩
          by_cases q : n = i
          · subst q
            first | exact fun z => h38 z.1 | exact fun z => z.2 h74
          · exact e n a (by omega)
        · refine zx_go (pc1 := 78) (l1 := [some (zr 15), some (zi p), some (zi (zor (R 18 p) (R 22 p))), some (zi i)]) (st1 := [zi 1]) (w1 := wr c R) g_X3_hasClash 1 _ _ _ _ rfl ?_
          refine zx_iret g_X3_hasClash rfl (.inr (.inr rfl)) ?_
          exact qF_t ⟨i, by omega, by omega, h38, h74⟩
  refine lp22 (Int.toNat (R 10 0 - 0)) 0 (by omega) ?_
  exact ⟨by omega, by omega, fun n a b => by omega⟩

set_option maxHeartbeats 1000000 in
theorem s_clashingPlace {c : zC} {R : zI} (hg : Geo c) {k : Int} (n0 : 0 ≤ R 10 0) (n1 : R 10 0 ≤ 16) (k0 : 0 ≤ k) (kr : inR k) : MZ m_X3_clashingPlace [zr 15, zi k] (wr c R) (qF (zi (kth (hasC R) (cS c : Int).toNat 0 k)) (wr c R)) := by
  refine MZ.of g_X3_clashingPlace ?_
  show ZX m_X3_clashingPlace 0 [some (zr 15), some (zi k), none, none] [] (wr c R) _
  have g3 := hg.S
  refine zx_go (pc1 := 4) (l1 := [some (zr 15), some (zi k), some (zi k), some (zi 0)]) (st1 := []) (w1 := wr c R) g_X3_clashingPlace 4 _ _ _ _ rfl ?_
  have lp4 : ∀ (it : Nat) (lf : Int) (i : Int), (it : Int) = (cS c : Int) - i → (0 ≤ i ∧ i ≤ (cS c : Int) ∧ 0 ≤ lf ∧ lf ≤ k ∧ kth (hasC R) (cS c : Int).toNat 0 k = kth (hasC R) ((cS c : Int) - i).toNat i lf) → ZX m_X3_clashingPlace 4 [some (zr 15), some (zi k), some (zi lf), some (zi i)] [] (wr c R) (qF (zi (kth (hasC R) (cS c : Int).toNat 0 k)) (wr c R)) := by
    refine fun it => Nat.strongRecOn it (fun it ih4 => ?_)
    intro lf i hn4 hi4
    obtain ⟨i0, i1, l0, l1, e⟩ := hi4
    refine zx_go (pc1 := 12) (l1 := [some (zr 15), some (zi k), some (zi lf), some (zi i)]) (st1 := [zi (cS c : Int), zi i]) (w1 := wr c R) g_X3_clashingPlace 4 _ _ _ _ rfl ?_
    refine zx_cmp g_X3_clashingPlace rfl (by omega) (by omega) (fun (h12 : (cS c : Int) ≤ i) => ?_) (fun (h12 : ¬ ((cS c : Int) ≤ i)) => ?_)
    · refine zx_go (pc1 := 39) (l1 := [some (zr 15), some (zi k), some (zi lf), some (zi i)]) (st1 := [zi (-1)]) (w1 := wr c R) g_X3_clashingPlace 1 _ _ _ _ rfl ?_
      refine zx_iret g_X3_clashingPlace rfl (.inl rfl) ?_
      exact qF_i (e.trans (kth_e (by omega))).symm
    · refine zx_go (pc1 := 17) (l1 := [some (zr 15), some (zi k), some (zi lf), some (zi i)]) (st1 := [zi i, zr 15]) (w1 := wr c R) g_X3_clashingPlace 2 _ _ _ _ rfl ?_
      refine zx_cvF (As := [zi i]) (rest := []) g_X3_clashingPlace rfl g_X3_hasClash rfl rfl (Nat.le_of_ble_eq_true rfl) (Nat.le_of_ble_eq_true rfl) rfl (by decide) (s_hasClash hg (by omega) (by omega) (by omega) (by omega)) ?_
      refine zx_ifeq g_X3_clashingPlace rfl (fun (h20 : ¬ (hasC R i)) => ?_) (fun (h20 : (hasC R i)) => ?_)
      · refine zx_go (pc1 := 4) (l1 := [some (zr 15), some (zi k), some (zi lf), some (zi (i + 1))]) (st1 := []) (w1 := wr c R) g_X3_clashingPlace 2 _ _ _ _ rfl ?_
        refine ih4 (Int.toNat ((cS c : Int) - (i + 1))) (by omega) lf (i + 1) (by omega) ?_
        refine ⟨by omega, by omega, by omega, by omega, ?_⟩
        first | exact e.trans (kth_n (by omega) h20) | exact e.trans (kth_y (by omega) h20 (by omega))
      · refine zx_go (pc1 := 24) (l1 := [some (zr 15), some (zi k), some (zi lf), some (zi i)]) (st1 := [zi lf]) (w1 := wr c R) g_X3_clashingPlace 1 _ _ _ _ rfl ?_
        refine zx_if g_X3_clashingPlace rfl (by omega) (fun (h24 : lf ≠ 0) => ?_) (fun (h24 : ¬ lf ≠ 0) => ?_)
        · refine zx_go (pc1 := 4) (l1 := [some (zr 15), some (zi k), some (zi (lf + (-1))), some (zi (i + 1))]) (st1 := []) (w1 := wr c R) g_X3_clashingPlace 3 _ _ _ _ rfl ?_
          refine ih4 (Int.toNat ((cS c : Int) - (i + 1))) (by omega) (lf + (-1)) (i + 1) (by omega) ?_
          refine ⟨by omega, by omega, by omega, by omega, ?_⟩
          first | exact e.trans (kth_n (by omega) h20) | exact e.trans (kth_y (by omega) h20 (by omega))
        · refine zx_go (pc1 := 28) (l1 := [some (zr 15), some (zi k), some (zi lf), some (zi i)]) (st1 := [zi i]) (w1 := wr c R) g_X3_clashingPlace 1 _ _ _ _ rfl ?_
          refine zx_iret g_X3_clashingPlace rfl (.inl rfl) ?_
          exact qF_i (e.trans (kth_0 (by omega) h20 (by omega))).symm
  refine lp4 (Int.toNat ((cS c : Int) - 0)) k 0 (by omega) ?_
  exact ⟨by omega, by omega, by omega, by omega, by rw [Int.sub_zero]⟩

set_option maxHeartbeats 1000000 in
theorem s_firstFit {c : zC} {R : zI} (hg : Geo c) {pin n : Int} (p0 : 0 ≤ pin) (p1 : pin < 40) (a0 : 0 ≤ R 13 pin) (a1 : R 13 pin ≤ 4) (hb : ∀ p, inR (R 9 p)) (ha : ∀ i, 0 ≤ i → i < R 13 pin → 0 ≤ R 14 (pin * 4 + i) ∧ R 14 (pin * 4 + i) < (cS c : Int)) : MZ m_X3_firstFit [zr 15, zi pin, zi n] (wr c R) (qF (zi (kth (fitP R pin n) (R 13 pin).toNat 0 0)) (wr c R)) := by
  refine MZ.of g_X3_firstFit ?_
  show ZX m_X3_firstFit 0 [some (zr 15), some (zi pin), some (zi n), none, none] [] (wr c R) _
  refine zx_go (pc1 := 2) (l1 := [some (zr 15), some (zi pin), some (zi n), some (zi 0), none]) (st1 := []) (w1 := wr c R) g_X3_firstFit 2 _ _ _ _ rfl ?_
  have lp2 : ∀ (it : Nat) (i : Int) (o4 : Option zV), (it : Int) = R 13 pin - i → (0 ≤ i ∧ i ≤ R 13 pin ∧ kth (fitP R pin n) (R 13 pin).toNat 0 0 = kth (fitP R pin n) (R 13 pin - i).toNat i 0) → ZX m_X3_firstFit 2 [some (zr 15), some (zi pin), some (zi n), some (zi i), o4] [] (wr c R) (qF (zi (kth (fitP R pin n) (R 13 pin).toNat 0 0)) (wr c R)) := by
    refine fun it => Nat.strongRecOn it (fun it ih2 => ?_)
    intro i o4 hn2 hi2
    obtain ⟨i0, i1, e⟩ := hi2
    refine zx_go (pc1 := 11) (l1 := [some (zr 15), some (zi pin), some (zi n), some (zi i), o4]) (st1 := [zi pin, zr 13, zi i]) (w1 := wr c R) g_X3_firstFit 5 _ _ _ _ rfl ?_
    refine gz_iald g_X3_firstFit rfl (n := 40) rfl (by decide) rfl (by decide) (by omega) (by omega) ?_
    refine zx_cmp g_X3_firstFit rfl (by omega) (by omega) (fun (h12 : (R 13 pin) ≤ i) => ?_) (fun (h12 : ¬ ((R 13 pin) ≤ i)) => ?_)
    · refine zx_go (pc1 := 68) (l1 := [some (zr 15), some (zi pin), some (zi n), some (zi i), o4]) (st1 := [zi (-1)]) (w1 := wr c R) g_X3_firstFit 1 _ _ _ _ rfl ?_
      refine zx_iret g_X3_firstFit rfl (.inl rfl) ?_
      exact qF_i (e.trans (kth_e (by omega))).symm
    · have ha1 := ha i (by omega) (by omega)
      refine zx_go (pc1 := 21) (l1 := [some (zr 15), some (zi pin), some (zi n), some (zi i), o4]) (st1 := [zi i, zi pin, zr 10]) (w1 := wr c R) g_X3_firstFit 4 _ _ _ _ rfl ?_
      refine zx_cvF (As := [zi pin, zi i]) (rest := []) g_X3_firstFit rfl g_X0_accessPlace rfl rfl (Nat.le_of_ble_eq_true rfl) (Nat.le_of_ble_eq_true rfl) rfl (by decide) (s_accessPlace (by omega) (by omega) (by omega) (by omega)) ?_
      refine zx_go (pc1 := 35) (l1 := [some (zr 15), some (zi pin), some (zi n), some (zi i), some (zi (R 14 (pin * 4 + i)))]) (st1 := [zi (R 14 (pin * 4 + i)), zr 9]) (w1 := wr c R) g_X3_firstFit 5 _ _ _ _ rfl ?_
      refine gz_bald g_X3_firstFit rfl (n := cS c) rfl (by decide) rfl (by have := hg.S; omega) (by omega) (by omega) ?_
      refine zx_if g_X3_firstFit rfl (hb _) (fun (h36 : (R 9 (R 14 (pin * 4 + i))) ≠ 0) => ?_) (fun (h36 : ¬ (R 9 (R 14 (pin * 4 + i))) ≠ 0) => ?_)
      · refine zx_go (pc1 := 2) (l1 := [some (zr 15), some (zi pin), some (zi n), some (zi (i + 1)), some (zi (R 14 (pin * 4 + i)))]) (st1 := []) (w1 := wr c R) g_X3_firstFit 2 _ _ _ _ rfl ?_
        refine ih2 (Int.toNat (R 13 pin - (i + 1))) (by omega) (i + 1) (some (zi (R 14 (pin * 4 + i)))) (by omega) ?_
        refine ⟨by omega, by omega, ?_⟩
        first | exact e.trans (kth_n (by omega) (fun z => h36 z.1)) | exact e.trans (kth_n (by omega) (fun z => h56 z.2))
      · refine zx_go (pc1 := 53) (l1 := [some (zr 15), some (zi pin), some (zi n), some (zi i), some (zi (R 14 (pin * 4 + i)))]) (st1 := [zi (R 10 1), zi (R 14 (pin * 4 + i)), zi n, zr 17]) (w1 := wr c R) g_X3_firstFit 7 _ _ _ _ rfl ?_
        refine zx_cvF (As := [zi n, zi (R 14 (pin * 4 + i)), zi (R 10 1)]) (rest := []) g_X3_firstFit rfl g_X4_clashing rfl rfl (Nat.le_of_ble_eq_true rfl) (Nat.le_of_ble_eq_true rfl) rfl (by decide) (s_clashing17 hg (by omega) (by omega)) ?_
        refine zx_if g_X3_firstFit rfl (clv_R _ _ _ _ _) (fun (h56 : (clv (R 19) (R 20) n (R 14 (pin * 4 + i)) (R 10 1)) ≠ 0) => ?_) (fun (h56 : ¬ (clv (R 19) (R 20) n (R 14 (pin * 4 + i)) (R 10 1)) ≠ 0) => ?_)
        · refine zx_go (pc1 := 2) (l1 := [some (zr 15), some (zi pin), some (zi n), some (zi (i + 1)), some (zi (R 14 (pin * 4 + i)))]) (st1 := []) (w1 := wr c R) g_X3_firstFit 2 _ _ _ _ rfl ?_
          refine ih2 (Int.toNat (R 13 pin - (i + 1))) (by omega) (i + 1) (some (zi (R 14 (pin * 4 + i)))) (by omega) ?_
          refine ⟨by omega, by omega, ?_⟩
          first | exact e.trans (kth_n (by omega) (fun z => h36 z.1)) | exact e.trans (kth_n (by omega) (fun z => h56 z.2))
        · refine zx_go (pc1 := 60) (l1 := [some (zr 15), some (zi pin), some (zi n), some (zi i), some (zi (R 14 (pin * 4 + i)))]) (st1 := [zi i]) (w1 := wr c R) g_X3_firstFit 1 _ _ _ _ rfl ?_
          refine zx_iret g_X3_firstFit rfl (.inl rfl) ?_
          exact qF_i (e.trans (kth_0 (by omega) ⟨Classical.not_not.mp h36, Classical.not_not.mp h56⟩ rfl)).symm
  refine lp2 (Int.toNat (R 13 pin - 0)) 0 none (by omega) ?_
  exact ⟨by omega, by omega, by rw [Int.sub_zero]⟩

set_option maxHeartbeats 1000000 in
theorem s_placeOutside {c : zC} {R : zI} (hg : Geo c) {n : Int} (nr : inR n) (p0 : 0 ≤ R 10 2) (p1 : R 10 2 ≤ 40) (hn : ∀ k, 0 ≤ k → k < R 10 2 → inR (R 11 k)) (hc : ∀ k, 0 ≤ k → k < R 10 2 → -1 ≤ R 16 k ∧ R 16 k < 4) (ha : ∀ k, 0 ≤ k → k < R 10 2 → R 16 k ≠ -1 → 0 ≤ R 14 (k * 4 + R 16 k) ∧ R 14 (k * 4 + R 16 k) < (cS c : Int)) : MZ m_X3_placeOutside [zr 15, zi n] (wr c R) (qF (zi (outp R n (kth (outs R n) (R 10 2).toNat 0 0))) (wr c R)) := by
  refine MZ.of g_X3_placeOutside ?_
  show ZX m_X3_placeOutside 0 [some (zr 15), some (zi n), none, none] [] (wr c R) _
  refine zx_go (pc1 := 2) (l1 := [some (zr 15), some (zi n), some (zi 0), none]) (st1 := []) (w1 := wr c R) g_X3_placeOutside 2 _ _ _ _ rfl ?_
  have lp2 : ∀ (it : Nat) (i : Int) (o3 : Option zV), (it : Int) = R 10 2 - i → (0 ≤ i ∧ i ≤ R 10 2 ∧ kth (outs R n) (R 10 2).toNat 0 0 = kth (outs R n) (R 10 2 - i).toNat i 0) → ZX m_X3_placeOutside 2 [some (zr 15), some (zi n), some (zi i), o3] [] (wr c R) (qF (zi (outp R n (kth (outs R n) (R 10 2).toNat 0 0))) (wr c R)) := by
    refine fun it => Nat.strongRecOn it (fun it ih2 => ?_)
    intro i o3 hn2 hi2
    obtain ⟨i0, i1, e⟩ := hi2
    refine zx_go (pc1 := 10) (l1 := [some (zr 15), some (zi n), some (zi i), o3]) (st1 := [zi (R 10 2), zi i]) (w1 := wr c R) g_X3_placeOutside 4 _ _ _ _ rfl ?_
    refine zx_cmp g_X3_placeOutside rfl (by omega) (by omega) (fun (h10 : (R 10 2) ≤ i) => ?_) (fun (h10 : ¬ ((R 10 2) ≤ i)) => ?_)
    · refine zx_go (pc1 := 76) (l1 := [some (zr 15), some (zi n), some (zi i), o3]) (st1 := [zi (-1)]) (w1 := wr c R) g_X3_placeOutside 1 _ _ _ _ rfl ?_
      refine zx_iret g_X3_placeOutside rfl (.inl rfl) ?_
      refine qF_i ?_
      rw [e, kth_e (by omega)]
      rfl
    · have hn1 := hn i (by omega) (by omega)
      have hc1 := hc i (by omega) (by omega)
      refine zx_go (pc1 := 21) (l1 := [some (zr 15), some (zi n), some (zi i), o3]) (st1 := [zi i, zr 11]) (w1 := wr c R) g_X3_placeOutside 4 _ _ _ _ rfl ?_
      refine gz_iald g_X3_placeOutside rfl (n := 40) rfl (by decide) rfl (by decide) (by omega) (by omega) ?_
      refine zx_go (pc1 := 23) (l1 := [some (zr 15), some (zi n), some (zi i), o3]) (st1 := [zi n, zi (R 11 i)]) (w1 := wr c R) g_X3_placeOutside 1 _ _ _ _ rfl ?_
      refine zx_cmp g_X3_placeOutside rfl (by omega) (by omega) (fun (h23 : (R 11 i) ≠ n) => ?_) (fun (h23 : ¬ ((R 11 i) ≠ n)) => ?_)
      · refine zx_go (pc1 := 2) (l1 := [some (zr 15), some (zi n), some (zi (i + 1)), o3]) (st1 := []) (w1 := wr c R) g_X3_placeOutside 2 _ _ _ _ rfl ?_
        refine ih2 (Int.toNat (R 10 2 - (i + 1))) (by omega) (i + 1) o3 (by omega) ?_
        refine ⟨by omega, by omega, ?_⟩
        first | exact e.trans (kth_n (by omega) (fun z => h23 z.1)) | exact e.trans (kth_n (by omega) (fun z => z.2.1 h33)) | exact e.trans (kth_n (by omega) (fun z => z.2.2 h64))
      · refine zx_go (pc1 := 31) (l1 := [some (zr 15), some (zi n), some (zi i), o3]) (st1 := [zi i, zr 16]) (w1 := wr c R) g_X3_placeOutside 3 _ _ _ _ rfl ?_
        refine gz_iald g_X3_placeOutside rfl (n := 40) rfl (by decide) rfl (by decide) (by omega) (by omega) ?_
        refine zx_go (pc1 := 33) (l1 := [some (zr 15), some (zi n), some (zi i), o3]) (st1 := [zi (-1), zi (R 16 i)]) (w1 := wr c R) g_X3_placeOutside 1 _ _ _ _ rfl ?_
        refine zx_cmp g_X3_placeOutside rfl (by omega) (by omega) (fun (h33 : (R 16 i) = (-1)) => ?_) (fun (h33 : ¬ ((R 16 i) = (-1))) => ?_)
        · refine zx_go (pc1 := 2) (l1 := [some (zr 15), some (zi n), some (zi (i + 1)), o3]) (st1 := []) (w1 := wr c R) g_X3_placeOutside 2 _ _ _ _ rfl ?_
          refine ih2 (Int.toNat (R 10 2 - (i + 1))) (by omega) (i + 1) o3 (by omega) ?_
          refine ⟨by omega, by omega, ?_⟩
          first | exact e.trans (kth_n (by omega) (fun z => h23 z.1)) | exact e.trans (kth_n (by omega) (fun z => z.2.1 h33)) | exact e.trans (kth_n (by omega) (fun z => z.2.2 h64))
        · have ha1 := ha i (by omega) (by omega) h33
          refine zx_go (pc1 := 46) (l1 := [some (zr 15), some (zi n), some (zi i), o3]) (st1 := [zi i, zr 16, zi i, zr 10]) (w1 := wr c R) g_X3_placeOutside 6 _ _ _ _ rfl ?_
          refine gz_iald g_X3_placeOutside rfl (n := 40) rfl (by decide) rfl (by decide) (by omega) (by omega) ?_
          refine zx_cvF (As := [zi i, zi (R 16 i)]) (rest := []) g_X3_placeOutside rfl g_X0_accessPlace rfl rfl (Nat.le_of_ble_eq_true rfl) (Nat.le_of_ble_eq_true rfl) rfl (by decide) (s_accessPlace (by omega) (by omega) (by omega) (by omega)) ?_
          refine zx_go (pc1 := 59) (l1 := [some (zr 15), some (zi n), some (zi i), some (zi (R 14 (i * 4 + (R 16 i))))]) (st1 := [zi (R 14 (i * 4 + (R 16 i))), zr 22]) (w1 := wr c R) g_X3_placeOutside 5 _ _ _ _ rfl ?_
          refine gz_iald g_X3_placeOutside rfl (n := cS c) rfl (by decide) rfl (by have := hg.S; omega) (by omega) (by omega) ?_
          refine zx_go (pc1 := 61) (l1 := [some (zr 15), some (zi n), some (zi i), some (zi (R 14 (i * 4 + (R 16 i))))]) (st1 := [zi n, zi (R 22 (R 14 (i * 4 + (R 16 i))))]) (w1 := wr c R) g_X3_placeOutside 1 _ _ _ _ rfl ?_
          refine zx_csF (As := [zi (R 22 (R 14 (i * 4 + (R 16 i)))), zi n]) (rest := []) g_X3_placeOutside rfl g_X5_isIn rfl rfl (Nat.le_of_ble_eq_true rfl) (Nat.le_of_ble_eq_true rfl) (s_isIn (R 22 (R 14 (i * 4 + (R 16 i)))) n) ?_
          refine zx_ifne g_X3_placeOutside rfl (fun (h64 : (tb (R 22 (R 14 (i * 4 + (R 16 i)))) n)) => ?_) (fun (h64 : ¬ (tb (R 22 (R 14 (i * 4 + (R 16 i)))) n)) => ?_)
          · refine zx_go (pc1 := 2) (l1 := [some (zr 15), some (zi n), some (zi (i + 1)), some (zi (R 14 (i * 4 + (R 16 i))))]) (st1 := []) (w1 := wr c R) g_X3_placeOutside 2 _ _ _ _ rfl ?_
            refine ih2 (Int.toNat (R 10 2 - (i + 1))) (by omega) (i + 1) (some (zi (R 14 (i * 4 + (R 16 i))))) (by omega) ?_
            refine ⟨by omega, by omega, ?_⟩
            first | exact e.trans (kth_n (by omega) (fun z => h23 z.1)) | exact e.trans (kth_n (by omega) (fun z => z.2.1 h33)) | exact e.trans (kth_n (by omega) (fun z => z.2.2 h64))
          · refine zx_go (pc1 := 68) (l1 := [some (zr 15), some (zi n), some (zi i), some (zi (R 14 (i * 4 + (R 16 i))))]) (st1 := [zi (R 14 (i * 4 + (R 16 i)))]) (w1 := wr c R) g_X3_placeOutside 1 _ _ _ _ rfl ?_
            refine zx_iret g_X3_placeOutside rfl (.inl rfl) ?_
            refine qF_i ?_
            rw [e, kth_0 (by omega) ⟨Classical.not_not.mp h23, h33, h64⟩ rfl]
            exact (if_neg (by omega)).symm
  refine lp2 (Int.toNat (R 10 2 - 0)) 0 none (by omega) ?_
  exact ⟨by omega, by omega, by rw [Int.sub_zero]⟩

set_option maxHeartbeats 1000000 in
theorem s_dropRoute {c : zC} {R : zI} (hg : Geo c) {n : Int} : MZ m_X3_dropRoute [zr 15, zi n] (wr c R) (gU (fun R1 => R1 = ch R (fun b j => ((b = 22 ∨ b = 23 ∨ b = 24) ∨ b = 30) ∧ 0 ≤ j ∧ j < (cS c : Int)) (fun b j => zand (R b j) (zxor (zshl 1 n) (-1)))) c) := by
  refine MZ.of g_X3_dropRoute ?_
  show ZX m_X3_dropRoute 0 [some (zr 15), some (zi n), none] [] (wr c R) _
  have g3 := hg.S
  refine zx_go (pc1 := 5) (l1 := [some (zr 15), some (zi n), none]) (st1 := [zi n, zr 21]) (w1 := wr c R) g_X3_dropRoute 3 _ _ _ _ rfl ?_
  refine gx_cvU (As := [zi n]) (rest := []) g_X3_dropRoute rfl g_X4_drop rfl rfl (Nat.le_of_ble_eq_true rfl) (Nat.le_of_ble_eq_true rfl) rfl (by decide) (s_drop21 hg) (fun R5 hR5 => ?_)
  refine zx_go (pc1 := 10) (l1 := [some (zr 15), some (zi n), some (zi 0)]) (st1 := []) (w1 := wr c R5) g_X3_dropRoute 2 _ _ _ _ rfl ?_
  have lp10 : ∀ (it : Nat) (i : Int) (R1 : zI), (it : Int) = (cS c : Int) - i → (0 ≤ i ∧ i ≤ (cS c : Int) ∧ R1 = ch R (fun b j => ((b = 22 ∨ b = 23 ∨ b = 24) ∧ 0 ≤ j ∧ j < (cS c : Int)) ∨ (b = 30 ∧ 0 ≤ j ∧ j < i)) (fun b j => zand (R b j) (zxor (zshl 1 n) (-1)))) → ZX m_X3_dropRoute 10 [some (zr 15), some (zi n), some (zi i)] [] (wr c R1) (gU (fun R1 => R1 = ch R (fun b j => ((b = 22 ∨ b = 23 ∨ b = 24) ∨ b = 30) ∧ 0 ≤ j ∧ j < (cS c : Int)) (fun b j => zand (R b j) (zxor (zshl 1 n) (-1)))) c) := by
    refine fun it => Nat.strongRecOn it (fun it ih10 => ?_)
    intro i R1 hn10 hi10
    obtain ⟨i0, i1, i2⟩ := hi10
    refine zx_go (pc1 := 18) (l1 := [some (zr 15), some (zi n), some (zi i)]) (st1 := [zi (cS c : Int), zi i]) (w1 := wr c R1) g_X3_dropRoute 4 _ _ _ _ rfl ?_
    refine zx_cmp g_X3_dropRoute rfl (by omega) (by omega) (fun (h18 : (cS c : Int) ≤ i) => ?_) (fun (h18 : ¬ ((cS c : Int) ≤ i)) => ?_)
    · refine zx_vret g_X3_dropRoute rfl ?_
      have e : i = (cS c : Int) := by omega
      subst e
      refine gU_i ?_
      rw [i2]
      refine ch_congr fun b j => ⟨fun z => z.elim (fun y => ⟨.inl y.1, y.2⟩) (fun y => ⟨.inr y.1, y.2⟩), fun z => z.1.elim (fun y => .inl ⟨y, z.2⟩) (fun y => .inr ⟨y, z.2⟩)⟩
    · refine zx_go (pc1 := 27) (l1 := [some (zr 15), some (zi n), some (zi i)]) (st1 := [zi i, zr 30, zi i, zr 30]) (w1 := wr c R1) g_X3_dropRoute 4 _ _ _ _ rfl ?_
      refine gz_iald g_X3_dropRoute rfl (n := cS c) rfl (by decide) rfl (by have := hg.S; omega) (by omega) (by omega) ?_
      refine zx_go (pc1 := 30) (l1 := [some (zr 15), some (zi n), some (zi i)]) (st1 := [zi n, zi 1, zi (R1 30 i), zi i, zr 30]) (w1 := wr c R1) g_X3_dropRoute 2 _ _ _ _ rfl ?_
      refine zx_go (pc1 := 31) (l1 := [some (zr 15), some (zi n), some (zi i)]) (st1 := [zi (zshl 1 n), zi (R1 30 i), zi i, zr 30]) (w1 := wr c R1) g_X3_dropRoute 1 _ _ _ _ rfl ?_
      refine zx_go (pc1 := 32) (l1 := [some (zr 15), some (zi n), some (zi i)]) (st1 := [zi (-1), zi (zshl 1 n), zi (R1 30 i), zi i, zr 30]) (w1 := wr c R1) g_X3_dropRoute 1 _ _ _ _ rfl ?_
      refine zx_go (pc1 := 33) (l1 := [some (zr 15), some (zi n), some (zi i)]) (st1 := [zi (zxor (zshl 1 n) (-1)), zi (R1 30 i), zi i, zr 30]) (w1 := wr c R1) g_X3_dropRoute 1 _ _ _ _ rfl ?_
      refine zx_go (pc1 := 34) (l1 := [some (zr 15), some (zi n), some (zi i)]) (st1 := [zi (zand (R1 30 i) (zxor (zshl 1 n) (-1))), zi i, zr 30]) (w1 := wr c R1) g_X3_dropRoute 1 _ _ _ _ rfl ?_
      refine gz_iast g_X3_dropRoute rfl (n := cS c) rfl (by decide) (by refine ⟨?_, ?_, ?_, ?_, ?_⟩ <;> simp) (by have := hg.S; omega) (by omega) (by omega) ?_
      refine zx_go (pc1 := 10) (l1 := [some (zr 15), some (zi n), some (zi (i + 1))]) (st1 := []) (w1 := wr c (zU R1 30 i (zand (R1 30 i) (zxor (zshl 1 n) (-1))))) g_X3_dropRoute 2 _ _ _ _ rfl ?_
      refine ih10 (Int.toNat ((cS c : Int) - (i + 1))) (by omega) (i + 1) (zU R1 30 i (zand (R1 30 i) (zxor (zshl 1 n) (-1)))) (by omega) ?_
      refine ⟨by omega, by omega, drop1 (fun z => ?_) (fun b j => ?_) i2⟩
      · rcases z with z | z
        · exact absurd z.1 (by decide)
        · have := z.2.2; omega
      · constructor
        · rintro (z | ⟨z0, z1, z2⟩)
          · exact .inl (.inl z)
          · by_cases e : j = i
            · exact .inr ⟨z0, e⟩
            · exact .inl (.inr ⟨z0, z1, by omega⟩)
        · rintro ((z | ⟨z0, z1, z2⟩) | ⟨z0, z1⟩)
          · exact .inl z
          · exact .inr ⟨z0, z1, by omega⟩
          · exact .inr ⟨z0, by omega, by omega⟩
  refine lp10 (Int.toNat ((cS c : Int) - 0)) 0 R5 (by omega) ?_
  refine ⟨by omega, by omega, ?_⟩
  rw [hR5]
  refine ch_congr fun b j => ⟨.inl, fun z => z.elim id (fun y => by have := y.2; omega)⟩

