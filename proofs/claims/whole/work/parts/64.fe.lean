/-! ===== contracts (6): the end of the way ===== -/
theorem fl_row {R : zI} {A : Nat} {n v j : Int} (h0 : 0 ≤ j) (h1 : j < n) : fl R A n v A j = v := ch_t ⟨rfl, h0, h1⟩
theorem fl_cell {R : zI} {A a : Nat} {n v : Int} (h : a ≠ A) : fl R A n v a = R a := by
  funext j
  exact ch_f (fun z => h z.1)
theorem clear_rows {c : zC} {R R7 : zI} (h : R7 = zU (fl (fl R 26 (cS c) 1000000000) 28 (cS c) (-1)) 25 3 0) : (∀ a, a ≠ 25 → a ≠ 26 → a ≠ 27 → a ≠ 28 → R7 a = R a) ∧ HP c R7 ∧ (∀ q, pls c q → R7 26 q = FAR) ∧ (∀ q, pls c q → R7 28 q = -1) := by
  subst h
  have e26_v : ∀ q, pls c q → zU (fl (fl R 26 (cS c) 1000000000) 28 (cS c) (-1)) 25 3 0 26 q = FAR := fun q hq => by rw [zU_cell (by decide), fl_cell (by decide), fl_row hq.1 hq.2]
  have e28_v : ∀ q, pls c q → zU (fl (fl R 26 (cS c) 1000000000) 28 (cS c) (-1)) 25 3 0 28 q = -1 := fun q hq => by rw [zU_cell (by decide), fl_row hq.1 hq.2]
  refine ⟨fun a a1_v a2 a3 a4 => by rw [zU_cell a1_v, fl_cell a4, fl_cell a2], ⟨?_, ?_⟩, e26_v, e28_v⟩
  · rw [zU_same]
    exact ⟨by omega, by omega, fun i i0_v i1_v => by omega, fun p p0_v p1_v => .inl (e28_v p ⟨p0_v, p1_v⟩)⟩
  · rw [zU_same]
    intro i i0_v i1_v
    omega

set_option maxHeartbeats 1000000 in
theorem s_findEnd {c : zC} {R : zI} {D : zI} {O : Int → Prop} {e f : Int → Int} {t G : Int → Prop} {n tr : Int} (hD : DOK c D) (h4 : R 4 = D 4) (h5 : R 5 = D 5) (h9 : R 9 = D 9) (hent : ∀ p, pls c p → entv R n p tr = cI (O p) (e p) (-1)) (he : ∀ p, pls c p → 0 ≤ e p ∧ e p ≤ 100000000) (htr : tr = 0 ∨ tr = 1) (ht : ∀ p, pls c p → (tb (R 22 p) n ↔ t p)) (hG : ∀ p, pls c p → (tb (zand (R 18 p) (zxor (R 22 p) (-1))) n ↔ G p)) (hf : Dst c D O e t f) : MZ m_X3_findEnd [zr 15, zi n, zi tr] (wr c R) (gR (fun v R2 => (∀ a, a ≠ 25 → a ≠ 26 → a ≠ 27 → a ≠ 28 → R2 a = R a) ∧ ((v = -1 ∧ ∀ p, pls c p → G p → ¬ f p < FAR) ∨ (pls c v ∧ G v ∧ f v < FAR ∧ (∀ p, pls c p → G p → f p < FAR → ¬ bef f p v) ∧ TR c f (R2 26) v ∧ ∀ q, pls c q → 0 ≤ R2 26 q ∧ R2 26 q ≤ 1000000000))) c) := by
  refine MZ.of g_X3_findEnd ?_
  show ZX m_X3_findEnd 0 [some (zr 15), some (zi n), some (zi tr), none, none] [] (wr c R) _
  have hg := hD.1
  have hFAR : FAR = 1000000000 := rfl
  have g3_v := hg.S
  have he0 : ∀ p, pls c p → 0 ≤ e p := fun p hp => (he p hp).1
  refine zx_go (pc1 := 4) (l1 := [some (zr 15), some (zi n), some (zi tr), none, none]) (st1 := [zr 25]) (w1 := wr c R) g_X3_findEnd 2 _ _ _ _ rfl ?_
  refine gx_cvU (As := []) (rest := []) g_X3_findEnd rfl g_X1_clear rfl rfl (Nat.le_of_ble_eq_true rfl) (Nat.le_of_ble_eq_true rfl) rfl (by decide) (s_Fclear hg) (fun R4 hR4 => ?_)
  refine zx_go (pc1 := 9) (l1 := [some (zr 15), some (zi n), some (zi tr), some (zi 0), none]) (st1 := []) (w1 := wr c R4) g_X3_findEnd 2 _ _ _ _ rfl ?_
  have lp9 : ∀ (it : Nat) (i : Int) (R1 : zI), (it : Int) = (cS c : Int) - i → (0 ≤ i ∧ i ≤ (cS c : Int) ∧ (∀ a, a ≠ 25 → a ≠ 26 → a ≠ 27 → a ≠ 28 → R1 a = R a) ∧ HP c R1 ∧ (∀ q, pls c q → R1 26 q = cI (t q ∧ q < i) 0 FAR) ∧ (∀ q, pls c q → (R1 28 q = -1 ↔ ¬ (t q ∧ q < i)))) → ZX m_X3_findEnd 9 [some (zr 15), some (zi n), some (zi tr), some (zi i), none] [] (wr c R1) (gR (fun v R2 => (∀ a, a ≠ 25 → a ≠ 26 → a ≠ 27 → a ≠ 28 → R2 a = R a) ∧ ((v = -1 ∧ ∀ p, pls c p → G p → ¬ f p < FAR) ∨ (pls c v ∧ G v ∧ f v < FAR ∧ (∀ p, pls c p → G p → f p < FAR → ¬ bef f p v) ∧ TR c f (R2 26) v ∧ ∀ q, pls c q → 0 ≤ R2 26 q ∧ R2 26 q ≤ 1000000000))) c) := by
    refine fun it => Nat.strongRecOn it (fun it ih9 => ?_)
    intro i R1 hn9 hi9
    obtain ⟨i0_v, i1_v, fr_v, jp, j26, j28⟩ := hi9
    refine zx_go (pc1 := 17) (l1 := [some (zr 15), some (zi n), some (zi tr), some (zi i), none]) (st1 := [zi (cS c : Int), zi i]) (w1 := wr c R1) g_X3_findEnd 4 _ _ _ _ rfl ?_
    refine zx_cmp g_X3_findEnd rfl (by omega) (by omega) (fun (h17 : (cS c : Int) ≤ i) => ?_) (fun (h17 : ¬ ((cS c : Int) ≤ i)) => ?_)
    · refine zx_go (pc1 := 53) (l1 := [some (zr 15), some (zi n), some (zi tr), some (zi 0), none]) (st1 := []) (w1 := wr c R1) g_X3_findEnd 2 _ _ _ _ rfl ?_
      have lp53 : ∀ (it : Nat) (k : Int) (R1 : zI) (o4_v : Option zV), (it : Int) = (cS c : Int) - k → (0 ≤ k ∧ k ≤ (cS c : Int) ∧ (∀ a, a ≠ 25 → a ≠ 26 → a ≠ 27 → a ≠ 28 → R1 a = R a) ∧ HP c R1 ∧ ∃ T : Int → Prop, DJ c D O e t (R1 26) (fun p => R1 28 p ≠ -1) T (fun _ _ => True) ∧ cnt T (cS c) = k ∧ ∀ p, pls c p → T p → ¬ G p) → ZX m_X3_findEnd 53 [some (zr 15), some (zi n), some (zi tr), some (zi k), o4_v] [] (wr c R1) (gR (fun v R2 => (∀ a, a ≠ 25 → a ≠ 26 → a ≠ 27 → a ≠ 28 → R2 a = R a) ∧ ((v = -1 ∧ ∀ p, pls c p → G p → ¬ f p < FAR) ∨ (pls c v ∧ G v ∧ f v < FAR ∧ (∀ p, pls c p → G p → f p < FAR → ¬ bef f p v) ∧ TR c f (R2 26) v ∧ ∀ q, pls c q → 0 ≤ R2 26 q ∧ R2 26 q ≤ 1000000000))) c) := by
        refine fun it => Nat.strongRecOn it (fun it ih53 => ?_)
        intro k R1 o4_v hn53 hi53
        obtain ⟨k0_v, k1_v, fr_v, jp, T, jj, jc, jG⟩ := hi53
        refine zx_go (pc1 := 61) (l1 := [some (zr 15), some (zi n), some (zi tr), some (zi k), o4_v]) (st1 := [zi (cS c : Int), zi k]) (w1 := wr c R1) g_X3_findEnd 4 _ _ _ _ rfl ?_
        refine zx_cmp g_X3_findEnd rfl (by omega) (by omega) (fun (h61 : (cS c : Int) ≤ k) => ?_) (fun (h61 : ¬ ((cS c : Int) ≤ k)) => ?_)
        · refine zx_go (pc1 := 107) (l1 := [some (zr 15), some (zi n), some (zi tr), some (zi k), o4_v]) (st1 := [zi (-1)]) (w1 := wr c R1) g_X3_findEnd 1 _ _ _ _ rfl ?_
          refine zx_iret g_X3_findEnd rfl (.inl rfl) ?_
          exact gR_i ⟨fr_v, .inl ⟨rfl, fun p hp g_v => absurd g_v (jG p hp (cnt_full (cS c) (by omega) p hp.1 hp.2))⟩⟩
        · have hhp := jp
          have hcr : cR c R1 := fun q q0 q1_v => by have := jj.1 q ⟨q0, q1_v⟩; omega
          refine zx_go (pc1 := 68) (l1 := [some (zr 15), some (zi n), some (zi tr), some (zi k), o4_v]) (st1 := [zr 25]) (w1 := wr c R1) g_X3_findEnd 2 _ _ _ _ rfl ?_
          refine gx_cvR (As := []) (rest := []) g_X3_findEnd rfl g_X1_take rfl rfl (Nat.le_of_ble_eq_true rfl) (Nat.le_of_ble_eq_true rfl) rfl (by decide) (s_take hg hhp hcr) (fun r68 Rr68 hr68 => ?_)
          refine zx_go (pc1 := 76) (l1 := [some (zr 15), some (zi n), some (zi tr), some (zi k), some (zi r68)]) (st1 := [zi (-1), zi r68]) (w1 := wr c Rr68) g_X3_findEnd 3 _ _ _ _ rfl ?_
          refine zx_cmp g_X3_findEnd rfl (by omega) (by omega) (fun (h76 : r68 = (-1)) => ?_) (fun (h76 : ¬ (r68 = (-1))) => ?_)
          · refine zx_go (pc1 := 91) (l1 := [some (zr 15), some (zi n), some (zi tr), some (zi k), some (zi r68)]) (st1 := [zi r68]) (w1 := wr c Rr68) g_X3_findEnd 1 _ _ _ _ rfl ?_
            have no_v : ∀ q, 0 ≤ q → q < (cS c : Int) → R1 28 q = -1 := by
              rcases hr68.2.2 with z | z
              · exact z.2
              · omega
            refine zx_iret g_X3_findEnd rfl (.inl rfl) ?_
            exact gR_i ⟨fun a a1_v a2 a3 a4 => (hr68.1 a a1_v a3 a4).trans (fr_v a a1_v a2 a3 a4), .inl ⟨h76, fun p hp g_v z => jG p hp (dj_all hD he0 jj hf (fun q hq w => w (no_v q hq.1 hq.2)) _ p rfl hp z).2 g_v⟩⟩
          · obtain ⟨w0_v, w1, w2_v, w3_v, w4_v⟩ := hr68.2.2.resolve_left (fun z => h76 z.1)
            have hw : pls c r68 := ⟨w0_v, w1⟩
            have e26_v : Rr68 26 = R1 26 := hr68.1 26 (by decide) (by decide) (by decide)
            have fq : ∀ a, a ≠ 25 → a ≠ 26 → a ≠ 27 → a ≠ 28 → Rr68 a = R a := fun a a1_v a2 a3 a4 => (hr68.1 a a1_v a3 a4).trans (fr_v a a1_v a2 a3 a4)
            have mn_v : ∀ q, pls c q → R1 28 q ≠ -1 → ¬ bef (R1 26) q r68 := fun q hq z => w3_v q hq.1 hq.2 z
            have de := dj_end hD he0 jj hf hw w2_v mn_v
            have e22_v : Rr68 22 = R 22 := fq 22 (by decide) (by decide) (by decide) (by decide)
            have e18_v : Rr68 18 = R 18 := fq 18 (by decide) (by decide) (by decide) (by decide)
            refine zx_go (pc1 := 83) (l1 := [some (zr 15), some (zi n), some (zi tr), some (zi k), some (zi r68)]) (st1 := [zi r68, zi n, zr 15]) (w1 := wr c Rr68) g_X3_findEnd 3 _ _ _ _ rfl ?_
            refine zx_cvF (As := [zi n, zi r68]) (rest := []) g_X3_findEnd rfl g_X3_isGoal rfl rfl (Nat.le_of_ble_eq_true rfl) (Nat.le_of_ble_eq_true rfl) rfl (by decide) (s_isGoal hg (by omega) (by omega)) ?_
            refine zx_ifeq g_X3_findEnd rfl (fun (h86 : ¬ (tb (zand (Rr68 18 r68) (zxor (Rr68 22 r68) (-1))) n)) => ?_) (fun (h86 : (tb (zand (Rr68 18 r68) (zxor (Rr68 22 r68) (-1))) n)) => ?_)
            · have nG : ¬ G r68 := fun z => h86 (by rw [e22_v, e18_v]; exact (hG r68 hw).mpr z)
              have nT : ¬ T r68 := fun z => jj.2.2.2.1 r68 hw ⟨w2_v, z⟩
              have tk := dj_take jj hw w2_v mn_v
              have q4_v : Rr68 4 = D 4 := (fq 4 (by decide) (by decide) (by decide) (by decide)).trans h4
              have q5_v : Rr68 5 = D 5 := (fq 5 (by decide) (by decide) (by decide) (by decide)).trans h5
              have q9_v : Rr68 9 = D 9 := (fq 9 (by decide) (by decide) (by decide) (by decide)).trans h9
              have hH2 : ∀ p, pls c p → (Rr68 28 p ≠ -1 ↔ (R1 28 p ≠ -1 ∧ p ≠ r68)) := fun p hp => w4_v p hp.1 hp.2
              refine zx_go (pc1 := 97) (l1 := [some (zr 15), some (zi n), some (zi tr), some (zi k), some (zi r68)]) (st1 := [zi tr, zi r68, zi n, zr 15]) (w1 := wr c Rr68) g_X3_findEnd 4 _ _ _ _ rfl ?_
              refine gx_cvU (As := [zi n, zi r68, zi tr]) (rest := []) g_X3_findEnd rfl g_X3_offerAround rfl rfl (Nat.le_of_ble_eq_true rfl) (Nat.le_of_ble_eq_true rfl) rfl (by decide) (s_offerAround (T := fun p => T p ∨ p = r68) hD q4_v q5_v q9_v (fun p hp => (entv_congr fq n p tr).trans (hent p hp)) he htr hw hr68.2.1 (by rw [e26_v]; exact tk.1.imp hH2 (fun q dd hq a w k0_v k1_v k2_v k3_v k4_v => .inl w)) (.inr rfl) (by rw [e26_v]; exact tk.2)) (fun R97 hR97 => ?_)
              refine zx_go (pc1 := 53) (l1 := [some (zr 15), some (zi n), some (zi tr), some (zi (k + 1)), some (zi r68)]) (st1 := []) (w1 := wr c R97) g_X3_findEnd 2 _ _ _ _ rfl ?_
              refine ih53 (Int.toNat ((cS c : Int) - (k + 1))) (by omega) (k + 1) R97 (some (zi r68)) (by omega) ?_
              obtain ⟨q1_v, q2_v, q3_v⟩ := hR97
              refine ⟨by omega, by omega, fun a a1_v a2 a3 a4 => (q1_v a a1_v a2 a3 a4).trans ((hr68.1 a a1_v a3 a4).trans (fr_v a a1_v a2 a3 a4)), q2_v, fun p => T p ∨ p = r68, q3_v, ?_, fun p hp z => ?_⟩
              · rw [cnt_ins w0_v nT (cS c) w1 (fun i _ _ => Iff.rfl), jc]
              · rcases z with z | z
                · exact jG p hp z
                · rw [z]; exact nG
            · refine zx_go (pc1 := 91) (l1 := [some (zr 15), some (zi n), some (zi tr), some (zi k), some (zi r68)]) (st1 := [zi r68]) (w1 := wr c Rr68) g_X3_findEnd 1 _ _ _ _ rfl ?_
              refine zx_iret g_X3_findEnd rfl (.inl rfl) ?_
              exact gR_i ⟨fun a a1_v a2 a3 a4 => (hr68.1 a a1_v a3 a4).trans (fr_v a a1_v a2 a3 a4),   .inr ⟨hw, (hG r68 hw).mp (by rw [← e22_v, ← e18_v]; exact h86), de.2.1, fun p hp g_v z b => jG p hp (de.2.2 p hp z b) g_v, by rw [e26_v]; exact de.1, by rw [e26_v]; exact jj.1⟩⟩
      refine lp53 (Int.toNat ((cS c : Int) - 0)) 0 R1 none (by omega) ?_
      refine ⟨by omega, by omega, fr_v, jp, fun _ => False, ⟨fun p hp => ?_, fun p hp z => ?_, fun p hp => ?_, fun p hp z => z.2, fun p q hp hq a => a.elim, fun p hp z => ?_, fun q d hq a => a.elim⟩, cnt_none _ (fun _ _ _ z => z), fun p hp z => z.elim⟩
      · rw [j26 p hp]
        by_cases z : t p ∧ p < i
        · rw [cI_t z]; decide
        · rw [cI_f z]; decide
      · rw [j26 p hp, cI_t ⟨z, by have := hp.2; omega⟩]
      · rw [j26 p hp]
        show _ ↔ (¬ R1 28 p = -1 ∨ False)
        rw [j28 p hp]
        by_cases z : t p ∧ p < i
        · rw [cI_t z]; exact ⟨fun _ => .inl (fun y => y z), fun _ => by decide⟩
        · rw [cI_f z]; exact ⟨fun y => absurd y (by decide), fun y => y.elim (fun y => absurd z y) False.elim⟩
      · rw [j26 p hp] at z
        by_cases y : t p ∧ p < i
        · exact .inl y.1
        · rw [cI_f y] at z; exact absurd z (by decide)
    · have hi_v : pls c i := ⟨by omega, by omega⟩
      have e22_v : R1 22 = R 22 := fr_v 22 (by decide) (by decide) (by decide) (by decide)
      refine zx_go (pc1 := 28) (l1 := [some (zr 15), some (zi n), some (zi tr), some (zi i), none]) (st1 := [zi i, zr 22]) (w1 := wr c R1) g_X3_findEnd 4 _ _ _ _ rfl ?_
      refine gz_iald g_X3_findEnd rfl (n := cS c) rfl (by decide) rfl (by have := hg.S; omega) (by omega) (by omega) ?_
      refine zx_go (pc1 := 30) (l1 := [some (zr 15), some (zi n), some (zi tr), some (zi i), none]) (st1 := [zi n, zi (R1 22 i)]) (w1 := wr c R1) g_X3_findEnd 1 _ _ _ _ rfl ?_
      refine zx_csF (As := [zi (R1 22 i), zi n]) (rest := []) g_X3_findEnd rfl g_X5_isIn rfl rfl (Nat.le_of_ble_eq_true rfl) (Nat.le_of_ble_eq_true rfl) (s_isIn (R1 22 i) n) ?_
      refine zx_ifeq g_X3_findEnd rfl (fun (h33 : ¬ (tb (R1 22 i) n)) => ?_) (fun (h33 : (tb (R1 22 i) n)) => ?_)
      · refine zx_go (pc1 := 9) (l1 := [some (zr 15), some (zi n), some (zi tr), some (zi (i + 1)), none]) (st1 := []) (w1 := wr c R1) g_X3_findEnd 2 _ _ _ _ rfl ?_
        refine ih9 (Int.toNat ((cS c : Int) - (i + 1))) (by omega) (i + 1) R1 (by omega) ?_
        refine ⟨by omega, by omega, fr_v, jp, fun q hq => ?_, fun q hq => ?_⟩
        · rw [j26 q hq]
          have z : (t q ∧ q < i) ↔ (t q ∧ q < i + 1) := ⟨fun z => ⟨z.1, by omega⟩, fun z => ⟨z.1, by
            by_cases y : q = i
            · rw [y] at z; exact absurd ((ht i hi_v).mpr z.1) (by rw [← e22_v]; exact h33)
            · omega⟩⟩
          rw [propext z]
        · rw [j28 q hq]
          have z : (t q ∧ q < i) ↔ (t q ∧ q < i + 1) := ⟨fun z => ⟨z.1, by omega⟩, fun z => ⟨z.1, by
            by_cases y : q = i
            · rw [y] at z; exact absurd ((ht i hi_v).mpr z.1) (by rw [← e22_v]; exact h33)
            · omega⟩⟩
          rw [propext z]
      · have hhp := jp
        have hcr : cR c R1 := fun q q0 q1_v => by
          rw [j26 q ⟨q0, q1_v⟩]
          by_cases z : t q ∧ q < i
          · rw [cI_t z]; decide
          · rw [cI_f z]; decide
        refine zx_go (pc1 := 42) (l1 := [some (zr 15), some (zi n), some (zi tr), some (zi i), none]) (st1 := [zi 0, zi i, zr 25]) (w1 := wr c R1) g_X3_findEnd 4 _ _ _ _ rfl ?_
        refine gx_cvU (As := [zi i, zi 0]) (rest := []) g_X3_findEnd rfl g_X1_offer rfl rfl (Nat.le_of_ble_eq_true rfl) (Nat.le_of_ble_eq_true rfl) rfl (by decide) (s_offer hg (by omega) (by omega) (by omega) hhp hcr) (fun R42 hR42 => ?_)
        refine zx_go (pc1 := 9) (l1 := [some (zr 15), some (zi n), some (zi tr), some (zi (i + 1)), none]) (st1 := []) (w1 := wr c R42) g_X3_findEnd 2 _ _ _ _ rfl ?_
        refine ih9 (Int.toNat ((cS c : Int) - (i + 1))) (by omega) (i + 1) R42 (by omega) ?_
        have ti : t i := (ht i hi_v).mp (by rw [← e22_v]; exact h33)
        have z := hR42.2.2.2 (by rw [j26 i hi_v, cI_f (fun z => by omega)]; decide)
        refine ⟨by omega, by omega, fun a a1_v a2 a3 a4 => (hR42.1 a a1_v a2 a3 a4).trans (fr_v a a1_v a2 a3 a4), hR42.2.1, fun q hq => ?_, fun q hq => ?_⟩
        · rw [z.1]
          by_cases y : q = i
          · rw [y, up1_s, cI_t ⟨ti, by omega⟩]
          · rw [up1_n y, j26 q hq, show (t q ∧ q < i) = (t q ∧ q < i + 1) from propext ⟨fun z => ⟨z.1, by omega⟩, fun z => ⟨z.1, by omega⟩⟩]
        · rw [z.2 q hq.1 hq.2, j28 q hq]
          constructor
          · rintro ⟨y1, y2⟩ y3
            exact y1 ⟨y3.1, by omega⟩
          · intro y
            refine ⟨fun y1 => y ⟨y1.1, by omega⟩, fun y1 => y ⟨y1 ▸ ti, by omega⟩⟩
  refine lp9 (Int.toNat ((cS c : Int) - 0)) 0 R4 (by omega) ?_
  obtain ⟨k1_v, k2_v, k3_v, k4_v⟩ := clear_rows hR4
  exact ⟨by omega, by omega, k1_v, k2_v, fun q hq => by rw [k3_v q hq, cI_f (fun z => by have := hq.1; omega)], fun q hq => ⟨fun _ z => by have := hq.1; omega, fun _ => k4_v q hq⟩⟩

