/-! ===== contracts of the reference (7): a way is taken ===== -/
def MS0 (c : zC) (D : zI) (s : aS) (R : zI) : Prop := MDn c D R ∧ (∀ k, 0 ≤ k → k < D 10 2 → R 41 k = pk c D k) ∧ (∀ n, 0 ≤ n → n < D 10 0 → R 42 n = bI (clo c D n)) ∧ (∀ b q, 0 ≤ b → b < D 10 0 → pls c q → R 46 (1728 * b + q) = bI (aR s b q) ∧ R 47 (1728 * b + q) = bI (aU s b q)) ∧ (∀ p, pls c p → R 45 p = aP s p) ∧ (∀ b, 0 ≤ b → b < D 10 0 → R 43 b = bI (aJ s b)) ∧ (∀ b, 0 ≤ b → b < D 10 0 → ¬ aJ s b → R 44 b = pI (clo c D b) 1 (pI (aF s b) 2 3))
def MQ0 (c : zC) (D : zI) (x : aX) (R : zI) : Prop := (∀ p, pls c p → R 48 p = bI (x.1 p) ∧ R 49 p = bI (x.2.1 p)) ∧ MS0 c D x.2.2 R
theorem pI_or5 {X Z : Prop} {v : Int} (h : ¬ X) (hz : Z) : v + pI X 5 0 + 5 = v + pI (X ∨ Z) 5 0 := by
  rw [pI_f h, pI_t (.inr hz)]
  omega

set_option maxHeartbeats 1000000 in
theorem m_tearAt {c : zC} {R : zI} {D : zI} {rt : Int → Int → Prop} {L : Int → Prop} {n p : Int} (hD : DOK c D) (hm : MDn c D R) (n0 : 0 ≤ n) (n1 : n < D 10 0) (hp : pls c p) (hrt : ∀ b q, 0 ≤ b → b < D 10 0 → pls c q → R 46 (1728 * b + q) = bI (rt b q)) (hL : ∀ b, 0 ≤ b → b < D 10 0 → R 53 b = bI (L b)) : MZ m_X6_tearAt [zr 32, zi n, zi p] (wr c R) (gU (fun R2 => (∀ a, a ≠ 45 → a ≠ 53 → R2 a = R a) ∧ R2 45 = up1 (R 45) p (R 45 p + 5) ∧ ∀ b, 0 ≤ b → b < D 10 0 → R2 53 b = bI (L b ∨ hitP c D rt n b p)) c) := by
  refine MZ.of g_X6_tearAt ?_
  show ZX m_X6_tearAt 0 [some (zr 32), some (zi n), some (zi p), none, none] [] (wr c R) _
  have hg := hD.1
  have g3_v := hg.S
  have n16 := hD.2.1
  obtain ⟨hp0, hp1⟩ := hp
  have hp : pls c p := ⟨hp0, hp1⟩
  refine zx_go (pc1 := 6) (l1 := [some (zr 32), some (zi n), some (zi p), none, none]) (st1 := [zi p, zr 45, zi p, zr 45]) (w1 := wr c R) g_X6_tearAt 4 _ _ _ _ rfl ?_
  refine gz_iald g_X6_tearAt rfl (n := 1728) rfl (by decide) rfl (by decide) (by omega) (by omega) ?_
  refine zx_go (pc1 := 9) (l1 := [some (zr 32), some (zi n), some (zi p), none, none]) (st1 := [zi ((R 45 p) + 5), zi p, zr 45]) (w1 := wr c R) g_X6_tearAt 2 _ _ _ _ rfl ?_
  refine gz_iast g_X6_tearAt rfl (n := 1728) rfl (by decide) (by refine ⟨?_, ?_, ?_, ?_, ?_⟩ <;> simp) (by decide) (by omega) (by omega) ?_
  refine zx_go (pc1 := 12) (l1 := [some (zr 32), some (zi n), some (zi p), some (zi 0), none]) (st1 := []) (w1 := wr c (zU R 45 p ((R 45 p) + 5))) g_X6_tearAt 2 _ _ _ _ rfl ?_
  have lp12 : ∀ (it : Nat) (b : Int) (R1 : zI) (o4_v : Option zV), (it : Int) = D 10 0 - b → (0 ≤ b ∧ b ≤ D 10 0 ∧ (∀ a, a ≠ 45 → a ≠ 53 → R1 a = R a) ∧ R1 45 = up1 (R 45) p (R 45 p + 5) ∧ ∀ b1, 0 ≤ b1 → b1 < D 10 0 → R1 53 b1 = bI (L b1 ∨ (b1 < b ∧ hitP c D rt n b1 p))) → ZX m_X6_tearAt 12 [some (zr 32), some (zi n), some (zi p), some (zi b), o4_v] [] (wr c R1) (gU (fun R2 => (∀ a, a ≠ 45 → a ≠ 53 → R2 a = R a) ∧ R2 45 = up1 (R 45) p (R 45 p + 5) ∧ ∀ b, 0 ≤ b → b < D 10 0 → R2 53 b = bI (L b ∨ hitP c D rt n b p)) c) := by
    refine fun it => Nat.strongRecOn it (fun it ih12 => ?_)
    intro b R1 o4_v hn12 hi12
    obtain ⟨b0, b1_, fr1, f45, l1⟩ := hi12
    have e8 : R1 32 8 = D 10 0 := by rw [fr1 32 (by decide) (by decide)]; exact hm.2.2.2.2.2.1
    refine zx_go (pc1 := 17) (l1 := [some (zr 32), some (zi n), some (zi p), some (zi b), o4_v]) (st1 := [zi (R1 32 8), zi b]) (w1 := wr c R1) g_X6_tearAt 3 _ _ _ _ rfl ?_
    refine zx_cmp g_X6_tearAt rfl (by omega) (by omega) (fun (h17 : (R1 32 8) ≤ b) => ?_) (fun (h17 : ¬ ((R1 32 8) ≤ b)) => ?_)
    · refine zx_vret g_X6_tearAt rfl ?_
      refine gU_i ⟨fr1, f45, fun b1 a d => ?_⟩
      rw [l1 b1 a d]
      exact bI_congr ⟨fun z => z.imp id (fun w => w.2), fun z => z.imp id (fun w => ⟨by omega, w⟩)⟩
    · refine zx_go (pc1 := 23) (l1 := [some (zr 32), some (zi n), some (zi p), some (zi b), some (zi 0)]) (st1 := []) (w1 := wr c R1) g_X6_tearAt 2 _ _ _ _ rfl ?_
      have lp23 : ∀ (it : Nat) (q : Int) (R3 : zI), (it : Int) = (cS c : Int) - q → (0 ≤ q ∧ q ≤ (cS c : Int) ∧ (∀ a, a ≠ 53 → R3 a = R1 a) ∧ (∀ b1, b1 ≠ b → R3 53 b1 = R1 53 b1) ∧ R3 53 b = bI (L b ∨ (∃ q1_v, pls c q1_v ∧ q1_v < q ∧ rt b q1_v ∧ clash c D n p b q1_v))) → ZX m_X6_tearAt 23 [some (zr 32), some (zi n), some (zi p), some (zi b), some (zi q)] [] (wr c R3) (gU (fun R2 => (∀ a, a ≠ 45 → a ≠ 53 → R2 a = R a) ∧ R2 45 = up1 (R 45) p (R 45 p + 5) ∧ ∀ b, 0 ≤ b → b < D 10 0 → R2 53 b = bI (L b ∨ hitP c D rt n b p)) c) := by
        refine fun it => Nat.strongRecOn it (fun it ih23 => ?_)
        intro q R3 hn23 hi23
        obtain ⟨q0, q1_, fr3, e53o, e53⟩ := hi23
        refine zx_go (pc1 := 26) (l1 := [some (zr 32), some (zi n), some (zi p), some (zi b), some (zi q)]) (st1 := [zr 32, zi q]) (w1 := wr c R3) g_X6_tearAt 2 _ _ _ _ rfl ?_
        refine zx_cvF (As := []) (rest := [zi q]) g_X6_tearAt rfl g_X6_all rfl rfl (Nat.le_of_ble_eq_true rfl) (Nat.le_of_ble_eq_true rfl) rfl (by decide) (m_all hg) ?_
        refine zx_cmp g_X6_tearAt rfl (by omega) (by omega) (fun (h29 : (cS c : Int) ≤ q) => ?_) (fun (h29 : ¬ ((cS c : Int) ≤ q)) => ?_)
        · refine zx_go (pc1 := 12) (l1 := [some (zr 32), some (zi n), some (zi p), some (zi (b + 1)), some (zi q)]) (st1 := []) (w1 := wr c R3) g_X6_tearAt 2 _ _ _ _ rfl ?_
          refine ih12 (Int.toNat (D 10 0 - (b + 1))) (by omega) (b + 1) R3 (some (zi q)) (by omega) ?_
          refine ⟨by omega, by omega, fun a h1 h2 => (fr3 a h2).trans (fr1 a h1 h2), by rw [fr3 45 (by decide)]; exact f45, fun b1 a d => ?_⟩
          by_cases y : b1 = b
          · subst y
            rw [e53]
            refine bI_congr ⟨fun z => z.imp id (fun ⟨q1_v, k1_v, k2_v, k3_v, k4_v⟩ => ⟨by omega, q1_v, k1_v, k3_v, k4_v⟩), fun z => ?_⟩
            exact z.imp id (fun ⟨_, q1_v, k1_v, k3_v, k4_v⟩ => ⟨q1_v, k1_v, by have := k1_v.2; omega, k3_v, k4_v⟩)
          · rw [e53o b1 y, l1 b1 a d]
            exact bI_congr ⟨fun z => z.imp id (fun w => ⟨by omega, w.2⟩), fun z => z.imp id (fun w => ⟨by omega, w.2⟩)⟩
        · have r53 := bI_01 (L b ∨ (∃ q1_v, pls c q1_v ∧ q1_v < q ∧ rt b q1_v ∧ clash c D n p b q1_v))
          refine zx_go (pc1 := 37) (l1 := [some (zr 32), some (zi n), some (zi p), some (zi b), some (zi q)]) (st1 := [zi b, zr 53]) (w1 := wr c R3) g_X6_tearAt 3 _ _ _ _ rfl ?_
          refine gz_bald g_X6_tearAt rfl (n := 16) rfl (by decide) rfl (by decide) (by omega) (by omega) ?_
          refine zx_if g_X6_tearAt rfl (by omega) (fun (h38 : (R3 53 b) ≠ 0) => ?_) (fun (h38 : ¬ (R3 53 b) ≠ 0) => ?_)
          · refine zx_go (pc1 := 12) (l1 := [some (zr 32), some (zi n), some (zi p), some (zi (b + 1)), some (zi q)]) (st1 := []) (w1 := wr c R3) g_X6_tearAt 2 _ _ _ _ rfl ?_
            refine ih12 (Int.toNat (D 10 0 - (b + 1))) (by omega) (b + 1) R3 (some (zi q)) (by omega) ?_
            refine ⟨by omega, by omega, fun a h1 h2 => (fr3 a h2).trans (fr1 a h1 h2), by rw [fr3 45 (by decide)]; exact f45, fun b1 a d => ?_⟩
            by_cases y : b1 = b
            · subst y
              rw [e53]
              refine bI_congr ⟨fun z => z.imp id (fun ⟨q1_v, k1_v, k2_v, k3_v, k4_v⟩ => ⟨by omega, q1_v, k1_v, k3_v, k4_v⟩), fun z => ?_⟩
              exact bI_ne.mp (by rw [← e53]; exact h38)
            · rw [e53o b1 y, l1 b1 a d]
              exact bI_congr ⟨fun z => z.imp id (fun w => ⟨by omega, w.2⟩), fun z => z.imp id (fun w => ⟨by omega, w.2⟩)⟩
          · refine zx_go (pc1 := 43) (l1 := [some (zr 32), some (zi n), some (zi p), some (zi b), some (zi q)]) (st1 := [zi n, zi b]) (w1 := wr c R3) g_X6_tearAt 2 _ _ _ _ rfl ?_
            refine zx_cmp g_X6_tearAt rfl (by omega) (by omega) (fun (h43 : b = n) => ?_) (fun (h43 : ¬ (b = n)) => ?_)
            · refine zx_go (pc1 := 12) (l1 := [some (zr 32), some (zi n), some (zi p), some (zi (b + 1)), some (zi q)]) (st1 := []) (w1 := wr c R3) g_X6_tearAt 2 _ _ _ _ rfl ?_
              refine ih12 (Int.toNat (D 10 0 - (b + 1))) (by omega) (b + 1) R3 (some (zi q)) (by omega) ?_
              refine ⟨by omega, by omega, fun a h1 h2 => (fr3 a h2).trans (fr1 a h1 h2), by rw [fr3 45 (by decide)]; exact f45, fun b1 a d => ?_⟩
              by_cases y : b1 = b
              · subst y
                rw [e53]
                refine bI_congr ⟨fun z => z.imp id (fun ⟨q1_v, k1_v, k2_v, k3_v, k4_v⟩ => ⟨by omega, q1_v, k1_v, k3_v, k4_v⟩), fun z => ?_⟩
                exact z.imp id (fun ⟨_, q1_v, k1_v, k3_v, k4_v⟩ => absurd h43.symm k4_v.1)
              · rw [e53o b1 y, l1 b1 a d]
                exact bI_congr ⟨fun z => z.imp id (fun w => ⟨by omega, w.2⟩), fun z => z.imp id (fun w => ⟨by omega, w.2⟩)⟩
            · have hq : pls c q := ⟨by omega, by omega⟩
              have e46 : R3 46 (1728 * b + q) = bI (rt b q) := by rw [fr3 46 (by decide), fr1 46 (by decide) (by decide)]; exact hrt b q b0 (by omega) hq
              have r46 := bI_01 (rt b q)
              have nb : ¬ (L b ∨ (∃ q1_v, pls c q1_v ∧ q1_v < q ∧ rt b q1_v ∧ clash c D n p b q1_v)) := fun z => h38 (by rw [e53]; exact bI_ne.mpr z)
              have hm3 : MDn c D R3 := hm.of (fun a h1 h2 => by rw [fr3 a (by omega)]; exact fr1 a (by omega) (by omega))
              refine zx_go (pc1 := 63) (l1 := [some (zr 32), some (zi n), some (zi p), some (zi b), some (zi q)]) (st1 := [zi ((1728 * b) + q), zr 46, zi b, zr 53]) (w1 := wr c R3) g_X6_tearAt 10 _ _ _ _ rfl ?_
              refine gz_bald g_X6_tearAt rfl (n := 27648) rfl (by decide) rfl (by decide) (by omega) (by omega) ?_
              refine zx_if g_X6_tearAt rfl (by omega) (fun (h64 : (R3 46 ((1728 * b) + q)) = 0) => ?_) (fun (h64 : ¬ (R3 46 ((1728 * b) + q)) = 0) => ?_)
              · refine zx_go (pc1 := 84) (l1 := [some (zr 32), some (zi n), some (zi p), some (zi b), some (zi q)]) (st1 := [zi 0, zi b, zr 53]) (w1 := wr c R3) g_X6_tearAt 1 _ _ _ _ rfl ?_
                refine gz_bast g_X6_tearAt rfl (n := 16) rfl (by decide) (by refine ⟨?_, ?_, ?_, ?_, ?_⟩ <;> simp) (by decide) (by omega) (by omega) (.inl rfl) ?_
                refine zx_go (pc1 := 23) (l1 := [some (zr 32), some (zi n), some (zi p), some (zi b), some (zi (q + 1))]) (st1 := []) (w1 := wr c (zU R3 53 b 0)) g_X6_tearAt 2 _ _ _ _ rfl ?_
                refine ih23 (Int.toNat ((cS c : Int) - (q + 1))) (by omega) (q + 1) (zU R3 53 b 0) (by omega) ?_
                refine ⟨by omega, by omega, fun a ha_v => by rw [zU_cell ha_v]; exact fr3 a ha_v, fun b1 y => by rw [zU_row, up1_n y]; exact e53o b1 y, ?_⟩
                rw [zU_row, up1_s]
                refine (bI_f (fun z => ?_)).symm
                rcases z with z | ⟨q1_v, k1_v, k2_v, k3_v, k4_v⟩
                · exact nb (.inl z)
                · by_cases y : q1_v = q
                  · subst y
                    exact bI_ne.mpr k3_v (by rw [← e46]; exact h64)
                  · exact nb (.inr ⟨q1_v, k1_v, by omega, k3_v, k4_v⟩)
              · refine zx_go (pc1 := 73) (l1 := [some (zr 32), some (zi n), some (zi p), some (zi b), some (zi q)]) (st1 := [zi q, zi b, zi p, zi n, zr 32, zi b, zr 53]) (w1 := wr c R3) g_X6_tearAt 5 _ _ _ _ rfl ?_
                refine zx_cvF (As := [zi n, zi p, zi b, zi q]) (rest := [zi b, zr 53]) g_X6_tearAt rfl g_X6_clashes rfl rfl (Nat.le_of_ble_eq_true rfl) (Nat.le_of_ble_eq_true rfl) rfl (by decide) (m_clashes hD hm3 hp hq n0 (by omega) b0 (by omega)) ?_
                refine zx_ifeq g_X6_tearAt rfl (fun (h76 : ¬ (clash c D n p b q)) => ?_) (fun (h76 : (clash c D n p b q)) => ?_)
                · refine zx_go (pc1 := 84) (l1 := [some (zr 32), some (zi n), some (zi p), some (zi b), some (zi q)]) (st1 := [zi 0, zi b, zr 53]) (w1 := wr c R3) g_X6_tearAt 1 _ _ _ _ rfl ?_
                  refine gz_bast g_X6_tearAt rfl (n := 16) rfl (by decide) (by refine ⟨?_, ?_, ?_, ?_, ?_⟩ <;> simp) (by decide) (by omega) (by omega) (.inl rfl) ?_
                  refine zx_go (pc1 := 23) (l1 := [some (zr 32), some (zi n), some (zi p), some (zi b), some (zi (q + 1))]) (st1 := []) (w1 := wr c (zU R3 53 b 0)) g_X6_tearAt 2 _ _ _ _ rfl ?_
                  refine ih23 (Int.toNat ((cS c : Int) - (q + 1))) (by omega) (q + 1) (zU R3 53 b 0) (by omega) ?_
                  refine ⟨by omega, by omega, fun a ha_v => by rw [zU_cell ha_v]; exact fr3 a ha_v, fun b1 y => by rw [zU_row, up1_n y]; exact e53o b1 y, ?_⟩
                  rw [zU_row, up1_s]
                  refine (bI_f (fun z => ?_)).symm
                  rcases z with z | ⟨q1_v, k1_v, k2_v, k3_v, k4_v⟩
                  · exact nb (.inl z)
                  · by_cases y : q1_v = q
                    · subst y
                      exact h76 k4_v
                    · exact nb (.inr ⟨q1_v, k1_v, by omega, k3_v, k4_v⟩)
                · refine zx_go (pc1 := 84) (l1 := [some (zr 32), some (zi n), some (zi p), some (zi b), some (zi q)]) (st1 := [zi 1, zi b, zr 53]) (w1 := wr c R3) g_X6_tearAt 2 _ _ _ _ rfl ?_
                  refine gz_bast g_X6_tearAt rfl (n := 16) rfl (by decide) (by refine ⟨?_, ?_, ?_, ?_, ?_⟩ <;> simp) (by decide) (by omega) (by omega) (.inr rfl) ?_
                  refine zx_go (pc1 := 23) (l1 := [some (zr 32), some (zi n), some (zi p), some (zi b), some (zi (q + 1))]) (st1 := []) (w1 := wr c (zU R3 53 b 1)) g_X6_tearAt 2 _ _ _ _ rfl ?_
                  refine ih23 (Int.toNat ((cS c : Int) - (q + 1))) (by omega) (q + 1) (zU R3 53 b 1) (by omega) ?_
                  refine ⟨by omega, by omega, fun a ha_v => by rw [zU_cell ha_v]; exact fr3 a ha_v, fun b1 y => by rw [zU_row, up1_n y]; exact e53o b1 y, ?_⟩
                  rw [zU_row, up1_s]
                  exact (bI_t (.inr ⟨q, hq, by omega, bI_ne.mp (by rw [← e46]; exact h64), h76⟩)).symm
      refine lp23 (Int.toNat ((cS c : Int) - 0)) 0 R1 (by omega) ?_
      refine ⟨by omega, by omega, fun _ _ => rfl, fun _ _ => rfl, ?_⟩
      rw [l1 b b0 (by omega)]
      exact bI_congr ⟨fun z => z.imp id (fun w => by omega), fun z => z.imp id (fun ⟨q1_v, k1_v, k2_v, _⟩ => by have := k1_v.1; omega)⟩
  refine lp12 (Int.toNat (D 10 0 - 0)) 0 (zU R 45 p ((R 45 p) + 5)) none (by omega) ?_
  refine ⟨by omega, by omega, fun a h1 h2 => by rw [zU_cell h1], by rw [zU_row], fun b1 a d => ?_⟩
  rw [zU_cell (by decide), hL b1 a d]
  exact bI_congr ⟨.inl, fun z => z.elim id (fun y => by omega)⟩

theorem bes_min {c : zC} (hg : Geo c) {p d : Int} (hp : pls c p) (d0 : 0 ≤ d) (d1 : d < 6) (h : bes c p d ≠ -1) : (lay c p ≠ lay c (bes c p d) ↔ 3 < d) ∧ (d = 4 → min p (bes c p d) = bes c p d) ∧ (d = 5 → min p (bes c p d) = p) := by
  have b := (bes_co hg hp d0 d1 h).2.1
  have g3_v := hg.S
  refine ⟨?_, fun e => ?_, fun e => ?_⟩
  · by_cases e4_v : d = 4
    · rw [if_pos e4_v] at b; omega
    · rw [if_neg e4_v] at b
      by_cases e5_v : d = 5
      · rw [if_pos e5_v] at b; omega
      · rw [if_neg e5_v] at b; omega
  · subst e
    have hb_v : bes c p 4 = if 0 < lay c p then p - cW c * cH c else -1 := rfl
    by_cases q : 0 < lay c p
    · rw [if_pos q] at hb_v; omega
    · rw [if_neg q] at hb_v; exact absurd hb_v h
  · subst e
    have hb_v : bes c p 5 = if lay c p < cLa c - 1 then p + cW c * cH c else -1 := rfl
    by_cases q : lay c p < cLa c - 1
    · rw [if_pos q] at hb_v; omega
    · rw [if_neg q] at hb_v; exact absurd hb_v h

set_option maxHeartbeats 1000000 in
theorem m_take {c : zC} {R : zI} {D : zI} {n B : Int} {P : Prop} {x : aX} (hD : DOK c D) (hr : RI c D n x B) (hB : B ≤ 5120) (hq : MQ0 c D x R) (h51 : ∀ p, pls c p → R 51 p = bI (nearR c D (aR x.2.2) n p)) (hc : ∀ p, pls c p → R 52 p = fd c D x.2.2 n P x.1 p) (hgE : gE c D x.2.2 n P x.1 ≠ -1) : MZ m_X6_take [zr 32, zi n, zi (gE c D x.2.2 n P x.1)] (wr c R) (gU (fun R2 => (∀ a, a ≠ 43 → a ≠ 44 → a ≠ 45 → a ≠ 46 → a ≠ 47 → a ≠ 48 → a ≠ 49 → a ≠ 53 → R2 a = R a) ∧ (∀ p, pls c p → R2 48 p = bI ((aW c D n P x).1 p) ∧ R2 49 p = bI ((aW c D n P x).2.1 p)) ∧ MS0 c D (aW c D n P x).2.2 R2) c) := by
  refine MZ.of g_X6_take ?_
  show ZX m_X6_take 0 [some (zr 32), some (zi n), some (zi (gE c D x.2.2 n P x.1)), none, none, none] [] (wr c R) _
  have hg := hD.1
  have g3_v := hg.S
  have n16 := hD.2.1
  have hFAR : FAR = 1000000000 := rfl
  obtain ⟨htu, hm, hpk, hcl, hrt, hps, hjn, hwy⟩ := hq
  have n0 := hr.2.1
  have n1 := hr.2.2.1
  have hfd := fd_Dst (n := n) (tr := P) hD hr.1
  have ge := gE_ok (n := n) (tr := P) (x := x) hD hr.1 hgE
  have ge0 := (hfd.2.1 _ ge.1).1
  have he0 := ext_0 (n := n) hr.1
  have heB := ext_B (n := n) hr.1
  refine zx_go (pc1 := 2) (l1 := [some (zr 32), some (zi n), some (zi (gE c D x.2.2 n P x.1)), some (zi 0), none, none]) (st1 := []) (w1 := wr c R) g_X6_take 2 _ _ _ _ rfl ?_
  have lp2 : ∀ (it : Nat) (i : Int) (R0 : zI), (it : Int) = D 10 0 - i → (0 ≤ i ∧ i ≤ D 10 0 ∧ (∀ a, a ≠ 53 → R0 a = R a) ∧ ∀ b, 0 ≤ b → b < i → R0 53 b = 0) → ZX m_X6_take 2 [some (zr 32), some (zi n), some (zi (gE c D x.2.2 n P x.1)), some (zi i), none, none] [] (wr c R0) (gU (fun R2 => (∀ a, a ≠ 43 → a ≠ 44 → a ≠ 45 → a ≠ 46 → a ≠ 47 → a ≠ 48 → a ≠ 49 → a ≠ 53 → R2 a = R a) ∧ (∀ p, pls c p → R2 48 p = bI ((aW c D n P x).1 p) ∧ R2 49 p = bI ((aW c D n P x).2.1 p)) ∧ MS0 c D (aW c D n P x).2.2 R2) c) := by
    refine fun it => Nat.strongRecOn it (fun it ih2 => ?_)
    intro i R0 hn2 hi2
    obtain ⟨i0_v, i1_v, fr0, z0⟩ := hi2
    have e80 : R0 32 8 = D 10 0 := by rw [fr0 32 (by decide)]; exact hm.2.2.2.2.2.1
    refine zx_go (pc1 := 7) (l1 := [some (zr 32), some (zi n), some (zi (gE c D x.2.2 n P x.1)), some (zi i), none, none]) (st1 := [zi (R0 32 8), zi i]) (w1 := wr c R0) g_X6_take 3 _ _ _ _ rfl ?_
    refine zx_cmp g_X6_take rfl (by omega) (by omega) (fun (h7 : (R0 32 8) ≤ i) => ?_) (fun (h7 : ¬ ((R0 32 8) ≤ i)) => ?_)
    · refine zx_go (pc1 := 25) (l1 := [some (zr 32), some (zi n), some (zi (gE c D x.2.2 n P x.1)), some (zi (gE c D x.2.2 n P x.1)), none, none]) (st1 := []) (w1 := wr c R0) g_X6_take 2 _ _ _ _ rfl ?_
      skip
      have lp25 : ∀ (it : Nat) (p : Int) (R1 : zI) (o4_v : Option zV) (o5_v : Option zV), (it : Int) = fd c D x.2.2 n P x.1 p → (∃ k : Nat, p = (wE c D x.2.2 n P x.1 k) ∧ (∀ j, j < k → ¬ x.1 (wE c D x.2.2 n P x.1 j)) ∧ (∀ a, a ≠ 45 → a ≠ 48 → a ≠ 49 → a ≠ 53 → R1 a = R a) ∧ (∀ p, pls c p → R1 48 p = bI (x.1 p ∨ ∃ j : Nat, j < k ∧ (wE c D x.2.2 n P x.1 j) = p) ∧ R1 49 p = bI (x.2.1 p ∨ ∃ j : Nat, j < k ∧ lay c (wE c D x.2.2 n P x.1 j) ≠ lay c (wE c D x.2.2 n P x.1 (j + 1)) ∧ p = min (wE c D x.2.2 n P x.1 j) (wE c D x.2.2 n P x.1 (j + 1))) ∧ R1 45 p = aP x.2.2 p + pI (∃ j : Nat, j < k ∧ (wE c D x.2.2 n P x.1 j) = p ∧ nearR c D (aR x.2.2) n p) 5 0) ∧ (∀ b, 0 ≤ b → b < D 10 0 → R1 53 b = bI (∃ j : Nat, j < k ∧ hitP c D (aR x.2.2) n b (wE c D x.2.2 n P x.1 j)))) → ZX m_X6_take 25 [some (zr 32), some (zi n), some (zi (gE c D x.2.2 n P x.1)), some (zi p), o4_v, o5_v] [] (wr c R1) (gU (fun R2 => (∀ a, a ≠ 43 → a ≠ 44 → a ≠ 45 → a ≠ 46 → a ≠ 47 → a ≠ 48 → a ≠ 49 → a ≠ 53 → R2 a = R a) ∧ (∀ p, pls c p → R2 48 p = bI ((aW c D n P x).1 p) ∧ R2 49 p = bI ((aW c D n P x).2.1 p)) ∧ MS0 c D (aW c D n P x).2.2 R2) c) := by
        refine fun it => Nat.strongRecOn it (fun it ih25 => ?_)
        intro p R1 o4_v o5_v hn25 hi25
        obtain ⟨k, ep, c2_v, fr_v, ti⟩ := hi25
        have win_v := wy_in hD he0 hfd ge.1 ge.2.2 k c2_v
        have hp : pls c p := by rw [ep]; exact win_v.1
        obtain ⟨hp0, hp1⟩ := hp
        have hp : pls c p := ⟨hp0, hp1⟩
        have c2i : ∀ i j : Nat, i ≤ k → j ≤ k → (wE c D x.2.2 n P x.1 i) = (wE c D x.2.2 n P x.1 j) → i = j := fun i j hi_v hj => wy_inj hD he0 hfd ge.1 ge.2.2 c2_v hi_v hj
        have e48 := (ti.1 p hp).1
        have t01 := bI_01 (x.1 p ∨ ∃ j : Nat, j < k ∧ (wE c D x.2.2 n P x.1 j) = p)
        skip
        refine zx_go (pc1 := 30) (l1 := [some (zr 32), some (zi n), some (zi (gE c D x.2.2 n P x.1)), some (zi p), o4_v, o5_v]) (st1 := [zi p, zr 48]) (w1 := wr c R1) g_X6_take 3 _ _ _ _ rfl ?_
        refine gz_bald g_X6_take rfl (n := 1728) rfl (by decide) rfl (by decide) (by omega) (by omega) ?_
        refine zx_if g_X6_take rfl (by omega) (fun (h31 : (R1 48 p) ≠ 0) => ?_) (fun (h31 : ¬ (R1 48 p) ≠ 0) => ?_)
        · refine zx_go (pc1 := 105) (l1 := [some (zr 32), some (zi n), some (zi (gE c D x.2.2 n P x.1)), some (zi p), some (zi 0), o5_v]) (st1 := []) (w1 := wr c R1) g_X6_take 2 _ _ _ _ rfl ?_
          have lp105 : ∀ (it : Nat) (b : Int) (R3 : zI) (o5_v : Option zV), (it : Int) = D 10 0 - b → (0 ≤ b ∧ b ≤ D 10 0 ∧ (∀ a, a ≠ 43 → a ≠ 44 → a ≠ 46 → a ≠ 47 → R3 a = R1 a) ∧ (∀ b1 q, 0 ≤ b1 → b1 < D 10 0 → pls c q → R3 46 (1728 * b1 + q) = bI (aR x.2.2 b1 q ∧ ¬ (b1 < b ∧ (∃ j : Nat, j < k ∧ hitP c D (aR x.2.2) n b1 (wE c D x.2.2 n P x.1 j)))) ∧ R3 47 (1728 * b1 + q) = bI (aU x.2.2 b1 q ∧ ¬ (b1 < b ∧ (∃ j : Nat, j < k ∧ hitP c D (aR x.2.2) n b1 (wE c D x.2.2 n P x.1 j))))) ∧ ∀ b1, 0 ≤ b1 → b1 < D 10 0 → R3 43 b1 = bI (aJ x.2.2 b1 ∧ ¬ (b1 < b ∧ (∃ j : Nat, j < k ∧ hitP c D (aR x.2.2) n b1 (wE c D x.2.2 n P x.1 j)))) ∧ R3 44 b1 = pI (b1 < b ∧ (∃ j : Nat, j < k ∧ hitP c D (aR x.2.2) n b1 (wE c D x.2.2 n P x.1 j))) 3 (R 44 b1)) → ZX m_X6_take 105 [some (zr 32), some (zi n), some (zi (gE c D x.2.2 n P x.1)), some (zi p), some (zi b), o5_v] [] (wr c R3) (gU (fun R2 => (∀ a, a ≠ 43 → a ≠ 44 → a ≠ 45 → a ≠ 46 → a ≠ 47 → a ≠ 48 → a ≠ 49 → a ≠ 53 → R2 a = R a) ∧ (∀ p, pls c p → R2 48 p = bI ((aW c D n P x).1 p) ∧ R2 49 p = bI ((aW c D n P x).2.1 p)) ∧ MS0 c D (aW c D n P x).2.2 R2) c) := by
            refine fun it => Nat.strongRecOn it (fun it ih105 => ?_)
            intro b R3 o5_v hn105 hi105
            obtain ⟨b0, b1_, fr3, rt3, jn3⟩ := hi105
            have e8 : R3 32 8 = D 10 0 := by rw [fr3 32 (by decide) (by decide) (by decide) (by decide), fr_v 32 (by decide) (by decide) (by decide) (by decide)]; exact hm.2.2.2.2.2.1
            refine zx_go (pc1 := 111) (l1 := [some (zr 32), some (zi n), some (zi (gE c D x.2.2 n P x.1)), some (zi p), some (zi b), o5_v]) (st1 := [zi (R3 32 8), zi b]) (w1 := wr c R3) g_X6_take 3 _ _ _ _ rfl ?_
            refine zx_cmp g_X6_take rfl (by omega) (by omega) (fun (h111 : (R3 32 8) ≤ b) => ?_) (fun (h111 : ¬ ((R3 32 8) ≤ b)) => ?_)
            · refine zx_vret g_X6_take rfl ?_
              have tk0 : x.1 p ∨ ∃ j : Nat, j < k ∧ (wE c D x.2.2 n P x.1 j) = p := bI_ne.mp (by rw [← e48]; exact h31)
              have tk : x.1 (wE c D x.2.2 n P x.1 k) := by
                rcases tk0 with z | ⟨j, j0, j1⟩
                · rw [← ep]; exact z
                · have := c2i j k (by omega) (Nat.le_refl k) (by rw [j1]; exact ep)
                  omega
              have on_v : ∀ j : Nat, onw x.1 (wE c D x.2.2 n P x.1) j ↔ j < k := fun j => by
                constructor
                · intro z
                  by_cases y : j < k
                  · exact y
                  · exact absurd tk (z k (by omega))
                · exact fun z i hi_v => c2_v i (by omega)
              have ls : ∀ b, (∃ j : Nat, j < k ∧ hitP c D (aR x.2.2) n b (wE c D x.2.2 n P x.1 j)) ↔ los c D (aR x.2.2) n x.1 (wE c D x.2.2 n P x.1) b := fun b => ⟨fun ⟨j, j0, j1⟩ => ⟨j, (on_v j).mpr j0, j1⟩, fun ⟨j, j0, j1⟩ => ⟨j, (on_v j).mp j0, j1⟩⟩
              have eb : b = D 10 0 := by omega
              have fa : ∀ a, a ≠ 43 → a ≠ 44 → a ≠ 45 → a ≠ 46 → a ≠ 47 → a ≠ 48 → a ≠ 49 → a ≠ 53 → R3 a = R a := fun a h1 h2 h3 h4 h5 h6 h7 h8 => (fr3 a h1 h2 h4 h5).trans (fr_v a h3 h6 h7 h8)
              refine gU_i ⟨fa, fun q hq1 => ⟨?_, ?_⟩, hm.of (fun a h1 h2 => fa a (by omega) (by omega) (by omega) (by omega) (by omega) (by omega) (by omega) (by omega)), ?_, ?_, fun b1 q a d hq1 => ⟨?_, ?_⟩, fun q hq1 => ?_, fun b1 a d => ?_, fun b1 a d nj => ?_⟩
              · rw [fr3 48 (by decide) (by decide) (by decide) (by decide), (ti.1 q hq1).1]
                exact bI_congr ⟨fun z => z.imp id (fun ⟨j, j0, j1⟩ => ⟨j, (on_v j).mpr j0, j1⟩), fun z => z.imp id (fun ⟨j, j0, j1⟩ => ⟨j, (on_v j).mp j0, j1⟩)⟩
              · rw [fr3 49 (by decide) (by decide) (by decide) (by decide), (ti.1 q hq1).2.1]
                exact bI_congr ⟨fun z => z.imp id (fun ⟨j, j0, j1⟩ => ⟨j, (on_v j).mpr j0, j1⟩), fun z => z.imp id (fun ⟨j, j0, j1⟩ => ⟨j, (on_v j).mp j0, j1⟩)⟩
              · rw [fa 41 (by decide) (by decide) (by decide) (by decide) (by decide) (by decide) (by decide) (by decide)]; exact hpk
              · rw [fa 42 (by decide) (by decide) (by decide) (by decide) (by decide) (by decide) (by decide) (by decide)]; exact hcl
              · rw [(rt3 b1 q a d hq1).1]
                exact bI_congr ⟨fun z => ⟨z.1, fun y => z.2 ⟨by omega, (ls b1).mpr y⟩⟩, fun z => ⟨z.1, fun y => z.2 ((ls b1).mp y.2)⟩⟩
              · rw [(rt3 b1 q a d hq1).2]
                exact bI_congr ⟨fun z => ⟨z.1, fun y => z.2 ⟨by omega, (ls b1).mpr y⟩⟩, fun z => ⟨z.1, fun y => z.2 ((ls b1).mp y.2)⟩⟩
              · rw [fr3 45 (by decide) (by decide) (by decide) (by decide), (ti.1 q hq1).2.2]
                show _ = aP x.2.2 q + pI (inw x.1 (wE c D x.2.2 n P x.1) q ∧ nearR c D (aR x.2.2) n q) 5 0
                rw [show (∃ j : Nat, j < k ∧ (wE c D x.2.2 n P x.1 j) = q ∧ nearR c D (aR x.2.2) n q) = (inw x.1 (wE c D x.2.2 n P x.1) q ∧ nearR c D (aR x.2.2) n q) from propext ⟨fun ⟨j, j0, j1, j2_v⟩ => ⟨⟨j, (on_v j).mpr j0, j1⟩, j2_v⟩, fun ⟨⟨j, j0, j1⟩, j2_v⟩ => ⟨j, (on_v j).mp j0, j1, j2_v⟩⟩]
              · rw [(jn3 b1 a d).1]
                exact bI_congr ⟨fun z => ⟨z.1, fun y => z.2 ⟨by omega, (ls b1).mpr y⟩⟩, fun z => ⟨z.1, fun y => z.2 ((ls b1).mp y.2)⟩⟩
              · rw [(jn3 b1 a d).2]
                show _ = pI (clo c D b1) 1 (pI (aF x.2.2 b1) 2 3)
                by_cases y : (∃ j : Nat, j < k ∧ hitP c D (aR x.2.2) n b1 (wE c D x.2.2 n P x.1 j))
                · rw [pI_t ⟨by omega, y⟩]
                  obtain ⟨j, j0, q, k1_v, k2_v, k3_v⟩ := y
                  obtain ⟨r1_v, r2, r3, r4, r5_v, r6⟩ := hr.1.1 b1 q k2_v
                  rw [pI_f (hr.1.2.2.1 b1 r4).2.2, pI_f r5_v]
                · rw [pI_f (fun z => y z.2)]
                  exact hwy b1 a d (fun z => nj ⟨z, fun y2 => y ((ls b1).mpr y2)⟩)
            · have e53 : R3 53 b = bI (∃ j : Nat, j < k ∧ hitP c D (aR x.2.2) n b (wE c D x.2.2 n P x.1 j)) := by rw [fr3 53 (by decide) (by decide) (by decide) (by decide)]; exact ti.2 b b0 (by omega)
              have l01 := bI_01 (∃ j : Nat, j < k ∧ hitP c D (aR x.2.2) n b (wE c D x.2.2 n P x.1 j))
              refine zx_go (pc1 := 120) (l1 := [some (zr 32), some (zi n), some (zi (gE c D x.2.2 n P x.1)), some (zi p), some (zi b), o5_v]) (st1 := [zi b, zr 53]) (w1 := wr c R3) g_X6_take 3 _ _ _ _ rfl ?_
              refine gz_bald g_X6_take rfl (n := 16) rfl (by decide) rfl (by decide) (by omega) (by omega) ?_
              refine zx_if g_X6_take rfl (by omega) (fun (h121 : (R3 53 b) = 0) => ?_) (fun (h121 : ¬ (R3 53 b) = 0) => ?_)
              · refine zx_go (pc1 := 105) (l1 := [some (zr 32), some (zi n), some (zi (gE c D x.2.2 n P x.1)), some (zi p), some (zi (b + 1)), o5_v]) (st1 := []) (w1 := wr c R3) g_X6_take 2 _ _ _ _ rfl ?_
                refine ih105 (Int.toNat (D 10 0 - (b + 1))) (by omega) (b + 1) R3 o5_v (by omega) ?_
                have nl : ¬ (∃ j : Nat, j < k ∧ hitP c D (aR x.2.2) n b (wE c D x.2.2 n P x.1 j)) := fun z => bI_ne.mpr z (by rw [← e53]; exact h121)
                have key_v : ∀ b1, (b1 < b ∧ (∃ j : Nat, j < k ∧ hitP c D (aR x.2.2) n b1 (wE c D x.2.2 n P x.1 j))) = (b1 < b + 1 ∧ (∃ j : Nat, j < k ∧ hitP c D (aR x.2.2) n b1 (wE c D x.2.2 n P x.1 j))) := fun b1 => propext ⟨fun z => ⟨by omega, z.2⟩, fun z => ⟨by
                  by_cases y : b1 = b
                  · rw [y] at z; exact absurd z.2 nl
                  · omega, z.2⟩⟩
                refine ⟨by omega, by omega, fr3, fun b1 q a d hq1 => ?_, fun b1 a d => ?_⟩
                · rw [← key_v b1]; exact rt3 b1 q a d hq1
                · rw [← key_v b1]; exact jn3 b1 a d
              · refine zx_go (pc1 := 127) (l1 := [some (zr 32), some (zi n), some (zi (gE c D x.2.2 n P x.1)), some (zi p), some (zi b), o5_v]) (st1 := [zi b, zr 32]) (w1 := wr c R3) g_X6_take 2 _ _ _ _ rfl ?_
                refine gx_cvU (As := [zi b]) (rest := []) g_X6_take rfl g_X6_dropRoute rfl rfl (Nat.le_of_ble_eq_true rfl) (Nat.le_of_ble_eq_true rfl) rfl (by decide) (m_dropRoute hg b0 (by omega)) (fun R127 hR127 => ?_)
                refine zx_go (pc1 := 137) (l1 := [some (zr 32), some (zi n), some (zi (gE c D x.2.2 n P x.1)), some (zi p), some (zi b), o5_v]) (st1 := [zi 0, zi b, zr 43]) (w1 := wr c R127) g_X6_take 4 _ _ _ _ rfl ?_
                refine gz_bast g_X6_take rfl (n := 16) rfl (by decide) (by refine ⟨?_, ?_, ?_, ?_, ?_⟩ <;> simp) (by decide) (by omega) (by omega) (.inl rfl) ?_
                refine zx_go (pc1 := 145) (l1 := [some (zr 32), some (zi n), some (zi (gE c D x.2.2 n P x.1)), some (zi p), some (zi b), o5_v]) (st1 := [zi 3, zi b, zr 44]) (w1 := wr c (zU R127 43 b 0)) g_X6_take 4 _ _ _ _ rfl ?_
                refine gz_iast g_X6_take rfl (n := 16) rfl (by decide) (by refine ⟨?_, ?_, ?_, ?_, ?_⟩ <;> simp) (by decide) (by omega) (by omega) ?_
                refine zx_go (pc1 := 105) (l1 := [some (zr 32), some (zi n), some (zi (gE c D x.2.2 n P x.1)), some (zi p), some (zi (b + 1)), o5_v]) (st1 := []) (w1 := wr c (zU (zU R127 43 b 0) 44 b 3)) g_X6_take 2 _ _ _ _ rfl ?_
                refine ih105 (Int.toNat (D 10 0 - (b + 1))) (by omega) (b + 1) (zU (zU R127 43 b 0) 44 b 3) o5_v (by omega) ?_
                have yl : (∃ j : Nat, j < k ∧ hitP c D (aR x.2.2) n b (wE c D x.2.2 n P x.1 j)) := bI_ne.mp (by rw [← e53]; exact h121)
                subst hR127
                have key_v : ∀ b1, b1 ≠ b → (b1 < b ∧ (∃ j : Nat, j < k ∧ hitP c D (aR x.2.2) n b1 (wE c D x.2.2 n P x.1 j))) = (b1 < b + 1 ∧ (∃ j : Nat, j < k ∧ hitP c D (aR x.2.2) n b1 (wE c D x.2.2 n P x.1 j))) := fun b1 y => propext ⟨fun z => ⟨by omega, z.2⟩, fun z => ⟨by omega, z.2⟩⟩
                refine ⟨by omega, by omega, fun a h1 h2 h3 h4 => ?_, fun b1 q a d hq1 => ?_, fun b1 a d => ?_⟩
                · rw [zU_cell h2, zU_cell h1]
                  funext j
                  rw [ch_f (fun z => z.1.elim h3 h4)]
                  rw [fr3 a h1 h2 h3 h4]
                · rw [zU_cell (by decide), zU_cell (by decide), zU_cell (by decide), zU_cell (by decide)]
                  have q0 := hq1.1
                  have q1_v := hq1.2
                  by_cases y : b1 = b
                  · rw [y, ch_t ⟨.inl rfl, by omega, by omega⟩, ch_t ⟨.inr rfl, by omega, by omega⟩, bI_f (fun z => z.2 ⟨by omega, yl⟩), bI_f (fun z => z.2 ⟨by omega, yl⟩)]
                    exact ⟨rfl, rfl⟩
                  · rw [ch_f (fun z => by omega), ch_f (fun z => by omega), ← key_v b1 y]
                    exact rt3 b1 q a d hq1
                · rw [zU_cell (by decide), zU_row, zU_row, zU_cell (by decide)]
                  by_cases y : b1 = b
                  · rw [y, up1_s, up1_s, bI_f (fun z => z.2 ⟨by omega, yl⟩), pI_t ⟨by omega, yl⟩]
                    exact ⟨rfl, rfl⟩
                  · rw [up1_n y, up1_n y, ch_f (fun z => absurd z.1 (by decide)), ch_f (fun z => absurd z.1 (by decide)), ← key_v b1 y]
                    exact jn3 b1 a d
          refine lp105 (Int.toNat (D 10 0 - 0)) 0 R1 o5_v (by omega) ?_
          refine ⟨by omega, by omega, fun _ _ _ _ _ => rfl, fun b1 q a d hq1 => ⟨?_, ?_⟩, fun b1 a d => ⟨?_, ?_⟩⟩
          · rw [fr_v 46 (by decide) (by decide) (by decide) (by decide), (hrt b1 q a d hq1).1]
            exact bI_congr ⟨fun z => ⟨z, fun y => by omega⟩, fun z => z.1⟩
          · rw [fr_v 47 (by decide) (by decide) (by decide) (by decide), (hrt b1 q a d hq1).2]
            exact bI_congr ⟨fun z => ⟨z, fun y => by omega⟩, fun z => z.1⟩
          · rw [fr_v 43 (by decide) (by decide) (by decide) (by decide), hjn b1 a d]
            exact bI_congr ⟨fun z => ⟨z, fun y => by omega⟩, fun z => z.1⟩
          · rw [fr_v 44 (by decide) (by decide) (by decide) (by decide), pI_f (fun y => by omega)]
        · have ntp : ¬ x.1 p := fun z => h31 (by rw [(ti.1 p hp).1]; exact bI_ne.mpr (.inl z))
          have pF : fd c D x.2.2 n P x.1 p < FAR := by rw [ep]; exact win_v.2.1
          have bo := bd_ok hD he0 hfd hp ntp pF
          obtain ⟨bo0, bo1, ⟨bp0, bp1⟩, bo3, bo4, bo5, bo6⟩ := bo
          have bo := bd_ok hD he0 hfd hp ntp pF
          have hm1 : MDn c D R1 := hm.of (fun a h1 h2 => fr_v a (by omega) (by omega) (by omega) (by omega))
          have ew1 : (wE c D x.2.2 n P x.1 (k + 1)) = bes c p (bd c D (ext c D x.2.2 n) (fd c D x.2.2 n P x.1) p) := by rw [ep]; rfl
          have bm_v := bes_min hg hp bo0 bo1 (show bes c p (bd c D (ext c D x.2.2 n) (fd c D x.2.2 n P x.1) p) ≠ -1 by omega)
          have e51 : R1 51 p = bI (nearR c D (aR x.2.2) n p) := by rw [fr_v 51 (by decide) (by decide) (by decide) (by decide)]; exact h51 p hp
          have n01 := bI_01 (nearR c D (aR x.2.2) n p)
          have e45 : R1 45 p + pI (nearR c D (aR x.2.2) n p) 20 0 = ext c D x.2.2 n p := by
            rw [(ti.1 p hp).2.2, pI_f (fun ⟨j, j0, j1, _⟩ => by have := c2i j k (by omega) (Nat.le_refl k) (by rw [j1]; exact ep); omega), Int.add_zero]
            rfl
          have eb0 := he0 p hp
          have eb1 := heB p hp
          refine zx_go (pc1 := 36) (l1 := [some (zr 32), some (zi n), some (zi (gE c D x.2.2 n P x.1)), some (zi p), o4_v, o5_v]) (st1 := [zi p, zr 32]) (w1 := wr c R1) g_X6_take 2 _ _ _ _ rfl ?_
          refine zx_cvF (As := [zi p]) (rest := []) g_X6_take rfl g_X6_backFrom rfl rfl (Nat.le_of_ble_eq_true rfl) (Nat.le_of_ble_eq_true rfl) rfl (by decide) (m_backFrom (Y := nearR c D (aR x.2.2) n p) (e := ext c D x.2.2 n) (f := fd c D x.2.2 n P x.1) hD hm1 hp e51 e45 ⟨eb0, by omega⟩ (fun q hq1 => ⟨by rw [fr_v 52 (by decide) (by decide) (by decide) (by decide)]; exact hc q hq1, hfd.2.1 q hq1⟩)) ?_
          refine zx_go (pc1 := 45) (l1 := [some (zr 32), some (zi n), some (zi (gE c D x.2.2 n P x.1)), some (zi p), some (zi (bd c D (ext c D x.2.2 n) (fd c D x.2.2 n P x.1) p)), o5_v]) (st1 := [zi (bd c D (ext c D x.2.2 n) (fd c D x.2.2 n P x.1) p), zi p, zr 32]) (w1 := wr c R1) g_X6_take 4 _ _ _ _ rfl ?_
          refine zx_cvF (As := [zi p, zi (bd c D (ext c D x.2.2 n) (fd c D x.2.2 n P x.1) p)]) (rest := []) g_X6_take rfl g_X6_beside rfl rfl (Nat.le_of_ble_eq_true rfl) (Nat.le_of_ble_eq_true rfl) rfl (by decide) (m_beside hg hp bo0 bo1) ?_
          refine zx_go (pc1 := 53) (l1 := [some (zr 32), some (zi n), some (zi (gE c D x.2.2 n P x.1)), some (zi p), some (zi (bd c D (ext c D x.2.2 n) (fd c D x.2.2 n P x.1) p)), some (zi (bes c p (bd c D (ext c D x.2.2 n) (fd c D x.2.2 n P x.1) p)))]) (st1 := [zi 3, zi (bd c D (ext c D x.2.2 n) (fd c D x.2.2 n P x.1) p)]) (w1 := wr c R1) g_X6_take 3 _ _ _ _ rfl ?_
          refine zx_cmp g_X6_take rfl (by omega) (by decide) (fun (h53 : (bd c D (ext c D x.2.2 n) (fd c D x.2.2 n P x.1) p) ≤ 3) => ?_) (fun (h53 : ¬ ((bd c D (ext c D x.2.2 n) (fd c D x.2.2 n P x.1) p) ≤ 3)) => ?_)
          · have e51b : R1 51 p = R1 51 p := by rfl
            refine zx_go (pc1 := 79) (l1 := [some (zr 32), some (zi n), some (zi (gE c D x.2.2 n P x.1)), some (zi p), some (zi (bd c D (ext c D x.2.2 n) (fd c D x.2.2 n P x.1) p)), some (zi (bes c p (bd c D (ext c D x.2.2 n) (fd c D x.2.2 n P x.1) p)))]) (st1 := [zi p, zr 51]) (w1 := wr c R1) g_X6_take 3 _ _ _ _ rfl ?_
            refine gz_bald g_X6_take rfl (n := 1728) rfl (by decide) rfl (by decide) (by omega) (by omega) ?_
            refine zx_if g_X6_take rfl (by omega) (fun (h80 : (R1 51 p) = 0) => ?_) (fun (h80 : ¬ (R1 51 p) = 0) => ?_)
            · have nrp : ¬ nearR c D (aR x.2.2) n p := fun z => bI_ne.mpr z (by rw [← e51, ← e51b]; exact h80)
              refine zx_go (pc1 := 95) (l1 := [some (zr 32), some (zi n), some (zi (gE c D x.2.2 n P x.1)), some (zi p), some (zi (bd c D (ext c D x.2.2 n) (fd c D x.2.2 n P x.1) p)), some (zi (bes c p (bd c D (ext c D x.2.2 n) (fd c D x.2.2 n P x.1) p)))]) (st1 := [zi 1, zi p, zr 48]) (w1 := wr c R1) g_X6_take 4 _ _ _ _ rfl ?_
              refine gz_bast g_X6_take rfl (n := 1728) rfl (by decide) (by refine ⟨?_, ?_, ?_, ?_, ?_⟩ <;> simp) (by decide) (by omega) (by omega) (.inr rfl) ?_
              refine zx_go (pc1 := 25) (l1 := [some (zr 32), some (zi n), some (zi (gE c D x.2.2 n P x.1)), some (zi (bes c p (bd c D (ext c D x.2.2 n) (fd c D x.2.2 n P x.1) p))), some (zi (bd c D (ext c D x.2.2 n) (fd c D x.2.2 n P x.1) p)), some (zi (bes c p (bd c D (ext c D x.2.2 n) (fd c D x.2.2 n P x.1) p)))]) (st1 := []) (w1 := wr c (zU R1 48 p 1)) g_X6_take 3 _ _ _ _ rfl ?_
              have nin := wy_in hD he0 hfd ge.1 ge.2.2 (k + 1) (fun j hj => by
                by_cases y : j = k
                · rw [y]; exact fun z => ntp (by rw [ep]; exact z)
                · exact c2_v j (by omega))
              have nf0 := (hfd.2.1 _ nin.1).1
              have ndc := bo.2.2.2.2.2.1
              have nf1 : 0 ≤ fd c D x.2.2 n P x.1 (bes c p (bd c D (ext c D x.2.2 n) (fd c D x.2.2 n P x.1) p)) := (hfd.2.1 _ bo.2.2.1).1
              refine ih25 (Int.toNat (fd c D x.2.2 n P x.1 (bes c p (bd c D (ext c D x.2.2 n) (fd c D x.2.2 n P x.1) p)))) (by omega) (bes c p (bd c D (ext c D x.2.2 n) (fd c D x.2.2 n P x.1) p)) (zU R1 48 p 1) (some (zi (bd c D (ext c D x.2.2 n) (fd c D x.2.2 n P x.1) p))) (some (zi (bes c p (bd c D (ext c D x.2.2 n) (fd c D x.2.2 n P x.1) p)))) (by omega) ?_
              refine ⟨k + 1, ew1.symm, fun j hj => ?_, fun a h1 h2 h3 h4 => ?_, fun q hq => ⟨?_, ?_, ?_⟩, fun b b0 b1 => ?_⟩
              · by_cases y : j = k
                · rw [y, ← ep]; exact ntp
                · exact c2_v j (by omega)
              · rw [zU_cell h2]
                exact fr_v a h1 h2 h3 h4
              · rw [zU_row]
                by_cases y : q = p
                · rw [y, up1_s]
                  exact (bI_t (.inr ⟨k, by omega, ep.symm⟩)).symm
                · rw [up1_n y, (ti.1 q hq).1]
                  refine bI_congr ⟨fun z => z.imp id (fun ⟨j, j0, j1⟩ => ⟨j, by omega, j1⟩), fun z => z.imp id (fun ⟨j, j0, j1⟩ => ⟨j, ?_, j1⟩)⟩
                  by_cases y2 : j = k
                  · rw [y2, ← ep] at j1; exact absurd j1.symm y
                  · omega
              · rw [zU_cell (by decide), (ti.1 q hq).2.1]
                have el : ¬ lay c (wE c D x.2.2 n P x.1 k) ≠ lay c (wE c D x.2.2 n P x.1 (k + 1)) := by
                  rw [ew1, ← ep]
                  exact fun z => absurd (bm_v.1.mp z) (by omega)
                refine bI_congr ⟨fun z => z.imp id (fun ⟨j, j0, j1⟩ => ⟨j, by omega, j1⟩), fun z => z.imp id (fun ⟨j, j0, j1⟩ => ⟨j, ?_, j1⟩)⟩
                by_cases y2 : j = k
                · rw [y2] at j1; exact absurd j1.1 el
                · omega
              · rw [zU_cell (by decide), (ti.1 q hq).2.2]
                rw [show (∃ j : Nat, j < k ∧ (wE c D x.2.2 n P x.1 j) = q ∧ nearR c D (aR x.2.2) n q) = (∃ j : Nat, j < k + 1 ∧ (wE c D x.2.2 n P x.1 j) = q ∧ nearR c D (aR x.2.2) n q) from propext ⟨fun ⟨j, j0, j1⟩ => ⟨j, by omega, j1⟩, fun ⟨j, j0, j1, j2_v⟩ => ⟨j, by
                  by_cases y2 : j = k
                  · rw [y2, ← ep] at j1
                    rw [← j1] at j2_v; exact absurd j2_v nrp
                  · omega, j1, j2_v⟩⟩]
              · rw [zU_cell (by decide), ti.2 b b0 b1]
                refine bI_congr ⟨fun ⟨j, j0, j1⟩ => ⟨j, by omega, j1⟩, fun ⟨j, j0, j1⟩ => ⟨j, ?_, j1⟩⟩
                by_cases y2 : j = k
                · rw [y2, ← ep] at j1
                  obtain ⟨q1_v, k1_v, k2_v, k3_v⟩ := j1
                  exact absurd ⟨b, q1_v, k1_v, k2_v, k3_v⟩ nrp
                · omega
            · have nrp : nearR c D (aR x.2.2) n p := bI_ne.mp (by rw [← e51, ← e51b]; exact h80)
              refine zx_go (pc1 := 86) (l1 := [some (zr 32), some (zi n), some (zi (gE c D x.2.2 n P x.1)), some (zi p), some (zi (bd c D (ext c D x.2.2 n) (fd c D x.2.2 n P x.1) p)), some (zi (bes c p (bd c D (ext c D x.2.2 n) (fd c D x.2.2 n P x.1) p)))]) (st1 := [zi p, zi n, zr 32]) (w1 := wr c R1) g_X6_take 3 _ _ _ _ rfl ?_
              refine gx_cvU (As := [zi n, zi p]) (rest := []) g_X6_take rfl g_X6_tearAt rfl rfl (Nat.le_of_ble_eq_true rfl) (Nat.le_of_ble_eq_true rfl) rfl (by decide) (m_tearAt (rt := aR x.2.2) (L := fun b => (∃ j : Nat, j < k ∧ hitP c D (aR x.2.2) n b (wE c D x.2.2 n P x.1 j))) hD (hm1.of (fun a h1 h2 => rfl)) n0 n1 hp (fun b q b0 b1 hq1 => by rw [fr_v 46 (by decide) (by decide) (by decide) (by decide)]; exact (hrt b q b0 b1 hq1).1) (fun b b0 b1 => by exact ti.2 b b0 b1)) (fun R86 hR86 => ?_)
              skip
              refine zx_go (pc1 := 95) (l1 := [some (zr 32), some (zi n), some (zi (gE c D x.2.2 n P x.1)), some (zi p), some (zi (bd c D (ext c D x.2.2 n) (fd c D x.2.2 n P x.1) p)), some (zi (bes c p (bd c D (ext c D x.2.2 n) (fd c D x.2.2 n P x.1) p)))]) (st1 := [zi 1, zi p, zr 48]) (w1 := wr c R86) g_X6_take 4 _ _ _ _ rfl ?_
              refine gz_bast g_X6_take rfl (n := 1728) rfl (by decide) (by refine ⟨?_, ?_, ?_, ?_, ?_⟩ <;> simp) (by decide) (by omega) (by omega) (.inr rfl) ?_
              refine zx_go (pc1 := 25) (l1 := [some (zr 32), some (zi n), some (zi (gE c D x.2.2 n P x.1)), some (zi (bes c p (bd c D (ext c D x.2.2 n) (fd c D x.2.2 n P x.1) p))), some (zi (bd c D (ext c D x.2.2 n) (fd c D x.2.2 n P x.1) p)), some (zi (bes c p (bd c D (ext c D x.2.2 n) (fd c D x.2.2 n P x.1) p)))]) (st1 := []) (w1 := wr c (zU R86 48 p 1)) g_X6_take 3 _ _ _ _ rfl ?_
              have nin := wy_in hD he0 hfd ge.1 ge.2.2 (k + 1) (fun j hj => by
                by_cases y : j = k
                · rw [y]; exact fun z => ntp (by rw [ep]; exact z)
                · exact c2_v j (by omega))
              have nf0 := (hfd.2.1 _ nin.1).1
              have ndc := bo.2.2.2.2.2.1
              have nf1 : 0 ≤ fd c D x.2.2 n P x.1 (bes c p (bd c D (ext c D x.2.2 n) (fd c D x.2.2 n P x.1) p)) := (hfd.2.1 _ bo.2.2.1).1
              refine ih25 (Int.toNat (fd c D x.2.2 n P x.1 (bes c p (bd c D (ext c D x.2.2 n) (fd c D x.2.2 n P x.1) p)))) (by omega) (bes c p (bd c D (ext c D x.2.2 n) (fd c D x.2.2 n P x.1) p)) (zU R86 48 p 1) (some (zi (bd c D (ext c D x.2.2 n) (fd c D x.2.2 n P x.1) p))) (some (zi (bes c p (bd c D (ext c D x.2.2 n) (fd c D x.2.2 n P x.1) p)))) (by omega) ?_
              refine ⟨k + 1, ew1.symm, fun j hj => ?_, fun a h1 h2 h3 h4 => ?_, fun q hq => ⟨?_, ?_, ?_⟩, fun b b0 b1 => ?_⟩
              · by_cases y : j = k
                · rw [y, ← ep]; exact ntp
                · exact c2_v j (by omega)
              · rw [zU_cell h2, hR86.1 a h1 h4]
                exact fr_v a h1 h2 h3 h4
              · rw [zU_row, hR86.1 48 (by decide) (by decide)]
                by_cases y : q = p
                · rw [y, up1_s]
                  exact (bI_t (.inr ⟨k, by omega, ep.symm⟩)).symm
                · rw [up1_n y, (ti.1 q hq).1]
                  refine bI_congr ⟨fun z => z.imp id (fun ⟨j, j0, j1⟩ => ⟨j, by omega, j1⟩), fun z => z.imp id (fun ⟨j, j0, j1⟩ => ⟨j, ?_, j1⟩)⟩
                  by_cases y2 : j = k
                  · rw [y2, ← ep] at j1; exact absurd j1.symm y
                  · omega
              · rw [zU_cell (by decide), hR86.1 49 (by decide) (by decide), (ti.1 q hq).2.1]
                have el : ¬ lay c (wE c D x.2.2 n P x.1 k) ≠ lay c (wE c D x.2.2 n P x.1 (k + 1)) := by
                  rw [ew1, ← ep]
                  exact fun z => absurd (bm_v.1.mp z) (by omega)
                refine bI_congr ⟨fun z => z.imp id (fun ⟨j, j0, j1⟩ => ⟨j, by omega, j1⟩), fun z => z.imp id (fun ⟨j, j0, j1⟩ => ⟨j, ?_, j1⟩)⟩
                by_cases y2 : j = k
                · rw [y2] at j1; exact absurd j1.1 el
                · omega
              · rw [zU_cell (by decide), hR86.2.1]
                by_cases y : q = p
                · rw [y, up1_s, (ti.1 p hp).2.2]
                  rw [pI_f (fun ⟨j, j0, j1, _⟩ => by have := c2i j k (by omega) (Nat.le_refl k) (by rw [j1]; exact ep); omega), pI_t ⟨k, by omega, ep.symm, nrp⟩]
                  omega
                · rw [up1_n y, (ti.1 q hq).2.2]
                  rw [show (∃ j : Nat, j < k ∧ (wE c D x.2.2 n P x.1 j) = q ∧ nearR c D (aR x.2.2) n q) = (∃ j : Nat, j < k + 1 ∧ (wE c D x.2.2 n P x.1 j) = q ∧ nearR c D (aR x.2.2) n q) from propext ⟨fun ⟨j, j0, j1⟩ => ⟨j, by omega, j1⟩, fun ⟨j, j0, j1, j2_v⟩ => ⟨j, by
                    by_cases y2 : j = k
                    · rw [y2, ← ep] at j1
                      exact absurd j1.symm y
                    · omega, j1, j2_v⟩⟩]
              · rw [zU_cell (by decide), hR86.2.2 b b0 b1]
                refine bI_congr ⟨fun z => ?_, fun ⟨j, j0, j1⟩ => ?_⟩
                · rcases z with ⟨j, j0, j1⟩ | z
                  · exact ⟨j, by omega, j1⟩
                  · exact ⟨k, by omega, by rw [← ep]; exact z⟩
                · by_cases y2 : j = k
                  · rw [y2, ← ep] at j1; exact .inr j1
                  · exact .inl ⟨j, by omega, j1⟩
          · refine zx_go (pc1 := 63) (l1 := [some (zr 32), some (zi n), some (zi (gE c D x.2.2 n P x.1)), some (zi p), some (zi (bd c D (ext c D x.2.2 n) (fd c D x.2.2 n P x.1) p)), some (zi (bes c p (bd c D (ext c D x.2.2 n) (fd c D x.2.2 n P x.1) p)))]) (st1 := [zi 4, zi (bd c D (ext c D x.2.2 n) (fd c D x.2.2 n P x.1) p), zr 49]) (w1 := wr c R1) g_X6_take 4 _ _ _ _ rfl ?_
            refine zx_cmp g_X6_take rfl (by omega) (by decide) (fun (h63 : (bd c D (ext c D x.2.2 n) (fd c D x.2.2 n P x.1) p) ≠ 4) => ?_) (fun (h63 : ¬ ((bd c D (ext c D x.2.2 n) (fd c D x.2.2 n P x.1) p) ≠ 4)) => ?_)
            · refine zx_go (pc1 := 73) (l1 := [some (zr 32), some (zi n), some (zi (gE c D x.2.2 n P x.1)), some (zi p), some (zi (bd c D (ext c D x.2.2 n) (fd c D x.2.2 n P x.1) p)), some (zi (bes c p (bd c D (ext c D x.2.2 n) (fd c D x.2.2 n P x.1) p)))]) (st1 := [zi 1, zi p, zr 49]) (w1 := wr c R1) g_X6_take 2 _ _ _ _ rfl ?_
              refine gz_bast g_X6_take rfl (n := 1728) rfl (by decide) (by refine ⟨?_, ?_, ?_, ?_, ?_⟩ <;> simp) (by decide) (by omega) (by omega) (.inr rfl) ?_
              have e51b : (zU R1 49 p 1) 51 p = R1 51 p := by rw [zU_cell (by decide)]
              refine zx_go (pc1 := 79) (l1 := [some (zr 32), some (zi n), some (zi (gE c D x.2.2 n P x.1)), some (zi p), some (zi (bd c D (ext c D x.2.2 n) (fd c D x.2.2 n P x.1) p)), some (zi (bes c p (bd c D (ext c D x.2.2 n) (fd c D x.2.2 n P x.1) p)))]) (st1 := [zi p, zr 51]) (w1 := wr c (zU R1 49 p 1)) g_X6_take 3 _ _ _ _ rfl ?_
              refine gz_bald g_X6_take rfl (n := 1728) rfl (by decide) rfl (by decide) (by omega) (by omega) ?_
              refine zx_if g_X6_take rfl (by omega) (fun (h80 : ((zU R1 49 p 1) 51 p) = 0) => ?_) (fun (h80 : ¬ ((zU R1 49 p 1) 51 p) = 0) => ?_)
              · have nrp : ¬ nearR c D (aR x.2.2) n p := fun z => bI_ne.mpr z (by rw [← e51, ← e51b]; exact h80)
                refine zx_go (pc1 := 95) (l1 := [some (zr 32), some (zi n), some (zi (gE c D x.2.2 n P x.1)), some (zi p), some (zi (bd c D (ext c D x.2.2 n) (fd c D x.2.2 n P x.1) p)), some (zi (bes c p (bd c D (ext c D x.2.2 n) (fd c D x.2.2 n P x.1) p)))]) (st1 := [zi 1, zi p, zr 48]) (w1 := wr c (zU R1 49 p 1)) g_X6_take 4 _ _ _ _ rfl ?_
                refine gz_bast g_X6_take rfl (n := 1728) rfl (by decide) (by refine ⟨?_, ?_, ?_, ?_, ?_⟩ <;> simp) (by decide) (by omega) (by omega) (.inr rfl) ?_
                refine zx_go (pc1 := 25) (l1 := [some (zr 32), some (zi n), some (zi (gE c D x.2.2 n P x.1)), some (zi (bes c p (bd c D (ext c D x.2.2 n) (fd c D x.2.2 n P x.1) p))), some (zi (bd c D (ext c D x.2.2 n) (fd c D x.2.2 n P x.1) p)), some (zi (bes c p (bd c D (ext c D x.2.2 n) (fd c D x.2.2 n P x.1) p)))]) (st1 := []) (w1 := wr c (zU (zU R1 49 p 1) 48 p 1)) g_X6_take 3 _ _ _ _ rfl ?_
                have nin := wy_in hD he0 hfd ge.1 ge.2.2 (k + 1) (fun j hj => by
                  by_cases y : j = k
                  · rw [y]; exact fun z => ntp (by rw [ep]; exact z)
                  · exact c2_v j (by omega))
                have nf0 := (hfd.2.1 _ nin.1).1
                have ndc := bo.2.2.2.2.2.1
                have nf1 : 0 ≤ fd c D x.2.2 n P x.1 (bes c p (bd c D (ext c D x.2.2 n) (fd c D x.2.2 n P x.1) p)) := (hfd.2.1 _ bo.2.2.1).1
                refine ih25 (Int.toNat (fd c D x.2.2 n P x.1 (bes c p (bd c D (ext c D x.2.2 n) (fd c D x.2.2 n P x.1) p)))) (by omega) (bes c p (bd c D (ext c D x.2.2 n) (fd c D x.2.2 n P x.1) p)) (zU (zU R1 49 p 1) 48 p 1) (some (zi (bd c D (ext c D x.2.2 n) (fd c D x.2.2 n P x.1) p))) (some (zi (bes c p (bd c D (ext c D x.2.2 n) (fd c D x.2.2 n P x.1) p)))) (by omega) ?_
                refine ⟨k + 1, ew1.symm, fun j hj => ?_, fun a h1 h2 h3 h4 => ?_, fun q hq => ⟨?_, ?_, ?_⟩, fun b b0 b1 => ?_⟩
                · by_cases y : j = k
                  · rw [y, ← ep]; exact ntp
                  · exact c2_v j (by omega)
                · rw [zU_cell h2, zU_cell h3]
                  exact fr_v a h1 h2 h3 h4
                · rw [zU_row, zU_cell (by decide)]
                  by_cases y : q = p
                  · rw [y, up1_s]
                    exact (bI_t (.inr ⟨k, by omega, ep.symm⟩)).symm
                  · rw [up1_n y, (ti.1 q hq).1]
                    refine bI_congr ⟨fun z => z.imp id (fun ⟨j, j0, j1⟩ => ⟨j, by omega, j1⟩), fun z => z.imp id (fun ⟨j, j0, j1⟩ => ⟨j, ?_, j1⟩)⟩
                    by_cases y2 : j = k
                    · rw [y2, ← ep] at j1; exact absurd j1.symm y
                    · omega
                · rw [zU_cell (by decide), zU_row]
                  have em : min (wE c D x.2.2 n P x.1 k) (wE c D x.2.2 n P x.1 (k + 1)) = p := by
                    rw [ew1, ← ep]
                    exact bm_v.2.2 (by omega)
                  have el : lay c (wE c D x.2.2 n P x.1 k) ≠ lay c (wE c D x.2.2 n P x.1 (k + 1)) := by
                    rw [ew1, ← ep]
                    exact bm_v.1.mpr (by omega)
                  by_cases y : q = p
                  · rw [y, up1_s]
                    exact (bI_t (.inr ⟨k, by omega, el, em.symm⟩)).symm
                  · rw [up1_n y, (ti.1 q hq).2.1]
                    refine bI_congr ⟨fun z => z.imp id (fun ⟨j, j0, j1⟩ => ⟨j, by omega, j1⟩), fun z => z.imp id (fun ⟨j, j0, j1⟩ => ⟨j, ?_, j1⟩)⟩
                    by_cases y2 : j = k
                    · rw [y2] at j1; rw [em] at j1; exact absurd j1.2 y
                    · omega
                · rw [zU_cell (by decide), zU_cell (by decide), (ti.1 q hq).2.2]
                  rw [show (∃ j : Nat, j < k ∧ (wE c D x.2.2 n P x.1 j) = q ∧ nearR c D (aR x.2.2) n q) = (∃ j : Nat, j < k + 1 ∧ (wE c D x.2.2 n P x.1 j) = q ∧ nearR c D (aR x.2.2) n q) from propext ⟨fun ⟨j, j0, j1⟩ => ⟨j, by omega, j1⟩, fun ⟨j, j0, j1, j2_v⟩ => ⟨j, by
                    by_cases y2 : j = k
                    · rw [y2, ← ep] at j1
                      rw [← j1] at j2_v; exact absurd j2_v nrp
                    · omega, j1, j2_v⟩⟩]
                · rw [zU_cell (by decide), zU_cell (by decide), ti.2 b b0 b1]
                  refine bI_congr ⟨fun ⟨j, j0, j1⟩ => ⟨j, by omega, j1⟩, fun ⟨j, j0, j1⟩ => ⟨j, ?_, j1⟩⟩
                  by_cases y2 : j = k
                  · rw [y2, ← ep] at j1
                    obtain ⟨q1_v, k1_v, k2_v, k3_v⟩ := j1
                    exact absurd ⟨b, q1_v, k1_v, k2_v, k3_v⟩ nrp
                  · omega
              · have nrp : nearR c D (aR x.2.2) n p := bI_ne.mp (by rw [← e51, ← e51b]; exact h80)
                refine zx_go (pc1 := 86) (l1 := [some (zr 32), some (zi n), some (zi (gE c D x.2.2 n P x.1)), some (zi p), some (zi (bd c D (ext c D x.2.2 n) (fd c D x.2.2 n P x.1) p)), some (zi (bes c p (bd c D (ext c D x.2.2 n) (fd c D x.2.2 n P x.1) p)))]) (st1 := [zi p, zi n, zr 32]) (w1 := wr c (zU R1 49 p 1)) g_X6_take 3 _ _ _ _ rfl ?_
                refine gx_cvU (As := [zi n, zi p]) (rest := []) g_X6_take rfl g_X6_tearAt rfl rfl (Nat.le_of_ble_eq_true rfl) (Nat.le_of_ble_eq_true rfl) rfl (by decide) (m_tearAt (rt := aR x.2.2) (L := fun b => (∃ j : Nat, j < k ∧ hitP c D (aR x.2.2) n b (wE c D x.2.2 n P x.1 j))) hD (hm1.of (fun a h1 h2 => zU_cell (by omega))) n0 n1 hp (fun b q b0 b1 hq1 => by rw [zU_cell (by decide)]; rw [fr_v 46 (by decide) (by decide) (by decide) (by decide)]; exact (hrt b q b0 b1 hq1).1) (fun b b0 b1 => by rw [zU_cell (by decide)]; exact ti.2 b b0 b1)) (fun R86 hR86 => ?_)
                skip
                refine zx_go (pc1 := 95) (l1 := [some (zr 32), some (zi n), some (zi (gE c D x.2.2 n P x.1)), some (zi p), some (zi (bd c D (ext c D x.2.2 n) (fd c D x.2.2 n P x.1) p)), some (zi (bes c p (bd c D (ext c D x.2.2 n) (fd c D x.2.2 n P x.1) p)))]) (st1 := [zi 1, zi p, zr 48]) (w1 := wr c R86) g_X6_take 4 _ _ _ _ rfl ?_
                refine gz_bast g_X6_take rfl (n := 1728) rfl (by decide) (by refine ⟨?_, ?_, ?_, ?_, ?_⟩ <;> simp) (by decide) (by omega) (by omega) (.inr rfl) ?_
                refine zx_go (pc1 := 25) (l1 := [some (zr 32), some (zi n), some (zi (gE c D x.2.2 n P x.1)), some (zi (bes c p (bd c D (ext c D x.2.2 n) (fd c D x.2.2 n P x.1) p))), some (zi (bd c D (ext c D x.2.2 n) (fd c D x.2.2 n P x.1) p)), some (zi (bes c p (bd c D (ext c D x.2.2 n) (fd c D x.2.2 n P x.1) p)))]) (st1 := []) (w1 := wr c (zU R86 48 p 1)) g_X6_take 3 _ _ _ _ rfl ?_
                have nin := wy_in hD he0 hfd ge.1 ge.2.2 (k + 1) (fun j hj => by
                  by_cases y : j = k
                  · rw [y]; exact fun z => ntp (by rw [ep]; exact z)
                  · exact c2_v j (by omega))
                have nf0 := (hfd.2.1 _ nin.1).1
                have ndc := bo.2.2.2.2.2.1
                have nf1 : 0 ≤ fd c D x.2.2 n P x.1 (bes c p (bd c D (ext c D x.2.2 n) (fd c D x.2.2 n P x.1) p)) := (hfd.2.1 _ bo.2.2.1).1
                refine ih25 (Int.toNat (fd c D x.2.2 n P x.1 (bes c p (bd c D (ext c D x.2.2 n) (fd c D x.2.2 n P x.1) p)))) (by omega) (bes c p (bd c D (ext c D x.2.2 n) (fd c D x.2.2 n P x.1) p)) (zU R86 48 p 1) (some (zi (bd c D (ext c D x.2.2 n) (fd c D x.2.2 n P x.1) p))) (some (zi (bes c p (bd c D (ext c D x.2.2 n) (fd c D x.2.2 n P x.1) p)))) (by omega) ?_
                refine ⟨k + 1, ew1.symm, fun j hj => ?_, fun a h1 h2 h3 h4 => ?_, fun q hq => ⟨?_, ?_, ?_⟩, fun b b0 b1 => ?_⟩
                · by_cases y : j = k
                  · rw [y, ← ep]; exact ntp
                  · exact c2_v j (by omega)
                · rw [zU_cell h2, hR86.1 a h1 h4, zU_cell h3]
                  exact fr_v a h1 h2 h3 h4
                · rw [zU_row, hR86.1 48 (by decide) (by decide), zU_cell (by decide)]
                  by_cases y : q = p
                  · rw [y, up1_s]
                    exact (bI_t (.inr ⟨k, by omega, ep.symm⟩)).symm
                  · rw [up1_n y, (ti.1 q hq).1]
                    refine bI_congr ⟨fun z => z.imp id (fun ⟨j, j0, j1⟩ => ⟨j, by omega, j1⟩), fun z => z.imp id (fun ⟨j, j0, j1⟩ => ⟨j, ?_, j1⟩)⟩
                    by_cases y2 : j = k
                    · rw [y2, ← ep] at j1; exact absurd j1.symm y
                    · omega
                · rw [zU_cell (by decide), hR86.1 49 (by decide) (by decide), zU_row]
                  have em : min (wE c D x.2.2 n P x.1 k) (wE c D x.2.2 n P x.1 (k + 1)) = p := by
                    rw [ew1, ← ep]
                    exact bm_v.2.2 (by omega)
                  have el : lay c (wE c D x.2.2 n P x.1 k) ≠ lay c (wE c D x.2.2 n P x.1 (k + 1)) := by
                    rw [ew1, ← ep]
                    exact bm_v.1.mpr (by omega)
                  by_cases y : q = p
                  · rw [y, up1_s]
                    exact (bI_t (.inr ⟨k, by omega, el, em.symm⟩)).symm
                  · rw [up1_n y, (ti.1 q hq).2.1]
                    refine bI_congr ⟨fun z => z.imp id (fun ⟨j, j0, j1⟩ => ⟨j, by omega, j1⟩), fun z => z.imp id (fun ⟨j, j0, j1⟩ => ⟨j, ?_, j1⟩)⟩
                    by_cases y2 : j = k
                    · rw [y2] at j1; rw [em] at j1; exact absurd j1.2 y
                    · omega
                · rw [zU_cell (by decide), hR86.2.1, zU_cell (by decide)]
                  by_cases y : q = p
                  · rw [y, up1_s, (ti.1 p hp).2.2]
                    rw [pI_f (fun ⟨j, j0, j1, _⟩ => by have := c2i j k (by omega) (Nat.le_refl k) (by rw [j1]; exact ep); omega), pI_t ⟨k, by omega, ep.symm, nrp⟩]
                    omega
                  · rw [up1_n y, (ti.1 q hq).2.2]
                    rw [show (∃ j : Nat, j < k ∧ (wE c D x.2.2 n P x.1 j) = q ∧ nearR c D (aR x.2.2) n q) = (∃ j : Nat, j < k + 1 ∧ (wE c D x.2.2 n P x.1 j) = q ∧ nearR c D (aR x.2.2) n q) from propext ⟨fun ⟨j, j0, j1⟩ => ⟨j, by omega, j1⟩, fun ⟨j, j0, j1, j2_v⟩ => ⟨j, by
                      by_cases y2 : j = k
                      · rw [y2, ← ep] at j1
                        exact absurd j1.symm y
                      · omega, j1, j2_v⟩⟩]
                · rw [zU_cell (by decide), hR86.2.2 b b0 b1]
                  refine bI_congr ⟨fun z => ?_, fun ⟨j, j0, j1⟩ => ?_⟩
                  · rcases z with ⟨j, j0, j1⟩ | z
                    · exact ⟨j, by omega, j1⟩
                    · exact ⟨k, by omega, by rw [← ep]; exact z⟩
                  · by_cases y2 : j = k
                    · rw [y2, ← ep] at j1; exact .inr j1
                    · exact .inl ⟨j, by omega, j1⟩
            · refine zx_go (pc1 := 73) (l1 := [some (zr 32), some (zi n), some (zi (gE c D x.2.2 n P x.1)), some (zi p), some (zi (bd c D (ext c D x.2.2 n) (fd c D x.2.2 n P x.1) p)), some (zi (bes c p (bd c D (ext c D x.2.2 n) (fd c D x.2.2 n P x.1) p)))]) (st1 := [zi 1, zi (bes c p (bd c D (ext c D x.2.2 n) (fd c D x.2.2 n P x.1) p)), zr 49]) (w1 := wr c R1) g_X6_take 3 _ _ _ _ rfl ?_
              refine gz_bast g_X6_take rfl (n := 1728) rfl (by decide) (by refine ⟨?_, ?_, ?_, ?_, ?_⟩ <;> simp) (by decide) (by omega) (by omega) (.inr rfl) ?_
              have e51b : (zU R1 49 (bes c p (bd c D (ext c D x.2.2 n) (fd c D x.2.2 n P x.1) p)) 1) 51 p = R1 51 p := by rw [zU_cell (by decide)]
              refine zx_go (pc1 := 79) (l1 := [some (zr 32), some (zi n), some (zi (gE c D x.2.2 n P x.1)), some (zi p), some (zi (bd c D (ext c D x.2.2 n) (fd c D x.2.2 n P x.1) p)), some (zi (bes c p (bd c D (ext c D x.2.2 n) (fd c D x.2.2 n P x.1) p)))]) (st1 := [zi p, zr 51]) (w1 := wr c (zU R1 49 (bes c p (bd c D (ext c D x.2.2 n) (fd c D x.2.2 n P x.1) p)) 1)) g_X6_take 3 _ _ _ _ rfl ?_
              refine gz_bald g_X6_take rfl (n := 1728) rfl (by decide) rfl (by decide) (by omega) (by omega) ?_
              refine zx_if g_X6_take rfl (by omega) (fun (h80 : ((zU R1 49 (bes c p (bd c D (ext c D x.2.2 n) (fd c D x.2.2 n P x.1) p)) 1) 51 p) = 0) => ?_) (fun (h80 : ¬ ((zU R1 49 (bes c p (bd c D (ext c D x.2.2 n) (fd c D x.2.2 n P x.1) p)) 1) 51 p) = 0) => ?_)
              · have nrp : ¬ nearR c D (aR x.2.2) n p := fun z => bI_ne.mpr z (by rw [← e51, ← e51b]; exact h80)
                refine zx_go (pc1 := 95) (l1 := [some (zr 32), some (zi n), some (zi (gE c D x.2.2 n P x.1)), some (zi p), some (zi (bd c D (ext c D x.2.2 n) (fd c D x.2.2 n P x.1) p)), some (zi (bes c p (bd c D (ext c D x.2.2 n) (fd c D x.2.2 n P x.1) p)))]) (st1 := [zi 1, zi p, zr 48]) (w1 := wr c (zU R1 49 (bes c p (bd c D (ext c D x.2.2 n) (fd c D x.2.2 n P x.1) p)) 1)) g_X6_take 4 _ _ _ _ rfl ?_
                refine gz_bast g_X6_take rfl (n := 1728) rfl (by decide) (by refine ⟨?_, ?_, ?_, ?_, ?_⟩ <;> simp) (by decide) (by omega) (by omega) (.inr rfl) ?_
                refine zx_go (pc1 := 25) (l1 := [some (zr 32), some (zi n), some (zi (gE c D x.2.2 n P x.1)), some (zi (bes c p (bd c D (ext c D x.2.2 n) (fd c D x.2.2 n P x.1) p))), some (zi (bd c D (ext c D x.2.2 n) (fd c D x.2.2 n P x.1) p)), some (zi (bes c p (bd c D (ext c D x.2.2 n) (fd c D x.2.2 n P x.1) p)))]) (st1 := []) (w1 := wr c (zU (zU R1 49 (bes c p (bd c D (ext c D x.2.2 n) (fd c D x.2.2 n P x.1) p)) 1) 48 p 1)) g_X6_take 3 _ _ _ _ rfl ?_
                have nin := wy_in hD he0 hfd ge.1 ge.2.2 (k + 1) (fun j hj => by
                  by_cases y : j = k
                  · rw [y]; exact fun z => ntp (by rw [ep]; exact z)
                  · exact c2_v j (by omega))
                have nf0 := (hfd.2.1 _ nin.1).1
                have ndc := bo.2.2.2.2.2.1
                have nf1 : 0 ≤ fd c D x.2.2 n P x.1 (bes c p (bd c D (ext c D x.2.2 n) (fd c D x.2.2 n P x.1) p)) := (hfd.2.1 _ bo.2.2.1).1
                refine ih25 (Int.toNat (fd c D x.2.2 n P x.1 (bes c p (bd c D (ext c D x.2.2 n) (fd c D x.2.2 n P x.1) p)))) (by omega) (bes c p (bd c D (ext c D x.2.2 n) (fd c D x.2.2 n P x.1) p)) (zU (zU R1 49 (bes c p (bd c D (ext c D x.2.2 n) (fd c D x.2.2 n P x.1) p)) 1) 48 p 1) (some (zi (bd c D (ext c D x.2.2 n) (fd c D x.2.2 n P x.1) p))) (some (zi (bes c p (bd c D (ext c D x.2.2 n) (fd c D x.2.2 n P x.1) p)))) (by omega) ?_
                refine ⟨k + 1, ew1.symm, fun j hj => ?_, fun a h1 h2 h3 h4 => ?_, fun q hq => ⟨?_, ?_, ?_⟩, fun b b0 b1 => ?_⟩
                · by_cases y : j = k
                  · rw [y, ← ep]; exact ntp
                  · exact c2_v j (by omega)
                · rw [zU_cell h2, zU_cell h3]
                  exact fr_v a h1 h2 h3 h4
                · rw [zU_row, zU_cell (by decide)]
                  by_cases y : q = p
                  · rw [y, up1_s]
                    exact (bI_t (.inr ⟨k, by omega, ep.symm⟩)).symm
                  · rw [up1_n y, (ti.1 q hq).1]
                    refine bI_congr ⟨fun z => z.imp id (fun ⟨j, j0, j1⟩ => ⟨j, by omega, j1⟩), fun z => z.imp id (fun ⟨j, j0, j1⟩ => ⟨j, ?_, j1⟩)⟩
                    by_cases y2 : j = k
                    · rw [y2, ← ep] at j1; exact absurd j1.symm y
                    · omega
                · rw [zU_cell (by decide), zU_row]
                  have em : min (wE c D x.2.2 n P x.1 k) (wE c D x.2.2 n P x.1 (k + 1)) = bes c p (bd c D (ext c D x.2.2 n) (fd c D x.2.2 n P x.1) p) := by
                    rw [ew1, ← ep]
                    exact bm_v.2.1 (by omega)
                  have el : lay c (wE c D x.2.2 n P x.1 k) ≠ lay c (wE c D x.2.2 n P x.1 (k + 1)) := by
                    rw [ew1, ← ep]
                    exact bm_v.1.mpr (by omega)
                  by_cases y : q = bes c p (bd c D (ext c D x.2.2 n) (fd c D x.2.2 n P x.1) p)
                  · rw [y, up1_s]
                    exact (bI_t (.inr ⟨k, by omega, el, em.symm⟩)).symm
                  · rw [up1_n y, (ti.1 q hq).2.1]
                    refine bI_congr ⟨fun z => z.imp id (fun ⟨j, j0, j1⟩ => ⟨j, by omega, j1⟩), fun z => z.imp id (fun ⟨j, j0, j1⟩ => ⟨j, ?_, j1⟩)⟩
                    by_cases y2 : j = k
                    · rw [y2] at j1; rw [em] at j1; exact absurd j1.2 y
                    · omega
                · rw [zU_cell (by decide), zU_cell (by decide), (ti.1 q hq).2.2]
                  rw [show (∃ j : Nat, j < k ∧ (wE c D x.2.2 n P x.1 j) = q ∧ nearR c D (aR x.2.2) n q) = (∃ j : Nat, j < k + 1 ∧ (wE c D x.2.2 n P x.1 j) = q ∧ nearR c D (aR x.2.2) n q) from propext ⟨fun ⟨j, j0, j1⟩ => ⟨j, by omega, j1⟩, fun ⟨j, j0, j1, j2_v⟩ => ⟨j, by
                    by_cases y2 : j = k
                    · rw [y2, ← ep] at j1
                      rw [← j1] at j2_v; exact absurd j2_v nrp
                    · omega, j1, j2_v⟩⟩]
                · rw [zU_cell (by decide), zU_cell (by decide), ti.2 b b0 b1]
                  refine bI_congr ⟨fun ⟨j, j0, j1⟩ => ⟨j, by omega, j1⟩, fun ⟨j, j0, j1⟩ => ⟨j, ?_, j1⟩⟩
                  by_cases y2 : j = k
                  · rw [y2, ← ep] at j1
                    obtain ⟨q1_v, k1_v, k2_v, k3_v⟩ := j1
                    exact absurd ⟨b, q1_v, k1_v, k2_v, k3_v⟩ nrp
                  · omega
              · have nrp : nearR c D (aR x.2.2) n p := bI_ne.mp (by rw [← e51, ← e51b]; exact h80)
                refine zx_go (pc1 := 86) (l1 := [some (zr 32), some (zi n), some (zi (gE c D x.2.2 n P x.1)), some (zi p), some (zi (bd c D (ext c D x.2.2 n) (fd c D x.2.2 n P x.1) p)), some (zi (bes c p (bd c D (ext c D x.2.2 n) (fd c D x.2.2 n P x.1) p)))]) (st1 := [zi p, zi n, zr 32]) (w1 := wr c (zU R1 49 (bes c p (bd c D (ext c D x.2.2 n) (fd c D x.2.2 n P x.1) p)) 1)) g_X6_take 3 _ _ _ _ rfl ?_
                refine gx_cvU (As := [zi n, zi p]) (rest := []) g_X6_take rfl g_X6_tearAt rfl rfl (Nat.le_of_ble_eq_true rfl) (Nat.le_of_ble_eq_true rfl) rfl (by decide) (m_tearAt (rt := aR x.2.2) (L := fun b => (∃ j : Nat, j < k ∧ hitP c D (aR x.2.2) n b (wE c D x.2.2 n P x.1 j))) hD (hm1.of (fun a h1 h2 => zU_cell (by omega))) n0 n1 hp (fun b q b0 b1 hq1 => by rw [zU_cell (by decide)]; rw [fr_v 46 (by decide) (by decide) (by decide) (by decide)]; exact (hrt b q b0 b1 hq1).1) (fun b b0 b1 => by rw [zU_cell (by decide)]; exact ti.2 b b0 b1)) (fun R86 hR86 => ?_)
                skip
                refine zx_go (pc1 := 95) (l1 := [some (zr 32), some (zi n), some (zi (gE c D x.2.2 n P x.1)), some (zi p), some (zi (bd c D (ext c D x.2.2 n) (fd c D x.2.2 n P x.1) p)), some (zi (bes c p (bd c D (ext c D x.2.2 n) (fd c D x.2.2 n P x.1) p)))]) (st1 := [zi 1, zi p, zr 48]) (w1 := wr c R86) g_X6_take 4 _ _ _ _ rfl ?_
                refine gz_bast g_X6_take rfl (n := 1728) rfl (by decide) (by refine ⟨?_, ?_, ?_, ?_, ?_⟩ <;> simp) (by decide) (by omega) (by omega) (.inr rfl) ?_
                refine zx_go (pc1 := 25) (l1 := [some (zr 32), some (zi n), some (zi (gE c D x.2.2 n P x.1)), some (zi (bes c p (bd c D (ext c D x.2.2 n) (fd c D x.2.2 n P x.1) p))), some (zi (bd c D (ext c D x.2.2 n) (fd c D x.2.2 n P x.1) p)), some (zi (bes c p (bd c D (ext c D x.2.2 n) (fd c D x.2.2 n P x.1) p)))]) (st1 := []) (w1 := wr c (zU R86 48 p 1)) g_X6_take 3 _ _ _ _ rfl ?_
                have nin := wy_in hD he0 hfd ge.1 ge.2.2 (k + 1) (fun j hj => by
                  by_cases y : j = k
                  · rw [y]; exact fun z => ntp (by rw [ep]; exact z)
                  · exact c2_v j (by omega))
                have nf0 := (hfd.2.1 _ nin.1).1
                have ndc := bo.2.2.2.2.2.1
                have nf1 : 0 ≤ fd c D x.2.2 n P x.1 (bes c p (bd c D (ext c D x.2.2 n) (fd c D x.2.2 n P x.1) p)) := (hfd.2.1 _ bo.2.2.1).1
                refine ih25 (Int.toNat (fd c D x.2.2 n P x.1 (bes c p (bd c D (ext c D x.2.2 n) (fd c D x.2.2 n P x.1) p)))) (by omega) (bes c p (bd c D (ext c D x.2.2 n) (fd c D x.2.2 n P x.1) p)) (zU R86 48 p 1) (some (zi (bd c D (ext c D x.2.2 n) (fd c D x.2.2 n P x.1) p))) (some (zi (bes c p (bd c D (ext c D x.2.2 n) (fd c D x.2.2 n P x.1) p)))) (by omega) ?_
                refine ⟨k + 1, ew1.symm, fun j hj => ?_, fun a h1 h2 h3 h4 => ?_, fun q hq => ⟨?_, ?_, ?_⟩, fun b b0 b1 => ?_⟩
                · by_cases y : j = k
                  · rw [y, ← ep]; exact ntp
                  · exact c2_v j (by omega)
                · rw [zU_cell h2, hR86.1 a h1 h4, zU_cell h3]
                  exact fr_v a h1 h2 h3 h4
                · rw [zU_row, hR86.1 48 (by decide) (by decide), zU_cell (by decide)]
                  by_cases y : q = p
                  · rw [y, up1_s]
                    exact (bI_t (.inr ⟨k, by omega, ep.symm⟩)).symm
                  · rw [up1_n y, (ti.1 q hq).1]
                    refine bI_congr ⟨fun z => z.imp id (fun ⟨j, j0, j1⟩ => ⟨j, by omega, j1⟩), fun z => z.imp id (fun ⟨j, j0, j1⟩ => ⟨j, ?_, j1⟩)⟩
                    by_cases y2 : j = k
                    · rw [y2, ← ep] at j1; exact absurd j1.symm y
                    · omega
                · rw [zU_cell (by decide), hR86.1 49 (by decide) (by decide), zU_row]
                  have em : min (wE c D x.2.2 n P x.1 k) (wE c D x.2.2 n P x.1 (k + 1)) = bes c p (bd c D (ext c D x.2.2 n) (fd c D x.2.2 n P x.1) p) := by
                    rw [ew1, ← ep]
                    exact bm_v.2.1 (by omega)
                  have el : lay c (wE c D x.2.2 n P x.1 k) ≠ lay c (wE c D x.2.2 n P x.1 (k + 1)) := by
                    rw [ew1, ← ep]
                    exact bm_v.1.mpr (by omega)
                  by_cases y : q = bes c p (bd c D (ext c D x.2.2 n) (fd c D x.2.2 n P x.1) p)
                  · rw [y, up1_s]
                    exact (bI_t (.inr ⟨k, by omega, el, em.symm⟩)).symm
                  · rw [up1_n y, (ti.1 q hq).2.1]
                    refine bI_congr ⟨fun z => z.imp id (fun ⟨j, j0, j1⟩ => ⟨j, by omega, j1⟩), fun z => z.imp id (fun ⟨j, j0, j1⟩ => ⟨j, ?_, j1⟩)⟩
                    by_cases y2 : j = k
                    · rw [y2] at j1; rw [em] at j1; exact absurd j1.2 y
                    · omega
                · rw [zU_cell (by decide), hR86.2.1, zU_cell (by decide)]
                  by_cases y : q = p
                  · rw [y, up1_s, (ti.1 p hp).2.2]
                    rw [pI_f (fun ⟨j, j0, j1, _⟩ => by have := c2i j k (by omega) (Nat.le_refl k) (by rw [j1]; exact ep); omega), pI_t ⟨k, by omega, ep.symm, nrp⟩]
                    omega
                  · rw [up1_n y, (ti.1 q hq).2.2]
                    rw [show (∃ j : Nat, j < k ∧ (wE c D x.2.2 n P x.1 j) = q ∧ nearR c D (aR x.2.2) n q) = (∃ j : Nat, j < k + 1 ∧ (wE c D x.2.2 n P x.1 j) = q ∧ nearR c D (aR x.2.2) n q) from propext ⟨fun ⟨j, j0, j1⟩ => ⟨j, by omega, j1⟩, fun ⟨j, j0, j1, j2_v⟩ => ⟨j, by
                      by_cases y2 : j = k
                      · rw [y2, ← ep] at j1
                        exact absurd j1.symm y
                      · omega, j1, j2_v⟩⟩]
                · rw [zU_cell (by decide), hR86.2.2 b b0 b1]
                  refine bI_congr ⟨fun z => ?_, fun ⟨j, j0, j1⟩ => ?_⟩
                  · rcases z with ⟨j, j0, j1⟩ | z
                    · exact ⟨j, by omega, j1⟩
                    · exact ⟨k, by omega, by rw [← ep]; exact z⟩
                  · by_cases y2 : j = k
                    · rw [y2, ← ep] at j1; exact .inr j1
                    · exact .inl ⟨j, by omega, j1⟩
      refine lp25 (Int.toNat (fd c D x.2.2 n P x.1 (gE c D x.2.2 n P x.1))) (gE c D x.2.2 n P x.1) R0 none none (by omega) ?_
      refine ⟨0, rfl, fun j hj => by omega, fun a h1 h2 h3 h4 => fr0 a h4, fun p hp => ⟨?_, ?_, ?_⟩, fun b b0 b1 => ?_⟩
      · rw [fr0 48 (by decide), (htu p hp).1]
        exact bI_congr ⟨.inl, fun z => z.elim id (fun ⟨j, j0, _⟩ => by omega)⟩
      · rw [fr0 49 (by decide), (htu p hp).2]
        exact bI_congr ⟨.inl, fun z => z.elim id (fun ⟨j, j0, _⟩ => by omega)⟩
      · rw [fr0 45 (by decide), hps p hp, pI_f (fun ⟨j, j0, _⟩ => by omega), Int.add_zero]
      · rw [z0 b b0 (by omega), bI_f (fun ⟨j, j0, _⟩ => by omega)]
    · refine zx_go (pc1 := 16) (l1 := [some (zr 32), some (zi n), some (zi (gE c D x.2.2 n P x.1)), some (zi i), none, none]) (st1 := [zi 0, zi i, zr 53]) (w1 := wr c R0) g_X6_take 4 _ _ _ _ rfl ?_
      refine gz_bast g_X6_take rfl (n := 16) rfl (by decide) (by refine ⟨?_, ?_, ?_, ?_, ?_⟩ <;> simp) (by decide) (by omega) (by omega) (.inl rfl) ?_
      refine zx_go (pc1 := 2) (l1 := [some (zr 32), some (zi n), some (zi (gE c D x.2.2 n P x.1)), some (zi (i + 1)), none, none]) (st1 := []) (w1 := wr c (zU R0 53 i 0)) g_X6_take 2 _ _ _ _ rfl ?_
      refine ih2 (Int.toNat (D 10 0 - (i + 1))) (by omega) (i + 1) (zU R0 53 i 0) (by omega) ?_
      refine ⟨by omega, by omega, fun a ha_v => by rw [zU_cell ha_v]; exact fr0 a ha_v, fun b a d => ?_⟩
      rw [zU_row]
      by_cases y : b = i
      · rw [y, up1_s]
      · rw [up1_n y]; exact z0 b a (by omega)
  refine lp2 (Int.toNat (D 10 0 - 0)) 0 R (by omega) ?_
  exact ⟨by omega, by omega, fun _ _ => rfl, fun b a d => by omega⟩

