/-! ===== contracts of the reference (6): least costs ===== -/
def sm (f : Int → Int) : Nat → Int
  | 0 => 0
  | n + 1 => sm f n + f n
theorem sm_nn {f : Int → Int} : ∀ n : Nat, (∀ i : Int, 0 ≤ i → i < n → 0 ≤ f i) → 0 ≤ sm f n
  | 0, _ => by unfold sm; omega
  | n + 1, h => by
    have := sm_nn n (fun i a b => h i a (by omega))
    have := h n (by omega) (by omega)
    unfold sm
    omega
theorem sm_out {f : Int → Int} {k v : Int} : ∀ n : Nat, (n : Int) ≤ k → sm (up1 f k v) n = sm f n
  | 0, _ => rfl
  | n + 1, h => by
    unfold sm
    rw [sm_out n (by omega), up1_n (by omega)]
theorem sm_up {f : Int → Int} {k v : Int} (k0 : 0 ≤ k) : ∀ n : Nat, k < n → sm (up1 f k v) n = sm f n - f k + v
  | 0, h => by omega
  | n + 1, h => by
    unfold sm
    by_cases e : k = n
    · rw [e, sm_out n (by omega), up1_s]
      omega
    · rw [sm_up k0 n (by omega), up1_n (fun z => e z.symm)]
      omega
def BF (c : zC) (D : zI) (O : Int → Prop) (e : Int → Int) (t : Int → Prop) (f : Int → Int) : Prop := (∀ p, pls c p → t p → f p = 0) ∧ (∀ p, pls c p → 0 ≤ f p ∧ f p ≤ FAR) ∧ (∀ p, pls c p → f p < FAR → t p ∨ (O p ∧ ∃ d, 0 ≤ d ∧ d < 6 ∧ bes c p d ≠ -1 ∧ f (bes c p d) < FAR ∧ f (bes c p d) + scost c (D 5) (D 4) (bes c p d) p + e p ≤ f p))
def fxd (c : zC) (D : zI) (O : Int → Prop) (e : Int → Int) (t : Int → Prop) (f : Int → Int) (P dd : Int) : Prop := ∀ p d, pls c p → (p < P ∨ (p = P ∧ d < dd)) → ¬ t p → O p → 0 ≤ d → d < 6 → bes c p d ≠ -1 → f (bes c p d) < FAR → f p ≤ f (bes c p d) + scost c (D 5) (D 4) (bes c p d) p + e p
section BFS
variable {c : zC} {D : zI} {O : Int → Prop} {e : Int → Int} {t : Int → Prop} {f : Int → Int}
theorem bf_Dst (h : BF c D O e t f) (hx : fxd c D O e t f (cS c) 0) : Dst c D O e t f := by
  obtain ⟨b1, b2, b3⟩ := h
  have f3_v : ∀ p d, pls c p → ¬ t p → O p → 0 ≤ d → d < 6 → bes c p d ≠ -1 → f (bes c p d) < FAR → f p ≤ f (bes c p d) + scost c (D 5) (D 4) (bes c p d) p + e p := fun p d hp => hx p d hp (.inl hp.2)
  refine ⟨b1, b2, f3_v, fun p hp hF => ?_⟩
  by_cases ht : t p
  · exact .inl ht
  · obtain ⟨o, d, d0, d1, d2_v, d3_v, d4_v⟩ := (b3 p hp hF).resolve_left ht
    have := f3_v p d hp ht o d0 d1 d2_v d3_v
    exact .inr ⟨o, d, d0, d1, d2_v, d3_v, by omega⟩
theorem bf_step (hD : DOK c D) (he : ∀ p, pls c p → 0 ≤ e p) (h : BF c D O e t f) {p d v : Int} (hp : pls c p) (ht : ¬ t p) (ho : O p) (d0 : 0 ≤ d) (d1 : d < 6) (hb : bes c p d ≠ -1) (hF : f (bes c p d) < FAR) (hv : v = f (bes c p d) + scost c (D 5) (D 4) (bes c p d) p + e p) (hl : v < f p) : BF c D O e t (up1 f p v) ∧ sm (up1 f p v) (cS c) < sm f (cS c) := by
  obtain ⟨b1, b2, b3⟩ := h
  have hq := (bes_R hD.1 (d := d) hp).resolve_left hb
  have sc_v := scost_R hD hq hp
  have ep := he p hp
  have fq := b2 _ hq
  have fp_v := b2 p hp
  have qp : bes c p d ≠ p := fun z => by rw [z] at hv; rw [z] at sc_v; omega
  have le : ∀ q, up1 f p v q ≤ f q := fun q => by
    by_cases z : q = p
    · rw [z, up1_s]; omega
    · rw [up1_n z]; exact Int.le_refl _
  refine ⟨⟨fun q hq1 tq_v => ?_, fun q hq1 => ?_, fun q hq1 hq2 => ?_⟩, ?_⟩
  · rw [up1_n (fun z => ht (by rw [← z]; exact tq_v))]
    exact b1 q hq1 tq_v
  · by_cases z : q = p
    · rw [z, up1_s]; omega
    · rw [up1_n z]; exact b2 q hq1
  · by_cases z : q = p
    · rw [z]
      refine .inr ⟨ho, d, d0, d1, hb, ?_, ?_⟩
      · rw [up1_n qp]; exact hF
      · rw [up1_n qp, up1_s]; omega
    · rw [up1_n z] at hq2 ⊢
      rcases b3 q hq1 hq2 with w | ⟨o, d2_v, k0, k1_v, k2_v, k3_v, k4_v⟩
      · exact .inl w
      · have := le (bes c q d2_v)
        exact .inr ⟨o, d2_v, k0, k1_v, k2_v, by omega, by omega⟩
  · rw [sm_up hp.1 (cS c) hp.2]
    omega
end BFS

set_option maxHeartbeats 1000000 in
theorem m_lower {c : zC} {R : zI} {D : zI} {tr : Int} {O X Y t : Int → Prop} {e : Int → Int} (hD : DOK c D) (hm : MDn c D R) (htr : tr = 0 ∨ tr = 1) (ht : ∀ p, pls c p → R 48 p = bI (t p)) (h50 : ∀ p, pls c p → R 50 p = bI (X p)) (h51 : ∀ p, pls c p → R 51 p = bI (Y p)) (hO : ∀ p, pls c p → (O p ↔ (D 9 p = 0 ∧ ¬ X p ∧ (tr ≠ 0 ∨ ¬ Y p)))) (hex : ∀ p, pls c p → R 45 p + pI (Y p) 20 0 = e p) (he : ∀ p, pls c p → 0 ≤ e p ∧ e p ≤ 100000000) : MZ m_X6_lower [zr 32, zi tr] (wr c R) (gU (fun R2 => (∀ a, a ≠ 52 → R2 a = R a) ∧ Dst c D O e t (R2 52)) c) := by
  refine MZ.of g_X6_lower ?_
  show ZX m_X6_lower 0 [some (zr 32), some (zi tr), none, none, none, none] [] (wr c R) _
  have hg := hD.1
  have g3_v := hg.S
  have hFAR : FAR = 1000000000 := rfl
  refine zx_go (pc1 := 2) (l1 := [some (zr 32), some (zi tr), some (zi 0), none, none, none]) (st1 := []) (w1 := wr c R) g_X6_lower 2 _ _ _ _ rfl ?_
  have lp2 : ∀ (it : Nat) (i : Int) (R0 : zI), (it : Int) = (cS c : Int) - i → (0 ≤ i ∧ i ≤ (cS c : Int) ∧ (∀ a, a ≠ 52 → R0 a = R a) ∧ ∀ p, 0 ≤ p → p < i → R0 52 p = cI (t p) 0 FAR) → ZX m_X6_lower 2 [some (zr 32), some (zi tr), some (zi i), none, none, none] [] (wr c R0) (gU (fun R2 => (∀ a, a ≠ 52 → R2 a = R a) ∧ Dst c D O e t (R2 52)) c) := by
    refine fun it => Nat.strongRecOn it (fun it ih2 => ?_)
    intro i R0 hn2 hi2
    obtain ⟨i0_v, i1_v, fr0, z0⟩ := hi2
    refine zx_go (pc1 := 4) (l1 := [some (zr 32), some (zi tr), some (zi i), none, none, none]) (st1 := [zr 32, zi i]) (w1 := wr c R0) g_X6_lower 2 _ _ _ _ rfl ?_
    refine zx_cvF (As := []) (rest := [zi i]) g_X6_lower rfl g_X6_all rfl rfl (Nat.le_of_ble_eq_true rfl) (Nat.le_of_ble_eq_true rfl) rfl (by decide) (m_all hg) ?_
    refine zx_cmp g_X6_lower rfl (by omega) (by omega) (fun (h7 : (cS c : Int) ≤ i) => ?_) (fun (h7 : ¬ ((cS c : Int) ≤ i)) => ?_)
    · refine zx_go (pc1 := 39) (l1 := [some (zr 32), some (zi tr), some (zi 1), none, none, none]) (st1 := []) (w1 := wr c R0) g_X6_lower 2 _ _ _ _ rfl ?_
      have ei : i = (cS c : Int) := by omega
      have bf0 : BF c D O e t (R0 52) := by
        refine ⟨fun p hp tp => ?_, fun p hp => ?_, fun p hp hF => ?_⟩
        · rw [z0 p hp.1 (by have := hp.2; omega), cI_t tp]
        · rw [z0 p hp.1 (by have := hp.2; omega)]
          by_cases y : t p
          · rw [cI_t y]; decide
          · rw [cI_f y]; decide
        · rw [z0 p hp.1 (by have := hp.2; omega)] at hF
          by_cases y : t p
          · exact .inl y
          · rw [cI_f y] at hF; exact absurd hF (by decide)
      have sm0 := sm_nn (f := R0 52) (cS c) (fun p a b => (bf0.2.1 p ⟨a, b⟩).1)
      have lp39 : ∀ (it : Nat) (cf_v : Int) (R1 : zI) (o3_v : Option zV) (o4_v : Option zV) (o5_v : Option zV), (it : Int) = 2 * sm (R1 52) (cS c) + cf_v → ((∀ a, a ≠ 52 → R1 a = R a) ∧ BF c D O e t (R1 52) ∧ ((cf_v = 0 ∧ fxd c D O e t (R1 52) (cS c) 0) ∨ cf_v = 1)) → ZX m_X6_lower 39 [some (zr 32), some (zi tr), some (zi cf_v), o3_v, o4_v, o5_v] [] (wr c R1) (gU (fun R2 => (∀ a, a ≠ 52 → R2 a = R a) ∧ Dst c D O e t (R2 52)) c) := by
        refine fun it => Nat.strongRecOn it (fun it ih39 => ?_)
        intro cf_v R1 o3_v o4_v o5_v hn39 hi39
        obtain ⟨fr1, bf1, cs1⟩ := hi39
        have cfR : inR cf_v := by rcases cs1 with z | z <;> omega
        skip
        refine zx_go (pc1 := 40) (l1 := [some (zr 32), some (zi tr), some (zi cf_v), o3_v, o4_v, o5_v]) (st1 := [zi cf_v]) (w1 := wr c R1) g_X6_lower 1 _ _ _ _ rfl ?_
        refine zx_if g_X6_lower rfl (by omega) (fun (h40 : cf_v = 0) => ?_) (fun (h40 : ¬ cf_v = 0) => ?_)
        · refine zx_vret g_X6_lower rfl ?_
          refine gU_i ⟨fr1, ?_⟩
          rcases cs1 with ⟨z1, z2⟩ | z
          · exact bf_Dst bf1 z2
          · omega
        · refine zx_go (pc1 := 47) (l1 := [some (zr 32), some (zi tr), some (zi 0), some (zi 0), o4_v, o5_v]) (st1 := []) (w1 := wr c R1) g_X6_lower 4 _ _ _ _ rfl ?_
          have lp47 : ∀ (it : Nat) (cg : Int) (p : Int) (R2 : zI) (o4_v : Option zV) (o5_v : Option zV), (it : Int) = (cS c : Int) - p → (0 ≤ p ∧ p ≤ (cS c : Int) ∧ (∀ a, a ≠ 52 → R2 a = R a) ∧ BF c D O e t (R2 52) ∧ ((cg = 0 ∧ R2 = R1 ∧ fxd c D O e t (R1 52) p 0) ∨ (cg = 1 ∧ sm (R2 52) (cS c) < sm (R1 52) (cS c)))) → ZX m_X6_lower 47 [some (zr 32), some (zi tr), some (zi cg), some (zi p), o4_v, o5_v] [] (wr c R2) (gU (fun R2 => (∀ a, a ≠ 52 → R2 a = R a) ∧ Dst c D O e t (R2 52)) c) := by
            refine fun it => Nat.strongRecOn it (fun it ih47 => ?_)
            intro cg p R2 o4_v o5_v hn47 hi47
            obtain ⟨p0_v, p1_v, fr2, bf2, cs2⟩ := hi47
            refine zx_go (pc1 := 49) (l1 := [some (zr 32), some (zi tr), some (zi cg), some (zi p), o4_v, o5_v]) (st1 := [zr 32, zi p]) (w1 := wr c R2) g_X6_lower 2 _ _ _ _ rfl ?_
            refine zx_cvF (As := []) (rest := [zi p]) g_X6_lower rfl g_X6_all rfl rfl (Nat.le_of_ble_eq_true rfl) (Nat.le_of_ble_eq_true rfl) rfl (by decide) (m_all hg) ?_
            refine zx_cmp g_X6_lower rfl (by omega) (by omega) (fun (h52 : (cS c : Int) ≤ p) => ?_) (fun (h52 : ¬ ((cS c : Int) ≤ p)) => ?_)
            · refine zx_go (pc1 := 39) (l1 := [some (zr 32), some (zi tr), some (zi cg), some (zi p), o4_v, o5_v]) (st1 := []) (w1 := wr c R2) g_X6_lower 1 _ _ _ _ rfl ?_
              have sm2 := sm_nn (f := R2 52) (cS c) (fun p a b => (bf2.2.1 p ⟨a, b⟩).1)
              have c01 : (cg = 0 ∧ R2 = R1) ∨ (cg = 1 ∧ sm (R2 52) (cS c) < sm (R1 52) (cS c)) := cs2.imp (fun z => ⟨z.1, z.2.1⟩) id
              have s12 : 2 * sm (R2 52) (cS c) + cg < 2 * sm (R1 52) (cS c) + 1 := by
                rcases c01 with ⟨z1, z2⟩ | ⟨z1, z2⟩
                · rw [z2]; omega
                · omega
              refine ih39 (Int.toNat (2 * sm (R2 52) (cS c) + cg)) (by omega) cg R2 (some (zi p)) o4_v o5_v (by omega) ?_
              refine ⟨fr2, bf2, ?_⟩
              rcases cs2 with ⟨z1, z2, z3⟩ | z
              · rw [z2]
                refine .inl ⟨z1, ?_⟩
                rw [show p = (cS c : Int) by omega] at z3
                exact z3
              · exact .inr z.1
            · refine zx_go (pc1 := 58) (l1 := [some (zr 32), some (zi tr), some (zi cg), some (zi p), some (zi 0), o5_v]) (st1 := []) (w1 := wr c R2) g_X6_lower 2 _ _ _ _ rfl ?_
              have lp58 : ∀ (it : Nat) (cg : Int) (d : Int) (R3 : zI) (o5_v : Option zV), (it : Int) = 6 - d → (0 ≤ d ∧ d ≤ 6 ∧ (∀ a, a ≠ 52 → R3 a = R a) ∧ BF c D O e t (R3 52) ∧ ((cg = 0 ∧ R3 = R1 ∧ fxd c D O e t (R1 52) p d) ∨ (cg = 1 ∧ sm (R3 52) (cS c) < sm (R1 52) (cS c)))) → ZX m_X6_lower 58 [some (zr 32), some (zi tr), some (zi cg), some (zi p), some (zi d), o5_v] [] (wr c R3) (gU (fun R2 => (∀ a, a ≠ 52 → R2 a = R a) ∧ Dst c D O e t (R2 52)) c) := by
                refine fun it => Nat.strongRecOn it (fun it ih58 => ?_)
                intro cg d R3 o5_v hn58 hi58
                obtain ⟨d0, d1, fr3, bf3, cs3⟩ := hi58
                refine zx_go (pc1 := 62) (l1 := [some (zr 32), some (zi tr), some (zi cg), some (zi p), some (zi d), o5_v]) (st1 := [zi 6, zi d]) (w1 := wr c R3) g_X6_lower 2 _ _ _ _ rfl ?_
                refine zx_cmp g_X6_lower rfl (by omega) (by decide) (fun (h62 : 6 ≤ d) => ?_) (fun (h62 : ¬ (6 ≤ d)) => ?_)
                · refine zx_go (pc1 := 47) (l1 := [some (zr 32), some (zi tr), some (zi cg), some (zi (p + 1)), some (zi d), o5_v]) (st1 := []) (w1 := wr c R3) g_X6_lower 2 _ _ _ _ rfl ?_
                  refine ih47 (Int.toNat ((cS c : Int) - (p + 1))) (by omega) cg (p + 1) R3 (some (zi d)) o5_v (by omega) ?_
                  refine ⟨by omega, by omega, fr3, bf3, ?_⟩
                  rcases cs3 with ⟨z1, eR, z3⟩ | z
                  · refine .inl ⟨z1, eR, fun pa d2_v hpa w nt oo k0 k1_v k2_v k3_v => ?_⟩
                    by_cases y : pa = p
                    · subst y
                      exact z3 pa d2_v hpa (by omega) nt oo k0 k1_v k2_v k3_v
                    · exact z3 pa d2_v hpa (by omega) nt oo k0 k1_v k2_v k3_v
                  · exact .inr z
                · have hp : pls c p := ⟨by omega, by omega⟩
                  have e48 : R3 48 p = bI (t p) := by rw [fr3 48 (by decide)]; exact ht p hp
                  have t01 := bI_01 (t p)
                  have fp_v := bf3.2.1 p hp
                  refine zx_go (pc1 := 70) (l1 := [some (zr 32), some (zi tr), some (zi cg), some (zi p), some (zi d), o5_v]) (st1 := [zi p, zr 48]) (w1 := wr c R3) g_X6_lower 3 _ _ _ _ rfl ?_
                  refine gz_bald g_X6_lower rfl (n := 1728) rfl (by decide) rfl (by decide) (by omega) (by omega) ?_
                  refine zx_if g_X6_lower rfl (by omega) (fun (h71 : (R3 48 p) ≠ 0) => ?_) (fun (h71 : ¬ (R3 48 p) ≠ 0) => ?_)
                  · refine zx_go (pc1 := 47) (l1 := [some (zr 32), some (zi tr), some (zi cg), some (zi (p + 1)), some (zi d), o5_v]) (st1 := []) (w1 := wr c R3) g_X6_lower 2 _ _ _ _ rfl ?_
                    refine ih47 (Int.toNat ((cS c : Int) - (p + 1))) (by omega) cg (p + 1) R3 (some (zi d)) o5_v (by omega) ?_
                    refine ⟨by omega, by omega, fr3, bf3, ?_⟩
                    rcases cs3 with ⟨z1, eR, z3⟩ | z
                    · refine .inl ⟨z1, eR, fun pa d2_v hpa w nt oo k0 k1_v k2_v k3_v => ?_⟩
                      by_cases y : pa = p
                      · subst y
                        exact absurd (bI_ne.mp (by rw [← e48]; exact h71)) nt
                      · exact z3 pa d2_v hpa (by omega) nt oo k0 k1_v k2_v k3_v
                    · exact .inr z
                  · have ntp : ¬ t p := fun z => h71 (by rw [e48]; exact bI_ne.mpr z)
                    refine zx_go (pc1 := 77) (l1 := [some (zr 32), some (zi tr), some (zi cg), some (zi p), some (zi d), o5_v]) (st1 := [zi tr, zi p, zr 32]) (w1 := wr c R3) g_X6_lower 3 _ _ _ _ rfl ?_
                    refine zx_cvF (As := [zi p, zi tr]) (rest := []) g_X6_lower rfl g_X6_isOpen rfl rfl (Nat.le_of_ble_eq_true rfl) (Nat.le_of_ble_eq_true rfl) rfl (by decide) (m_isOpen (D9 := D 9 p) (X := X p) (Y := Y p) hg hp (by rw [fr3 36 (by decide)]; exact hm.2.1 p hp) (hD.2.2.2.2.2.1 p) (by rw [fr3 50 (by decide)]; exact h50 p hp) (by rw [fr3 51 (by decide)]; exact h51 p hp) htr) ?_
                    refine zx_ifeq g_X6_lower rfl (fun (h80 : ¬ (D 9 p = 0 ∧ ¬ X p ∧ (tr ≠ 0 ∨ ¬ Y p))) => ?_) (fun (h80 : (D 9 p = 0 ∧ ¬ X p ∧ (tr ≠ 0 ∨ ¬ Y p))) => ?_)
                    · refine zx_go (pc1 := 47) (l1 := [some (zr 32), some (zi tr), some (zi cg), some (zi (p + 1)), some (zi d), o5_v]) (st1 := []) (w1 := wr c R3) g_X6_lower 2 _ _ _ _ rfl ?_
                      refine ih47 (Int.toNat ((cS c : Int) - (p + 1))) (by omega) cg (p + 1) R3 (some (zi d)) o5_v (by omega) ?_
                      refine ⟨by omega, by omega, fr3, bf3, ?_⟩
                      rcases cs3 with ⟨z1, eR, z3⟩ | z
                      · refine .inl ⟨z1, eR, fun pa d2_v hpa w nt oo k0 k1_v k2_v k3_v => ?_⟩
                        by_cases y : pa = p
                        · subst y
                          exact absurd ((hO pa hpa).mp oo) h80
                        · exact z3 pa d2_v hpa (by omega) nt oo k0 k1_v k2_v k3_v
                      · exact .inr z
                    · have opn1 : O p := (hO p hp).mpr h80
                      refine zx_go (pc1 := 87) (l1 := [some (zr 32), some (zi tr), some (zi cg), some (zi p), some (zi d), o5_v]) (st1 := [zi d, zi p, zr 32]) (w1 := wr c R3) g_X6_lower 3 _ _ _ _ rfl ?_
                      refine zx_cvF (As := [zi p, zi d]) (rest := []) g_X6_lower rfl g_X6_beside rfl rfl (Nat.le_of_ble_eq_true rfl) (Nat.le_of_ble_eq_true rfl) rfl (by decide) (m_beside hg (show pls c _ from ⟨by omega, by omega⟩) (by omega) (by omega)) ?_
                      refine zx_go (pc1 := 92) (l1 := [some (zr 32), some (zi tr), some (zi cg), some (zi p), some (zi d), some (zi (bes c p d))]) (st1 := []) (w1 := wr c R3) g_X6_lower 1 _ _ _ _ rfl ?_
                      have bR : bes c p d = -1 ∨ (0 ≤ bes c p d ∧ bes c p d < (cS c : Int)) := bes_R hg (d := d) hp
                      refine zx_go (pc1 := 95) (l1 := [some (zr 32), some (zi tr), some (zi cg), some (zi p), some (zi d), some (zi (bes c p d))]) (st1 := [zi (-1), zi (bes c p d)]) (w1 := wr c R3) g_X6_lower 2 _ _ _ _ rfl ?_
                      refine zx_cmp g_X6_lower rfl (by omega) (by omega) (fun (h95 : (bes c p d) = (-1)) => ?_) (fun (h95 : ¬ ((bes c p d) = (-1))) => ?_)
                      · refine zx_go (pc1 := 58) (l1 := [some (zr 32), some (zi tr), some (zi cg), some (zi p), some (zi (d + 1)), some (zi (bes c p d))]) (st1 := []) (w1 := wr c R3) g_X6_lower 2 _ _ _ _ rfl ?_
                        refine ih58 (Int.toNat (6 - (d + 1))) (by omega) cg (d + 1) R3 (some (zi (bes c p d))) (by omega) ?_
                        refine ⟨by omega, by omega, fr3, bf3, ?_⟩
                        rcases cs3 with ⟨z1, eR, z3⟩ | z
                        · refine .inl ⟨z1, eR, fun pa d2_v hpa w nt oo k0 k1_v k2_v k3_v => ?_⟩
                          by_cases y : pa = p ∧ d2_v = d
                          · obtain ⟨y1, y2⟩ := y
                            subst y1 y2
                            exact (show bes c pa d2_v ≠ -1 → R1 52 (bes c pa d2_v) < FAR → R1 52 pa ≤ R1 52 (bes c pa d2_v) + scost c (D 5) (D 4) (bes c pa d2_v) pa + e pa from fun k2_v k3_v => absurd h95 k2_v) k2_v k3_v
                          · exact z3 pa d2_v hpa (by omega) nt oo k0 k1_v k2_v k3_v
                        · exact .inr z
                      · have hbn : bes c p d ≠ -1 := h95
                        obtain ⟨b0, b1⟩ := bR.resolve_left h95
                        have fq := bf3.2.1 _ (show pls c (bes c p d) from ⟨b0, b1⟩)
                        have sc_v := scost_R hD (show pls c (bes c p d) from ⟨b0, b1⟩) hp
                        have hm1 : MDn c D R3 := hm.of (fun a h1 h2 => fr3 a (by omega))
                        have ee1 : R3 45 p + pI (Y p) 20 0 = e p := by rw [fr3 45 (by decide)]; exact hex p hp
                        have ee2 := he p hp
                        refine zx_go (pc1 := 104) (l1 := [some (zr 32), some (zi tr), some (zi cg), some (zi p), some (zi d), some (zi (bes c p d))]) (st1 := [zi (bes c p d), zr 52]) (w1 := wr c R3) g_X6_lower 3 _ _ _ _ rfl ?_
                        refine gz_iald g_X6_lower rfl (n := 1728) rfl (by decide) rfl (by decide) (by omega) (by omega) ?_
                        refine zx_go (pc1 := 107) (l1 := [some (zr 32), some (zi tr), some (zi cg), some (zi p), some (zi d), some (zi (bes c p d))]) (st1 := [zi 1000000000, zi (R3 52 (bes c p d))]) (w1 := wr c R3) g_X6_lower 1 _ _ _ _ rfl ?_
                        refine zx_cmp g_X6_lower rfl (by omega) (by decide) (fun (h107 : 1000000000 ≤ (R3 52 (bes c p d))) => ?_) (fun (h107 : ¬ (1000000000 ≤ (R3 52 (bes c p d)))) => ?_)
                        · refine zx_go (pc1 := 58) (l1 := [some (zr 32), some (zi tr), some (zi cg), some (zi p), some (zi (d + 1)), some (zi (bes c p d))]) (st1 := []) (w1 := wr c R3) g_X6_lower 2 _ _ _ _ rfl ?_
                          refine ih58 (Int.toNat (6 - (d + 1))) (by omega) cg (d + 1) R3 (some (zi (bes c p d))) (by omega) ?_
                          refine ⟨by omega, by omega, fr3, bf3, ?_⟩
                          rcases cs3 with ⟨z1, eR, z3⟩ | z
                          · refine .inl ⟨z1, eR, fun pa d2_v hpa w nt oo k0 k1_v k2_v k3_v => ?_⟩
                            by_cases y : pa = p ∧ d2_v = d
                            · obtain ⟨y1, y2⟩ := y
                              subst y1 y2
                              exact (show bes c pa d2_v ≠ -1 → R1 52 (bes c pa d2_v) < FAR → R1 52 pa ≤ R1 52 (bes c pa d2_v) + scost c (D 5) (D 4) (bes c pa d2_v) pa + e pa from fun k2_v k3_v => by rw [eR] at h107; omega) k2_v k3_v
                            · exact z3 pa d2_v hpa (by omega) nt oo k0 k1_v k2_v k3_v
                          · exact .inr z
                        · refine zx_go (pc1 := 116) (l1 := [some (zr 32), some (zi tr), some (zi cg), some (zi p), some (zi d), some (zi (bes c p d))]) (st1 := [zi (bes c p d), zr 52]) (w1 := wr c R3) g_X6_lower 3 _ _ _ _ rfl ?_
                          refine gz_iald g_X6_lower rfl (n := 1728) rfl (by decide) rfl (by decide) (by omega) (by omega) ?_
                          refine zx_go (pc1 := 121) (l1 := [some (zr 32), some (zi tr), some (zi cg), some (zi p), some (zi d), some (zi (bes c p d))]) (st1 := [zi d, zi p, zr 32, zi (R3 52 (bes c p d))]) (w1 := wr c R3) g_X6_lower 3 _ _ _ _ rfl ?_
                          refine zx_cvF (As := [zi p, zi d]) (rest := [zi (R3 52 (bes c p d))]) g_X6_lower rfl g_X6_stepCost rfl rfl (Nat.le_of_ble_eq_true rfl) (Nat.le_of_ble_eq_true rfl) rfl (by decide) (m_stepCost hD hm1 (show pls c _ from ⟨by omega, by omega⟩) (by omega) (by omega) hbn) ?_
                          refine zx_go (pc1 := 127) (l1 := [some (zr 32), some (zi tr), some (zi cg), some (zi p), some (zi d), some (zi (bes c p d))]) (st1 := [zi p, zr 32, zi ((R3 52 (bes c p d)) + (scost c (D 5) (D 4) (bes c p d) p))]) (w1 := wr c R3) g_X6_lower 3 _ _ _ _ rfl ?_
                          refine zx_cvF (As := [zi p]) (rest := [zi ((R3 52 (bes c p d)) + (scost c (D 5) (D 4) (bes c p d) p))]) g_X6_lower rfl g_X6_extra rfl rfl (Nat.le_of_ble_eq_true rfl) (Nat.le_of_ble_eq_true rfl) rfl (by decide) (m_extra (Y := Y p) hg hp (by rw [fr3 51 (by decide)]; exact h51 p hp)) ?_
                          refine zx_go (pc1 := 136) (l1 := [some (zr 32), some (zi tr), some (zi cg), some (zi p), some (zi d), some (zi (bes c p d))]) (st1 := [zi p, zr 52, zi (((R3 52 (bes c p d)) + (scost c (D 5) (D 4) (bes c p d) p)) + (R3 45 p + pI (Y p) 20 0))]) (w1 := wr c R3) g_X6_lower 4 _ _ _ _ rfl ?_
                          refine gz_iald g_X6_lower rfl (n := 1728) rfl (by decide) rfl (by decide) (by omega) (by omega) ?_
                          refine zx_cmp g_X6_lower rfl (by omega) (by omega) (fun (h137 : (R3 52 p) ≤ (((R3 52 (bes c p d)) + (scost c (D 5) (D 4) (bes c p d) p)) + (R3 45 p + pI (Y p) 20 0))) => ?_) (fun (h137 : ¬ ((R3 52 p) ≤ (((R3 52 (bes c p d)) + (scost c (D 5) (D 4) (bes c p d) p)) + (R3 45 p + pI (Y p) 20 0)))) => ?_)
                          · refine zx_go (pc1 := 58) (l1 := [some (zr 32), some (zi tr), some (zi cg), some (zi p), some (zi (d + 1)), some (zi (bes c p d))]) (st1 := []) (w1 := wr c R3) g_X6_lower 2 _ _ _ _ rfl ?_
                            refine ih58 (Int.toNat (6 - (d + 1))) (by omega) cg (d + 1) R3 (some (zi (bes c p d))) (by omega) ?_
                            refine ⟨by omega, by omega, fr3, bf3, ?_⟩
                            rcases cs3 with ⟨z1, eR, z3⟩ | z
                            · refine .inl ⟨z1, eR, fun pa d2_v hpa w nt oo k0 k1_v k2_v k3_v => ?_⟩
                              by_cases y : pa = p ∧ d2_v = d
                              · obtain ⟨y1, y2⟩ := y
                                subst y1 y2
                                exact (show bes c pa d2_v ≠ -1 → R1 52 (bes c pa d2_v) < FAR → R1 52 pa ≤ R1 52 (bes c pa d2_v) + scost c (D 5) (D 4) (bes c pa d2_v) pa + e pa from fun k2_v k3_v => by rw [eR] at h137; rw [eR] at ee1; omega) k2_v k3_v
                              · exact z3 pa d2_v hpa (by omega) nt oo k0 k1_v k2_v k3_v
                            · exact .inr z
                          · refine zx_go (pc1 := 151) (l1 := [some (zr 32), some (zi tr), some (zi cg), some (zi p), some (zi d), some (zi (bes c p d))]) (st1 := [zi (bes c p d), zr 52, zi p, zr 52]) (w1 := wr c R3) g_X6_lower 6 _ _ _ _ rfl ?_
                            refine gz_iald g_X6_lower rfl (n := 1728) rfl (by decide) rfl (by decide) (by omega) (by omega) ?_
                            refine zx_go (pc1 := 156) (l1 := [some (zr 32), some (zi tr), some (zi cg), some (zi p), some (zi d), some (zi (bes c p d))]) (st1 := [zi d, zi p, zr 32, zi (R3 52 (bes c p d)), zi p, zr 52]) (w1 := wr c R3) g_X6_lower 3 _ _ _ _ rfl ?_
                            refine zx_cvF (As := [zi p, zi d]) (rest := [zi (R3 52 (bes c p d)), zi p, zr 52]) g_X6_lower rfl g_X6_stepCost rfl rfl (Nat.le_of_ble_eq_true rfl) (Nat.le_of_ble_eq_true rfl) rfl (by decide) (m_stepCost hD hm1 (show pls c _ from ⟨by omega, by omega⟩) (by omega) (by omega) hbn) ?_
                            refine zx_go (pc1 := 162) (l1 := [some (zr 32), some (zi tr), some (zi cg), some (zi p), some (zi d), some (zi (bes c p d))]) (st1 := [zi p, zr 32, zi ((R3 52 (bes c p d)) + (scost c (D 5) (D 4) (bes c p d) p)), zi p, zr 52]) (w1 := wr c R3) g_X6_lower 3 _ _ _ _ rfl ?_
                            refine zx_cvF (As := [zi p]) (rest := [zi ((R3 52 (bes c p d)) + (scost c (D 5) (D 4) (bes c p d) p)), zi p, zr 52]) g_X6_lower rfl g_X6_extra rfl rfl (Nat.le_of_ble_eq_true rfl) (Nat.le_of_ble_eq_true rfl) rfl (by decide) (m_extra (Y := Y p) hg hp (by rw [fr3 51 (by decide)]; exact h51 p hp)) ?_
                            refine zx_go (pc1 := 166) (l1 := [some (zr 32), some (zi tr), some (zi cg), some (zi p), some (zi d), some (zi (bes c p d))]) (st1 := [zi (((R3 52 (bes c p d)) + (scost c (D 5) (D 4) (bes c p d) p)) + (R3 45 p + pI (Y p) 20 0)), zi p, zr 52]) (w1 := wr c R3) g_X6_lower 1 _ _ _ _ rfl ?_
                            refine gz_iast g_X6_lower rfl (n := 1728) rfl (by decide) (by refine ⟨?_, ?_, ?_, ?_, ?_⟩ <;> simp) (by decide) (by omega) (by omega) ?_
                            refine zx_go (pc1 := 58) (l1 := [some (zr 32), some (zi tr), some (zi 1), some (zi p), some (zi (d + 1)), some (zi (bes c p d))]) (st1 := []) (w1 := wr c (zU R3 52 p (((R3 52 (bes c p d)) + (scost c (D 5) (D 4) (bes c p d) p)) + (R3 45 p + pI (Y p) 20 0)))) g_X6_lower 4 _ _ _ _ rfl ?_
                            refine ih58 (Int.toNat (6 - (d + 1))) (by omega) 1 (d + 1) (zU R3 52 p (((R3 52 (bes c p d)) + (scost c (D 5) (D 4) (bes c p d) p)) + (R3 45 p + pI (Y p) 20 0))) (some (zi (bes c p d))) (by omega) ?_
                            have st_v := bf_step hD (fun p hp => (he p hp).1) bf3 hp ntp opn1 d0 (by omega) h95 (by omega) (v := R3 52 (bes c p d) + scost c (D 5) (D 4) (bes c p d) p + (R3 45 p + pI (Y p) 20 0)) (by rw [ee1]) (by omega)
                            refine ⟨by omega, by omega, fun a ha_v => by rw [zU_cell ha_v]; exact fr3 a ha_v, by rw [zU_row]; exact st_v.1, ?_⟩
                            rw [zU_row]
                            refine .inr ⟨rfl, ?_⟩
                            have w := st_v.2
                            rcases cs3 with ⟨z1, eR, z3⟩ | z
                            · rw [← eR]; exact w
                            · omega
              refine lp58 (Int.toNat (6 - 0)) cg 0 R2 o5_v (by omega) ?_
              exact ⟨by omega, by omega, fr2, bf2, cs2⟩
          refine lp47 (Int.toNat ((cS c : Int) - 0)) 0 0 R1 o4_v o5_v (by omega) ?_
          exact ⟨by omega, by omega, fr1, bf1, .inl ⟨rfl, rfl, fun pa d2_v hpa w => by have := hpa.1; omega⟩⟩
      refine lp39 (Int.toNat (2 * sm (R0 52) (cS c) + 1)) 1 R0 none none none (by omega) ?_
      exact ⟨fr0, bf0, .inr rfl⟩
    · have e48a : R0 48 i = bI (t i) := by rw [fr0 48 (by decide)]; exact ht i ⟨by omega, by omega⟩
      have t01 := bI_01 (t i)
      refine zx_go (pc1 := 20) (l1 := [some (zr 32), some (zi tr), some (zi i), none, none, none]) (st1 := [zi i, zr 48, zi i, zr 52]) (w1 := wr c R0) g_X6_lower 6 _ _ _ _ rfl ?_
      refine gz_bald g_X6_lower rfl (n := 1728) rfl (by decide) rfl (by decide) (by omega) (by omega) ?_
      refine zx_if g_X6_lower rfl (by omega) (fun (h21 : (R0 48 i) = 0) => ?_) (fun (h21 : ¬ (R0 48 i) = 0) => ?_)
      · refine zx_go (pc1 := 30) (l1 := [some (zr 32), some (zi tr), some (zi i), none, none, none]) (st1 := [zi 1000000000, zi i, zr 52]) (w1 := wr c R0) g_X6_lower 1 _ _ _ _ rfl ?_
        refine gz_iast g_X6_lower rfl (n := 1728) rfl (by decide) (by refine ⟨?_, ?_, ?_, ?_, ?_⟩ <;> simp) (by decide) (by omega) (by omega) ?_
        refine zx_go (pc1 := 2) (l1 := [some (zr 32), some (zi tr), some (zi (i + 1)), none, none, none]) (st1 := []) (w1 := wr c (zU R0 52 i 1000000000)) g_X6_lower 2 _ _ _ _ rfl ?_
        refine ih2 (Int.toNat ((cS c : Int) - (i + 1))) (by omega) (i + 1) (zU R0 52 i 1000000000) (by omega) ?_
        refine ⟨by omega, by omega, fun a ha_v => by rw [zU_cell ha_v]; exact fr0 a ha_v, fun p a b => ?_⟩
        rw [zU_row]
        by_cases y : p = i
        · rw [y, up1_s]
          rw [cI_f (fun z => bI_ne.mpr z (by rw [← e48a]; exact h21))]
        · rw [up1_n y]; exact z0 p a (by omega)
      · refine zx_go (pc1 := 30) (l1 := [some (zr 32), some (zi tr), some (zi i), none, none, none]) (st1 := [zi 0, zi i, zr 52]) (w1 := wr c R0) g_X6_lower 2 _ _ _ _ rfl ?_
        refine gz_iast g_X6_lower rfl (n := 1728) rfl (by decide) (by refine ⟨?_, ?_, ?_, ?_, ?_⟩ <;> simp) (by decide) (by omega) (by omega) ?_
        refine zx_go (pc1 := 2) (l1 := [some (zr 32), some (zi tr), some (zi (i + 1)), none, none, none]) (st1 := []) (w1 := wr c (zU R0 52 i 0)) g_X6_lower 2 _ _ _ _ rfl ?_
        refine ih2 (Int.toNat ((cS c : Int) - (i + 1))) (by omega) (i + 1) (zU R0 52 i 0) (by omega) ?_
        refine ⟨by omega, by omega, fun a ha_v => by rw [zU_cell ha_v]; exact fr0 a ha_v, fun p a b => ?_⟩
        rw [zU_row]
        by_cases y : p = i
        · rw [y, up1_s]
          rw [cI_t (bI_ne.mp (by rw [← e48a]; exact h21))]
        · rw [up1_n y]; exact z0 p a (by omega)
  refine lp2 (Int.toNat ((cS c : Int) - 0)) 0 R (by omega) ?_
  exact ⟨by omega, by omega, fun _ _ => rfl, fun p a b => by omega⟩

