/-! ===== contracts (5): the search of the class ===== -/
section DJT
variable {c : zC} {D : zI} {O : Int → Prop} {e : Int → Int} {t : Int → Prop} {co f : Int → Int} {H T : Int → Prop} {W : Int → Int → Prop}
theorem DJ.imp (h : DJ c D O e t co H T W) {H1 : Int → Prop} {W1 : Int → Int → Prop} (hH : ∀ p, pls c p → (H1 p ↔ H p)) (hW : ∀ q d, pls c q → T q → W1 q d → 0 ≤ d → d < 6 → bes c q d ≠ -1 → ¬ t (bes c q d) → O (bes c q d) → W q d ∨ co (bes c q d) ≤ co q + scost c (D 5) (D 4) q (bes c q d) + e (bes c q d)) : DJ c D O e t co H1 T W1 := by
  obtain ⟨j1, j2, j3, j4, j5, j6, j7⟩ := h
  refine ⟨j1, j2, fun p hp => ?_, fun p hp z => ?_, fun p q hp hq a b => j5 p q hp hq a ((hH q hq).mp b), j6, fun q d hq a b d0 d1 d2 d3 d4 => ?_⟩
  · rw [j3 p hp, hH p hp]
  · exact j4 p hp ⟨(hH p hp).mp z.1, z.2⟩
  · exact (hW q d hq a b d0 d1 d2 d3 d4).elim (fun z => j7 q d hq a z d0 d1 d2 d3 d4) id
theorem dj_relax (hD : DOK c D) (he : ∀ p, pls c p → 0 ≤ e p) {u d v : Int} (h : DJ c D O e t co H T (fun q dd => q ≠ u ∨ dd < d)) (hu : pls c u) (hT : T u) (hmx : ∀ p, pls c p → T p → ¬ bef co u p) (d0 : 0 ≤ d) (d1 : d < 6) (hb : bes c u d ≠ -1) (hO : O (bes c u d)) (hlt : co u < co (bes c u d)) (hv : v = co u + scost c (D 5) (D 4) u (bes c u d) + e (bes c u d)) (hv2 : v < co (bes c u d)) : DJ c D O e t (up1 co (bes c u d) v) (fun p => H p ∨ p = bes c u d) T (fun q dd => q ≠ u ∨ dd < d + 1) ∧ ∀ p, pls c p → T p → ¬ bef (up1 co (bes c u d) v) u p := by
  obtain ⟨j1, j2, j3, j4, j5, j6, j7⟩ := h
  have hx := (bes_R hD.1 (d := d) hu).resolve_left hb
  obtain ⟨d', e0, e1, e2⟩ := bes_opp hD.1 hu d0 d1 hb
  have sc := scost_R hD hu hx
  have ep := he _ hx
  have cu := j1 u hu
  have cx := j1 _ hx
  generalize hx0 : bes c u d = x at *
  have nT : ¬ T x := fun z => by
    have := hmx x hx z
    unfold bef at this
    omega
  have nx : ∀ p, T p → p ≠ x := fun p z y => nT (y ▸ z)
  have ux : u ≠ x := nx u hT
  refine ⟨⟨fun p hp => ?_, fun p hp z => ?_, fun p hp => ?_, fun p hp z => ?_, fun p q hp hq a b => ?_, fun p hp z => ?_, ?_⟩, fun p hp z => ?_⟩
  · by_cases y : p = x
    · rw [y, up1_s]; omega
    · rw [up1_n y]; exact j1 p hp
  · have y : p ≠ x := fun y => by rw [y] at z; have := j2 x hx z; omega
    rw [up1_n y]; exact j2 p hp z
  · by_cases y : p = x
    · rw [y, up1_s]; exact ⟨fun _ => .inl (.inr rfl), fun _ => by omega⟩
    · rw [up1_n y, j3 p hp]
      exact ⟨fun z => z.imp .inl id, fun z => z.imp (fun w => w.elim id (fun w => absurd w y)) id⟩
  · rcases z.1 with w | w
    · exact j4 p hp ⟨w, z.2⟩
    · exact nx p z.2 w
  · have m := hmx p hp a
    have np := nx p a
    by_cases y : q = x
    · unfold bef at m ⊢
      rw [y, up1_s, up1_n np]
      omega
    · have := j5 p q hp hq a (b.resolve_right y)
      unfold bef at this ⊢
      rw [up1_n y, up1_n np]
      exact this
  · by_cases y : p = x
    · rw [y, up1_s]
      refine .inr ⟨hO, d', e0, e1, ?_, ?_, ?_⟩
      · rw [e2]; have := hu.1; omega
      · rw [e2]; exact hT
      · rw [e2, up1_n ux]; omega
    · rw [up1_n y] at z ⊢
      rcases j6 p hp z with w | ⟨o, dd, k0, k1, k2, k3, k4⟩
      · exact .inl w
      · exact .inr ⟨o, dd, k0, k1, k2, k3, by rw [up1_n (nx _ k3)]; exact k4⟩
  · intro q dd hq a w k0 k1 k2 k3 k4
    rw [up1_n (nx q a)]
    by_cases y : bes c q dd = x
    · rw [y, up1_s]
      rw [y] at k2 k3 k4
      rcases w with w | w
      · have := j7 q dd hq a (.inl w) k0 k1 (by rw [y]; exact k2) (by rw [y]; exact k3) (by rw [y]; exact k4)
        rw [y] at this
        omega
      · by_cases qu : q = u
        · rw [qu]; omega
        · have := j7 q dd hq a (.inl qu) k0 k1 (by rw [y]; exact k2) (by rw [y]; exact k3) (by rw [y]; exact k4)
          rw [y] at this
          omega
    · rw [up1_n y]
      by_cases qu : q = u
      · refine j7 q dd hq a (.inr ?_) k0 k1 k2 k3 k4
        rcases w with w | w
        · exact absurd qu w
        · by_cases ed : dd = d
          · exact absurd (by rw [qu, ed]; exact hx0) y
          · omega
      · exact j7 q dd hq a (.inl qu) k0 k1 k2 k3 k4
  · have m := hmx p hp z
    unfold bef at m ⊢
    rw [up1_n ux, up1_n (nx p z)]
    exact m
theorem dj_take (h : DJ c D O e t co H T (fun _ _ => True)) {u : Int} (hu : pls c u) (hH : H u) (hm : ∀ q, pls c q → H q → ¬ bef co q u) : DJ c D O e t co (fun p => H p ∧ p ≠ u) (fun p => T p ∨ p = u) (fun q dd => q ≠ u ∨ dd < 0) ∧ ∀ p, pls c p → (T p ∨ p = u) → ¬ bef co u p := by
  obtain ⟨j1, j2, j3, j4, j5, j6, j7⟩ := h
  refine ⟨⟨j1, j2, fun p hp => ?_, fun p hp z => ?_, fun p q hp hq a b => ?_, fun p hp z => ?_, fun q d hq a w d0 d1 d2 d3 d4 => ?_⟩, fun p hp z => ?_⟩
  · rw [j3 p hp]
    constructor
    · rintro (z | z)
      · by_cases y : p = u
        · exact .inr (.inr y)
        · exact .inl ⟨z, y⟩
      · exact .inr (.inl z)
    · rintro (z | z | z)
      · exact .inl z.1
      · exact .inr z
      · exact .inl (z ▸ hH)
  · exact z.2.elim (fun y => j4 p hp ⟨z.1.1, y⟩) z.1.2
  · rcases a with a | a
    · exact j5 p q hp hq a b.1
    · subst a
      exact bef_tri (hm q hq b.1) b.2
  · rcases j6 p hp z with y | ⟨o, d, d0, d1, d2, d3, d4⟩
    · exact .inl y
    · exact .inr ⟨o, d, d0, d1, d2, .inl d3, d4⟩
  · rcases w with w | w
    · exact j7 q d hq (a.resolve_right w) trivial d0 d1 d2 d3 d4
    · omega
  · rcases z with z | z
    · exact bef_asymm (j5 p u hp hu z hH)
    · rw [z]; exact bef_irr
end DJT
theorem entv_congr {R R1 : zI} (h : ∀ a, a ≠ 25 → a ≠ 26 → a ≠ 27 → a ≠ 28 → R1 a = R a) (n p tr : Int) : entv R1 n p tr = entv R n p tr := by
  unfold entv
  rw [h 9 (by decide) (by decide) (by decide) (by decide), h 10 (by decide) (by decide) (by decide) (by decide), h 19 (by decide) (by decide) (by decide) (by decide), h 20 (by decide) (by decide) (by decide) (by decide), h 23 (by decide) (by decide) (by decide) (by decide), h 24 (by decide) (by decide) (by decide) (by decide), h 29 (by decide) (by decide) (by decide) (by decide)]

set_option maxHeartbeats 1000000 in
theorem s_offerAround {c : zC} {R : zI} {D : zI} {O : Int → Prop} {e : Int → Int} {t T : Int → Prop} {n u tr : Int} (hD : DOK c D) (h4 : R 4 = D 4) (h5 : R 5 = D 5) (h9 : R 9 = D 9) (hent : ∀ p, pls c p → entv R n p tr = cI (O p) (e p) (-1)) (he : ∀ p, pls c p → 0 ≤ e p ∧ e p ≤ 100000000) (htr : tr = 0 ∨ tr = 1) (hu : pls c u) (hp : HP c R) (hj : DJ c D O e t (R 26) (fun p => R 28 p ≠ -1) T (fun q dd => q ≠ u ∨ dd < 0)) (hT : T u) (hmx : ∀ p, pls c p → T p → ¬ bef (R 26) u p) : MZ m_X3_offerAround [zr 15, zi n, zi u, zi tr] (wr c R) (gU (fun R2 => (∀ a, a ≠ 25 → a ≠ 26 → a ≠ 27 → a ≠ 28 → R2 a = R a) ∧ HP c R2 ∧ DJ c D O e t (R2 26) (fun p => R2 28 p ≠ -1) T (fun _ _ => True)) c) := by
  refine MZ.of g_X3_offerAround ?_
  show ZX m_X3_offerAround 0 [some (zr 15), some (zi n), some (zi u), some (zi tr), none, none, none, none] [] (wr c R) _
  have hg := hD.1
  have hFAR : FAR = 1000000000 := rfl
  have g3 := hg.S
  obtain ⟨u0, u1⟩ := hu
  have hu : pls c u := ⟨u0, u1⟩
  have cu0 := hj.1 u hu
  have he0 : ∀ p, pls c p → 0 ≤ e p := fun p hp => (he p hp).1
  refine zx_go (pc1 := 8) (l1 := [some (zr 15), some (zi n), some (zi u), some (zi tr), none, none, none, none]) (st1 := [zi u, zr 26]) (w1 := wr c R) g_X3_offerAround 4 _ _ _ _ rfl ?_
  refine gz_iald g_X3_offerAround rfl (n := cS c) rfl (by decide) rfl (by have := hg.S; omega) (by omega) (by omega) ?_
  refine zx_go (pc1 := 14) (l1 := [some (zr 15), some (zi n), some (zi u), some (zi tr), some (zi (R 26 u)), some (zi 0), none, none]) (st1 := []) (w1 := wr c R) g_X3_offerAround 3 _ _ _ _ rfl ?_
  have lp14 : ∀ (it : Nat) (d : Int) (R1 : zI) (o6 : Option zV) (o7 : Option zV), (it : Int) = 6 - d → (0 ≤ d ∧ d ≤ 6 ∧ (∀ a, a ≠ 25 → a ≠ 26 → a ≠ 27 → a ≠ 28 → R1 a = R a) ∧ HP c R1 ∧ DJ c D O e t (R1 26) (fun p => R1 28 p ≠ -1) T (fun q dd => q ≠ u ∨ dd < d) ∧ R1 26 u = R 26 u ∧ ∀ p, pls c p → T p → ¬ bef (R1 26) u p) → ZX m_X3_offerAround 14 [some (zr 15), some (zi n), some (zi u), some (zi tr), some (zi (R 26 u)), some (zi d), o6, o7] [] (wr c R1) (gU (fun R2 => (∀ a, a ≠ 25 → a ≠ 26 → a ≠ 27 → a ≠ 28 → R2 a = R a) ∧ HP c R2 ∧ DJ c D O e t (R2 26) (fun p => R2 28 p ≠ -1) T (fun _ _ => True)) c) := by
    refine fun it => Nat.strongRecOn it (fun it ih14 => ?_)
    intro d R1 o6 o7 hn14 hi14
    obtain ⟨d0, d1, fr, jp, jj, cu, jm⟩ := hi14
    have r4 : R1 4 = D 4 := (fr 4 (by decide) (by decide) (by decide) (by decide)).trans h4
    have r5 : R1 5 = D 5 := (fr 5 (by decide) (by decide) (by decide) (by decide)).trans h5
    have hb9 : ∀ p, inR (R1 9 p) := fun p => by rw [fr 9 (by decide) (by decide) (by decide) (by decide), h9]; have := hD.2.2.2.2.2.1 p; omega
    have hent1 : ∀ p, pls c p → entv R1 n p tr = cI (O p) (e p) (-1) := fun p hp => by rw [entv_congr fr]; exact hent p hp
    have hcr : cR c R1 := fun q q0 q1 => by have := jj.1 q ⟨q0, q1⟩; omega
    refine zx_go (pc1 := 18) (l1 := [some (zr 15), some (zi n), some (zi u), some (zi tr), some (zi (R 26 u)), some (zi d), o6, o7]) (st1 := [zi 6, zi d]) (w1 := wr c R1) g_X3_offerAround 2 _ _ _ _ rfl ?_
    refine zx_cmp g_X3_offerAround rfl (by omega) (by decide) (fun (h18 : 6 ≤ d) => ?_) (fun (h18 : ¬ (6 ≤ d)) => ?_)
    · refine zx_vret g_X3_offerAround rfl ?_
      refine gU_i ⟨fr, jp, jj.imp (fun _ _ => Iff.rfl) (fun q dd hq a w k0 k1 k2 k3 k4 => .inl (.inr (by omega)))⟩
    · refine zx_go (pc1 := 28) (l1 := [some (zr 15), some (zi n), some (zi u), some (zi tr), some (zi (R 26 u)), some (zi d), o6, o7]) (st1 := [zi d, zi u, zr 2]) (w1 := wr c R1) g_X3_offerAround 4 _ _ _ _ rfl ?_
      refine zx_cvF (As := [zi u, zi d]) (rest := []) g_X3_offerAround rfl g_X2_beside rfl rfl (Nat.le_of_ble_eq_true rfl) (Nat.le_of_ble_eq_true rfl) rfl (by decide) (s_beside hg (by omega) (by omega) (by omega)) ?_
      refine zx_go (pc1 := 33) (l1 := [some (zr 15), some (zi n), some (zi u), some (zi tr), some (zi (R 26 u)), some (zi d), some (zi (bes c u d)), o7]) (st1 := []) (w1 := wr c R1) g_X3_offerAround 1 _ _ _ _ rfl ?_
      have bR : bes c u d = -1 ∨ (0 ≤ bes c u d ∧ bes c u d < (cS c : Int)) := bes_R hg (d := d) hu
      refine zx_go (pc1 := 36) (l1 := [some (zr 15), some (zi n), some (zi u), some (zi tr), some (zi (R 26 u)), some (zi d), some (zi (bes c u d)), o7]) (st1 := [zi (-1), zi (bes c u d)]) (w1 := wr c R1) g_X3_offerAround 2 _ _ _ _ rfl ?_
      refine zx_cmp g_X3_offerAround rfl (by omega) (by omega) (fun (h36 : (bes c u d) = (-1)) => ?_) (fun (h36 : ¬ ((bes c u d) = (-1))) => ?_)
      · refine zx_go (pc1 := 14) (l1 := [some (zr 15), some (zi n), some (zi u), some (zi tr), some (zi (R 26 u)), some (zi (d + 1)), some (zi (bes c u d)), o7]) (st1 := []) (w1 := wr c R1) g_X3_offerAround 2 _ _ _ _ rfl ?_
        refine ih14 (Int.toNat (6 - (d + 1))) (by omega) (d + 1) R1 (some (zi (bes c u d))) o7 (by omega) ?_
        refine ⟨by omega, by omega, fr, jp, jj.imp (fun _ _ => Iff.rfl) (fun q dd hq a w k0 k1 k2 k3 k4 => ?_), cu, jm⟩
        by_cases w1 : q ≠ u ∨ dd < d
        · exact .inl w1
        · have qu : q = u := Classical.byContradiction fun z => w1 (.inl z)
          have ed : dd = d := by rcases w with w | w <;> omega
          rw [qu, ed] at k2 k3 k4 ⊢
          right
          have sc := scost_R hD hu ((bes_R hg (d := d) hu).resolve_left k2)
          have ex := he _ ((bes_R hg (d := d) hu).resolve_left k2)
          first | exact absurd h36 k2 | omega | (rw [cI_t k4] at en1; omega)
      · have hx := bR.resolve_left h36
        obtain ⟨b0, b1⟩ := hx
        have hx : pls c (bes c u d) := ⟨b0, b1⟩
        have cx := jj.1 _ hx
        refine zx_go (pc1 := 48) (l1 := [some (zr 15), some (zi n), some (zi u), some (zi tr), some (zi (R 26 u)), some (zi d), some (zi (bes c u d)), o7]) (st1 := [zi (bes c u d), zr 26]) (w1 := wr c R1) g_X3_offerAround 4 _ _ _ _ rfl ?_
        refine gz_iald g_X3_offerAround rfl (n := cS c) rfl (by decide) rfl (by have := hg.S; omega) (by omega) (by omega) ?_
        refine zx_go (pc1 := 51) (l1 := [some (zr 15), some (zi n), some (zi u), some (zi tr), some (zi (R 26 u)), some (zi d), some (zi (bes c u d)), o7]) (st1 := [zi (R 26 u), zi (R1 26 (bes c u d))]) (w1 := wr c R1) g_X3_offerAround 1 _ _ _ _ rfl ?_
        refine zx_cmp g_X3_offerAround rfl (by omega) (by omega) (fun (h51 : (R1 26 (bes c u d)) ≤ (R 26 u)) => ?_) (fun (h51 : ¬ ((R1 26 (bes c u d)) ≤ (R 26 u))) => ?_)
        · refine zx_go (pc1 := 14) (l1 := [some (zr 15), some (zi n), some (zi u), some (zi tr), some (zi (R 26 u)), some (zi (d + 1)), some (zi (bes c u d)), o7]) (st1 := []) (w1 := wr c R1) g_X3_offerAround 2 _ _ _ _ rfl ?_
          refine ih14 (Int.toNat (6 - (d + 1))) (by omega) (d + 1) R1 (some (zi (bes c u d))) o7 (by omega) ?_
          refine ⟨by omega, by omega, fr, jp, jj.imp (fun _ _ => Iff.rfl) (fun q dd hq a w k0 k1 k2 k3 k4 => ?_), cu, jm⟩
          by_cases w1 : q ≠ u ∨ dd < d
          · exact .inl w1
          · have qu : q = u := Classical.byContradiction fun z => w1 (.inl z)
            have ed : dd = d := by rcases w with w | w <;> omega
            rw [qu, ed] at k2 k3 k4 ⊢
            right
            have sc := scost_R hD hu ((bes_R hg (d := d) hu).resolve_left k2)
            have ex := he _ ((bes_R hg (d := d) hu).resolve_left k2)
            first | exact absurd h36 k2 | omega | (rw [cI_t k4] at en1; omega)
        · refine zx_go (pc1 := 59) (l1 := [some (zr 15), some (zi n), some (zi u), some (zi tr), some (zi (R 26 u)), some (zi d), some (zi (bes c u d)), o7]) (st1 := [zi tr, zi (bes c u d), zi n, zr 15]) (w1 := wr c R1) g_X3_offerAround 4 _ _ _ _ rfl ?_
          refine zx_cvF (As := [zi n, zi (bes c u d), zi tr]) (rest := []) g_X3_offerAround rfl g_X3_entryCost rfl rfl (Nat.le_of_ble_eq_true rfl) (Nat.le_of_ble_eq_true rfl) rfl (by decide) (s_entryCost hg (by omega) (by omega) htr (hb9 _)) ?_
          refine zx_go (pc1 := 64) (l1 := [some (zr 15), some (zi n), some (zi u), some (zi tr), some (zi (R 26 u)), some (zi d), some (zi (bes c u d)), some (zi (entv R1 n (bes c u d) tr))]) (st1 := []) (w1 := wr c R1) g_X3_offerAround 1 _ _ _ _ rfl ?_
          have en1 := hent1 _ hx
          have ee := he _ hx
          have enR : inR (entv R1 n (bes c u d) tr) := by
            rw [en1]
            by_cases z : O (bes c u d)
            · rw [cI_t z]; omega
            · rw [cI_f z]; omega
          refine zx_go (pc1 := 67) (l1 := [some (zr 15), some (zi n), some (zi u), some (zi tr), some (zi (R 26 u)), some (zi d), some (zi (bes c u d)), some (zi (entv R1 n (bes c u d) tr))]) (st1 := [zi (-1), zi (entv R1 n (bes c u d) tr)]) (w1 := wr c R1) g_X3_offerAround 2 _ _ _ _ rfl ?_
          refine zx_cmp g_X3_offerAround rfl (by omega) (by omega) (fun (h67 : (entv R1 n (bes c u d) tr) = (-1)) => ?_) (fun (h67 : ¬ ((entv R1 n (bes c u d) tr) = (-1))) => ?_)
          · refine zx_go (pc1 := 14) (l1 := [some (zr 15), some (zi n), some (zi u), some (zi tr), some (zi (R 26 u)), some (zi (d + 1)), some (zi (bes c u d)), some (zi (entv R1 n (bes c u d) tr))]) (st1 := []) (w1 := wr c R1) g_X3_offerAround 2 _ _ _ _ rfl ?_
            refine ih14 (Int.toNat (6 - (d + 1))) (by omega) (d + 1) R1 (some (zi (bes c u d))) (some (zi (entv R1 n (bes c u d) tr))) (by omega) ?_
            refine ⟨by omega, by omega, fr, jp, jj.imp (fun _ _ => Iff.rfl) (fun q dd hq a w k0 k1 k2 k3 k4 => ?_), cu, jm⟩
            by_cases w1 : q ≠ u ∨ dd < d
            · exact .inl w1
            · have qu : q = u := Classical.byContradiction fun z => w1 (.inl z)
              have ed : dd = d := by rcases w with w | w <;> omega
              rw [qu, ed] at k2 k3 k4 ⊢
              right
              have sc := scost_R hD hu ((bes_R hg (d := d) hu).resolve_left k2)
              have ex := he _ ((bes_R hg (d := d) hu).resolve_left k2)
              first | exact absurd h36 k2 | omega | (rw [cI_t k4] at en1; omega)
          · have hO : O (bes c u d) := Classical.byContradiction fun z => by rw [cI_f z] at en1; exact h67 en1
            have en2 : entv R1 n (bes c u d) tr = e (bes c u d) := by rw [en1, cI_t hO]
            have sc1 : 1 ≤ scost c (R1 5) (R1 4) u (bes c u d) ∧ scost c (R1 5) (R1 4) u (bes c u d) ≤ 51 := by rw [r5, r4]; exact scost_R hD hu hx
            have hhp := jp
            refine zx_go (pc1 := 85) (l1 := [some (zr 15), some (zi n), some (zi u), some (zi tr), some (zi (R 26 u)), some (zi d), some (zi (bes c u d)), some (zi (entv R1 n (bes c u d) tr))]) (st1 := [zi (bes c u d), zi u, zr 2, zi (R 26 u), zi (bes c u d), zr 25]) (w1 := wr c R1) g_X3_offerAround 8 _ _ _ _ rfl ?_
            refine zx_cvF (As := [zi u, zi (bes c u d)]) (rest := [zi (R 26 u), zi (bes c u d), zr 25]) g_X3_offerAround rfl g_X2_stepCost rfl rfl (Nat.le_of_ble_eq_true rfl) (Nat.le_of_ble_eq_true rfl) rfl (by decide) (s_stepCost hg (by omega) (by omega) (by omega) (by omega)) ?_
            refine zx_go (pc1 := 92) (l1 := [some (zr 15), some (zi n), some (zi u), some (zi tr), some (zi (R 26 u)), some (zi d), some (zi (bes c u d)), some (zi (entv R1 n (bes c u d) tr))]) (st1 := [zi (((R 26 u) + (scost c (R1 5) (R1 4) u (bes c u d))) + (entv R1 n (bes c u d) tr)), zi (bes c u d), zr 25]) (w1 := wr c R1) g_X3_offerAround 3 _ _ _ _ rfl ?_
            refine gx_cvU (As := [zi (bes c u d), zi (((R 26 u) + (scost c (R1 5) (R1 4) u (bes c u d))) + (entv R1 n (bes c u d) tr))]) (rest := []) g_X3_offerAround rfl g_X1_offer rfl rfl (Nat.le_of_ble_eq_true rfl) (Nat.le_of_ble_eq_true rfl) rfl (by decide) (s_offer hg (by omega) (by omega) (by omega) hhp hcr) (fun R92 hR92 => ?_)
            refine zx_go (pc1 := 14) (l1 := [some (zr 15), some (zi n), some (zi u), some (zi tr), some (zi (R 26 u)), some (zi (d + 1)), some (zi (bes c u d)), some (zi (entv R1 n (bes c u d) tr))]) (st1 := []) (w1 := wr c R92) g_X3_offerAround 2 _ _ _ _ rfl ?_
            refine ih14 (Int.toNat (6 - (d + 1))) (by omega) (d + 1) R92 (some (zi (bes c u d))) (some (zi (entv R1 n (bes c u d) tr))) (by omega) ?_
            have fr2 : ∀ a, a ≠ 25 → a ≠ 26 → a ≠ 27 → a ≠ 28 → R92 a = R a := fun a a1 a2 a3 a4 => (hR92.1 a a1 a2 a3 a4).trans (fr a a1 a2 a3 a4)
            by_cases z : R 26 u + scost c (R1 5) (R1 4) u (bes c u d) + entv R1 n (bes c u d) tr < R1 26 (bes c u d)
            · obtain ⟨y1, y2⟩ := hR92.2.2.2 z
              have rx := dj_relax hD he0 jj hu hT jm d0 (by omega) h36 hO (by omega) (v := R 26 u + scost c (R1 5) (R1 4) u (bes c u d) + entv R1 n (bes c u d) tr) (by rw [en2, r5, r4, cu]) z
              refine ⟨by omega, by omega, fr2, hR92.2.1, ?_, ?_, ?_⟩
              · rw [y1]
                refine rx.1.imp (fun p hp => ?_) (fun q dd hq a w k0 k1 k2 k3 k4 => .inl w)
                rw [Ne, y2 p hp.1 hp.2]
                constructor
                · intro w
                  by_cases k : p = bes c u d
                  · exact .inr k
                  · exact .inl fun k2 => w ⟨k2, k⟩
                · rintro (w | w) ⟨k1, k2⟩
                  · exact w k1
                  · exact k2 w
              · rw [y1, up1_n (fun w => ?_)]
                · exact cu
                · rw [← w] at h51; omega
              · rw [y1]; exact rx.2
            · have y := hR92.2.2.1 (by omega)
              rw [y]
              refine ⟨by omega, by omega, fr, jp, jj.imp (fun _ _ => Iff.rfl) (fun q dd hq a w k0 k1 k2 k3 k4 => ?_), cu, jm⟩
              by_cases w1 : q ≠ u ∨ dd < d
              · exact .inl w1
              · have qu : q = u := Classical.byContradiction fun z => w1 (.inl z)
                have ed : dd = d := by rcases w with w | w <;> omega
                rw [qu, ed]
                right
                rw [r5, r4] at z
                omega
  refine lp14 (Int.toNat (6 - 0)) 0 R none none (by omega) ?_
  exact ⟨by omega, by omega, fun _ _ _ _ _ => rfl, hp, hj, rfl, hmx⟩

