/-! ===== contracts of the reference (8): a net is routed ===== -/
def MC (s : aS) (R : zI) : Prop := R 32 22 = aN s ∧ R 32 23 = aA s ∧ R 32 24 = aT s
def MF (R R2 : zI) : Prop := (∀ a : Nat, a ≤ 40 → a ≠ 32 → R2 a = R a) ∧ ∀ j, j ≠ 22 → j ≠ 23 → j ≠ 24 → R2 32 j = R 32 j
theorem MF.rf {R : zI} : MF R R := ⟨fun _ _ _ => rfl, fun _ _ _ _ => rfl⟩
theorem MF.trans {R R1 R2 : zI} (h : MF R R1) (h1 : MF R1 R2) : MF R R2 := ⟨fun a ha_v hb_v => (h1.1 a ha_v hb_v).trans (h.1 a ha_v hb_v), fun j a b d => (h1.2 j a b d).trans (h.2 j a b d)⟩
theorem MF.cells {R R2 : zI} (h : ∀ a : Nat, a ≤ 40 → R2 a = R a) : MF R R2 := ⟨fun a ha_v _ => h a ha_v, fun j _ _ _ => by rw [h 32 (by decide)]⟩
theorem MDn.of2 {c : zC} {D R R1 : zI} (h : MDn c D R) (hf : ∀ a : Nat, a ≤ 40 → a ≠ 32 → R1 a = R a) (h8 : R1 32 8 = R 32 8) (h10 : R1 32 10 = R 32 10) : MDn c D R1 := by
  unfold MDn at *
  rw [h8, h10, hf 33 (by decide) (by decide), hf 34 (by decide) (by decide), hf 35 (by decide) (by decide), hf 36 (by decide) (by decide), hf 37 (by decide) (by decide), hf 38 (by decide) (by decide), hf 39 (by decide) (by decide), hf 40 (by decide) (by decide)]
  exact h
theorem MDn.mf {c : zC} {D R R1 : zI} (h : MDn c D R) (hf : MF R R1) : MDn c D R1 := h.of2 hf.1 (hf.2 8 (by decide) (by decide) (by decide)) (hf.2 10 (by decide) (by decide) (by decide))
/-- cells that a state of the reference speaks of -/
theorem MS0.of {c : zC} {D R R1 : zI} {s : aS} (h : MS0 c D s R) (hm : MDn c D R1) (hf : ∀ a : Nat, 41 ≤ a → a ≤ 47 → R1 a = R a) : MS0 c D s R1 := by
  obtain ⟨-, h1⟩ := h
  refine ⟨hm, ?_⟩
  rw [hf 41 (by decide) (by decide), hf 42 (by decide) (by decide), hf 43 (by decide) (by decide), hf 44 (by decide) (by decide), hf 45 (by decide) (by decide), hf 46 (by decide) (by decide), hf 47 (by decide) (by decide)]
  exact h1
theorem MQ0.of {c : zC} {D R R1 : zI} {x : aX} (h : MQ0 c D x R) (hm : MDn c D R1) (hf : ∀ a : Nat, 41 ≤ a → a ≤ 49 → R1 a = R a) : MQ0 c D x R1 := by
  refine ⟨?_, h.2.of hm (fun a h1 h2 => hf a h1 (by omega))⟩
  rw [hf 48 (by decide) (by decide), hf 49 (by decide) (by decide)]
  exact h.1
theorem kth_is {P : Int → Prop} {N k : Int} (k1 : k < N) (hp : P k) (hn : ∀ j, 0 ≤ j → j < k → ¬ P j) : ∀ (m : Nat) (i : Int), (k - i).toNat = m → 0 ≤ i → i ≤ k → kth P (N - i).toNat i 0 = k := by
  intro m
  refine Nat.strongRecOn m (fun m ih_v => ?_)
  intro i hm i0_v i1_v
  by_cases e : i = k
  · subst e
    exact kth_0 (by omega) hp rfl
  · rw [kth_n (by omega) (hn i i0_v (by omega))]
    exact ih_v (k - (i + 1)).toNat (by omega) (i + 1) rfl (by omega) (by omega)
theorem cnt_sub {P P1 : Int → Prop} {k : Int} {n : Nat} (k0 : 0 ≤ k) (k1 : k < n) (h : ∀ i : Int, 0 ≤ i → i < n → P1 i → P i) (hk : P k) (hk1 : ¬ P1 k) : cnt P1 n < cnt P n := by
  have a := cnt_ins (P1 := fun i => P1 i ∨ i = k) k0 hk1 n k1 (fun i _ _ => Iff.rfl)
  have b := cnt_mono (P := fun i => P1 i ∨ i = k) (P1 := P) n (fun i i0_v i1_v z => z.elim (h i i0_v i1_v) (fun y => by rw [y]; exact hk))
  omega
theorem cnt_go {P : Int → Prop} {k : Int} (k0 : 0 ≤ k) : cnt P (k + 1).toNat = cnt P k.toNat + bI (P k) := by
  rw [show (k + 1).toNat = k.toNat + 1 by omega]
  show cnt P k.toNat + bI (P ((k.toNat : Nat) : Int)) = _
  rw [show ((k.toNat : Nat) : Int) = k by omega]
noncomputable def rem (c : zC) (D : zI) (n : Int) (t : Int → Prop) : Int := cnt (fun j => D 11 j = n ∧ ¬ t (pp c D j)) (D 10 2).toNat
theorem rem_le {c : zC} {D : zI} (hD : DOK c D) {n : Int} {t : Int → Prop} : 0 ≤ rem c D n t ∧ rem c D n t ≤ 40 := by
  have := cnt_R (fun j => D 11 j = n ∧ ¬ t (pp c D j)) (D 10 2).toNat
  have := hD.2.2.1
  unfold rem
  omega
theorem rem_pos {c : zC} {D : zI} {n : Int} {t : Int → Prop} (nc : ¬ clo c D n) (h : ¬ dne c D n t) : 0 < rem c D n t := by
  unfold rem
  rw [dne_iff nc] at h
  have ex_v : ∃ j, 0 ≤ j ∧ j < D 10 2 ∧ D 11 j = n ∧ ¬ t (pp c D j) := Classical.byContradiction fun z => h (fun j j0 j1 j2_v => Classical.byContradiction fun y => z ⟨j, j0, j1, j2_v, y⟩)
  obtain ⟨j, j0, j1, j2_v, j3_v⟩ := ex_v
  have a := cnt_sub (P := fun j => D 11 j = n ∧ ¬ t (pp c D j)) (P1 := fun _ => False) (k := j) (n := (D 10 2).toNat) j0 (by omega) (fun _ _ _ z => z.elim) ⟨j2_v, j3_v⟩ id
  rw [cnt_none _ (fun _ _ _ z => z)] at a
  exact a
section RTM
variable {c : zC} {D R : zI} {n tr B : Int} {P : Prop} {x : aX}
theorem rem_W (hD : DOK c D) (hr : RI c D n x B) (hg : gE c D x.2.2 n P x.1 ≠ -1) : rem c D n (aW c D n P x).1 < rem c D n x.1 := by
  have g_v := gE_ok (n := n) (tr := P) (x := x) hD hr.1 hg
  obtain ⟨⟨j, j0, j1, j2_v, j3_v, j4_v⟩, nt⟩ := g_v.2.1
  have p40 := hD.2.2.1
  unfold rem
  refine cnt_sub (k := j) j0 (by omega) (fun i _ _ z => ⟨z.1, fun y => z.2 (.inl y)⟩) ⟨j2_v, by rw [j4_v]; exact nt⟩ (fun z => z.2 (.inr ⟨0, fun i hi_v => ?_, j4_v.symm⟩))
  have e : i = 0 := by omega
  subst e
  exact nt
theorem mt_lower (hD : DOK c D) (hP : tr ≠ 0 ↔ P) (htr : tr = 0 ∨ tr = 1) (hr : RI c D n x B) (hB : B ≤ 5120) (hq : MQ0 c D x R) (h5 : ∀ p, pls c p → R 50 p = bI (nearC c D n p) ∧ R 51 p = bI (nearR c D (aR x.2.2) n p)) : MZ m_X6_lower [zr 32, zi tr] (wr c R) (gU (fun R2 => (∀ a, a ≠ 52 → R2 a = R a) ∧ ∀ p, pls c p → R2 52 p = fd c D x.2.2 n P x.1 p) c) := by
  have he0 := ext_0 (n := n) hr.1
  have heB := ext_B (n := n) hr.1
  refine MZ.mono (m_lower (O := opn c D x.2.2 n P) (X := nearC c D n) (Y := nearR c D (aR x.2.2) n) (t := x.1) (e := ext c D x.2.2 n) hD hq.2.1 htr (fun p hp => (hq.1 p hp).1) (fun p hp => (h5 p hp).1) (fun p hp => (h5 p hp).2) (fun p hp => ?_) (fun p hp => ?_) (fun p hp => ⟨he0 p hp, by have := heB p hp; omega⟩)) ?_
  · unfold opn
    rw [hP]
  · rw [hq.2.2.2.2.2.1 p hp]
    rfl
  rintro o w ⟨R2, rfl, rfl, f1_v, f2_v⟩
  exact ⟨R2, rfl, rfl, f1_v, fun p hp => Dst_eq hD he0 f2_v (fd_Dst (n := n) (tr := P) hD hr.1) hp⟩
theorem mt_goal (hD : DOK c D) (hr : RI c D n x B) (hq : MQ0 c D x R) (h52 : ∀ p, pls c p → R 52 p = fd c D x.2.2 n P x.1 p) : MZ m_X6_goal [zr 32, zi n] (wr c R) (qF (zi (gE c D x.2.2 n P x.1)) (wr c R)) :=
  m_goal (f := fd c D x.2.2 n P x.1) hD hq.2.1 hr.2.2.2.1 hr.2.1 hr.2.2.1 hq.2.2.1 (fun p hp => (hq.1 p hp).1) (fun p hp => ⟨h52 p hp, (fd_Dst (n := n) (tr := P) hD hr.1).2.1 p hp⟩)
theorem mt_done (hD : DOK c D) (hr : RI c D n x B) (hq : MQ0 c D x R) : MZ m_X6_isDone [zr 32, zi n] (wr c R) (qF (zi (bI (dne c D n x.1))) (wr c R)) :=
  m_isDone hD hq.2.1 hr.2.2.2.1 hr.2.1 hr.2.2.1 hq.2.2.1 (fun p hp => (hq.1 p hp).1)
theorem mt_mark (hD : DOK c D) (hr : RI c D n x B) (hq : MQ0 c D x R) : MZ m_X6_markAll [zr 32, zi n] (wr c R) (gU (fun R2 => (∀ a, a ≠ 50 → a ≠ 51 → R2 a = R a) ∧ ∀ p, pls c p → R2 50 p = bI (nearC c D n p) ∧ R2 51 p = bI (nearR c D (aR x.2.2) n p)) c) :=
  m_markAll hD hq.2.1 hr.2.1 hr.2.2.1 hq.2.2.1 (fun b q b0 b1 hq1 => (hq.2.2.2.2.1 b q b0 b1 hq1).1) (fun b q z => ⟨(hr.1.1 b q z).1, (hr.1.1 b q z).2.1⟩)
/-- one more way of a kind, counted before it is taken -/
theorem mt_take {R1 : zI} {j : Int} (hD : DOK c D) (hr : RI c D n x B) (hB : B ≤ 5120) (hq : MQ0 c D x R) (h51 : ∀ p, pls c p → R 51 p = bI (nearR c D (aR x.2.2) n p)) (h52 : ∀ p, pls c p → R 52 p = fd c D x.2.2 n P x.1 p) (hgE : gE c D x.2.2 n P x.1 ≠ -1) (hc : MC x.2.2 R) (hj : (j = 23 ∧ ¬ P) ∨ (j = 24 ∧ P)) (h1 : R1 = zU R 32 j (R 32 j + 1)) : MZ m_X6_take [zr 32, zi n, zi (gE c D x.2.2 n P x.1)] (wr c R1) (gU (fun R2 => MF R R2 ∧ MQ0 c D (aW c D n P x) R2 ∧ MC (aW c D n P x).2.2 R2) c) := by
  have r : ∀ a, a ≠ 32 → R1 a = R a := fun a ha_v => by rw [h1, zU_cell ha_v]
  have r32 : ∀ i, i ≠ j → R1 32 i = R 32 i := fun i hi_v => by rw [h1, zU_at hi_v]
  have rj : R1 32 j = R 32 j + 1 := by rw [h1, zU_same]
  have hm1 : MDn c D R1 := hq.2.1.of2 (fun a _ hb_v => r a hb_v) (r32 8 (by omega)) (r32 10 (by omega))
  refine MZ.mono (m_take hD hr hB (hq.of hm1 (fun a h1 h2 => r a (by omega))) (fun p hp => by rw [r 51 (by decide)]; exact h51 p hp) (fun p hp => by rw [r 52 (by decide)]; exact h52 p hp) hgE) ?_
  rintro o w ⟨R2, rfl, rfl, f1_v, f2_v, f3_v⟩
  have e32 : R2 32 = R1 32 := f1_v 32 (by decide) (by decide) (by decide) (by decide) (by decide) (by decide) (by decide) (by decide)
  refine ⟨R2, rfl, rfl, ⟨fun a ha_v hb_v => ?_, fun i a b d => ?_⟩, ⟨f2_v, f3_v⟩, ?_⟩
  · rw [f1_v a (by omega) (by omega) (by omega) (by omega) (by omega) (by omega) (by omega) (by omega), r a hb_v]
  · rw [e32, r32 i (by omega)]
  · unfold MC
    rw [e32]
    obtain ⟨c1_v, c2_v, c3_v⟩ := hc
    rcases hj with ⟨rfl, z⟩ | ⟨rfl, z⟩
    · refine ⟨by rw [r32 22 (by decide)]; exact c1_v, ?_, ?_⟩
      · rw [rj, c2_v]
        show _ = aA x.2.2 + bI (¬ P)
        rw [bI_t z]
      · rw [r32 24 (by decide), c3_v]
        show _ = aT x.2.2 + bI P
        rw [bI_f z, Int.add_zero]
    · refine ⟨by rw [r32 22 (by decide)]; exact c1_v, ?_, ?_⟩
      · rw [r32 23 (by decide), c2_v]
        show _ = aA x.2.2 + bI (¬ P)
        rw [bI_f (fun y => y z), Int.add_zero]
      · rw [rj, c3_v]
        show _ = aT x.2.2 + bI P
        rw [bI_t z]
theorem ms_fll {R1 : zI} (hr : RI c D n x B) (hq : MS0 c D x.2.2 R) (h : R1 = zU R 44 n 2) : MS0 c D (fll n x.2.2) R1 := by
  have r : ∀ a, a ≠ 44 → R1 a = R a := fun a ha_v => by rw [h, zU_cell ha_v]
  obtain ⟨m1_v, m2_v, m3_v, m4_v, m5_v, m6_v, m7_v⟩ := hq
  refine ⟨m1_v.of (fun a _ _ => r a (by omega)), ?_, ?_, ?_, ?_, ?_, fun b b0 b1 nj => ?_⟩
  · rw [r 41 (by decide)]; exact m2_v
  · rw [r 42 (by decide)]; exact m3_v
  · rw [r 46 (by decide), r 47 (by decide)]; exact m4_v
  · rw [r 45 (by decide)]; exact m5_v
  · rw [r 43 (by decide)]; exact m6_v
  · rw [h, zU_row]
    show _ = pI (clo c D b) 1 (pI (aF x.2.2 b ∨ b = n) 2 3)
    by_cases y : b = n
    · rw [y, up1_s, pI_f hr.2.2.2.1, pI_t (.inr rfl)]
    · rw [up1_n y, m7_v b b0 b1 nj]
      rw [show (aF x.2.2 b ∨ b = n) = aF x.2.2 b from propext ⟨fun z => z.resolve_right y, .inl⟩]
theorem ms_fnn {R1 R2 : zI} (hD : DOK c D) (hr : RI c D n x B) (hq : MQ0 c D x R) (h : R1 = ch R (fun b j => (b = 46 ∨ b = 47) ∧ 1728 * n ≤ j ∧ j < 1728 * n + (cS c : Int)) (fun b j => pI (b = 46) (R 48 (j - 1728 * n)) (R 49 (j - 1728 * n)))) (h2 : R2 = zU R1 43 n 1) : MS0 c D (fnn n x) R2 := by
  have g3_v := hD.1.S
  have r : ∀ a, a ≠ 43 → a ≠ 46 → a ≠ 47 → R2 a = R a := fun a a1_v a2 a3 => by
    rw [h2, zU_cell a1_v, h]
    funext j
    exact ch_f (fun z => z.1.elim a2 a3)
  have r1_v : ∀ a, a ≠ 43 → R2 a = R1 a := fun a ha_v => by rw [h2, zU_cell ha_v]
  obtain ⟨tu, m1_v, m2_v, m3_v, m4_v, m5_v, m6_v, m7_v⟩ := hq
  refine ⟨m1_v.of (fun a _ _ => r a (by omega) (by omega) (by omega)), ?_, ?_, fun b q b0 b1 hq1 => ?_, ?_, fun b b0 b1 => ?_, fun b b0 b1 nj => ?_⟩
  · rw [r 41 (by decide) (by decide) (by decide)]; exact m2_v
  · rw [r 42 (by decide) (by decide) (by decide)]; exact m3_v
  · rw [r1_v 46 (by decide), r1_v 47 (by decide), h]
    have q0 := hq1.1
    have q1_v := hq1.2
    by_cases y : b = n
    · rw [y, ch_t ⟨.inl rfl, by omega, by omega⟩, ch_t ⟨.inr rfl, by omega, by omega⟩, pI_t rfl, pI_f (by decide), show 1728 * n + q - 1728 * n = q by omega, (tu q hq1).1, (tu q hq1).2]
      exact ⟨bI_congr ⟨fun z => .inl ⟨rfl, z⟩, fun z => z.elim (fun w => w.2) (fun w => absurd rfl w.1)⟩, bI_congr ⟨fun z => .inl ⟨rfl, z⟩, fun z => z.elim (fun w => w.2) (fun w => absurd rfl w.1)⟩⟩
    · rw [ch_f (fun z => by omega), ch_f (fun z => by omega), (m4_v b q b0 b1 hq1).1, (m4_v b q b0 b1 hq1).2]
      exact ⟨bI_congr ⟨fun z => .inr ⟨y, z⟩, fun z => z.elim (fun w => absurd w.1 y) (fun w => w.2)⟩, bI_congr ⟨fun z => .inr ⟨y, z⟩, fun z => z.elim (fun w => absurd w.1 y) (fun w => w.2)⟩⟩
  · rw [r 45 (by decide) (by decide) (by decide)]; exact m5_v
  · have e43 : R1 43 = R 43 := by
      rw [h]
      funext j
      exact ch_f (fun z => absurd z.1 (by decide))
    rw [h2, zU_row, e43]
    show _ = bI (aJ x.2.2 b ∨ b = n)
    by_cases y : b = n
    · rw [y, up1_s, bI_t (.inr rfl)]
    · rw [up1_n y, m6_v b b0 b1]
      exact bI_congr ⟨.inl, fun z => z.resolve_right y⟩
  · rw [r 44 (by decide) (by decide) (by decide), m7_v b b0 b1 (fun z => nj (.inl z))]
    show _ = pI (clo c D b) 1 (pI (aF x.2.2 b ∧ b ≠ n) 2 3)
    rw [show (aF x.2.2 b ∧ b ≠ n) = aF x.2.2 b from propext ⟨fun z => z.1, fun z => ⟨z, fun y => nj (.inr y)⟩⟩]
end RTM

theorem rm_eq {c : zC} {D R1 : zI} {n : Int} {x : aX} (hD : DOK c D) (nc : ¬ clo c D n) (hq : MQ0 c D x R1) : cnt (fun j => D 11 j = n ∧ ¬ (R1 48 (pp c D j) = 1)) (D 10 2).toNat = rem c D n x.1 := by
  unfold rem
  have p40 := hD.2.2.1
  refine cnt_congr _ fun j j0 j1 => ⟨fun z => ⟨z.1, fun y => z.2 ?_⟩, fun z => ⟨z.1, fun y => z.2 ?_⟩⟩
  · have hp := ((pk_R hD j0 (show j < D 10 2 by omega)).2.2 (fun w => nc ⟨j, j0, by omega, z.1, w⟩)).1
    rw [(hq.1 _ hp).1]
    exact bI_t y
  · have hp := ((pk_R hD j0 (show j < D 10 2 by omega)).2.2 (fun w => nc ⟨j, j0, by omega, z.1, w⟩)).1
    rw [(hq.1 _ hp).1] at y
    exact bI_1.mp y

set_option maxHeartbeats 1000000 in
theorem m_routeNet {c : zC} {R : zI} {D : zI} {n B : Int} {s : aS} (hD : DOK c D) (hA : AI c D s B) (hB : B ≤ 5080) (n0 : 0 ≤ n) (n1 : n < D 10 0) (nc : ¬ clo c D n) (nj : ¬ aJ s n) (hs : MS0 c D s R) (hcn : MC s R) : MZ m_X6_routeNet [zr 32, zi n] (wr c R) (gU (fun R2 => MF R R2 ∧ MS0 c D (aRt c D n s) R2 ∧ MC (aRt c D n s) R2) c) := by
  refine MZ.of g_X6_routeNet ?_
  show ZX m_X6_routeNet 0 [some (zr 32), some (zi n), none, none] [] (wr c R) _
  have hg := hD.1
  have g3_v := hg.S
  have n16 := hD.2.1
  have p40 := hD.2.2.1
  obtain ⟨ke, ke0, ke1, ke2⟩ := hA.2.1 n n0 n1 nc nj
  have spin := strt_ok hD nc ⟨ke, ke0, ke1, ke2⟩
  have spl := (pin_R hD spin).2.2.1
  refine zx_go (pc1 := 2) (l1 := [some (zr 32), some (zi n), some (zi 0), none]) (st1 := []) (w1 := wr c R) g_X6_routeNet 2 _ _ _ _ rfl ?_
  have lp2 : ∀ (it : Nat) (i : Int) (R0 : zI), (it : Int) = (cS c : Int) - i → (0 ≤ i ∧ i ≤ (cS c : Int) ∧ (∀ a, a ≠ 48 → a ≠ 49 → R0 a = R a) ∧ ∀ p, 0 ≤ p → p < i → R0 48 p = 0 ∧ R0 49 p = 0) → ZX m_X6_routeNet 2 [some (zr 32), some (zi n), some (zi i), none] [] (wr c R0) (gU (fun R2 => MF R R2 ∧ MS0 c D (aRt c D n s) R2 ∧ MC (aRt c D n s) R2) c) := by
    refine fun it => Nat.strongRecOn it (fun it ih2 => ?_)
    intro i R0 hn2 hi2
    obtain ⟨i0_v, i1_v, fr0, z0⟩ := hi2
    refine zx_go (pc1 := 4) (l1 := [some (zr 32), some (zi n), some (zi i), none]) (st1 := [zr 32, zi i]) (w1 := wr c R0) g_X6_routeNet 2 _ _ _ _ rfl ?_
    refine zx_cvF (As := []) (rest := [zi i]) g_X6_routeNet rfl g_X6_all rfl rfl (Nat.le_of_ble_eq_true rfl) (Nat.le_of_ble_eq_true rfl) rfl (by decide) (m_all hg) ?_
    refine zx_cmp g_X6_routeNet rfl (by omega) (by omega) (fun (h7 : (cS c : Int) ≤ i) => ?_) (fun (h7 : ¬ ((cS c : Int) ≤ i)) => ?_)
    · refine zx_go (pc1 := 32) (l1 := [some (zr 32), some (zi n), some (zi 0), none]) (st1 := []) (w1 := wr c R0) g_X6_routeNet 2 _ _ _ _ rfl ?_
      have hm0 : MDn c D R0 := hs.1.of (fun a _ _ => fr0 a (by omega) (by omega))
      have lp32 : ∀ (it : Nat) (kf : Int), (it : Int) = D 10 2 - kf → (0 ≤ kf ∧ ∀ j, 0 ≤ j → j < kf → ¬ D 11 j = n) → ZX m_X6_routeNet 32 [some (zr 32), some (zi n), some (zi kf), none] [] (wr c R0) (gU (fun R2 => MF R R2 ∧ MS0 c D (aRt c D n s) R2 ∧ MC (aRt c D n s) R2) c) := by
        refine fun it => Nat.strongRecOn it (fun it ih32 => ?_)
        intro kf hn32 hi32_v
        obtain ⟨k0, nk⟩ := hi32_v
        have kl : kf ≤ ke := Classical.byContradiction fun z => nk ke ke0 (by omega) ke2
        have e38 : R0 38 kf = D 11 kf := (hm0.2.2.2.1 kf k0 (by omega)).1
        have nnk := hD.2.2.2.2.2.2.1 kf k0 (by omega)
        skip
        refine zx_go (pc1 := 37) (l1 := [some (zr 32), some (zi n), some (zi kf), none]) (st1 := [zi kf, zr 38]) (w1 := wr c R0) g_X6_routeNet 3 _ _ _ _ rfl ?_
        refine gz_iald g_X6_routeNet rfl (n := 40) rfl (by decide) rfl (by decide) (by omega) (by omega) ?_
        refine zx_go (pc1 := 39) (l1 := [some (zr 32), some (zi n), some (zi kf), none]) (st1 := [zi n, zi (R0 38 kf)]) (w1 := wr c R0) g_X6_routeNet 1 _ _ _ _ rfl ?_
        refine zx_cmp g_X6_routeNet rfl (by omega) (by omega) (fun (h39 : (R0 38 kf) = n) => ?_) (fun (h39 : ¬ ((R0 38 kf) = n)) => ?_)
        · have kn_v : D 11 kf = n := by rw [← e38]; exact h39
          have kx := kth_is (P := fun k => D 11 k = n) (N := D 10 2) (k := kf) (by omega) kn_v nk _ 0 rfl (by omega) k0
          have e41_v : R0 41 kf = pk c D kf := by rw [fr0 41 (by decide) (by decide)]; exact hs.2.1 kf k0 (by omega)
          have pR := pk_R hD k0 (show kf < D 10 2 by omega)
          have stk : strt c D n = pp c D kf := by
            unfold strt
            rw [show (D 10 2) = D 10 2 - 0 by omega, kx]
          obtain ⟨mp_v, mpl⟩ := ((mpp_ok hD hm0 k0 (show kf < D 10 2 by omega) e41_v).resolve_left (fun z => nc ⟨kf, k0, by omega, kn_v, z.1⟩)).2
          obtain ⟨ml0, ml1⟩ := mpl
          refine zx_go (pc1 := 54) (l1 := [some (zr 32), some (zi n), some (zi kf), none]) (st1 := [zi kf, zr 32, zr 48]) (w1 := wr c R0) g_X6_routeNet 4 _ _ _ _ rfl ?_
          refine zx_cvF (As := [zi kf]) (rest := [zr 48]) g_X6_routeNet rfl g_X6_placeOfPin rfl rfl (Nat.le_of_ble_eq_true rfl) (Nat.le_of_ble_eq_true rfl) rfl (by decide) (m_placeOfPin (by omega) (by omega) (by omega) (by omega)) ?_
          refine zx_go (pc1 := 58) (l1 := [some (zr 32), some (zi n), some (zi kf), none]) (st1 := [zi 1, zi (mpp R0 kf), zr 48]) (w1 := wr c R0) g_X6_routeNet 1 _ _ _ _ rfl ?_
          refine gz_bast g_X6_routeNet rfl (n := 1728) rfl (by decide) (by refine ⟨?_, ?_, ?_, ?_, ?_⟩ <;> simp) (by decide) (by omega) (by omega) (.inr rfl) ?_
          have rmI : 0 ≤ cnt (fun j => D 11 j = n ∧ ¬ ((zU R0 48 (mpp R0 kf) 1) 48 (pp c D j) = 1)) (D 10 2).toNat := (cnt_R _ _).1
          have lp59 : ∀ (it : Nat) (R1 : zI) (o3_v : Option zV), (it : Int) = cnt (fun j => D 11 j = n ∧ ¬ (R1 48 (pp c D j) = 1)) (D 10 2).toNat → (MF R R1 ∧ ∃ (k : Nat) (x : aX), MQ0 c D x R1 ∧ MC x.2.2 R1 ∧ RI c D n x (B + (40 - (k : Int))) ∧ k ≤ 40 ∧ aL c D n k x = aRt c D n s ∧ rem c D n x.1 ≤ k) → ZX m_X6_routeNet 59 [some (zr 32), some (zi n), some (zi kf), o3_v] [] (wr c R1) (gU (fun R2 => MF R R2 ∧ MS0 c D (aRt c D n s) R2 ∧ MC (aRt c D n s) R2) c) := by
            refine fun it => Nat.strongRecOn it (fun it ih59 => ?_)
            intro R1 o3_v hn59 hi59
            obtain ⟨rf1, k, x, mq1, mc1, ri1, k40, al1, rk⟩ := hi59
            skip
            refine zx_go (pc1 := 61) (l1 := [some (zr 32), some (zi n), some (zi kf), o3_v]) (st1 := [zi n, zr 32]) (w1 := wr c R1) g_X6_routeNet 2 _ _ _ _ rfl ?_
            refine zx_cvF (As := [zi n]) (rest := []) g_X6_routeNet rfl g_X6_isDone rfl rfl (Nat.le_of_ble_eq_true rfl) (Nat.le_of_ble_eq_true rfl) rfl (by decide) (mt_done hD ri1 mq1) ?_
            refine zx_ifne g_X6_routeNet rfl (fun (h64 : (dne c D n x.1)) => ?_) (fun (h64 : ¬ (dne c D n x.1)) => ?_)
            · refine zx_go (pc1 := 146) (l1 := [some (zr 32), some (zi n), some (zi kf), some (zi 0)]) (st1 := []) (w1 := wr c R1) g_X6_routeNet 2 _ _ _ _ rfl ?_
              have lp146 : ∀ (it : Nat) (i : Int) (R5 : zI), (it : Int) = (cS c : Int) - i → (0 ≤ i ∧ i ≤ (cS c : Int) ∧ R5 = ch R1 (fun b j => (b = 46 ∨ b = 47) ∧ 1728 * n ≤ j ∧ j < 1728 * n + i) (fun b j => pI (b = 46) (R1 48 (j - 1728 * n)) (R1 49 (j - 1728 * n)))) → ZX m_X6_routeNet 146 [some (zr 32), some (zi n), some (zi kf), some (zi i)] [] (wr c R5) (gU (fun R2 => MF R R2 ∧ MS0 c D (aRt c D n s) R2 ∧ MC (aRt c D n s) R2) c) := by
                refine fun it => Nat.strongRecOn it (fun it ih146 => ?_)
                intro i R5 hn146 hi146
                obtain ⟨i0_v, i1_v, i2_v⟩ := hi146
                have e48 : R5 48 = R1 48 := by rw [i2_v]; funext j; exact ch_f (fun z => absurd z.1 (by decide))
                have e49 : R5 49 = R1 49 := by rw [i2_v]; funext j; exact ch_f (fun z => absurd z.1 (by decide))
                refine zx_go (pc1 := 148) (l1 := [some (zr 32), some (zi n), some (zi kf), some (zi i)]) (st1 := [zr 32, zi i]) (w1 := wr c R5) g_X6_routeNet 2 _ _ _ _ rfl ?_
                refine zx_cvF (As := []) (rest := [zi i]) g_X6_routeNet rfl g_X6_all rfl rfl (Nat.le_of_ble_eq_true rfl) (Nat.le_of_ble_eq_true rfl) rfl (by decide) (m_all hg) ?_
                refine zx_cmp g_X6_routeNet rfl (by omega) (by omega) (fun (h151 : (cS c : Int) ≤ i) => ?_) (fun (h151 : ¬ ((cS c : Int) ≤ i)) => ?_)
                · refine zx_go (pc1 := 202) (l1 := [some (zr 32), some (zi n), some (zi kf), some (zi i)]) (st1 := [zi 1, zi n, zr 43]) (w1 := wr c R5) g_X6_routeNet 4 _ _ _ _ rfl ?_
                  refine gz_bast g_X6_routeNet rfl (n := 16) rfl (by decide) (by refine ⟨?_, ?_, ?_, ?_, ?_⟩ <;> simp) (by decide) (by omega) (by omega) (.inr rfl) ?_
                  refine zx_vret g_X6_routeNet rfl ?_
                  have ei : i = (cS c : Int) := by omega
                  subst ei
                  have aE : aRt c D n s = fnn n x := by
                    rw [← al1]
                    cases k with
                    | zero => rfl
                    | succ k => unfold aL; rw [cI_t h64]
                  have f5_v : ∀ a, a ≠ 46 → a ≠ 47 → R5 a = R1 a := fun a h1 h2 => by rw [i2_v]; funext j; exact ch_f (fun z => z.1.elim h1 h2)
                  rw [aE]
                  refine gU_i ⟨rf1.trans (MF.cells (fun a ha_v => by rw [zU_cell (by omega)]; exact f5_v a (by omega) (by omega))), ms_fnn hD ri1 mq1 i2_v rfl, ?_⟩
                  unfold MC
                  rw [zU_cell (by decide), f5_v 32 (by decide) (by decide)]
                  exact mc1
                · refine zx_go (pc1 := 170) (l1 := [some (zr 32), some (zi n), some (zi kf), some (zi i)]) (st1 := [zi i, zr 48, zi ((1728 * n) + i), zr 46]) (w1 := wr c R5) g_X6_routeNet 10 _ _ _ _ rfl ?_
                  refine gz_bald g_X6_routeNet rfl (n := 1728) rfl (by decide) rfl (by decide) (by omega) (by omega) ?_
                  refine gz_bast g_X6_routeNet rfl (n := 27648) rfl (by decide) (by refine ⟨?_, ?_, ?_, ?_, ?_⟩ <;> simp) (by decide) (by omega) (by omega) (by rw [e48, (mq1.1 i ⟨i0_v, by omega⟩).1]; exact bI_01 _) ?_
                  refine zx_go (pc1 := 188) (l1 := [some (zr 32), some (zi n), some (zi kf), some (zi i)]) (st1 := [zi i, zr 49, zi ((1728 * n) + i), zr 47]) (w1 := wr c (zU R5 46 ((1728 * n) + i) (R5 48 i))) g_X6_routeNet 10 _ _ _ _ rfl ?_
                  refine gz_bald g_X6_routeNet rfl (n := 1728) rfl (by decide) rfl (by decide) (by omega) (by omega) ?_
                  refine gz_bast g_X6_routeNet rfl (n := 27648) rfl (by decide) (by refine ⟨?_, ?_, ?_, ?_, ?_⟩ <;> simp) (by decide) (by omega) (by omega) (by rw [zU_cell (by decide), e49, (mq1.1 i ⟨i0_v, by omega⟩).2]; exact bI_01 _) ?_
                  refine zx_go (pc1 := 146) (l1 := [some (zr 32), some (zi n), some (zi kf), some (zi (i + 1))]) (st1 := []) (w1 := wr c (zU (zU R5 46 ((1728 * n) + i) (R5 48 i)) 47 ((1728 * n) + i) ((zU R5 46 ((1728 * n) + i) (R5 48 i)) 49 i))) g_X6_routeNet 2 _ _ _ _ rfl ?_
                  refine ih146 (Int.toNat ((cS c : Int) - (i + 1))) (by omega) (i + 1) (zU (zU R5 46 ((1728 * n) + i) (R5 48 i)) 47 ((1728 * n) + i) ((zU R5 46 ((1728 * n) + i) (R5 48 i)) 49 i)) (by omega) ?_
                  refine ⟨by omega, by omega, ?_⟩
                  rw [zU_cell (show (49 : Nat) ≠ 46 by decide), e48, e49, i2_v, ch_step (P1 := fun b j => ((b = 46 ∨ b = 47) ∧ 1728 * n ≤ j ∧ j < 1728 * n + i) ∨ (b = 46 ∧ j = 1728 * n + i)) (by rw [pI_t rfl, show 1728 * n + i - 1728 * n = i by omega]) (fun b j => Iff.rfl)]
                  refine ch_step (by rw [pI_f (by decide), show 1728 * n + i - 1728 * n = i by omega]) fun b j => ?_
                  constructor
                  · rintro ⟨z1, z2, z3⟩
                    by_cases e : j = 1728 * n + i
                    · rcases z1 with z1 | z1
                      · exact .inl (.inr ⟨z1, e⟩)
                      · exact .inr ⟨z1, e⟩
                    · exact .inl (.inl ⟨z1, z2, by omega⟩)
                  · rintro ((⟨z1, z2, z3⟩ | ⟨z1, z2⟩) | ⟨z1, z2⟩)
                    · exact ⟨z1, z2, by omega⟩
                    · exact ⟨.inl z1, by omega, by omega⟩
                    · exact ⟨.inr z1, by omega, by omega⟩
              refine lp146 (Int.toNat ((cS c : Int) - 0)) 0 R1 (by omega) ?_
              refine ⟨by omega, by omega, (ch_none fun b j z => ?_).symm⟩
              omega
            · have kp_v := rem_pos nc h64
              have aG : aL c D n k x = cI (dne c D n x.1) (fnn n x) (cI (gE c D x.2.2 n False x.1 ≠ -1) (aL c D n (k - 1) (aW c D n False x)) (cI (gE c D x.2.2 n True x.1 ≠ -1) (aL c D n (k - 1) (aW c D n True x)) (fll n x.2.2))) := by
                obtain ⟨k2_v, rfl⟩ : ∃ k2_v, k = k2_v + 1 := ⟨k - 1, by omega⟩
                rfl
              rw [cI_f h64] at aG
              refine zx_go (pc1 := 69) (l1 := [some (zr 32), some (zi n), some (zi kf), o3_v]) (st1 := [zi n, zr 32]) (w1 := wr c R1) g_X6_routeNet 2 _ _ _ _ rfl ?_
              refine gx_cvU (As := [zi n]) (rest := []) g_X6_routeNet rfl g_X6_markAll rfl rfl (Nat.le_of_ble_eq_true rfl) (Nat.le_of_ble_eq_true rfl) rfl (by decide) (mt_mark hD ri1 mq1) (fun R69 hR69 => ?_)
              have hm69 : MDn c D R69 := mq1.2.1.of (fun a _ _ => hR69.1 a (by omega) (by omega))
              have mq69 := mq1.of hm69 (fun a h1 h2 => hR69.1 a (by omega) (by omega))
              have mc69 : MC x.2.2 R69 := by unfold MC; rw [hR69.1 32 (by decide) (by decide)]; exact mc1
              refine zx_go (pc1 := 74) (l1 := [some (zr 32), some (zi n), some (zi kf), o3_v]) (st1 := [zi 0, zr 32]) (w1 := wr c R69) g_X6_routeNet 2 _ _ _ _ rfl ?_
              refine gx_cvU (As := [zi 0]) (rest := []) g_X6_routeNet rfl g_X6_lower rfl rfl (Nat.le_of_ble_eq_true rfl) (Nat.le_of_ble_eq_true rfl) rfl (by decide) (mt_lower hD hPF (.inl rfl) ri1 (by omega) mq69 hR69.2) (fun R74 hR74 => ?_)
              have hm74 : MDn c D R74 := mq69.2.1.of (fun a _ _ => hR74.1 a (by omega))
              have mq74 := mq69.of hm74 (fun a h1 h2 => hR74.1 a (by omega))
              have mc74 : MC x.2.2 R74 := by unfold MC; rw [hR74.1 32 (by decide)]; exact mc69
              have gR0 := gE_R (n := n) (P := False) hD ri1.1
              have m5174 : ∀ p, pls c p → R74 50 p = bI (nearC c D n p) ∧ R74 51 p = bI (nearR c D (aR x.2.2) n p) := fun p hp => by rw [hR74.1 50 (by decide), hR74.1 51 (by decide)]; exact hR69.2 p hp
              have mf74 : MF R1 R74 := MF.cells (fun a ha_v => by rw [hR74.1 a (by omega), hR69.1 a (by omega) (by omega)])
              refine zx_go (pc1 := 79) (l1 := [some (zr 32), some (zi n), some (zi kf), o3_v]) (st1 := [zi n, zr 32]) (w1 := wr c R74) g_X6_routeNet 2 _ _ _ _ rfl ?_
              refine zx_cvF (As := [zi n]) (rest := []) g_X6_routeNet rfl g_X6_goal rfl rfl (Nat.le_of_ble_eq_true rfl) (Nat.le_of_ble_eq_true rfl) rfl (by decide) (mt_goal (P := False) hD ri1 mq74 hR74.2) ?_
              refine zx_go (pc1 := 85) (l1 := [some (zr 32), some (zi n), some (zi kf), some (zi (gE c D x.2.2 n False x.1))]) (st1 := [zi (-1), zi (gE c D x.2.2 n False x.1)]) (w1 := wr c R74) g_X6_routeNet 3 _ _ _ _ rfl ?_
              refine zx_cmp g_X6_routeNet rfl (by omega) (by omega) (fun (h85 : (gE c D x.2.2 n False x.1) = (-1)) => ?_) (fun (h85 : ¬ ((gE c D x.2.2 n False x.1) = (-1))) => ?_)
              · rw [cI_f (fun z => z h85)] at aG
                refine zx_go (pc1 := 103) (l1 := [some (zr 32), some (zi n), some (zi kf), some (zi (gE c D x.2.2 n False x.1))]) (st1 := [zi 1, zr 32]) (w1 := wr c R74) g_X6_routeNet 2 _ _ _ _ rfl ?_
                refine gx_cvU (As := [zi 1]) (rest := []) g_X6_routeNet rfl g_X6_lower rfl rfl (Nat.le_of_ble_eq_true rfl) (Nat.le_of_ble_eq_true rfl) rfl (by decide) (mt_lower hD hPT (.inr rfl) ri1 (by omega) mq74 m5174) (fun R103 hR103 => ?_)
                have hm103 : MDn c D R103 := mq74.2.1.of (fun a _ _ => hR103.1 a (by omega))
                have mq103 := mq74.of hm103 (fun a h1 h2 => hR103.1 a (by omega))
                have mc103 : MC x.2.2 R103 := by unfold MC; rw [hR103.1 32 (by decide)]; exact mc74
                have gR1 := gE_R (n := n) (P := True) hD ri1.1
                have m51103 : ∀ p, pls c p → R103 51 p = bI (nearR c D (aR x.2.2) n p) := fun p hp => by rw [hR103.1 51 (by decide)]; exact (m5174 p hp).2
                have mf103 : MF R1 R103 := mf74.trans (MF.cells (fun a ha_v => hR103.1 a (by omega)))
                refine zx_go (pc1 := 108) (l1 := [some (zr 32), some (zi n), some (zi kf), some (zi (gE c D x.2.2 n False x.1))]) (st1 := [zi n, zr 32]) (w1 := wr c R103) g_X6_routeNet 2 _ _ _ _ rfl ?_
                refine zx_cvF (As := [zi n]) (rest := []) g_X6_routeNet rfl g_X6_goal rfl rfl (Nat.le_of_ble_eq_true rfl) (Nat.le_of_ble_eq_true rfl) rfl (by decide) (mt_goal (P := True) hD ri1 mq103 hR103.2) ?_
                refine zx_go (pc1 := 114) (l1 := [some (zr 32), some (zi n), some (zi kf), some (zi (gE c D x.2.2 n True x.1))]) (st1 := [zi (-1), zi (gE c D x.2.2 n True x.1)]) (w1 := wr c R103) g_X6_routeNet 3 _ _ _ _ rfl ?_
                refine zx_cmp g_X6_routeNet rfl (by omega) (by omega) (fun (h114 : (gE c D x.2.2 n True x.1) ≠ (-1)) => ?_) (fun (h114 : ¬ ((gE c D x.2.2 n True x.1) ≠ (-1))) => ?_)
                · have hgE : gE c D x.2.2 n True x.1 ≠ -1 := h114
                  rw [cI_t hgE] at aG
                  refine zx_go (pc1 := 132) (l1 := [some (zr 32), some (zi n), some (zi kf), some (zi (gE c D x.2.2 n True x.1))]) (st1 := [zi ((R103 32 24) + 1), zr 32]) (w1 := wr c R103) g_X6_routeNet 5 _ _ _ _ rfl ?_
                  refine gz_put 24 g_X6_routeNet rfl rfl rfl (by decide) rfl (by refine ⟨?_, ?_, ?_, ?_, ?_⟩ <;> simp) ?_
                  refine zx_go (pc1 := 138) (l1 := [some (zr 32), some (zi n), some (zi kf), some (zi (gE c D x.2.2 n True x.1))]) (st1 := [zi (gE c D x.2.2 n True x.1), zi n, zr 32]) (w1 := wr c (zU R103 32 24 ((R103 32 24) + 1))) g_X6_routeNet 3 _ _ _ _ rfl ?_
                  refine gx_cvU (As := [zi n, zi (gE c D x.2.2 n True x.1)]) (rest := []) g_X6_routeNet rfl g_X6_take rfl rfl (Nat.le_of_ble_eq_true rfl) (Nat.le_of_ble_eq_true rfl) rfl (by decide) (mt_take (P := True) hD ri1 (by omega) mq103 m51103 hR103.2 hgE mc103 (.inr ⟨rfl, trivial⟩) rfl) (fun R138 hR138 => ?_)
                  have hmf : MF R1 R138 := mf103.trans hR138.1
                  refine zx_go (pc1 := 59) (l1 := [some (zr 32), some (zi n), some (zi kf), some (zi (gE c D x.2.2 n True x.1))]) (st1 := []) (w1 := wr c R138) g_X6_routeNet 1 _ _ _ _ rfl ?_
                  have rw1 := rem_W hD ri1 hgE
                  have rmN : cnt (fun j => D 11 j = n ∧ ¬ (R138 48 (pp c D j) = 1)) (D 10 2).toNat = rem c D n (aW c D n True x).1 := rm_eq hD nc hR138.2.1
                  have rmO : cnt (fun j => D 11 j = n ∧ ¬ (R1 48 (pp c D j) = 1)) (D 10 2).toNat = rem c D n x.1 := rm_eq hD nc mq1
                  have rm0_v := (rem_le (n := n) (t := (aW c D n True x).1) hD).1
                  refine ih59 (Int.toNat (cnt (fun j => D 11 j = n ∧ ¬ (R138 48 (pp c D j) = 1)) (D 10 2).toNat)) (by omega) R138 (some (zi (gE c D x.2.2 n True x.1))) (by omega) ?_
                  refine ⟨rf1.trans hmf, k - 1, aW c D n True x, hR138.2.1, hR138.2.2, ?_, by omega, ?_, by omega⟩
                  · have st_v := RI_step hD ri1 hgE
                    rw [show B + (40 - ((k - 1 : Nat) : Int)) = B + (40 - (k : Int)) + 1 by omega]
                    exact st_v
                  · rw [← al1, aG]
                · refine zx_go (pc1 := 123) (l1 := [some (zr 32), some (zi n), some (zi kf), some (zi (gE c D x.2.2 n True x.1))]) (st1 := [zi 2, zi n, zr 44]) (w1 := wr c R103) g_X6_routeNet 4 _ _ _ _ rfl ?_
                  refine gz_iast g_X6_routeNet rfl (n := 16) rfl (by decide) (by refine ⟨?_, ?_, ?_, ?_, ?_⟩ <;> simp) (by decide) (by omega) (by omega) ?_
                  refine zx_vret g_X6_routeNet rfl ?_
                  rw [cI_f (fun z => z (Classical.not_not.mp h114))] at aG
                  refine gU_i ⟨(rf1.trans mf103).trans (MF.cells (fun a ha_v => zU_cell (by omega))), ?_, ?_⟩
                  · rw [← al1, aG]; exact ms_fll ri1 mq103.2 rfl
                  · rw [← al1, aG]; unfold MC; rw [zU_cell (by decide)]; exact mc103
              · have hgE : gE c D x.2.2 n False x.1 ≠ -1 := h85
                rw [cI_t hgE] at aG
                refine zx_go (pc1 := 95) (l1 := [some (zr 32), some (zi n), some (zi kf), some (zi (gE c D x.2.2 n False x.1))]) (st1 := [zi ((R74 32 23) + 1), zr 32]) (w1 := wr c R74) g_X6_routeNet 5 _ _ _ _ rfl ?_
                refine gz_put 23 g_X6_routeNet rfl rfl rfl (by decide) rfl (by refine ⟨?_, ?_, ?_, ?_, ?_⟩ <;> simp) ?_
                refine zx_go (pc1 := 138) (l1 := [some (zr 32), some (zi n), some (zi kf), some (zi (gE c D x.2.2 n False x.1))]) (st1 := [zi (gE c D x.2.2 n False x.1), zi n, zr 32]) (w1 := wr c (zU R74 32 23 ((R74 32 23) + 1))) g_X6_routeNet 4 _ _ _ _ rfl ?_
                refine gx_cvU (As := [zi n, zi (gE c D x.2.2 n False x.1)]) (rest := []) g_X6_routeNet rfl g_X6_take rfl rfl (Nat.le_of_ble_eq_true rfl) (Nat.le_of_ble_eq_true rfl) rfl (by decide) (mt_take (P := False) hD ri1 (by omega) mq74 (fun p hp => (m5174 p hp).2) hR74.2 hgE mc74 (.inl ⟨rfl, id⟩) rfl) (fun R138 hR138 => ?_)
                have hmf : MF R1 R138 := mf74.trans hR138.1
                refine zx_go (pc1 := 59) (l1 := [some (zr 32), some (zi n), some (zi kf), some (zi (gE c D x.2.2 n False x.1))]) (st1 := []) (w1 := wr c R138) g_X6_routeNet 1 _ _ _ _ rfl ?_
                have rw1 := rem_W hD ri1 hgE
                have rmN : cnt (fun j => D 11 j = n ∧ ¬ (R138 48 (pp c D j) = 1)) (D 10 2).toNat = rem c D n (aW c D n False x).1 := rm_eq hD nc hR138.2.1
                have rmO : cnt (fun j => D 11 j = n ∧ ¬ (R1 48 (pp c D j) = 1)) (D 10 2).toNat = rem c D n x.1 := rm_eq hD nc mq1
                have rm0_v := (rem_le (n := n) (t := (aW c D n False x).1) hD).1
                refine ih59 (Int.toNat (cnt (fun j => D 11 j = n ∧ ¬ (R138 48 (pp c D j) = 1)) (D 10 2).toNat)) (by omega) R138 (some (zi (gE c D x.2.2 n False x.1))) (by omega) ?_
                refine ⟨rf1.trans hmf, k - 1, aW c D n False x, hR138.2.1, hR138.2.2, ?_, by omega, ?_, by omega⟩
                · have st_v := RI_step hD ri1 hgE
                  rw [show B + (40 - ((k - 1 : Nat) : Int)) = B + (40 - (k : Int)) + 1 by omega]
                  exact st_v
                · rw [← al1, aG]
          refine lp59 (Int.toNat (cnt (fun j => D 11 j = n ∧ ¬ ((zU R0 48 (mpp R0 kf) 1) 48 (pp c D j) = 1)) (D 10 2).toNat)) (zU R0 48 (mpp R0 kf) 1) none (by omega) ?_
          refine ⟨MF.cells (fun a ha_v => by rw [zU_cell (by omega)]; exact fr0 a (by omega) (by omega)), 40, (fun p => p = strt c D n, fun _ => False, s), ⟨fun p hp => ⟨?_, ?_⟩, ?_⟩, ?_, ?_, by omega, rfl, (rem_le hD).2⟩
          · rw [zU_row, mp_v, ← stk]
            by_cases e : p = strt c D n
            · rw [e, up1_s]; exact (bI_t rfl).symm
            · rw [up1_n e, (z0 p hp.1 (by have := hp.2; omega)).1]; exact (bI_f e).symm
          · rw [zU_cell (by decide), (z0 p hp.1 (by have := hp.2; omega)).2]; exact (bI_f id).symm
          · exact hs.of (hm0.of (fun a _ _ => zU_cell (by omega))) (fun a h1 h2 => by rw [zU_cell (by omega)]; exact fr0 a (by omega) (by omega))
          · unfold MC; rw [zU_cell (by decide), fr0 32 (by decide) (by decide)]; exact hcn
          · rw [show B + (40 - ((40 : Nat) : Int)) = B by omega]; exact RI_0 hD hA n0 n1 nc nj
        · refine zx_go (pc1 := 32) (l1 := [some (zr 32), some (zi n), some (zi (kf + 1)), none]) (st1 := []) (w1 := wr c R0) g_X6_routeNet 2 _ _ _ _ rfl ?_
          skip
          refine ih32 (Int.toNat (D 10 2 - (kf + 1))) (by omega) (kf + 1) (by omega) ?_
          refine ⟨by omega, fun j j0 j1 => ?_⟩
          by_cases e : j = kf
          · rw [e, ← e38]; exact h39
          · exact nk j j0 (by omega)
      refine lp32 (Int.toNat (D 10 2 - 0)) 0 (by omega) ?_
      exact ⟨by omega, fun j j0 j1 => by omega⟩
    · refine zx_go (pc1 := 16) (l1 := [some (zr 32), some (zi n), some (zi i), none]) (st1 := [zi 0, zi i, zr 48]) (w1 := wr c R0) g_X6_routeNet 4 _ _ _ _ rfl ?_
      refine gz_bast g_X6_routeNet rfl (n := 1728) rfl (by decide) (by refine ⟨?_, ?_, ?_, ?_, ?_⟩ <;> simp) (by decide) (by omega) (by omega) (.inl rfl) ?_
      refine zx_go (pc1 := 23) (l1 := [some (zr 32), some (zi n), some (zi i), none]) (st1 := [zi 0, zi i, zr 49]) (w1 := wr c (zU R0 48 i 0)) g_X6_routeNet 4 _ _ _ _ rfl ?_
      refine gz_bast g_X6_routeNet rfl (n := 1728) rfl (by decide) (by refine ⟨?_, ?_, ?_, ?_, ?_⟩ <;> simp) (by decide) (by omega) (by omega) (.inl rfl) ?_
      refine zx_go (pc1 := 2) (l1 := [some (zr 32), some (zi n), some (zi (i + 1)), none]) (st1 := []) (w1 := wr c (zU (zU R0 48 i 0) 49 i 0)) g_X6_routeNet 2 _ _ _ _ rfl ?_
      refine ih2 (Int.toNat ((cS c : Int) - (i + 1))) (by omega) (i + 1) (zU (zU R0 48 i 0) 49 i 0) (by omega) ?_
      refine ⟨by omega, by omega, fun a h1 h2 => by rw [zU_cell h2, zU_cell h1]; exact fr0 a h1 h2, fun p a b => ?_⟩
      rw [(zU2 (by decide)).1, (zU2 (by decide)).2]
      by_cases e : p = i
      · rw [e, up1_s, up1_s]; exact ⟨rfl, rfl⟩
      · rw [up1_n e, up1_n e]; exact z0 p a (by omega)
  refine lp2 (Int.toNat ((cS c : Int) - 0)) 0 R (by omega) ?_
  exact ⟨by omega, by omega, fun _ _ _ => rfl, fun p a b => by omega⟩

