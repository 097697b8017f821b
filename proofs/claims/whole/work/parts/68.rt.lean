/-! ===== contracts (9): a net is routed ===== -/
def Din (D R : zI) : Prop := R 3 = D 3 ∧ R 4 = D 4 ∧ R 5 = D 5 ∧ R 9 = D 9 ∧ R 10 = D 10 ∧ R 11 = D 11 ∧ R 12 = D 12 ∧ R 13 = D 13 ∧ R 14 = D 14
def CE (c : zC) (D : zI) (s : aS) (R : zI) : Prop := Din D R ∧ (∀ k, 0 ≤ k → k < D 10 2 → R 16 k = pk c D k) ∧ ES c D (R 18) (R 19) (R 20) (pin c D) ∧ ES c D (R 22) (R 23) (R 24) (aR s) ∧ EB c (R 30) (aU s) ∧ (∀ p, pls c p → R 29 p = aP s p) ∧ M16 (R 15 10) ∧ M16 (R 15 11) ∧ M16 (R 15 12) ∧ (∀ b, 0 ≤ b → b < 16 → (tb (R 15 10) b ↔ clo c D b) ∧ (tb (R 15 11) b ↔ aJ s b) ∧ (tb (R 15 12) b ↔ aF s b)) ∧ R 15 13 = aN s ∧ R 15 14 = aA s ∧ R 15 15 = aT s
def RF (R R2 : zI) : Prop := ∀ a : Nat, (a ≤ 14 ∨ 32 ≤ a) → R2 a = R a
theorem RF.trans {R R1 R2 : zI} (h : RF R R1) (h1 : RF R1 R2) : RF R R2 := fun a ha_v => (h1 a ha_v).trans (h a ha_v)
theorem hit_mix {c : zC} {D : zI} {n b p : Int} {t : Int → Prop} {rt : Int → Int → Prop} : hitP c D (mix n t rt) n b p ↔ hitP c D rt n b p ∧ b ≠ n := by
  constructor
  · rintro ⟨q, q0, (⟨z1, z2⟩ | ⟨z1, z2⟩), q2_v⟩
    · exact absurd z1.symm q2_v.1
    · exact ⟨⟨q, q0, z2, q2_v⟩, z1⟩
  · rintro ⟨⟨q, q0, q1_v, q2_v⟩, z⟩
    exact ⟨q, q0, .inr ⟨z, q1_v⟩, q2_v⟩
theorem mix_R {n b q : Int} {t : Int → Prop} {rt : Int → Int → Prop} {N : Int} (n0 : 0 ≤ n) (n1 : n < N) (h : ∀ b q, rt b q → 0 ≤ b ∧ b < N) (hm : mix n t rt b q) : 0 ≤ b ∧ b < N := by
  rcases hm with ⟨z1, z2⟩ | ⟨z1, z2⟩
  · rw [z1]; exact ⟨n0, n1⟩
  · exact h b q z2
theorem ce_ent {c : zC} {D R : zI} {n tr B : Int} {P : Prop} {x : aX} (hD : DOK c D) (hP : tr ≠ 0 ↔ P) (hr : RI c D n x B) (hc : CE c D (mixs n x) R) : ∀ p, pls c p → entv R n p tr = cI (opn c D x.2.2 n P p) (ext c D x.2.2 n p) (-1) := by
  intro p hp
  obtain ⟨hA, n0, n1, nc, nj, tp, np⟩ := hr
  obtain ⟨⟨d3_v, d4_v, d5_v, d9_v, d10_v, -⟩, hk, e1_v, e2_v, e3_v, e4_v, -⟩ := hc
  have n16 := hD.2.1
  have k1 : clv (R 19) (R 20) n p (R 10 1) ≠ 0 ↔ nearC c D n p := by
    rw [d10_v, es_clv0 e1_v (fun b q z => by have := pin_R hD z; omega) hp n0 (by omega)]
    exact ⟨fun ⟨b, q, q0, q1_v, q2_v⟩ => ⟨b, q, q1_v, q2_v⟩, fun ⟨b, q, q1_v, q2_v⟩ => ⟨b, q, (pin_R hD q1_v).2.2.1, q1_v, q2_v⟩⟩
  have k2_v : clv (R 23) (R 24) n p (R 10 1) ≠ 0 ↔ nearR c D (aR x.2.2) n p := by
    rw [d10_v, es_clv0 e2_v (fun b q z => by have := mix_R n0 n1 (fun b q z => ⟨(hA.1 b q z).1, (hA.1 b q z).2.1⟩) z; omega) hp n0 (by omega)]
    constructor
    · rintro ⟨b, z⟩
      obtain ⟨⟨q, q0, q1_v, q2_v⟩, z2⟩ := hit_mix.mp z
      exact ⟨b, q, q0, q1_v, q2_v⟩
    · rintro ⟨b, q, q0, q1_v, q2_v⟩
      exact ⟨b, hit_mix.mpr ⟨⟨q, q0, q1_v, q2_v⟩, fun z => q2_v.1 z.symm⟩⟩
  have k3_v : R 29 p = aP x.2.2 p := e4_v p hp
  unfold entv
  rw [d9_v]
  by_cases a1_v : D 9 p = 0
  · by_cases a2 : nearC c D n p
    · rw [pI_t (.inr (k1.mpr a2)), cI_f (fun z => z.2.1 a2)]
    · rw [pI_f (fun z => z.elim (fun y => y a1_v) (fun y => a2 (k1.mp y)))]
      by_cases a3 : nearR c D (aR x.2.2) n p
      · rw [pI_f (k2_v.mpr a3)]
        by_cases a4 : tr ≠ 0
        · rw [pI_t a4, cI_t ⟨a1_v, a2, .inl (hP.mp a4)⟩, k3_v]
          unfold ext
          rw [pI_t a3]
        · rw [pI_f a4, cI_f (fun z => z.2.2.elim (fun y => a4 (hP.mpr y)) (fun y => y a3))]
      · rw [pI_t (Classical.byContradiction fun z => a3 (k2_v.mp z)), cI_t ⟨a1_v, a2, .inr a3⟩, k3_v]
        unfold ext
        rw [pI_f a3, Int.add_zero]
  · rw [pI_t (.inl a1_v), cI_f (fun z => a1_v z.1)]
theorem ce_goal {c : zC} {D R : zI} {n B : Int} {x : aX} (hD : DOK c D) (hr : RI c D n x B) (hc : CE c D (mixs n x) R) : (∀ p, pls c p → (tb (R 22 p) n ↔ x.1 p)) ∧ ∀ p, pls c p → (tb (zand (R 18 p) (zxor (R 22 p) (-1))) n ↔ (pin c D n p ∧ ¬ x.1 p)) := by
  obtain ⟨hA, n0, n1, nc, nj, tp, np⟩ := hr
  obtain ⟨-, hk, e1_v, e2_v, -⟩ := hc
  have n16 := hD.2.1
  have k : ∀ p, pls c p → (tb (R 22 p) n ↔ x.1 p) := fun p hp => by
    rw [((e2_v p hp).2.2.2 n n0 (by omega)).1]
    exact ⟨fun z => z.elim (fun y => y.2) (fun y => absurd rfl y.1), fun z => .inl ⟨rfl, z⟩⟩
  refine ⟨k, fun p hp => ?_⟩
  rw [tb_and n0 (by omega), tb_not n0 (by omega), k p hp, ((e1_v p hp).2.2.2 n n0 (by omega)).1]
theorem Din.of {D R R2 : zI} (h : Din D R) (hf : RF R R2) : Din D R2 := by
  obtain ⟨a3, a4, a5, a9, a10, a11, a12, a13, a14⟩ := h
  unfold Din
  rw [hf 3 (by omega), hf 4 (by omega), hf 5 (by omega), hf 9 (by omega), hf 10 (by omega), hf 11 (by omega), hf 12 (by omega), hf 13 (by omega), hf 14 (by omega)]
  exact ⟨a3, a4, a5, a9, a10, a11, a12, a13, a14⟩
theorem t_out {c : zC} {D R : zI} {n : Int} {s : aS} (hD : DOK c D) (nR : inR n) (hc : CE c D s R) : MZ m_X3_placeOutside [zr 15, zi n] (wr c R) (qF (zi (outp R n (kth (outs R n) (R 10 2).toNat 0 0))) (wr c R)) := by
  obtain ⟨⟨d3_v, d4_v, d5_v, d9_v, d10_v, d11_v, d12_v, d13_v, d14_v⟩, hk, -⟩ := hc
  have pp0 := hD.2.2.1
  have nn := hD.2.1
  refine s_placeOutside hD.1 nR (by rw [d10_v]; exact pp0.1) (by rw [d10_v]; exact pp0.2) (fun k k0 k1 => ?_) (fun k k0 k1 => ?_) (fun k k0 k1 k2_v => ?_)
  · rw [d10_v] at k1
    have := hD.2.2.2.2.2.2.1 k k0 k1
    rw [d11_v]; omega
  · rw [d10_v] at k1
    have := pk_R hD k0 k1
    rw [hk k k0 k1]; omega
  · rw [d10_v] at k1
    have a := pk_R hD k0 k1
    rw [hk k k0 k1] at k2_v ⊢
    rw [d14_v]
    exact (a.2.2 k2_v).1
theorem ce_outs {c : zC} {D R : zI} {n : Int} {s : aS} (hD : DOK c D) (n0 : 0 ≤ n) (n1 : n < D 10 0) (nc : ¬ clo c D n) (hc : CE c D s R) {k : Int} (k0 : 0 ≤ k) (k1 : k < D 10 2) : outs R n k ↔ (D 11 k = n ∧ ¬ aR s n (pp c D k)) := by
  obtain ⟨⟨d3_v, d4_v, d5_v, d9_v, d10_v, d11_v, d12_v, d13_v, d14_v⟩, hk, e1_v, e2_v, -⟩ := hc
  have nn := hD.2.1
  unfold outs
  rw [d11_v, d14_v, hk k k0 k1]
  constructor
  · rintro ⟨z1, z2, z3⟩
    have := ((pk_R hD k0 k1).2.2 z2).1
    exact ⟨z1, fun y => z3 (((e2_v _ this).2.2.2 n n0 (by omega)).1.mpr y)⟩
  · rintro ⟨z1, z2⟩
    have z3 : pk c D k ≠ -1 := fun y => nc ⟨k, k0, k1, z1, y⟩
    have := ((pk_R hD k0 k1).2.2 z3).1
    exact ⟨z1, z3, fun y => z2 (((e2_v _ this).2.2.2 n n0 (by omega)).1.mp y)⟩
/-- no place outside: all pins are in the tree -/
theorem ce_out {c : zC} {D R : zI} {n B : Int} {x : aX} (hD : DOK c D) (hr : RI c D n x B) (hc : CE c D (mixs n x) R) : outp R n (kth (outs R n) (R 10 2).toNat 0 0) = -1 ↔ dne c D n x.1 := by
  have hr2 := hr
  obtain ⟨hA, n0, n1, nc, nj, tp, np⟩ := hr
  have pp0 := hD.2.2.1
  have e10_v : R 10 = D 10 := hc.1.2.2.2.2.1
  have e14_v : R 14 = D 14 := hc.1.2.2.2.2.2.2.2.2
  have o := fun k k0 k1 => ce_outs (k := k) hD n0 n1 nc hc k0 k1
  have mx_v : ∀ p, aR (mixs n x) n p ↔ x.1 p := fun p => ⟨fun z => z.elim (fun y => y.2) (fun y => absurd rfl y.1), fun z => .inl ⟨rfl, z⟩⟩
  rw [e10_v]
  constructor
  · intro h p hp
    obtain ⟨k, k0, k1, k2_v, k3_v, k4_v⟩ := hp
    have kn_v : kth (outs R n) (D 10 2).toNat 0 0 = -1 := Classical.byContradiction fun q => by
      rcases kth_lt (P := outs R n) (D 10 2).toNat 0 0 with z | ⟨z1, z2, z3⟩
      · exact q z
      · have a := (o _ z1 (by omega)).mp z3
        have b := z3.2.1
        have := hc.2.1 _ z1 (show _ < D 10 2 by omega)
        have w := (pk_R hD z1 (show _ < D 10 2 by omega)).2.2 (by rw [← this]; exact b)
        unfold outp at h
        rw [if_neg (by omega), e14_v, this] at h
        have := w.1.1
        unfold pp at this
        omega
    have := kth_none _ 0 (by omega) kn_v k k0 (by omega)
    rw [o k k0 k1] at this
    rw [← k4_v, ← mx_v]
    exact Classical.byContradiction fun z => this ⟨k2_v, z⟩
  · intro h
    have kn_v : kth (outs R n) (D 10 2).toNat 0 0 = -1 := by
      rcases kth_lt (P := outs R n) (D 10 2).toNat 0 0 with z | ⟨z1, z2, z3⟩
      · exact z
      · have a := (o _ z1 (by omega)).mp z3
        refine absurd ((mx_v _).mpr (h _ ⟨_, z1, by omega, a.1, fun y => nc ⟨_, z1, by omega, a.1, y⟩, rfl⟩)) a.2
    rw [kn_v]
    rfl
theorem ce_strt {c : zC} {D R : zI} {n B : Int} {s : aS} (hD : DOK c D) (hA : AI c D s B) (n0 : 0 ≤ n) (n1 : n < D 10 0) (nc : ¬ clo c D n) (nj : ¬ aJ s n) (hc : CE c D s R) : outp R n (kth (outs R n) (R 10 2).toNat 0 0) = strt c D n ∧ pin c D n (strt c D n) := by
  have pp0 := hD.2.2.1
  have e10_v : R 10 = D 10 := hc.1.2.2.2.2.1
  have e14_v : R 14 = D 14 := hc.1.2.2.2.2.2.2.2.2
  have o := fun k k0 k1 => ce_outs (k := k) hD n0 n1 nc hc k0 k1
  have np := hA.2.1 n n0 n1 nc nj
  refine ⟨?_, strt_ok hD nc np⟩
  have e : kth (outs R n) (D 10 2).toNat 0 0 = kth (fun k => D 11 k = n) (D 10 2).toNat 0 0 := kth_congr _ _ _ fun j j0 j1 => by
    rw [o j j0 (by omega)]
    exact ⟨fun z => z.1, fun z => ⟨z, fun y => nj (hA.1 n _ y).2.2.2.1⟩⟩
  rw [e10_v, e]
  unfold strt outp pp
  rcases kth_lt (P := fun k => D 11 k = n) (D 10 2).toNat 0 0 with z | ⟨z1, z2, z3⟩
  · obtain ⟨k, k0, k1, k2_v⟩ := np
    exact absurd k2_v (kth_none _ 0 (by omega) z k k0 (by omega))
  · rw [if_neg (by omega), e14_v, hc.2.1 _ z1 (by omega)]
/-- one way found -/
theorem t_find {c : zC} {D R : zI} {n tr B : Int} {P : Prop} {x : aX} (hD : DOK c D) (hP : tr ≠ 0 ↔ P) (htr : tr = 0 ∨ tr = 1) (hr : RI c D n x B) (hB : B ≤ 5120) (hc : CE c D (mixs n x) R) : MZ m_X3_findEnd [zr 15, zi n, zi tr] (wr c R) (gR (fun v R2 => (∀ a, a ≠ 25 → a ≠ 26 → a ≠ 27 → a ≠ 28 → R2 a = R a) ∧ v = gE c D x.2.2 n P x.1 ∧ (v ≠ -1 → TR c (fd c D x.2.2 n P x.1) (R2 26) v ∧ ∀ q, pls c q → 0 ≤ R2 26 q ∧ R2 26 q ≤ 1000000000)) c) := by
  have g_v := ce_goal hD hr hc
  have hf := fd_Dst (n := n) (tr := P) hD hr.1
  refine MZ.mono (s_findEnd (G := fun p => pin c D n p ∧ ¬ x.1 p) hD hc.1.2.1 hc.1.2.2.1 hc.1.2.2.2.1 (ce_ent hD hP hr hc) (fun p hp => ⟨ext_0 hr.1 p hp, by have := ext_B (n := n) hr.1 p hp; omega⟩) htr g_v.1 g_v.2 hf) ?_
  rintro o w ⟨v, R2, rfl, rfl, hF, h⟩
  refine ⟨v, R2, rfl, rfl, hF, ?_⟩
  rcases h with ⟨h1, h2⟩ | ⟨h1, h2, h3, h4, h5, h6⟩
  · refine ⟨?_, fun z => absurd h1 z⟩
    rw [h1]
    exact (gl_no (fun p hp => h2 p hp.1 hp.2.1 hp.2.2)).symm
  · refine ⟨?_, fun _ => ⟨h5, h6⟩⟩
    exact (gl_eq ⟨h1, h2, h3⟩ (fun p hp => h4 p hp.1 hp.2.1 hp.2.2)).symm
theorem CE.front {c : zC} {D R R2 : zI} {s : aS} (hc : CE c D s R) (hF : ∀ a, a ≠ 25 → a ≠ 26 → a ≠ 27 → a ≠ 28 → R2 a = R a) : CE c D s R2 ∧ RF R R2 := by
  have rf : RF R R2 := fun a ha_v => hF a (by omega) (by omega) (by omega) (by omega)
  refine ⟨⟨hc.1.of rf, ?_⟩, rf⟩
  rw [hF 15 (by decide) (by decide) (by decide) (by decide), hF 16 (by decide) (by decide) (by decide) (by decide), hF 18 (by decide) (by decide) (by decide) (by decide), hF 19 (by decide) (by decide) (by decide) (by decide), hF 20 (by decide) (by decide) (by decide) (by decide), hF 22 (by decide) (by decide) (by decide) (by decide), hF 23 (by decide) (by decide) (by decide) (by decide), hF 24 (by decide) (by decide) (by decide) (by decide), hF 29 (by decide) (by decide) (by decide) (by decide), hF 30 (by decide) (by decide) (by decide) (by decide)]
  exact hc.2
theorem CE.way {c : zC} {D R R2 : zI} {s : aS} (hc : CE c D s R) (hF : ∀ a, a ≠ 15 → a ≠ 31 → R2 a = R a) (h15 : ∀ j, j ≠ 9 → R2 15 j = R 15 j) : CE c D s R2 ∧ RF R R2 := by
  have rf : RF R R2 := fun a ha_v => hF a (by omega) (by omega)
  refine ⟨⟨hc.1.of rf, ?_⟩, rf⟩
  rw [hF 16 (by decide) (by decide), hF 18 (by decide) (by decide), hF 19 (by decide) (by decide), hF 20 (by decide) (by decide), hF 22 (by decide) (by decide), hF 23 (by decide) (by decide), hF 24 (by decide) (by decide), hF 29 (by decide) (by decide), hF 30 (by decide) (by decide), h15 10 (by decide), h15 11 (by decide), h15 12 (by decide), h15 13 (by decide), h15 14 (by decide), h15 15 (by decide)]
  exact hc.2

def WF (c : zC) (D : zI) (n : Int) (P : Prop) (x : aX) (m : Nat) (R : zI) : Prop := (∀ j, j < m → ¬ x.1 (wE c D x.2.2 n P x.1 j)) ∧ x.1 (wE c D x.2.2 n P x.1 m) ∧ R 15 9 = (m : Int) + 1 ∧ ∀ j : Nat, j ≤ m → R 31 j = wE c D x.2.2 n P x.1 j
noncomputable def tS (c : zC) (D : zI) (n : Int) (P : Prop) (x : aX) : aS := (fun b q => aR x.2.2 b q ∧ ¬ los c D (aR x.2.2) n x.1 (wE c D x.2.2 n P x.1) b, fun b q => aU x.2.2 b q ∧ ¬ los c D (aR x.2.2) n x.1 (wE c D x.2.2 n P x.1) b, aP (aW c D n P x).2.2, fun b => aJ x.2.2 b ∧ ¬ los c D (aR x.2.2) n x.1 (wE c D x.2.2 n P x.1) b, aF x.2.2, aN x.2.2, aA x.2.2, aT x.2.2)
section WFS
variable {c : zC} {D R : zI} {n tr B : Int} {P : Prop} {x : aX} {m : Nat}
theorem t_trace (hD : DOK c D) (hP : tr ≠ 0 ↔ P) (htr : tr = 0 ∨ tr = 1) (hr : RI c D n x B) (hB : B ≤ 5120) (hc : CE c D (mixs n x) R) {v : Int} (hv : v = gE c D x.2.2 n P x.1) (hv1 : v ≠ -1) (hT : TR c (fd c D x.2.2 n P x.1) (R 26) v) (hco : ∀ q, pls c q → 0 ≤ R 26 q ∧ R 26 q ≤ 1000000000) : MZ m_X3_traceBack [zr 15, zi n, zi v, zi tr] (wr c R) (gU (fun R2 => RF R R2 ∧ CE c D (mixs n x) R2 ∧ ∃ m, WF c D n P x m R2) c) := by
  have hg := gE_ok (n := n) (tr := P) (x := x) hD hr.1 (by rw [← hv]; exact hv1)
  rw [← hv] at hg
  refine MZ.mono (s_traceBack hD hc.1.2.1 hc.1.2.2.1 hc.1.2.2.2.1 (ce_ent hD hP hr hc) (fun p hp => ⟨ext_0 hr.1 p hp, by have := ext_B (n := n) hr.1 p hp; omega⟩) htr (fd_Dst (n := n) (tr := P) hD hr.1) hg.1 hg.2.2 hT hco) ?_
  rintro o w ⟨R2, rfl, rfl, f1_v, f2_v, m, m1_v, m2_v, m3_v, m4_v⟩
  obtain ⟨k1, k2_v⟩ := hc.way f1_v f2_v
  rw [hv] at m1_v m2_v m4_v
  exact ⟨R2, rfl, rfl, k2_v, k1, m, m1_v, m2_v, m3_v, m4_v⟩
theorem wf_in (hD : DOK c D) (hr : RI c D n x B) (hg : gE c D x.2.2 n P x.1 ≠ -1) (hw : WF c D n P x m R) : (∀ j : Nat, j ≤ m → R 31 j = wE c D x.2.2 n P x.1 j ∧ pls c (wE c D x.2.2 n P x.1 j)) ∧ (m : Int) < (cS c : Int) ∧ (∀ i j : Nat, i ≤ m → j ≤ m → wE c D x.2.2 n P x.1 i = wE c D x.2.2 n P x.1 j → i = j) := by
  have g_v := gE_ok (n := n) (tr := P) (x := x) hD hr.1 hg
  have hf := fd_Dst (n := n) (tr := P) hD hr.1
  refine ⟨fun j hj => ⟨hw.2.2.2 j hj, (wy_in hD (ext_0 hr.1) hf g_v.1 g_v.2.2 j (fun i hi_v => hw.1 i (by omega))).1⟩, ?_, fun i j hi_v hj he => wy_inj hD (ext_0 hr.1) hf g_v.1 g_v.2.2 hw.1 hi_v hj he⟩
  have := wy_room hD (ext_0 hr.1) hf g_v.1 g_v.2.2 hw.1
  omega
theorem wf_on (hw : WF c D n P x m R) (k : Nat) : onw x.1 (wE c D x.2.2 n P x.1) k ↔ k < m := by
  constructor
  · intro h
    by_cases q : k < m
    · exact q
    · exact absurd hw.2.1 (h m (by omega))
  · intro h j hj
    exact hw.1 j (by omega)
theorem wf_los (hr : RI c D n x B) (hw : WF c D n P x m R) (b : Int) : lose c D (aR (mixs n x)) n (wE c D x.2.2 n P x.1) m b ↔ los c D (aR x.2.2) n x.1 (wE c D x.2.2 n P x.1) b := by
  constructor
  · rintro ⟨j, j0, j1⟩
    obtain ⟨z1, z2⟩ := hit_mix.mp j1
    by_cases e : j = m
    · subst e
      obtain ⟨q, q0, q1_v, q2_v⟩ := z1
      exact absurd ⟨b, q, q0, q1_v, q2_v⟩ (hr.2.2.2.2.2.1 _ hw.2.1).2.2
    · exact ⟨j, (wf_on hw j).mpr (by omega), z1⟩
  · rintro ⟨k, k0, k1⟩
    have := (wf_on hw k).mp k0
    exact ⟨k, by omega, hit_mix.mpr ⟨k1, fun z => by obtain ⟨q, q0, q1_v, q2_v⟩ := k1; exact q2_v.1 z.symm⟩⟩
theorem t_tear (hD : DOK c D) (hr : RI c D n x B) (hB : B ≤ 5120) (hc : CE c D (mixs n x) R) (hg : gE c D x.2.2 n P x.1 ≠ -1) (hw : WF c D n P x m R) : MZ m_X3_tearUp [zr 15, zi n] (wr c R) (gU (fun R2 => RF R R2 ∧ CE c D (mixs n (x.1, x.2.1, tS c D n P x)) R2 ∧ WF c D n P x m R2) c) := by
  obtain ⟨hw1, hw2, hw3⟩ := wf_in hD hr hg hw
  obtain ⟨dd, hk, e1_v, e2_v, e3_v, e4_v, m1_v, m2_v, m3_v, bb, c1_v, c2_v, c3_v⟩ := hc
  have n16 := hD.2.1
  have hA := hr.1
  have n0 := hr.2.1
  have n1 := hr.2.2.1
  refine MZ.mono (s_tearUp hD n0 (by omega) dd.2.2.2.2.1 e2_v (fun b q z => mix_R n0 n1 (fun b q z => ⟨(hA.1 b q z).1, (hA.1 b q z).2.1⟩) z) e3_v hw.2.2.1 hw1 hw2 hw3 (fun p hp => ?_) m2_v) ?_
  · have a1_v : R 29 p = aP x.2.2 p := e4_v p hp
    have a2 := hA.2.2.2.1 p hp
    have a3 := hA.2.2.2.2.2.1
    omega
  rintro o w ⟨R2, rfl, rfl, f1_v, f2_v, f3_v, f4_v, f5_v, f6_v, f7_v⟩
  have rf : RF R R2 := fun a ha_v => f1_v a (by omega) (by omega) (by omega) (by omega) (by omega) (by omega)
  refine ⟨R2, rfl, rfl, rf, ⟨dd.of rf, ?_, ?_, ?_, ?_, ?_, ?_, f6_v, ?_, fun b b0 b1 => ⟨?_, ?_, ?_⟩, ?_, ?_, ?_⟩, hw.1, hw.2.1, ?_, ?_⟩
  · rw [f1_v 16 (by decide) (by decide) (by decide) (by decide) (by decide) (by decide)]; exact hk
  · rw [f1_v 18 (by decide) (by decide) (by decide) (by decide) (by decide) (by decide), f1_v 19 (by decide) (by decide) (by decide) (by decide) (by decide) (by decide), f1_v 20 (by decide) (by decide) (by decide) (by decide) (by decide) (by decide)]; exact e1_v
  · refine f3_v.congr fun b q b0 b1 hq => ?_
    rw [wf_los hr hw]
    constructor
    · rintro ⟨z1 | z1, z2⟩
      · exact .inl z1
      · exact .inr ⟨z1.1, z1.2, z2⟩
    · rintro (z1 | z1)
      · exact ⟨.inl z1, fun ⟨k, _, q, _, _, q2_v⟩ => q2_v.1 z1.1.symm⟩
      · exact ⟨.inr ⟨z1.1, z1.2.1⟩, z1.2.2⟩
  · refine fun p hp => ⟨(f4_v p hp).1, fun b b0 b1 => ((f4_v p hp).2 b b0 b1).trans ?_⟩
    show aU (mixs n x) b p ∧ ¬ lose c D (aR (mixs n x)) n (wE c D x.2.2 n P x.1) m b ↔ _
    rw [wf_los hr hw]
    constructor
    · rintro ⟨z1 | z1, z2⟩
      · exact .inl z1
      · exact .inr ⟨z1.1, z1.2, z2⟩
    · rintro (z1 | z1)
      · exact ⟨.inl z1, fun ⟨k, _, q, _, _, q2_v⟩ => q2_v.1 z1.1.symm⟩
      · exact ⟨.inr ⟨z1.1, z1.2.1⟩, z1.2.2⟩
  · intro p hp
    have a1_v : R 29 p = aP x.2.2 p := e4_v p hp
    rw [f5_v p hp, a1_v]
    show _ = aP x.2.2 p + pI (inw x.1 (wE c D x.2.2 n P x.1) p ∧ nearR c D (aR x.2.2) n p) 5 0
    rw [show (∃ j : Nat, j ≤ m ∧ wE c D x.2.2 n P x.1 j = p ∧ ∃ b, hitP c D (aR (mixs n x)) n b p) = (inw x.1 (wE c D x.2.2 n P x.1) p ∧ nearR c D (aR x.2.2) n p) from propext ⟨fun ⟨j, j0, j1, b, j2_v⟩ => ?_, fun ⟨⟨k, k0, k1⟩, b, q, q0, q1_v, q2_v⟩ => ?_⟩]
    · obtain ⟨⟨q, q0, q1_v, q2_v⟩, z2⟩ := hit_mix.mp j2_v
      have nn : nearR c D (aR x.2.2) n p := ⟨b, q, q0, q1_v, q2_v⟩
      by_cases e : j = m
      · rw [e] at j1
        exact absurd nn (hr.2.2.2.2.2.1 p (by rw [← j1]; exact hw.2.1)).2.2
      · exact ⟨⟨j, (wf_on hw j).mpr (by omega), j1⟩, nn⟩
    · have := (wf_on hw k).mp k0
      exact ⟨k, by omega, k1, b, hit_mix.mpr ⟨⟨q, q0, q1_v, q2_v⟩, fun z => q2_v.1 z.symm⟩⟩
  · rw [f2_v 10 (by decide)]; exact m1_v
  · rw [f2_v 12 (by decide)]; exact m3_v
  · rw [f2_v 10 (by decide)]; exact (bb b b0 b1).1
  · rw [f7_v b b0 b1, wf_los hr hw, (bb b b0 b1).2.1]
    exact Iff.rfl
  · rw [f2_v 12 (by decide)]; exact (bb b b0 b1).2.2
  · rw [f2_v 13 (by decide)]; exact c1_v
  · rw [f2_v 14 (by decide)]; exact c2_v
  · rw [f2_v 15 (by decide)]; exact c3_v
  · rw [f2_v 9 (by decide)]; exact hw.2.2.1
  · rw [f1_v 31 (by decide) (by decide) (by decide) (by decide) (by decide) (by decide)]; exact hw.2.2.2
theorem t_layw (hD : DOK c D) (hr : RI c D n x B) (hc : CE c D (mixs n (x.1, x.2.1, tS c D n P x)) R) (hg : gE c D x.2.2 n P x.1 ≠ -1) (hw : WF c D n P x m R) : MZ m_X3_layWay [zr 15, zi n] (wr c R) (gU (fun R2 => RF R R2 ∧ CE c D (mixs n ((aW c D n P x).1, (aW c D n P x).2.1, tS c D n P x)) R2) c) := by
  obtain ⟨hw1, hw2, hw3⟩ := wf_in hD hr hg hw
  obtain ⟨dd, hk, e1_v, e2_v, e3_v, e4_v, m1_v, m2_v, m3_v, bb, c1_v, c2_v, c3_v⟩ := hc
  have n16 := hD.2.1
  have n0 := hr.2.1
  have n1 := hr.2.2.1
  refine MZ.mono (s_layWay hD n0 (by omega) dd.1 e2_v e3_v hw.2.2.1 hw1 hw2) ?_
  rintro o w ⟨R2, rfl, rfl, f1_v, f2_v, f3_v⟩
  have rf : RF R R2 := fun a ha_v => f1_v a (by omega) (by omega) (by omega) (by omega)
  have g_v := fun a h1 h2 h3 h4 => f1_v a h1 h2 h3 h4
  refine ⟨R2, rfl, rfl, rf, ⟨dd.of rf, ?_, ?_, ?_, ?_, ?_, ?_⟩⟩
  · rw [f1_v 16 (by decide) (by decide) (by decide) (by decide)]; exact hk
  · rw [f1_v 18 (by decide) (by decide) (by decide) (by decide), f1_v 19 (by decide) (by decide) (by decide) (by decide), f1_v 20 (by decide) (by decide) (by decide) (by decide)]; exact e1_v
  · refine f2_v.congr fun b q b0 b1 hq => ?_
    constructor
    · rintro ((z | z) | ⟨z1, j, j0, j1⟩)
      · exact .inl ⟨z.1, .inl z.2⟩
      · exact .inr z
      · by_cases e : j = m
        · exact .inl ⟨z1, .inl (by rw [j1, e]; exact hw.2.1)⟩
        · exact .inl ⟨z1, .inr ⟨j, (wf_on hw j).mpr (by omega), j1.symm⟩⟩
    · rintro (⟨z1, z2 | ⟨k, k0, k1⟩⟩ | z)
      · exact .inl (.inl ⟨z1, z2⟩)
      · have := (wf_on hw k).mp k0
        exact .inr ⟨z1, k, by omega, k1.symm⟩
      · exact .inl (.inr z)
  · refine fun p hp => ⟨(f3_v p hp).1, fun b b0 b1 => ((f3_v p hp).2 b b0 b1).trans ?_⟩
    constructor
    · rintro ((z | z) | ⟨z1, j, j0, j1⟩)
      · exact .inl ⟨z.1, .inl z.2⟩
      · exact .inr z
      · exact .inl ⟨z1, .inr ⟨j, (wf_on hw j).mpr (by omega), j1⟩⟩
    · rintro (⟨z1, z2 | ⟨k, k0, k1⟩⟩ | z)
      · exact .inl (.inl ⟨z1, z2⟩)
      · have := (wf_on hw k).mp k0
        exact .inr ⟨z1, k, by omega, k1⟩
      · exact .inl (.inr z)
  · rw [f1_v 29 (by decide) (by decide) (by decide) (by decide)]; exact e4_v
  · rw [f1_v 15 (by decide) (by decide) (by decide) (by decide)]; exact ⟨m1_v, m2_v, m3_v, bb, c1_v, c2_v, c3_v⟩
theorem tS_no (hD : DOK c D) (hr : RI c D n x B) (hg : gE c D x.2.2 n False x.1 ≠ -1) : tS c D n False x = x.2.2 := by
  have nn : ∀ k, onw x.1 (wE c D x.2.2 n False x.1) k → ¬ nearR c D (aR x.2.2) n (wE c D x.2.2 n False x.1 k) := fun k hk => (way_ok hD hr.1 hg hk).2.2.2.resolve_left id
  have nl : ∀ b, ¬ los c D (aR x.2.2) n x.1 (wE c D x.2.2 n False x.1) b := fun b ⟨k, k0, q, q0, q1_v, q2_v⟩ => nn k k0 ⟨b, q, q0, q1_v, q2_v⟩
  have h1 : (fun b q => aR x.2.2 b q ∧ ¬ los c D (aR x.2.2) n x.1 (wE c D x.2.2 n False x.1) b) = aR x.2.2 := by
    funext b q
    exact propext ⟨fun z => z.1, fun z => ⟨z, nl b⟩⟩
  have h2 : (fun b q => aU x.2.2 b q ∧ ¬ los c D (aR x.2.2) n x.1 (wE c D x.2.2 n False x.1) b) = aU x.2.2 := by
    funext b q
    exact propext ⟨fun z => z.1, fun z => ⟨z, nl b⟩⟩
  have h3 : aP (aW c D n False x).2.2 = aP x.2.2 := by
    funext p
    show aP x.2.2 p + pI (inw x.1 (wE c D x.2.2 n False x.1) p ∧ nearR c D (aR x.2.2) n p) 5 0 = aP x.2.2 p
    rw [pI_f (fun ⟨⟨k, k0, k1⟩, z⟩ => nn k k0 (by rw [k1]; exact z)), Int.add_zero]
  have h4 : (fun b => aJ x.2.2 b ∧ ¬ los c D (aR x.2.2) n x.1 (wE c D x.2.2 n False x.1) b) = aJ x.2.2 := by
    funext b
    exact propext ⟨fun z => z.1, fun z => ⟨z, nl b⟩⟩
  unfold tS
  rw [h1, h2, h3, h4]
  rfl
theorem ce_cnt {R2 : zI} (hc : CE c D (mixs n ((aW c D n P x).1, (aW c D n P x).2.1, tS c D n P x)) R) (hP : tr ≠ 0 ↔ P) (h : R2 = pIR (tr ≠ 0) (zU R 15 15 (R 15 15 + 1)) (zU R 15 14 (R 15 14 + 1))) : RF R R2 ∧ CE c D (mixs n (aW c D n P x)) R2 := by
  obtain ⟨dd, hk, e1_v, e2_v, e3_v, e4_v, m1_v, m2_v, m3_v, bb, c1_v, c2_v, c3_v⟩ := hc
  by_cases q : tr ≠ 0
  · rw [pIR_t q] at h
    subst h
    have rf : RF R (zU R 15 15 (R 15 15 + 1)) := fun a ha_v => zU_cell (by omega)
    refine ⟨rf, dd.of rf, ?_⟩
    rw [zU_cell (by decide), zU_cell (by decide), zU_cell (by decide), zU_cell (by decide), zU_cell (by decide), zU_cell (by decide), zU_cell (by decide), zU_cell (by decide), zU_cell (by decide)]
    refine ⟨hk, e1_v, e2_v, e3_v, e4_v, ?_⟩
    rw [zU_at (by decide), zU_at (by decide), zU_at (by decide), zU_at (by decide), zU_at (by decide), zU_same]
    refine ⟨m1_v, m2_v, m3_v, bb, c1_v, ?_, ?_⟩
    · show R 15 14 = aA x.2.2 + bI (¬ P)
      rw [bI_f (fun z => z (hP.mp q)), Int.add_zero]
      exact c2_v
    · show R 15 15 + 1 = aT x.2.2 + bI P
      rw [bI_t (hP.mp q)]
      have : R 15 15 = aT x.2.2 := c3_v
      omega
  · rw [pIR_f q] at h
    subst h
    have rf : RF R (zU R 15 14 (R 15 14 + 1)) := fun a ha_v => zU_cell (by omega)
    have nP : ¬ P := fun z => q (hP.mpr z)
    refine ⟨rf, dd.of rf, ?_⟩
    rw [zU_cell (by decide), zU_cell (by decide), zU_cell (by decide), zU_cell (by decide), zU_cell (by decide), zU_cell (by decide), zU_cell (by decide), zU_cell (by decide), zU_cell (by decide)]
    refine ⟨hk, e1_v, e2_v, e3_v, e4_v, ?_⟩
    rw [zU_at (by decide), zU_at (by decide), zU_at (by decide), zU_at (by decide), zU_same, zU_at (by decide)]
    refine ⟨m1_v, m2_v, m3_v, bb, c1_v, ?_, ?_⟩
    · show R 15 14 + 1 = aA x.2.2 + bI (¬ P)
      rw [bI_t nP]
      have : R 15 14 = aA x.2.2 := c2_v
      omega
    · show R 15 15 = aT x.2.2 + bI P
      rw [bI_f nP, Int.add_zero]
      exact c3_v
theorem ce_fin {R2 : zI} (n0 : 0 ≤ n) (n1 : n < 16) (hc : CE c D (mixs n x) R) (h : R2 = zU (zU R 15 12 (zand (R 15 12) (zxor (zshl 1 n) (-1)))) 15 11 (zor (zU R 15 12 (zand (R 15 12) (zxor (zshl 1 n) (-1))) 15 11) (zshl 1 n))) : RF R R2 ∧ CE c D (fnn n x) R2 := by
  obtain ⟨dd, hk, e1_v, e2_v, e3_v, e4_v, m1_v, m2_v, m3_v, bb, c1_v, c2_v, c3_v⟩ := hc
  have r : ∀ a, a ≠ 15 → R2 a = R a := fun a ha_v => by rw [h, zU_cell ha_v, zU_cell ha_v]
  have r15 : ∀ j, j ≠ 11 → j ≠ 12 → R2 15 j = R 15 j := fun j h1 h2 => by rw [h, zU_at h1, zU_at h2]
  have r11 : R2 15 11 = zor (R 15 11) (zshl 1 n) := by rw [h, zU_same, zU_at (by decide)]
  have r12 : R2 15 12 = zand (R 15 12) (zxor (zshl 1 n) (-1)) := by rw [h, zU_at (by decide), zU_same]
  have rf : RF R R2 := fun a ha_v => r a (by omega)
  refine ⟨rf, dd.of rf, ?_⟩
  rw [r 16 (by decide), r 18 (by decide), r 19 (by decide), r 20 (by decide), r 22 (by decide), r 23 (by decide), r 24 (by decide), r 29 (by decide), r 30 (by decide)]
  refine ⟨hk, e1_v, e2_v, e3_v, e4_v, ?_⟩
  rw [r15 10 (by decide) (by decide), r15 13 (by decide) (by decide), r15 14 (by decide) (by decide), r15 15 (by decide) (by decide), r11, r12]
  refine ⟨m1_v, M16_or m2_v (M16_one n0 n1), M16_andl m3_v, fun b b0 b1 => ⟨(bb b b0 b1).1, ?_, ?_⟩, c1_v, c2_v, c3_v⟩
  · rw [tb_or b0 (by omega), tb_one b0 (by omega) n0 (by omega), (bb b b0 b1).2.1]
    exact Iff.rfl
  · rw [drop_bit n0 n1 b0 b1, (bb b b0 b1).2.2]
    exact Iff.rfl
theorem ce_fail {R2 R3 : zI} (hr : RI c D n x B) (n1 : n < 16) (hc : CE c D (mixs n x) R) (h1 : ∀ a, a ≠ 22 → a ≠ 23 → a ≠ 24 → a ≠ 30 → R2 a = R a) (h2 : ∀ st, ES c D (R 22) (R 23) (R 24) st → ES c D (R2 22) (R2 23) (R2 24) (fun b q => st b q ∧ b ≠ n)) (h3 : ∀ st, EB c (R 30) st → EB c (R2 30) (fun b q => st b q ∧ b ≠ n)) (hu : ∀ q, pls c q → ¬ aU x.2.2 n q) (h : R3 = zU R2 15 12 (zor (R2 15 12) (zshl 1 n))) : RF R R3 ∧ CE c D (fll n x.2.2) R3 := by
  obtain ⟨dd, hk, e1_v, e2_v, e3_v, e4_v, m1_v, m2_v, m3_v, bb, c1_v, c2_v, c3_v⟩ := hc
  have n0 := hr.2.1
  have r : ∀ a, a ≠ 15 → R3 a = R2 a := fun a ha_v => by rw [h, zU_cell ha_v]
  have f1_v : ∀ a, a ≠ 15 → a ≠ 22 → a ≠ 23 → a ≠ 24 → a ≠ 30 → R3 a = R a := fun a a0_v a1_v a2 a3 a4 => (r a a0_v).trans (h1 a a1_v a2 a3 a4)
  have r15 : ∀ j, j ≠ 12 → R3 15 j = R 15 j := fun j hj => by rw [h, zU_at hj, h1 15 (by decide) (by decide) (by decide) (by decide)]
  have r12 : R3 15 12 = zor (R 15 12) (zshl 1 n) := by rw [h, zU_same, h1 15 (by decide) (by decide) (by decide) (by decide)]
  have rf : RF R R3 := fun a ha_v => f1_v a (by omega) (by omega) (by omega) (by omega) (by omega)
  refine ⟨rf, dd.of rf, ?_, ?_, ?_, ?_, ?_, ?_⟩
  · rw [f1_v 16 (by decide) (by decide) (by decide) (by decide) (by decide)]; exact hk
  · rw [f1_v 18 (by decide) (by decide) (by decide) (by decide) (by decide), f1_v 19 (by decide) (by decide) (by decide) (by decide) (by decide), f1_v 20 (by decide) (by decide) (by decide) (by decide) (by decide)]; exact e1_v
  · rw [r 22 (by decide), r 23 (by decide), r 24 (by decide)]
    refine (h2 _ e2_v).congr fun b q b0 b1 hq => ⟨fun z => ?_, fun z => ?_⟩
    · exact (z.1.resolve_left (fun y => z.2 y.1)).2
    · have nb : b ≠ n := fun y => by
        have a := (hr.1.1 b q z).2.2.2.1
        rw [y] at a
        exact hr.2.2.2.2.1 a
      exact ⟨.inr ⟨nb, z⟩, nb⟩
  · rw [r 30 (by decide)]
    refine fun p hp => ⟨(h3 _ e3_v p hp).1, fun b b0 b1 => ((h3 _ e3_v p hp).2 b b0 b1).trans ⟨fun z => (z.1.resolve_left (fun y => z.2 y.1)).2, fun z => ?_⟩⟩
    have nb : b ≠ n := fun y => hu p hp (by rw [← y]; exact z)
    exact ⟨.inr ⟨nb, z⟩, nb⟩
  · rw [f1_v 29 (by decide) (by decide) (by decide) (by decide) (by decide)]; exact e4_v
  · rw [r15 10 (by decide), r15 11 (by decide), r15 13 (by decide), r15 14 (by decide), r15 15 (by decide), r12]
    refine ⟨m1_v, m2_v, M16_or m3_v (M16_one n0 n1), fun b b0 b1 => ⟨(bb b b0 b1).1, (bb b b0 b1).2.1, ?_⟩, c1_v, c2_v, c3_v⟩
    rw [tb_or b0 (by omega), tb_one b0 (by omega) n0 (by omega), (bb b b0 b1).2.2]
    exact Iff.rfl
end WFS
theorem ce_outR {c : zC} {D R : zI} {n : Int} {s : aS} (hD : DOK c D) (hc : CE c D s R) : -1 ≤ outp R n (kth (outs R n) (R 10 2).toNat 0 0) ∧ outp R n (kth (outs R n) (R 10 2).toNat 0 0) < (cS c : Int) := by
  have e10_v : R 10 = D 10 := hc.1.2.2.2.2.1
  have e14_v : R 14 = D 14 := hc.1.2.2.2.2.2.2.2.2
  have g3_v := hD.1.S
  unfold outp
  by_cases q : kth (outs R n) (R 10 2).toNat 0 0 = -1
  · rw [if_pos q]; omega
  · rw [if_neg q]
    obtain ⟨z1, z2, z3⟩ := (kth_lt (P := outs R n) (R 10 2).toNat 0 0).resolve_left q
    have z4 := z3.2.1
    rw [e10_v] at z1 z2 z4 ⊢
    have pk0 := hc.2.1 _ z1 (by omega)
    rw [pk0] at z4
    have a := ((pk_R hD z1 (by omega)).2.2 z4).1
    rw [e14_v, pk0]
    have a1_v := a.1
    have a2 := a.2
    unfold pp at a1_v a2
    omega
theorem gE_R {c : zC} {D : zI} {n B : Int} {P : Prop} {x : aX} (hD : DOK c D) (h : AI c D x.2.2 B) : -1 ≤ gE c D x.2.2 n P x.1 ∧ gE c D x.2.2 n P x.1 < (cS c : Int) := by
  have g3_v := hD.1.S
  by_cases q : gE c D x.2.2 n P x.1 = -1
  · omega
  · have a := (gE_ok hD h q).1
    have a1_v := a.1
    have a2 := a.2
    omega
theorem ce_start {c : zC} {D R R2 : zI} {n p B : Int} {s : aS} (hA : AI c D s B) (nj : ¬ aJ s n) (hc : CE c D s R) (h1 : ∀ a, a ≠ 22 → a ≠ 23 → a ≠ 24 → R2 a = R a) (h2 : ∀ st, ES c D (R 22) (R 23) (R 24) st → ES c D (R2 22) (R2 23) (R2 24) (adds st n p)) : RF R R2 ∧ CE c D (mixs n (fun q => q = p, fun _ => False, s)) R2 := by
  obtain ⟨dd, hk, e1_v, e2_v, e3_v, e4_v, e5_v⟩ := hc
  have rf : RF R R2 := fun a ha_v => h1 a (by omega) (by omega) (by omega)
  refine ⟨rf, dd.of rf, ?_, ?_, ?_, ?_, ?_, ?_⟩
  · rw [h1 16 (by decide) (by decide) (by decide)]; exact hk
  · rw [h1 18 (by decide) (by decide) (by decide), h1 19 (by decide) (by decide) (by decide), h1 20 (by decide) (by decide) (by decide)]; exact e1_v
  · refine (h2 _ e2_v).congr fun b q b0 b1 hq => ⟨fun z => ?_, fun z => ?_⟩
    · rcases z with z | z
      · exact .inr ⟨fun y => nj (by rw [← y]; exact (hA.1 b q z).2.2.2.1), z⟩
      · exact .inl z
    · rcases z with z | z
      · exact .inr z
      · exact .inl z.2
  · rw [h1 30 (by decide) (by decide) (by decide)]
    refine fun p hp => ⟨(e3_v p hp).1, fun b b0 b1 => ((e3_v p hp).2 b b0 b1).trans ⟨fun z => .inr ⟨fun y => nj (by rw [← y]; exact hA.2.2.2.2.2.2.2.2.2 b p z), z⟩, fun z => z.elim (fun y => y.2.elim) (fun y => y.2)⟩⟩
  · rw [h1 29 (by decide) (by decide) (by decide)]; exact e4_v
  · rw [h1 15 (by decide) (by decide) (by decide)]; exact e5_v
theorem aL_go {c : zC} {D : zI} {n k : Int} {x : aX} (k0 : 0 ≤ k) (k1 : k < 40) : aL c D n (40 - k).toNat x = cI (dne c D n x.1) (fnn n x) (cI (gE c D x.2.2 n False x.1 ≠ -1) (aL c D n (40 - (k + 1)).toNat (aW c D n False x)) (cI (gE c D x.2.2 n True x.1 ≠ -1) (aL c D n (40 - (k + 1)).toNat (aW c D n True x)) (fll n x.2.2))) := by
  rw [show (40 - k).toNat = (40 - (k + 1)).toNat + 1 by omega]
  rfl

