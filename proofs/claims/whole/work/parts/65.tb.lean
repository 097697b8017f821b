/-! ===== contracts (7): the way back ===== -/
theorem kth_none {P : Int → Prop} : ∀ (n : Nat) (i : Int), 0 ≤ i → kth P n i 0 = -1 → ∀ j, i ≤ j → j < i + n → ¬ P j
  | 0, i, i0_v, h, j, a, b => by omega
  | n + 1, i, i0_v, h, j, a, b => by
    unfold kth at h
    by_cases q : P i
    · rw [pI_t q, if_pos rfl] at h
      omega
    · rw [pI_f q] at h
      by_cases e : j = i
      · rw [e]; exact q
      · exact kth_none n (i + 1) (by omega) h j (by omega) (by omega)
noncomputable def bd (c : zC) (D : zI) (e f : Int → Int) (p : Int) : Int := kth (fun d => bes c p d ≠ -1 ∧ f (bes c p d) < FAR ∧ f (bes c p d) + scost c (D 5) (D 4) (bes c p d) p + e p = f p) 6 0 0
noncomputable def wy (c : zC) (D : zI) (e f : Int → Int) (r : Int) : Nat → Int
  | 0 => r
  | k + 1 => bes c (wy c D e f r k) (bd c D e f (wy c D e f r k))
def pbP (c : zC) (R : zI) (n p tr : Int) (d : Int) : Prop := bes c p d ≠ -1 ∧ R 26 (bes c p d) + scost c (R 5) (R 4) (bes c p d) p = R 26 p - entv R n p tr
section WY
variable {c : zC} {D : zI} {O : Int → Prop} {e : Int → Int} {t : Int → Prop} {co f : Int → Int} {r : Int}
theorem bd_ok (hD : DOK c D) (he : ∀ p, pls c p → 0 ≤ e p) (hf : Dst c D O e t f) {p : Int} (hp : pls c p) (nt : ¬ t p) (hF : f p < FAR) : 0 ≤ bd c D e f p ∧ bd c D e f p < 6 ∧ pls c (bes c p (bd c D e f p)) ∧ f (bes c p (bd c D e f p)) < FAR ∧ f (bes c p (bd c D e f p)) + scost c (D 5) (D 4) (bes c p (bd c D e f p)) p + e p = f p ∧ f (bes c p (bd c D e f p)) < f p ∧ O p := by
  obtain ⟨f1_v, f2_v, f3_v, f4_v⟩ := hf
  obtain ⟨o, d, d0_v, d1_v, d2_v, d3_v, d4_v⟩ := (f4_v p hp hF).resolve_left nt
  rcases kth_lt (P := fun d => bes c p d ≠ -1 ∧ f (bes c p d) < FAR ∧ f (bes c p d) + scost c (D 5) (D 4) (bes c p d) p + e p = f p) 6 0 0 with q | ⟨q1, q2_v, q3⟩
  · exact absurd ⟨d2_v, d3_v, by omega⟩ (kth_none 6 0 (by omega) q d d0_v (by omega))
  · have hb_v := (bes_R hD.1 (d := bd c D e f p) hp).resolve_left q3.1
    have sc_v := scost_R hD hb_v hp
    have ep := he p hp
    refine ⟨q1, by unfold bd; omega, hb_v, q3.2.1, q3.2.2, ?_, o⟩
    have : f (bes c p (bd c D e f p)) + scost c (D 5) (D 4) (bes c p (bd c D e f p)) p + e p = f p := q3.2.2
    omega
theorem wy_in (hD : DOK c D) (he : ∀ p, pls c p → 0 ≤ e p) (hf : Dst c D O e t f) (hr : pls c r) (hF : f r < FAR) : ∀ k : Nat, (∀ j, j < k → ¬ t (wy c D e f r j)) → pls c (wy c D e f r k) ∧ f (wy c D e f r k) < FAR ∧ f (wy c D e f r k) + k ≤ f r
  | 0, _ => ⟨hr, hF, by show f r + ((0 : Nat) : Int) ≤ f r; omega⟩
  | k + 1, h => by
    obtain ⟨a, b, d⟩ := wy_in hD he hf hr hF k (fun j hj => h j (by omega))
    obtain ⟨k1_v, k2_v, k3_v, k4_v, k5_v, k6_v, k7_v⟩ := bd_ok hD he hf a (h k (by omega)) b
    refine ⟨k3_v, k4_v, ?_⟩
    show f (bes c (wy c D e f r k) (bd c D e f (wy c D e f r k))) + ((k + 1 : Nat) : Int) ≤ f r
    omega
theorem wy_dec (hD : DOK c D) (he : ∀ p, pls c p → 0 ≤ e p) (hf : Dst c D O e t f) (hr : pls c r) (hF : f r < FAR) (i : Nat) : ∀ j : Nat, (∀ k, k < j → ¬ t (wy c D e f r k)) → i < j → f (wy c D e f r j) < f (wy c D e f r i)
  | 0, _, h => by omega
  | j + 1, h, hi => by
    obtain ⟨a, b, d⟩ := wy_in hD he hf hr hF j (fun k hk => h k (by omega))
    have s := (bd_ok hD he hf a (h j (by omega)) b).2.2.2.2.2.1
    by_cases q : i = j
    · rw [q]; exact s
    · have := wy_dec hD he hf hr hF i j (fun k hk => h k (by omega)) (by omega)
      have s2_v : f (wy c D e f r (j + 1)) < f (wy c D e f r j) := s
      omega
theorem wy_inj (hD : DOK c D) (he : ∀ p, pls c p → 0 ≤ e p) (hf : Dst c D O e t f) (hr : pls c r) (hF : f r < FAR) {m : Nat} (h : ∀ k, k < m → ¬ t (wy c D e f r k)) {i j : Nat} (hi : i ≤ m) (hj : j ≤ m) (he2 : wy c D e f r i = wy c D e f r j) : i = j := by
  by_cases q : i < j
  · have := wy_dec hD he hf hr hF i j (fun k hk => h k (by omega)) q
    rw [he2] at this; omega
  · by_cases q2_v : j < i
    · have := wy_dec hD he hf hr hF j i (fun k hk => h k (by omega)) q2_v
      rw [he2] at this; omega
    · omega
theorem wy_room (hD : DOK c D) (he : ∀ p, pls c p → 0 ≤ e p) (hf : Dst c D O e t f) (hr : pls c r) (hF : f r < FAR) {m : Nat} (h : ∀ k, k < m → ¬ t (wy c D e f r k)) : m < cS c := by
  have := pig (cS c) (fun i => wy c D e f r i.toNat) (m + 1) (fun i i0_v i1_v => (wy_in hD he hf hr hF i.toNat (fun j hj => h j (by omega))).1) (fun i j i0_v i1_v j0 j1 q => by
    have := wy_inj hD he hf hr hF h (i := i.toNat) (j := j.toNat) (by omega) (by omega) q
    omega)
  omega
theorem wy_ex (hD : DOK c D) (he : ∀ p, pls c p → 0 ≤ e p) (hf : Dst c D O e t f) (hr : pls c r) (hF : f r < FAR) : ∃ m : Nat, (∀ k, k < m → ¬ t (wy c D e f r k)) ∧ t (wy c D e f r m) := by
  have : ∃ m, t (wy c D e f r m) := Classical.byContradiction fun q => by
    have := wy_room hD he hf hr hF (m := cS c) (fun k _ z => q ⟨k, z⟩)
    omega
  obtain ⟨m0_v, h0⟩ := this
  obtain ⟨m, h1, h2⟩ := leastN (P := fun m => t (wy c D e f r m)) h0
  exact ⟨m, fun k hk z => by have := h2 k z; omega, h1⟩
theorem tr_cost (hD : DOK c D) (he : ∀ p, pls c p → 0 ≤ e p) (hf : Dst c D O e t f) (hr : pls c r) (hF : f r < FAR) (hT : TR c f co r) {k : Nat} (h : ∀ j, j < k → ¬ t (wy c D e f r j)) : co (wy c D e f r k) = f (wy c D e f r k) := by
  obtain ⟨a, b, d⟩ := wy_in hD he hf hr hF k h
  cases k with
  | zero => exact hT.1
  | succ k => exact (hT.2 _ a).2 (by omega)
theorem pb_eq (hD : DOK c D) (he : ∀ p, pls c p → 0 ≤ e p) (hf : Dst c D O e t f) {R : zI} {n p tr : Int} (h4 : R 4 = D 4) (h5 : R 5 = D 5) (hT : TR c f (R 26) r) (hp : pls c p) (hc : R 26 p = f p) (hl : f p ≤ f r) (hen : entv R n p tr = e p) : kth (pbP c R n p tr) 6 0 0 = bd c D e f p := by
  unfold bd
  refine kth_congr _ _ _ fun d _ _ => ?_
  unfold pbP
  rw [h4, h5, hc, hen]
  by_cases q : bes c p d = -1
  · exact ⟨fun z => absurd q z.1, fun z => absurd q z.1⟩
  · have hb_v := (bes_R hD.1 (d := d) hp).resolve_left q
    have sc_v := scost_R hD hb_v hp
    have ep := he p hp
    have T2 := hT.2 _ hb_v
    have fr2 := hf.2.1 p hp
    constructor
    · rintro ⟨z1, z2⟩
      have := T2.2 (T2.1.mp (by omega))
      exact ⟨z1, by omega, by omega⟩
    · rintro ⟨z1, z2, z3⟩
      have := T2.2 (by omega)
      exact ⟨z1, by omega⟩
end WY

set_option maxHeartbeats 1000000 in
theorem s_placeBefore {c : zC} {R : zI} {n p tr : Int} (hg : Geo c) (hp : pls c p) (htr : tr = 0 ∨ tr = 1) (hb9 : ∀ p, inR (R 9 p)) (hco : ∀ q, pls c q → 0 ≤ R 26 q ∧ R 26 q ≤ 1000000000) (hsc : ∀ q, pls c q → 1 ≤ scost c (R 5) (R 4) q p ∧ scost c (R 5) (R 4) q p ≤ 51) (hen : -1 ≤ entv R n p tr ∧ entv R n p tr ≤ 100000020) : MZ m_X3_placeBefore [zr 15, zi n, zi p, zi tr] (wr c R) (qF (zi (bes c p (kth (pbP c R n p tr) 6 0 0))) (wr c R)) := by
  refine MZ.of g_X3_placeBefore ?_
  show ZX m_X3_placeBefore 0 [some (zr 15), some (zi n), some (zi p), some (zi tr), none, none, none] [] (wr c R) _
  have g3_v := hg.S
  obtain ⟨p0_v, p1_v⟩ := hp
  have hp : pls c p := ⟨p0_v, p1_v⟩
  have cp_v := hco p hp
  refine zx_go (pc1 := 8) (l1 := [some (zr 15), some (zi n), some (zi p), some (zi tr), none, none, none]) (st1 := [zi p, zr 26]) (w1 := wr c R) g_X3_placeBefore 4 _ _ _ _ rfl ?_
  refine gz_iald g_X3_placeBefore rfl (n := cS c) rfl (by decide) rfl (by have := hg.S; omega) (by omega) (by omega) ?_
  refine zx_go (pc1 := 13) (l1 := [some (zr 15), some (zi n), some (zi p), some (zi tr), none, none, none]) (st1 := [zi tr, zi p, zi n, zr 15, zi (R 26 p)]) (w1 := wr c R) g_X3_placeBefore 4 _ _ _ _ rfl ?_
  refine zx_cvF (As := [zi n, zi p, zi tr]) (rest := [zi (R 26 p)]) g_X3_placeBefore rfl g_X3_entryCost rfl rfl (Nat.le_of_ble_eq_true rfl) (Nat.le_of_ble_eq_true rfl) rfl (by decide) (s_entryCost hg (by omega) (by omega) htr (hb9 _)) ?_
  refine zx_go (pc1 := 22) (l1 := [some (zr 15), some (zi n), some (zi p), some (zi tr), some (zi ((R 26 p) - (entv R n p tr))), some (zi 0), none]) (st1 := []) (w1 := wr c R) g_X3_placeBefore 4 _ _ _ _ rfl ?_
  have lp22 : ∀ (it : Nat) (d : Int) (o6 : Option zV), (it : Int) = 6 - d → (0 ≤ d ∧ d ≤ 6 ∧ kth (pbP c R n p tr) 6 0 0 = kth (pbP c R n p tr) (6 - d).toNat d 0) → ZX m_X3_placeBefore 22 [some (zr 15), some (zi n), some (zi p), some (zi tr), some (zi ((R 26 p) - (entv R n p tr))), some (zi d), o6] [] (wr c R) (qF (zi (bes c p (kth (pbP c R n p tr) 6 0 0))) (wr c R)) := by
    refine fun it => Nat.strongRecOn it (fun it ih22 => ?_)
    intro d o6 hn22 hi22
    obtain ⟨d0_v, d1_v, e⟩ := hi22
    refine zx_go (pc1 := 26) (l1 := [some (zr 15), some (zi n), some (zi p), some (zi tr), some (zi ((R 26 p) - (entv R n p tr))), some (zi d), o6]) (st1 := [zi 6, zi d]) (w1 := wr c R) g_X3_placeBefore 2 _ _ _ _ rfl ?_
    refine zx_cmp g_X3_placeBefore rfl (by omega) (by decide) (fun (h26 : 6 ≤ d) => ?_) (fun (h26 : ¬ (6 ≤ d)) => ?_)
    · refine zx_go (pc1 := 83) (l1 := [some (zr 15), some (zi n), some (zi p), some (zi tr), some (zi ((R 26 p) - (entv R n p tr))), some (zi d), o6]) (st1 := [zi (-1)]) (w1 := wr c R) g_X3_placeBefore 1 _ _ _ _ rfl ?_
      refine zx_iret g_X3_placeBefore rfl (.inl rfl) ?_
      refine qF_i ?_
      rw [e, kth_e (by omega)]
      rfl
    · refine zx_go (pc1 := 36) (l1 := [some (zr 15), some (zi n), some (zi p), some (zi tr), some (zi ((R 26 p) - (entv R n p tr))), some (zi d), o6]) (st1 := [zi d, zi p, zr 2]) (w1 := wr c R) g_X3_placeBefore 4 _ _ _ _ rfl ?_
      refine zx_cvF (As := [zi p, zi d]) (rest := []) g_X3_placeBefore rfl g_X2_beside rfl rfl (Nat.le_of_ble_eq_true rfl) (Nat.le_of_ble_eq_true rfl) rfl (by decide) (s_beside hg (by omega) (by omega) (by omega)) ?_
      refine zx_go (pc1 := 41) (l1 := [some (zr 15), some (zi n), some (zi p), some (zi tr), some (zi ((R 26 p) - (entv R n p tr))), some (zi d), some (zi (bes c p d))]) (st1 := []) (w1 := wr c R) g_X3_placeBefore 1 _ _ _ _ rfl ?_
      have bR : bes c p d = -1 ∨ (0 ≤ bes c p d ∧ bes c p d < (cS c : Int)) := bes_R hg (d := d) hp
      refine zx_go (pc1 := 44) (l1 := [some (zr 15), some (zi n), some (zi p), some (zi tr), some (zi ((R 26 p) - (entv R n p tr))), some (zi d), some (zi (bes c p d))]) (st1 := [zi (-1), zi (bes c p d)]) (w1 := wr c R) g_X3_placeBefore 2 _ _ _ _ rfl ?_
      refine zx_cmp g_X3_placeBefore rfl (by omega) (by decide) (fun (h44 : (bes c p d) = (-1)) => ?_) (fun (h44 : ¬ ((bes c p d) = (-1))) => ?_)
      · refine zx_go (pc1 := 22) (l1 := [some (zr 15), some (zi n), some (zi p), some (zi tr), some (zi ((R 26 p) - (entv R n p tr))), some (zi (d + 1)), some (zi (bes c p d))]) (st1 := []) (w1 := wr c R) g_X3_placeBefore 2 _ _ _ _ rfl ?_
        refine ih22 (Int.toNat (6 - (d + 1))) (by omega) (d + 1) (some (zi (bes c p d))) (by omega) ?_
        refine ⟨by omega, by omega, ?_⟩
        first | exact e.trans (kth_n (by omega) (fun z => z.1 h44)) | exact e.trans (kth_n (by omega) (fun z => h70 z.2))
      · have hx := bR.resolve_left h44
        obtain ⟨b0, b1⟩ := hx
        have hx : pls c (bes c p d) := ⟨b0, b1⟩
        have cx := hco _ hx
        have sx := hsc _ hx
        refine zx_go (pc1 := 56) (l1 := [some (zr 15), some (zi n), some (zi p), some (zi tr), some (zi ((R 26 p) - (entv R n p tr))), some (zi d), some (zi (bes c p d))]) (st1 := [zi (bes c p d), zr 26]) (w1 := wr c R) g_X3_placeBefore 4 _ _ _ _ rfl ?_
        refine gz_iald g_X3_placeBefore rfl (n := cS c) rfl (by decide) rfl (by have := hg.S; omega) (by omega) (by omega) ?_
        refine zx_go (pc1 := 64) (l1 := [some (zr 15), some (zi n), some (zi p), some (zi tr), some (zi ((R 26 p) - (entv R n p tr))), some (zi d), some (zi (bes c p d))]) (st1 := [zi p, zi (bes c p d), zr 2, zi (R 26 (bes c p d))]) (w1 := wr c R) g_X3_placeBefore 4 _ _ _ _ rfl ?_
        refine zx_cvF (As := [zi (bes c p d), zi p]) (rest := [zi (R 26 (bes c p d))]) g_X3_placeBefore rfl g_X2_stepCost rfl rfl (Nat.le_of_ble_eq_true rfl) (Nat.le_of_ble_eq_true rfl) rfl (by decide) (s_stepCost hg (by omega) (by omega) (by omega) (by omega)) ?_
        refine zx_go (pc1 := 70) (l1 := [some (zr 15), some (zi n), some (zi p), some (zi tr), some (zi ((R 26 p) - (entv R n p tr))), some (zi d), some (zi (bes c p d))]) (st1 := [zi ((R 26 p) - (entv R n p tr)), zi ((R 26 (bes c p d)) + (scost c (R 5) (R 4) (bes c p d) p))]) (w1 := wr c R) g_X3_placeBefore 2 _ _ _ _ rfl ?_
        refine zx_cmp g_X3_placeBefore rfl (by omega) (by omega) (fun (h70 : ((R 26 (bes c p d)) + (scost c (R 5) (R 4) (bes c p d) p)) ≠ ((R 26 p) - (entv R n p tr))) => ?_) (fun (h70 : ¬ (((R 26 (bes c p d)) + (scost c (R 5) (R 4) (bes c p d) p)) ≠ ((R 26 p) - (entv R n p tr)))) => ?_)
        · refine zx_go (pc1 := 22) (l1 := [some (zr 15), some (zi n), some (zi p), some (zi tr), some (zi ((R 26 p) - (entv R n p tr))), some (zi (d + 1)), some (zi (bes c p d))]) (st1 := []) (w1 := wr c R) g_X3_placeBefore 2 _ _ _ _ rfl ?_
          refine ih22 (Int.toNat (6 - (d + 1))) (by omega) (d + 1) (some (zi (bes c p d))) (by omega) ?_
          refine ⟨by omega, by omega, ?_⟩
          first | exact e.trans (kth_n (by omega) (fun z => z.1 h44)) | exact e.trans (kth_n (by omega) (fun z => h70 z.2))
        · refine zx_go (pc1 := 75) (l1 := [some (zr 15), some (zi n), some (zi p), some (zi tr), some (zi ((R 26 p) - (entv R n p tr))), some (zi d), some (zi (bes c p d))]) (st1 := [zi (bes c p d)]) (w1 := wr c R) g_X3_placeBefore 1 _ _ _ _ rfl ?_
          refine zx_iret g_X3_placeBefore rfl (.inl rfl) ?_
          refine qF_i ?_
          rw [e, kth_0 (by omega) ⟨h44, Classical.not_not.mp h70⟩ rfl]
  refine lp22 (Int.toNat (6 - 0)) 0 none (by omega) ?_
  exact ⟨by omega, by omega, rfl⟩

set_option maxHeartbeats 1000000 in
theorem s_traceBack {c : zC} {R : zI} {D : zI} {O : Int → Prop} {e f : Int → Int} {t : Int → Prop} {n r tr : Int} (hD : DOK c D) (h4 : R 4 = D 4) (h5 : R 5 = D 5) (h9 : R 9 = D 9) (hent : ∀ p, pls c p → entv R n p tr = cI (O p) (e p) (-1)) (he : ∀ p, pls c p → 0 ≤ e p ∧ e p ≤ 100000000) (htr : tr = 0 ∨ tr = 1) (hf : Dst c D O e t f) (hr : pls c r) (hF : f r < FAR) (hT : TR c f (R 26) r) (hco : ∀ q, pls c q → 0 ≤ R 26 q ∧ R 26 q ≤ 1000000000) : MZ m_X3_traceBack [zr 15, zi n, zi r, zi tr] (wr c R) (gU (fun R2 => (∀ a, a ≠ 15 → a ≠ 31 → R2 a = R a) ∧ (∀ j, j ≠ 9 → R2 15 j = R 15 j) ∧ ∃ m : Nat, (∀ j, j < m → ¬ t (wy c D e f r j)) ∧ t (wy c D e f r m) ∧ R2 15 9 = (m : Int) + 1 ∧ ∀ j : Nat, j ≤ m → R2 31 j = wy c D e f r j) c) := by
  refine MZ.of g_X3_traceBack ?_
  show ZX m_X3_traceBack 0 [some (zr 15), some (zi n), some (zi r), some (zi tr), none] [] (wr c R) _
  have hg := hD.1
  have hFAR : FAR = 1000000000 := rfl
  have g3_v := hg.S
  have he0 : ∀ p, pls c p → 0 ≤ e p := fun p hp => (he p hp).1
  obtain ⟨rp0, rp1⟩ := hr
  have hr : pls c r := ⟨rp0, rp1⟩
  refine zx_go (pc1 := 2) (l1 := [some (zr 15), some (zi n), some (zi r), some (zi tr), none]) (st1 := [zi 0, zr 15]) (w1 := wr c R) g_X3_traceBack 2 _ _ _ _ rfl ?_
  refine gz_put 9 g_X3_traceBack rfl rfl rfl (by decide) rfl (by refine ⟨?_, ?_, ?_, ?_, ?_⟩ <;> simp) ?_
  refine zx_go (pc1 := 8) (l1 := [some (zr 15), some (zi n), some (zi r), some (zi tr), some (zi r)]) (st1 := []) (w1 := wr c (zU R 15 9 0)) g_X3_traceBack 2 _ _ _ _ rfl ?_
  have z09 : zU R 15 9 0 15 9 = 0 := zU_same _ _ _ _
  have lp8 : ∀ (it : Nat) (q : Int) (R1 : zI), (it : Int) = (cS c : Int) - R1 15 9 → ((∀ a, a ≠ 15 → a ≠ 31 → R1 a = R a) ∧ (∀ j, j ≠ 9 → R1 15 j = R 15 j) ∧ ∃ k : Nat, R1 15 9 = (k : Int) ∧ (k : Int) ≤ (cS c : Int) ∧ (∀ j : Nat, j < k → R1 31 j = wy c D e f r j) ∧ ((q = wy c D e f r k ∧ ∀ j, j < k → ¬ t (wy c D e f r j)) ∨ (q = -1 ∧ ∃ m : Nat, k = m + 1 ∧ (∀ j, j < m → ¬ t (wy c D e f r j)) ∧ t (wy c D e f r m)))) → ZX m_X3_traceBack 8 [some (zr 15), some (zi n), some (zi r), some (zi tr), some (zi q)] [] (wr c R1) (gU (fun R2 => (∀ a, a ≠ 15 → a ≠ 31 → R2 a = R a) ∧ (∀ j, j ≠ 9 → R2 15 j = R 15 j) ∧ ∃ m : Nat, (∀ j, j < m → ¬ t (wy c D e f r j)) ∧ t (wy c D e f r m) ∧ R2 15 9 = (m : Int) + 1 ∧ ∀ j : Nat, j ≤ m → R2 31 j = wy c D e f r j) c) := by
    refine fun it => Nat.strongRecOn it (fun it ih8 => ?_)
    intro q R1 hn8 hi8
    obtain ⟨f1_v, f2_v, k, kl, ks_v, kw, cs⟩ := hi8
    have qR : inR q := by
      rcases cs with ⟨z1, z2⟩ | ⟨z1, -⟩
      · have := (wy_in hD he0 hf hr hF k z2).1
        rw [← z1] at this
        have t1_v := this.1
        have t2_v := this.2
        omega
      · omega
    skip
    refine zx_go (pc1 := 17) (l1 := [some (zr 15), some (zi n), some (zi r), some (zi tr), some (zi q)]) (st1 := [zi ((cS c : Nat) : Int), zi (R1 15 9)]) (w1 := wr c R1) g_X3_traceBack 5 _ _ _ _ rfl ?_
    refine zx_cmp g_X3_traceBack rfl (by omega) (by omega) (fun (h17 : ((cS c : Nat) : Int) ≤ (R1 15 9)) => ?_) (fun (h17 : ¬ (((cS c : Nat) : Int) ≤ (R1 15 9))) => ?_)
    · refine zx_vret g_X3_traceBack rfl ?_
      rcases cs with ⟨z1, z2⟩ | ⟨z1, m, z2, z3, z4⟩
      · first
        | (have := wy_room hD he0 hf hr hF z2; omega)
        | (have := (wy_in hD he0 hf hr hF k z2).1.1; omega)
      · exact gU_i ⟨f1_v, f2_v, m, z3, z4, by omega, fun j hj => kw j (by omega)⟩
    · refine zx_go (pc1 := 23) (l1 := [some (zr 15), some (zi n), some (zi r), some (zi tr), some (zi q)]) (st1 := [zi (-1), zi q]) (w1 := wr c R1) g_X3_traceBack 2 _ _ _ _ rfl ?_
      refine zx_cmp g_X3_traceBack rfl (by omega) (by decide) (fun (h23 : q = (-1)) => ?_) (fun (h23 : ¬ (q = (-1))) => ?_)
      · refine zx_vret g_X3_traceBack rfl ?_
        rcases cs with ⟨z1, z2⟩ | ⟨z1, m, z2, z3, z4⟩
        · first
          | (have := wy_room hD he0 hf hr hF z2; omega)
          | (have := (wy_in hD he0 hf hr hF k z2).1.1; omega)
        · exact gU_i ⟨f1_v, f2_v, m, z3, z4, by omega, fun j hj => kw j (by omega)⟩
      · obtain ⟨c1_v, c2_v⟩ := cs.resolve_right (fun z => h23 z.1)
        have win_v := wy_in hD he0 hf hr hF k c2_v
        have room_v := wy_room hD he0 hf hr hF c2_v
        have cst := tr_cost hD he0 hf hr hF hT c2_v
        rw [← c1_v] at win_v cst
        obtain ⟨⟨qp0, qp1⟩, wF, wl⟩ := win_v
        have hq9 : pls c q := ⟨qp0, qp1⟩
        refine zx_go (pc1 := 36) (l1 := [some (zr 15), some (zi n), some (zi r), some (zi tr), some (zi q)]) (st1 := [zi q, zi (R1 15 9), zr 31]) (w1 := wr c R1) g_X3_traceBack 5 _ _ _ _ rfl ?_
        refine gz_iast g_X3_traceBack rfl (n := cS c) rfl (by decide) (by refine ⟨?_, ?_, ?_, ?_, ?_⟩ <;> simp) (by have := hg.S; omega) (by omega) (by omega) ?_
        refine zx_go (pc1 := 44) (l1 := [some (zr 15), some (zi n), some (zi r), some (zi tr), some (zi q)]) (st1 := [zi (((zU R1 31 (R1 15 9) q) 15 9) + 1), zr 15]) (w1 := wr c (zU R1 31 (R1 15 9) q)) g_X3_traceBack 5 _ _ _ _ rfl ?_
        refine gz_put 9 g_X3_traceBack rfl rfl rfl (by decide) rfl (by refine ⟨?_, ?_, ?_, ?_, ?_⟩ <;> simp) ?_
        generalize hR9 : zU (zU R1 31 (R1 15 9) q) 15 9 (((zU R1 31 (R1 15 9) q) 15 9) + 1) = R9
        have ro : ∀ a, a ≠ 15 → a ≠ 31 → R9 a = R a := fun a a1_v a2 => by rw [← hR9, zU_cell a1_v, zU_cell a2]; exact f1_v a a1_v a2
        have r15 : ∀ j, j ≠ 9 → R9 15 j = R 15 j := fun j hj => by rw [← hR9, zU_at hj, zU_cell (by decide)]; exact f2_v j hj
        have r9 : R9 15 9 = (k : Int) + 1 := by rw [← hR9, zU_same, zU_cell (by decide), kl]
        have r31 : ∀ j : Nat, j ≤ k → R9 31 j = wy c D e f r j := fun j hj => by
          rw [← hR9, zU_cell (by decide), zU_row]
          by_cases y : j = k
          · rw [kl, y, up1_s]; exact c1_v
          · rw [kl, up1_n (by omega)]; exact kw j (by omega)
        have r26 : R9 26 = R 26 := ro 26 (by decide) (by decide)
        have cq : R9 26 q = f q := by rw [r26]; exact cst
        have hco9 : ∀ q, pls c q → 0 ≤ R9 26 q ∧ R9 26 q ≤ 1000000000 := by rw [r26]; exact hco
        have cq2 := hco9 q hq9
        refine zx_go (pc1 := 56) (l1 := [some (zr 15), some (zi n), some (zi r), some (zi tr), some (zi q)]) (st1 := [zi q, zr 26]) (w1 := wr c R9) g_X3_traceBack 4 _ _ _ _ rfl ?_
        refine gz_iald g_X3_traceBack rfl (n := cS c) rfl (by decide) rfl (by have := hg.S; omega) (by omega) (by omega) ?_
        refine zx_if g_X3_traceBack rfl (by omega) (fun (h57 : (R9 26 q) ≠ 0) => ?_) (fun (h57 : ¬ (R9 26 q) ≠ 0) => ?_)
        · have nt : ¬ t q := fun z => h57 (by rw [cq]; exact hf.1 q hq9 z)
          have bo := bd_ok hD he0 hf hq9 nt wF
          have hb9 : ∀ p, inR (R9 9 p) := fun p => by rw [ro 9 (by decide) (by decide), h9]; have := hD.2.2.2.2.2.1 p; omega
          have hsc9 : ∀ p, pls c p → 1 ≤ scost c (R9 5) (R9 4) p q ∧ scost c (R9 5) (R9 4) p q ≤ 51 := fun p hp => by rw [ro 5 (by decide) (by decide), ro 4 (by decide) (by decide), h5, h4]; exact scost_R hD hp hq9
          have ev_v : entv R9 n q tr = e q := by
            have e1_v : entv R9 n q tr = entv R n q tr := by
              unfold entv
              rw [ro 9 (by decide) (by decide), ro 10 (by decide) (by decide), ro 19 (by decide) (by decide), ro 20 (by decide) (by decide), ro 23 (by decide) (by decide), ro 24 (by decide) (by decide), ro 29 (by decide) (by decide)]
            rw [e1_v, hent q hq9, cI_t bo.2.2.2.2.2.2]
          have ep := he q hq9
          have hen9 : -1 ≤ entv R9 n q tr ∧ entv R9 n q tr ≤ 100000020 := by rw [ev_v]; omega
          have pe := pb_eq (r := r) (n := n) (tr := tr) (R := R9) hD he0 hf ((ro 4 (by decide) (by decide)).trans h4) ((ro 5 (by decide) (by decide)).trans h5) (by rw [r26]; exact hT) hq9 cq (by omega) ev_v
          refine zx_go (pc1 := 69) (l1 := [some (zr 15), some (zi n), some (zi r), some (zi tr), some (zi q)]) (st1 := [zi tr, zi q, zi n, zr 15]) (w1 := wr c R9) g_X3_traceBack 4 _ _ _ _ rfl ?_
          refine zx_cvF (As := [zi n, zi q, zi tr]) (rest := []) g_X3_traceBack rfl g_X3_placeBefore rfl rfl (Nat.le_of_ble_eq_true rfl) (Nat.le_of_ble_eq_true rfl) rfl (by decide) (s_placeBefore hg hq9 htr hb9 hco9 hsc9 hen9) ?_
          refine zx_go (pc1 := 8) (l1 := [some (zr 15), some (zi n), some (zi r), some (zi tr), some (zi (bes c q (kth (pbP c R9 n q tr) 6 0 0)))]) (st1 := []) (w1 := wr c R9) g_X3_traceBack 2 _ _ _ _ rfl ?_
          skip
          refine ih8 (Int.toNat ((cS c : Int) - R9 15 9)) (by omega) (bes c q (kth (pbP c R9 n q tr) 6 0 0)) R9 (by omega) ?_
          refine ⟨ro, r15, k + 1, by rw [r9]; omega, by omega, fun j hj => r31 j (by omega), ?_⟩
          refine .inl ⟨?_, fun j hj => ?_⟩
          · rw [pe, c1_v]; rfl
          · by_cases y : j = k
            · rw [y, ← c1_v]; exact nt
            · exact c2_v j (by omega)
        · refine zx_go (pc1 := 8) (l1 := [some (zr 15), some (zi n), some (zi r), some (zi tr), some (zi (-1))]) (st1 := []) (w1 := wr c R9) g_X3_traceBack 4 _ _ _ _ rfl ?_
          skip
          refine ih8 (Int.toNat ((cS c : Int) - R9 15 9)) (by omega) (-1) R9 (by omega) ?_
          refine ⟨ro, r15, k + 1, by rw [r9]; omega, by omega, fun j hj => r31 j (by omega), ?_⟩
          refine .inr ⟨rfl, k, rfl, c2_v, ?_⟩
          rw [← c1_v]
          have h58 : R9 26 q = 0 := Classical.not_not.mp h57
          rw [cq] at h58
          exact Classical.byContradiction fun z => by
            have := (bd_ok hD he0 hf hq9 z wF).2.2.2.2.2.1
            have := (hf.2.1 _ (bd_ok hD he0 hf hq9 z wF).2.2.1).1
            omega
  refine lp8 (Int.toNat ((cS c : Int) - (zU R 15 9 0) 15 9)) r (zU R 15 9 0) (by omega) ?_
  refine ⟨fun a a1_v a2 => by rw [zU_cell a1_v], fun j hj => by rw [zU_at hj], 0, by rw [zU_same]; rfl, by omega, fun j hj => by omega, .inl ⟨rfl, fun j hj => by omega⟩⟩

