/-! ===== the search ===== -/
noncomputable def cnt (P : Int → Prop) : Nat → Int
  | 0 => 0
  | n + 1 => cnt P n + bI (P n)
theorem cnt_R (P : Int → Prop) : ∀ n : Nat, 0 ≤ cnt P n ∧ cnt P n ≤ n
  | 0 => by unfold cnt; omega
  | n + 1 => by
    have := cnt_R P n
    have := bI_01 (P n)
    unfold cnt
    omega
theorem cnt_congr {P P1 : Int → Prop} : ∀ n : Nat, (∀ i : Int, 0 ≤ i → i < n → (P i ↔ P1 i)) → cnt P n = cnt P1 n
  | 0, _ => rfl
  | n + 1, h => by
    unfold cnt
    rw [cnt_congr n (fun i a b => h i a (by omega)), bI_congr (h n (by omega) (by omega))]
theorem cnt_full {P : Int → Prop} : ∀ n : Nat, cnt P n = n → ∀ i : Int, 0 ≤ i → i < n → P i
  | 0, _, i, a, b => by omega
  | n + 1, h, i, a, b => by
    have c1 := cnt_R P n
    have c2 := bI_01 (P n)
    unfold cnt at h
    by_cases e : i = n
    · subst e
      exact bI_1.mp (by omega)
    · exact cnt_full n (by omega) i a (by omega)
theorem cnt_ins {P P1 : Int → Prop} {k : Int} (k0 : 0 ≤ k) (hk : ¬ P k) : ∀ n : Nat, k < n → (∀ i : Int, 0 ≤ i → i < n → (P1 i ↔ (P i ∨ i = k))) → cnt P1 n = cnt P n + 1
  | 0, a, _ => by omega
  | n + 1, a, h => by
    unfold cnt
    by_cases e : k = n
    · subst e
      rw [cnt_congr n (fun i i0 i1 => (h i i0 (by omega)).trans ⟨fun z => z.elim id (fun y => absurd y (by omega)), .inl⟩), bI_t ((h n (by omega) (by omega)).mpr (.inr rfl)), bI_f hk]
      omega
    · rw [cnt_ins k0 hk n (by omega) (fun i i0 i1 => h i i0 (by omega)), bI_congr ((h n (by omega) (by omega)).trans ⟨fun z => z.elim id (fun y => absurd y.symm e), .inl⟩)]
      omega
theorem cnt_mono {P P1 : Int → Prop} : ∀ n : Nat, (∀ i : Int, 0 ≤ i → i < n → P i → P1 i) → cnt P n ≤ cnt P1 n
  | 0, _ => by unfold cnt; omega
  | n + 1, h => by
    have := cnt_mono n (fun i a b => h i a (by omega))
    unfold cnt
    by_cases q : P n
    · rw [bI_t q, bI_t (h n (by omega) (by omega) q)]; omega
    · have := bI_01 (P1 n)
      rw [bI_f q]; omega
theorem cnt_none {P : Int → Prop} : ∀ n : Nat, (∀ i : Int, 0 ≤ i → i < n → ¬ P i) → cnt P n = 0
  | 0, _ => rfl
  | n + 1, h => by
    unfold cnt
    rw [cnt_none n (fun i a b => h i a (by omega)), bI_f (h n (by omega) (by omega))]
    rfl
theorem bes_opp {c : zC} (hg : Geo c) {p d : Int} (hp : pls c p) (d0 : 0 ≤ d) (d1 : d < 6) (h : bes c p d ≠ -1) : ∃ d', 0 ≤ d' ∧ d' < 6 ∧ bes c (bes c p d) d' = p := by
  have g1 := place_geo hg hp.1 hp.2
  have g2 := hg
  unfold Geo at g2
  have g3 := hg.S
  obtain ⟨l0, l1, x0, x1, y0, y1, e⟩ := g1
  have key : ∀ z x y, 0 ≤ z → z < cLa c → 0 ≤ x → x < cW c → 0 ≤ y → y < cH c → lay c (pl c z x y) = z ∧ xo c (pl c z x y) = x ∧ yo c (pl c z x y) = y := fun z x y a1 a2 a3 a4 a5 a6 => (pl_geo hg a1 a2 a3 a4 a5 a6).2.2
  by_cases d0' : d = 0
  · subst d0'
    have hb : bes c p 0 = if 0 < xo c p then p - 1 else -1 := rfl
    by_cases q : 0 < xo c p
    · rw [if_pos q] at hb
      have k := key (lay c p) (xo c p - 1) (yo c p) l0 l1 (by omega) (by omega) y0 y1
      rw [show pl c (lay c p) (xo c p - 1) (yo c p) = p - 1 by unfold pl at *; omega] at k
      refine ⟨1, by decide, by decide, ?_⟩
      rw [hb]
      show (if xo c (p - 1) < cW c - 1 then p - 1 + 1 else -1) = p
      rw [if_pos (by omega)]
      omega
    · rw [if_neg q] at hb
      exact absurd hb h
  by_cases d1' : d = 1
  · subst d1'
    have hb : bes c p 1 = if xo c p < cW c - 1 then p + 1 else -1 := rfl
    by_cases q : xo c p < cW c - 1
    · rw [if_pos q] at hb
      have k := key (lay c p) (xo c p + 1) (yo c p) l0 l1 (by omega) (by omega) y0 y1
      rw [show pl c (lay c p) (xo c p + 1) (yo c p) = p + 1 by unfold pl at *; omega] at k
      refine ⟨0, by decide, by decide, ?_⟩
      rw [hb]
      show (if 0 < xo c (p + 1) then p + 1 - 1 else -1) = p
      rw [if_pos (by omega)]
      omega
    · rw [if_neg q] at hb
      exact absurd hb h
  by_cases d2' : d = 2
  · subst d2'
    have hb : bes c p 2 = if 0 < yo c p then p - cW c else -1 := rfl
    by_cases q : 0 < yo c p
    · rw [if_pos q] at hb
      have k := key (lay c p) (xo c p) (yo c p - 1) l0 l1 x0 x1 (by omega) (by omega)
      rw [show pl c (lay c p) (xo c p) (yo c p - 1) = p - cW c by unfold pl at *; rw [Int.sub_mul]; omega] at k
      refine ⟨3, by decide, by decide, ?_⟩
      rw [hb]
      show (if yo c (p - cW c) < cH c - 1 then p - cW c + cW c else -1) = p
      rw [if_pos (by omega)]
      omega
    · rw [if_neg q] at hb
      exact absurd hb h
  by_cases d3' : d = 3
  · subst d3'
    have hb : bes c p 3 = if yo c p < cH c - 1 then p + cW c else -1 := rfl
    by_cases q : yo c p < cH c - 1
    · rw [if_pos q] at hb
      have k := key (lay c p) (xo c p) (yo c p + 1) l0 l1 x0 x1 (by omega) (by omega)
      rw [show pl c (lay c p) (xo c p) (yo c p + 1) = p + cW c by unfold pl at *; rw [Int.add_mul]; omega] at k
      refine ⟨2, by decide, by decide, ?_⟩
      rw [hb]
      show (if 0 < yo c (p + cW c) then p + cW c - cW c else -1) = p
      rw [if_pos (by omega)]
      omega
    · rw [if_neg q] at hb
      exact absurd hb h
  by_cases d4' : d = 4
  · subst d4'
    have hb : bes c p 4 = if 0 < lay c p then p - cW c * cH c else -1 := rfl
    by_cases q : 0 < lay c p
    · rw [if_pos q] at hb
      have k := key (lay c p - 1) (xo c p) (yo c p) (by omega) (by omega) x0 x1 y0 y1
      rw [show pl c (lay c p - 1) (xo c p) (yo c p) = p - cW c * cH c by unfold pl at *; rw [Int.sub_mul]; omega] at k
      refine ⟨5, by decide, by decide, ?_⟩
      rw [hb]
      show (if lay c (p - cW c * cH c) < cLa c - 1 then p - cW c * cH c + cW c * cH c else -1) = p
      rw [if_pos (by omega)]
      omega
    · rw [if_neg q] at hb
      exact absurd hb h
  · have d5' : d = 5 := by omega
    subst d5'
    have hb : bes c p 5 = if lay c p < cLa c - 1 then p + cW c * cH c else -1 := rfl
    by_cases q : lay c p < cLa c - 1
    · rw [if_pos q] at hb
      have k := key (lay c p + 1) (xo c p) (yo c p) (by omega) (by omega) x0 x1 y0 y1
      rw [show pl c (lay c p + 1) (xo c p) (yo c p) = p + cW c * cH c by unfold pl at *; rw [Int.add_mul]; omega] at k
      refine ⟨4, by decide, by decide, ?_⟩
      rw [hb]
      show (if 0 < lay c (p + cW c * cH c) then p + cW c * cH c - cW c * cH c else -1) = p
      rw [if_pos (by omega)]
      omega
    · rw [if_neg q] at hb
      exact absurd hb h
/-- what holds of costs, of the places in the front (H) and of those taken (T); of the places from which W holds the steps have been tried -/
def DJ (c : zC) (D : zI) (O : Int → Prop) (e : Int → Int) (t : Int → Prop) (co : Int → Int) (H T : Int → Prop) (W : Int → Int → Prop) : Prop :=
  (∀ p, pls c p → 0 ≤ co p ∧ co p ≤ FAR) ∧ (∀ p, pls c p → t p → co p = 0) ∧ (∀ p, pls c p → (co p < FAR ↔ (H p ∨ T p))) ∧ (∀ p, pls c p → ¬ (H p ∧ T p)) ∧ (∀ p q, pls c p → pls c q → T p → H q → bef co p q) ∧
  (∀ p, pls c p → co p < FAR → t p ∨ (O p ∧ ∃ d, 0 ≤ d ∧ d < 6 ∧ bes c p d ≠ -1 ∧ T (bes c p d) ∧ co p = co (bes c p d) + scost c (D 5) (D 4) (bes c p d) p + e p)) ∧
  (∀ q d, pls c q → T q → W q d → 0 ≤ d → d < 6 → bes c q d ≠ -1 → ¬ t (bes c q d) → O (bes c q d) → co (bes c q d) ≤ co q + scost c (D 5) (D 4) q (bes c q d) + e (bes c q d))
section DJS
variable {c : zC} {D : zI} {O : Int → Prop} {e : Int → Int} {t : Int → Prop} {co f : Int → Int} {H T : Int → Prop} {W : Int → Int → Prop}
theorem dj_lo (hD : DOK c D) (he : ∀ p, pls c p → 0 ≤ e p) (h : DJ c D O e t co H T W) (hf : Dst c D O e t f) : ∀ (n : Nat) (p : Int), (co p).toNat = n → pls c p → f p ≤ co p := by
  obtain ⟨j1, j2, j3, j4, j5, j6, j7⟩ := h
  obtain ⟨f1, f2, f3, f4⟩ := hf
  intro n
  refine Nat.strongRecOn n (fun n ih => ?_)
  intro p hn hp
  have cp := j1 p hp
  have fp := f2 p hp
  by_cases q : co p < FAR
  · by_cases ht : t p
    · rw [f1 p hp ht]; exact cp.1
    · obtain ⟨o, d, d0, d1, d2, d3, d4⟩ := (j6 p hp q).resolve_left ht
      have hb := (bes_R hD.1 (d := d) hp).resolve_left d2
      have sc := scost_R hD hb hp
      have ep := he p hp
      have cb := j1 _ hb
      have i1 := ih (co (bes c p d)).toNat (by omega) _ rfl hb
      have := f3 p d hp ht o d0 d1 d2 (by omega)
      omega
  · omega
theorem dj_hi (hD : DOK c D) (he : ∀ p, pls c p → 0 ≤ e p) (h : DJ c D O e t co H T (fun _ _ => True)) (hf : Dst c D O e t f) {u : Int} (hu : pls c u) (hH : H u) (hm : ∀ q, pls c q → H q → ¬ bef co q u) : ∀ (n : Nat) (p : Int), (f p).toNat = n → pls c p → f p < FAR → (f p < co u ∨ (f p = co u ∧ p < u) ∨ p = u) → co p ≤ f p ∧ (T p ∨ p = u) := by
  have lo := dj_lo hD he h hf
  obtain ⟨j1, j2, j3, j4, j5, j6, j7⟩ := h
  obtain ⟨f1, f2, f3, f4⟩ := hf
  have lu := lo _ u rfl hu
  intro n
  refine Nat.strongRecOn n (fun n ih => ?_)
  intro p hn hp hF hpr
  have cp := j1 p hp
  have fp := f2 p hp
  have le : co p ≤ f p := by
    by_cases ht : t p
    · rw [j2 p hp ht]; exact fp.1
    · obtain ⟨o, d, d0, d1, d2, d3, d4⟩ := (f4 p hp hF).resolve_left ht
      have hb := (bes_R hD.1 (d := d) hp).resolve_left d2
      have sc := scost_R hD hb hp
      have ep := he p hp
      have fb := f2 _ hb
      have fu : f p ≤ co u := by
        rcases hpr with z | z | z
        · omega
        · omega
        · rw [z]; exact lu
      obtain ⟨i1, i2⟩ := ih (f (bes c p d)).toNat (by omega) _ rfl hb d3 (.inl (by omega))
      have hT : T (bes c p d) := by
        rcases i2 with z | z
        · exact z
        · have cz : co (bes c p d) = co u := by rw [z]
          omega
      obtain ⟨d', e0, e1, e2⟩ := bes_opp hD.1 hp d0 d1 d2
      have := j7 (bes c p d) d' hb hT trivial e0 e1 (by rw [e2]; have := hp.1; omega) (by rw [e2]; exact ht) (by rw [e2]; exact o)
      rw [e2] at this
      omega
  refine ⟨le, ?_⟩
  have := (j3 p hp).mp (by omega)
  rcases this with z | z
  · right
    have m := hm p hp z
    unfold bef at m
    rcases hpr with y | y | y
    · omega
    · omega
    · exact y
  · exact .inl z
theorem dj_all (hD : DOK c D) (he : ∀ p, pls c p → 0 ≤ e p) (h : DJ c D O e t co H T (fun _ _ => True)) (hf : Dst c D O e t f) (hm : ∀ q, pls c q → ¬ H q) : ∀ (n : Nat) (p : Int), (f p).toNat = n → pls c p → f p < FAR → co p ≤ f p ∧ T p := by
  obtain ⟨j1, j2, j3, j4, j5, j6, j7⟩ := h
  obtain ⟨f1, f2, f3, f4⟩ := hf
  intro n
  refine Nat.strongRecOn n (fun n ih => ?_)
  intro p hn hp hF
  have cp := j1 p hp
  have fp := f2 p hp
  have le : co p ≤ f p := by
    by_cases ht : t p
    · rw [j2 p hp ht]; exact fp.1
    · obtain ⟨o, d, d0, d1, d2, d3, d4⟩ := (f4 p hp hF).resolve_left ht
      have hb := (bes_R hD.1 (d := d) hp).resolve_left d2
      have sc := scost_R hD hb hp
      have ep := he p hp
      have fb := f2 _ hb
      obtain ⟨i1, hT⟩ := ih (f (bes c p d)).toNat (by omega) _ rfl hb d3
      obtain ⟨d', e0, e1, e2⟩ := bes_opp hD.1 hp d0 d1 d2
      have := j7 (bes c p d) d' hb hT trivial e0 e1 (by rw [e2]; have := hp.1; omega) (by rw [e2]; exact ht) (by rw [e2]; exact o)
      rw [e2] at this
      omega
  exact ⟨le, ((j3 p hp).mp (by omega)).resolve_left (hm p hp)⟩
/-- what the way back needs of costs -/
def TR (c : zC) (f co : Int → Int) (r : Int) : Prop := co r = f r ∧ ∀ p, pls c p → ((co p < f r ↔ f p < f r) ∧ (f p < f r → co p = f p))
theorem dj_end (hD : DOK c D) (he : ∀ p, pls c p → 0 ≤ e p) (h : DJ c D O e t co H T (fun _ _ => True)) (hf : Dst c D O e t f) {u : Int} (hu : pls c u) (hH : H u) (hm : ∀ q, pls c q → H q → ¬ bef co q u) : TR c f co u ∧ f u < FAR ∧ ∀ p, pls c p → f p < FAR → bef f p u → T p := by
  have lo := fun p hp => dj_lo hD he h hf _ p rfl hp
  have hi := fun p hp => dj_hi hD he h hf hu hH hm _ p rfl hp
  obtain ⟨j1, j2, j3, j4, j5, j6, j7⟩ := h
  have cu := (j3 u hu).mpr (.inl hH)
  have lu := lo u hu
  have hu2 := hi u hu (by omega) (.inr (.inr rfl))
  have eu : co u = f u := by omega
  refine ⟨⟨eu, fun p hp => ⟨⟨fun z => ?_, fun z => ?_⟩, fun z => ?_⟩⟩, by omega, fun p hp hF hb => ?_⟩
  · have := lo p hp
    omega
  · have := hi p hp (by omega) (.inl (by omega))
    omega
  · have := hi p hp (by omega) (.inl (by omega))
    have := lo p hp
    omega
  · unfold bef at hb
    have := hi p hp hF (by omega)
    rcases this.2 with z | z
    · exact z
    · subst z
      omega
end DJS
