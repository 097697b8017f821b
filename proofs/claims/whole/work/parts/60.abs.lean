/-! ===== what is to be computed, in whole numbers: D is the input (the class's cells 3, 4, 5, 9, 10, 11, 13, 14) ===== -/
def pls (c : zC) (p : Int) : Prop := 0 ≤ p ∧ p < (cS c : Int)
def shd (D : zI) (n : Int) : Prop := tb (D 10 1) n
noncomputable def rch (c : zC) (D : zI) (a b p : Int) : Int := D 3 (lay c p) + bI (shd D a ∨ shd D b)
def clash (c : zC) (D : zI) (a p b q : Int) : Prop := a ≠ b ∧ nr c p q (rch c D a b p)
theorem nr_symm {c : zC} {p q d : Int} (h : nr c p q d) : nr c q p d := by unfold nr at *; omega
theorem clash_symm {c : zC} {D : zI} {a p b q : Int} (h : clash c D a p b q) : clash c D b q a p := by
  obtain ⟨h1, h2⟩ := h
  refine ⟨fun z => h1 z.symm, ?_⟩
  have e : rch c D b a q = rch c D a b p := by
    unfold rch
    rw [h2.1, bI_congr (Or.comm)]
  rw [e]
  exact nr_symm h2
def DOK (c : zC) (D : zI) : Prop := Geo c ∧ (0 ≤ D 10 0 ∧ D 10 0 ≤ 16) ∧ (0 ≤ D 10 2 ∧ D 10 2 ≤ 40) ∧ M16 (D 10 1) ∧ (∀ z, 0 ≤ z → z < 3 → 0 ≤ D 3 z ∧ D 3 z ≤ 2 ∧ 0 ≤ D 4 z ∧ D 4 z ≤ 50 ∧ 1 ≤ D 5 z ∧ D 5 z ≤ 50) ∧ (∀ p, D 9 p = 0 ∨ D 9 p = 1) ∧ (∀ k, 0 ≤ k → k < D 10 2 → 0 ≤ D 11 k ∧ D 11 k < D 10 0) ∧ (∀ k, 0 ≤ k → k < 40 → 0 ≤ D 13 k ∧ D 13 k ≤ 4 ∧ ∀ i, 0 ≤ i → i < D 13 k → pls c (D 14 (k * 4 + i)))
/-- which of its places a pin gets -/
def mayb (c : zC) (D : zI) (f : Int → Int) (k p : Int) : Prop := D 9 p = 0 ∧ ∀ j, 0 ≤ j → j < k → f j ≠ -1 → ¬ clash c D (D 11 k) p (D 11 j) (D 14 (j * 4 + f j))
def PK (c : zC) (D : zI) (f : Int → Int) (K : Int) : Prop := ∀ k, 0 ≤ k → k < K → f k = kth (fun i => mayb c D f k (D 14 (k * 4 + i))) (D 13 k).toNat 0 0
theorem mayb_congr {c : zC} {D : zI} {f g : Int → Int} {k p : Int} (h : ∀ j, 0 ≤ j → j < k → f j = g j) : mayb c D f k p ↔ mayb c D g k p := by
  unfold mayb
  constructor
  · rintro ⟨a, b⟩
    refine ⟨a, fun j j0 j1 j2 => ?_⟩
    have := b j j0 j1 (by rw [h j j0 j1]; exact j2)
    rw [h j j0 j1] at this
    exact this
  · rintro ⟨a, b⟩
    refine ⟨a, fun j j0 j1 j2 => ?_⟩
    have := b j j0 j1 (by rw [← h j j0 j1]; exact j2)
    rw [← h j j0 j1] at this
    exact this
theorem PK_uniq {c : zC} {D : zI} {f g : Int → Int} {K : Int} (hf : PK c D f K) (hg : PK c D g K) : ∀ (n : Nat) (k : Int), k.toNat = n → 0 ≤ k → k < K → f k = g k := by
  intro n
  refine Nat.strongRecOn n (fun n ih => ?_)
  intro k hn k0 k1
  rw [hf k k0 k1, hg k k0 k1]
  refine kth_congr _ _ _ fun i _ _ => mayb_congr fun j j0 j1 => ?_
  exact ih j.toNat (by omega) j rfl j0 (by omega)
noncomputable def pkS (c : zC) (D : zI) : Nat → Int → Int
  | 0 => fun _ => -1
  | n + 1 => up1 (pkS c D n) n (kth (fun i => mayb c D (pkS c D n) n (D 14 ((n : Int) * 4 + i))) (D 13 n).toNat 0 0)
noncomputable def pk (c : zC) (D : zI) : Int → Int := pkS c D (D 10 2).toNat
theorem pkS_PK (c : zC) (D : zI) : ∀ n : Nat, PK c D (pkS c D n) n
  | 0 => fun k k0 k1 => absurd k1 (by omega)
  | n + 1 => fun k k0 k1 => by
    have ih := pkS_PK c D n
    by_cases e : k = n
    · subst e
      unfold pkS
      rw [up1_s]
      exact kth_congr _ _ _ fun i _ _ => mayb_congr fun j j0 j1 => by rw [up1_n (by omega)]
    · have := ih k k0 (by omega)
      unfold pkS
      rw [up1_n e, this]
      exact kth_congr _ _ _ fun i _ _ => mayb_congr fun j j0 j1 => by rw [up1_n (by omega)]
theorem pk_PK {c : zC} {D : zI} (h : 0 ≤ D 10 2) : PK c D (pk c D) (D 10 2) := by
  have := pkS_PK c D (D 10 2).toNat
  unfold pk
  rw [show (((D 10 2).toNat : Nat) : Int) = D 10 2 by omega] at this
  exact this
theorem pk_of {c : zC} {D : zI} {f : Int → Int} (h : 0 ≤ D 10 2) (hf : PK c D f (D 10 2)) {k : Int} (k0 : 0 ≤ k) (k1 : k < D 10 2) : f k = pk c D k := PK_uniq hf (pk_PK h) _ k rfl k0 k1
noncomputable def pp (c : zC) (D : zI) (k : Int) : Int := D 14 (k * 4 + pk c D k)
def pin (c : zC) (D : zI) (n p : Int) : Prop := ∃ k, 0 ≤ k ∧ k < D 10 2 ∧ D 11 k = n ∧ pk c D k ≠ -1 ∧ pp c D k = p
def clo (c : zC) (D : zI) (n : Int) : Prop := ∃ k, 0 ≤ k ∧ k < D 10 2 ∧ D 11 k = n ∧ pk c D k = -1
theorem pk_R {c : zC} {D : zI} (h : DOK c D) {k : Int} (k0 : 0 ≤ k) (k1 : k < D 10 2) : -1 ≤ pk c D k ∧ pk c D k < 4 ∧ (pk c D k ≠ -1 → pls c (pp c D k) ∧ mayb c D (pk c D) k (pp c D k)) := by
  obtain ⟨hg, hn, hp, hs, hr, hb, hm, ha⟩ := h
  have e := pk_PK (c := c) hp.1 k k0 k1
  have a := ha k k0 (by omega)
  rcases kth_lt (P := fun i => mayb c D (pk c D) k (D 14 (k * 4 + i))) (D 13 k).toNat 0 0 with q | ⟨q1, q2, q3⟩
  · rw [q] at e
    exact ⟨by omega, by omega, fun z => absurd e z⟩
  · rw [← e] at q1 q2 q3
    exact ⟨by omega, by omega, fun z => ⟨a.2.2 _ q1 (by omega), q3⟩⟩
theorem pin_R {c : zC} {D : zI} (h : DOK c D) {n p : Int} (hp : pin c D n p) : 0 ≤ n ∧ n < D 10 0 ∧ pls c p ∧ D 9 p = 0 := by
  obtain ⟨k, k0, k1, k2, k3, k4⟩ := hp
  have a := (pk_R h k0 k1).2.2 k3
  have b := h.2.2.2.2.2.2.1 k k0 k1
  subst k4
  subst k2
  exact ⟨b.1, b.2, a.1, a.2.1⟩
/-- chosen places of different nets do not clash -/
theorem pin_free {c : zC} {D : zI} (h : DOK c D) {a p b q : Int} (hp : pin c D a p) (hq : pin c D b q) : ¬ clash c D a p b q := by
  obtain ⟨k, k0, k1, k2, k3, k4⟩ := hp
  obtain ⟨j, j0, j1, j2, j3, j4⟩ := hq
  have A := (pk_R h k0 k1).2.2 k3
  have B := (pk_R h j0 j1).2.2 j3
  subst k4 j4 k2 j2
  intro z
  by_cases e : j < k
  · exact A.2.2 j j0 e j3 z
  · by_cases e2 : k < j
    · exact B.2.2 k k0 e2 k3 (clash_symm z)
    · have e3 : k = j := by omega
      subst e3
      exact z.1 rfl
def nearC (c : zC) (D : zI) (n p : Int) : Prop := ∃ b q, pin c D b q ∧ clash c D n p b q
def nearR (c : zC) (D : zI) (rt : Int → Int → Prop) (n p : Int) : Prop := ∃ b q, pls c q ∧ rt b q ∧ clash c D n p b q
abbrev FAR : Int := 1000000000
/-- least costs: O may be gone to, e is what it costs beside the step, t costs nothing -/
def Dst (c : zC) (D : zI) (O : Int → Prop) (e : Int → Int) (t : Int → Prop) (f : Int → Int) : Prop := (∀ p, pls c p → t p → f p = 0) ∧ (∀ p, pls c p → 0 ≤ f p ∧ f p ≤ FAR) ∧ (∀ p d, pls c p → ¬ t p → O p → 0 ≤ d → d < 6 → bes c p d ≠ -1 → f (bes c p d) < FAR → f p ≤ f (bes c p d) + scost c (D 5) (D 4) (bes c p d) p + e p) ∧ (∀ p, pls c p → f p < FAR → t p ∨ (O p ∧ ∃ d, 0 ≤ d ∧ d < 6 ∧ bes c p d ≠ -1 ∧ f (bes c p d) < FAR ∧ f p = f (bes c p d) + scost c (D 5) (D 4) (bes c p d) p + e p))
theorem bes_R {c : zC} (hg : Geo c) {p d : Int} (hp : pls c p) : bes c p d = -1 ∨ pls c (bes c p d) := by
  have g1 := place_geo hg hp.1 hp.2
  have g2 := hg
  unfold Geo at g2
  have g3 := hg.S
  obtain ⟨l0, l1, x0, x1, y0, y1, e⟩ := g1
  have h0 := hp.1
  have h1 := hp.2
  have hw : 0 ≤ yo c p * cW c := Int.mul_nonneg y0 (by omega)
  have hl : 0 ≤ lay c p * (cW c * cH c) := Int.mul_nonneg l0 (by omega)
  have up : ∀ z x y, 0 ≤ z → z < cLa c → 0 ≤ x → x < cW c → 0 ≤ y → y < cH c → pls c (pl c z x y) := fun z x y a1 a2 a3 a4 a5 a6 => ⟨(pl_geo hg a1 a2 a3 a4 a5 a6).1, (pl_geo hg a1 a2 a3 a4 a5 a6).2.1⟩
  unfold bes
  by_cases d0 : d = 0
  · rw [if_pos d0]
    split
    · right
      have := up (lay c p) (xo c p - 1) (yo c p) l0 l1 (by omega) (by omega) y0 y1
      rw [show pl c (lay c p) (xo c p - 1) (yo c p) = p - 1 by unfold pl at *; omega] at this
      exact this
    · exact .inl rfl
  rw [if_neg d0]
  by_cases d1 : d = 1
  · rw [if_pos d1]
    split
    · right
      have := up (lay c p) (xo c p + 1) (yo c p) l0 l1 (by omega) (by omega) y0 y1
      rw [show pl c (lay c p) (xo c p + 1) (yo c p) = p + 1 by unfold pl at *; omega] at this
      exact this
    · exact .inl rfl
  rw [if_neg d1]
  by_cases d2 : d = 2
  · rw [if_pos d2]
    split
    · right
      have := up (lay c p) (xo c p) (yo c p - 1) l0 l1 x0 x1 (by omega) (by omega)
      rw [show pl c (lay c p) (xo c p) (yo c p - 1) = p - cW c by unfold pl at *; rw [Int.sub_mul]; omega] at this
      exact this
    · exact .inl rfl
  rw [if_neg d2]
  by_cases d3 : d = 3
  · rw [if_pos d3]
    split
    · right
      have := up (lay c p) (xo c p) (yo c p + 1) l0 l1 x0 x1 (by omega) (by omega)
      rw [show pl c (lay c p) (xo c p) (yo c p + 1) = p + cW c by unfold pl at *; rw [Int.add_mul]; omega] at this
      exact this
    · exact .inl rfl
  rw [if_neg d3]
  by_cases d4 : d = 4
  · rw [if_pos d4]
    split
    · right
      have := up (lay c p - 1) (xo c p) (yo c p) (by omega) (by omega) x0 x1 y0 y1
      rw [show pl c (lay c p - 1) (xo c p) (yo c p) = p - cW c * cH c by unfold pl at *; rw [Int.sub_mul]; omega] at this
      exact this
    · exact .inl rfl
  rw [if_neg d4]
  by_cases d5 : d = 5
  · rw [if_pos d5]
    split
    · right
      have := up (lay c p + 1) (xo c p) (yo c p) (by omega) (by omega) x0 x1 y0 y1
      rw [show pl c (lay c p + 1) (xo c p) (yo c p) = p + cW c * cH c by unfold pl at *; rw [Int.add_mul]; omega] at this
      exact this
    · exact .inl rfl
  rw [if_neg d5]
  exact .inl rfl
theorem scost_R {c : zC} {D : zI} (h : DOK c D) {p q : Int} (hp : pls c p) (hq : pls c q) : 1 ≤ scost c (D 5) (D 4) p q ∧ scost c (D 5) (D 4) p q ≤ 51 := by
  have gp := place_geo h.1 hp.1 hp.2
  have gq := place_geo h.1 hq.1 hq.2
  have g2 := h.1
  unfold Geo at g2
  have hr := h.2.2.2.2.1
  have r1 := hr (lay c p) (by omega) (by omega)
  have r2 := hr (min (lay c p) (lay c q)) (by omega) (by omega)
  unfold scost
  split
  · omega
  · split
    · omega
    · omega
theorem scost_symm {c : zC} {vi jg : Int → Int} {p q : Int} : scost c vi jg p q = scost c vi jg q p := by
  unfold scost
  by_cases h : lay c q = lay c p
  · have h2 : ¬ (lay c q ≠ lay c p) := fun z => z h
    have h3 : ¬ (lay c p ≠ lay c q) := fun z => z h.symm
    rw [if_neg h2, if_neg h3, h]
    by_cases e : yo c p = yo c q ↔ lay c p % 2 = 0
    · rw [if_pos e, if_pos (eq_comm.trans e)]
    · rw [if_neg e, if_neg (fun z => e (eq_comm.trans z))]
  · rw [if_pos h, if_pos (fun z => h z.symm), Int.min_comm]
theorem Dst_uniq {c : zC} {D : zI} (h : DOK c D) {O : Int → Prop} {e : Int → Int} {t : Int → Prop} {f g : Int → Int} (he : ∀ p, pls c p → 0 ≤ e p) (hf : Dst c D O e t f) (hg : Dst c D O e t g) : ∀ (n : Nat) (p : Int), (g p).toNat = n → pls c p → f p ≤ g p := by
  obtain ⟨f1, f2, f3, f4⟩ := hf
  obtain ⟨g1, g2, g3, g4⟩ := hg
  intro n
  refine Nat.strongRecOn n (fun n ih => ?_)
  intro p hn hp
  have gp := g2 p hp
  have fp := f2 p hp
  by_cases q : g p < FAR
  · by_cases ht : t p
    · rw [f1 p hp ht]
      exact gp.1
    · obtain ⟨o, d, d0, d1, d2, d3, d4⟩ := (g4 p hp q).resolve_left ht
      have hb := (bes_R h.1 (d := d) hp).resolve_left d2
      have sc := scost_R h hb hp
      have ep := he p hp
      have gb := g2 _ hb
      have := ih (g (bes c p d)).toNat (by omega) _ rfl hb
      have := f3 p d hp ht o d0 d1 d2 (by omega)
      omega
  · omega
theorem Dst_eq {c : zC} {D : zI} (h : DOK c D) {O : Int → Prop} {e : Int → Int} {t : Int → Prop} {f g : Int → Int} (he : ∀ p, pls c p → 0 ≤ e p) (hf : Dst c D O e t f) (hg : Dst c D O e t g) {p : Int} (hp : pls c p) : f p = g p := by
  have a := Dst_uniq h he hf hg _ p rfl hp
  have b := Dst_uniq h he hg hf _ p rfl hp
  omega
theorem leastN {P : Nat → Prop} {n : Nat} (h : P n) : ∃ m, P m ∧ ∀ k, P k → m ≤ k := by
  refine Classical.byContradiction fun q => ?_
  have : ∀ n, ¬ P n := fun n => Nat.strongRecOn n (fun n ih hn => q ⟨n, hn, fun k hk => by
    by_cases z : n ≤ k
    · exact z
    · exact absurd hk (ih k (by omega))⟩)
  exact this n h
def Wk (c : zC) (D : zI) (O : Int → Prop) (e : Int → Int) (t : Int → Prop) : Nat → Int → Int → Prop
  | 0, p, v => t p ∧ v = 0
  | k + 1, p, v => ¬ t p ∧ O p ∧ ∃ d u, 0 ≤ d ∧ d < 6 ∧ bes c p d ≠ -1 ∧ u < FAR ∧ Wk c D O e t k (bes c p d) u ∧ v = u + scost c (D 5) (D 4) (bes c p d) p + e p
theorem Wk_0 {c : zC} {D : zI} (h : DOK c D) {O : Int → Prop} {e : Int → Int} {t : Int → Prop} (he : ∀ p, pls c p → 0 ≤ e p) : ∀ (k : Nat) (p v : Int), pls c p → Wk c D O e t k p v → 0 ≤ v
  | 0, p, v, hp, ⟨_, q⟩ => by omega
  | k + 1, p, v, hp, ⟨_, _, d, u, d0, d1, d2, u1, w, q⟩ => by
    have hb := (bes_R h.1 (d := d) hp).resolve_left d2
    have := Wk_0 h he k _ u hb w
    have := scost_R h hb hp
    have := he p hp
    omega
theorem Dst_ex {c : zC} {D : zI} (h : DOK c D) {O : Int → Prop} {e : Int → Int} {t : Int → Prop} (he : ∀ p, pls c p → 0 ≤ e p) : ∃ f, Dst c D O e t f := by
  have ex : ∀ p, ∃ v : Int, pls c p → (0 ≤ v ∧ v ≤ FAR ∧ (∀ k u, Wk c D O e t k p u → v ≤ u) ∧ (v < FAR → ∃ k, Wk c D O e t k p v)) := by
    intro p
    by_cases hp : pls c p
    · by_cases q : ∃ n : Nat, ∃ k, Wk c D O e t k p (n : Int)
      · obtain ⟨n, hn⟩ := q
        obtain ⟨m, ⟨k, hm⟩, hl⟩ := leastN (P := fun n : Nat => ∃ k, Wk c D O e t k p (n : Int)) hn
        by_cases z : (m : Int) < FAR
        · refine ⟨m, fun _ => ⟨by omega, by omega, fun k u hu => ?_, fun _ => ⟨k, hm⟩⟩⟩
          have u0 := Wk_0 h he k p u hp hu
          have := hl u.toNat ⟨k, by rw [show ((u.toNat : Nat) : Int) = u by omega]; exact hu⟩
          omega
        · refine ⟨FAR, fun _ => ⟨by decide, by omega, fun k u hu => ?_, fun z => absurd z (by omega)⟩⟩
          have u0 := Wk_0 h he k p u hp hu
          have := hl u.toNat ⟨k, by rw [show ((u.toNat : Nat) : Int) = u by omega]; exact hu⟩
          omega
      · refine ⟨FAR, fun _ => ⟨by decide, by omega, fun k u hu => ?_, fun z => absurd z (by omega)⟩⟩
        have u0 := Wk_0 h he k p u hp hu
        exact absurd ⟨u.toNat, k, by rw [show ((u.toNat : Nat) : Int) = u by omega]; exact hu⟩ q
    · exact ⟨0, fun z => absurd z hp⟩
  obtain ⟨f, sp⟩ := Classical.axiomOfChoice ex
  refine ⟨f, fun p hp ht => ?_, fun p hp => ⟨(sp p hp).1, (sp p hp).2.1⟩, fun p d hp ht ho d0 d1 d2 hq => ?_, fun p hp hq => ?_⟩
  · have := (sp p hp).2.2.1 0 0 ⟨ht, rfl⟩
    have := (sp p hp).1
    omega
  · have hb := (bes_R h.1 (d := d) hp).resolve_left d2
    obtain ⟨k, hk⟩ := (sp _ hb).2.2.2 hq
    exact (sp p hp).2.2.1 (k + 1) _ ⟨ht, ho, d, _, d0, d1, d2, hq, hk, rfl⟩
  · obtain ⟨k, hk⟩ := (sp p hp).2.2.2 hq
    cases k with
    | zero => exact .inl hk.1
    | succ k =>
      obtain ⟨ht, ho, d, u, d0, d1, d2, u1, w, e1⟩ := hk
      have hb := (bes_R h.1 (d := d) hp).resolve_left d2
      have b1 := (sp _ hb).2.2.1 k u w
      obtain ⟨k2, hk2⟩ := (sp _ hb).2.2.2 (by omega)
      have b2 := (sp p hp).2.2.1 (k2 + 1) _ ⟨ht, ho, d, _, d0, d1, d2, by omega, hk2, rfl⟩
      exact .inr ⟨ho, d, d0, d1, d2, by omega, by omega⟩
noncomputable def dst (c : zC) (D : zI) (O : Int → Prop) (e : Int → Int) (t : Int → Prop) : Int → Int := Classical.epsilon (Dst c D O e t)
theorem dst_Dst {c : zC} {D : zI} (h : DOK c D) {O : Int → Prop} {e : Int → Int} {t : Int → Prop} (he : ∀ p, pls c p → 0 ≤ e p) : Dst c D O e t (dst c D O e t) := Classical.epsilon_spec (Dst_ex h he)
/-- the best of some, or -1 -/
noncomputable def gl (cand : Int → Prop) (f : Int → Int) : Int := pI (∃ p, cand p) (Classical.epsilon (fun e => cand e ∧ ∀ p, cand p → ¬ bef f p e)) (-1)
theorem gl_eq {cand : Int → Prop} {f : Int → Int} {e : Int} (h : cand e) (hm : ∀ p, cand p → ¬ bef f p e) : gl cand f = e := by
  unfold gl
  rw [pI_t ⟨e, h⟩]
  have s := Classical.epsilon_spec (p := fun e => cand e ∧ ∀ p, cand p → ¬ bef f p e) ⟨e, h, hm⟩
  generalize Classical.epsilon (fun e => cand e ∧ ∀ p, cand p → ¬ bef f p e) = e1 at s
  have a := s.2 e h
  have b := hm e1 s.1
  unfold bef at a b
  omega
theorem gl_no {cand : Int → Prop} {f : Int → Int} (h : ∀ p, ¬ cand p) : gl cand f = -1 := pI_f (fun ⟨p, q⟩ => h p q)
