/-! ===== heaps: the least first ===== -/
def up1 (f : Int → Int) (k v : Int) : Int → Int := fun j => if j = k then v else f j
theorem up1_s (f : Int → Int) (k v : Int) : up1 f k v k = v := if_pos rfl
theorem up1_n {f : Int → Int} {k v j : Int} (h : j ≠ k) : up1 f k v j = f j := if_neg h
theorem zU_row (R : zI) (a : Nat) (k v : Int) : zU R a k v a = up1 (R a) k v := by
  funext j
  unfold zU up1
  by_cases h : j = k
  · rw [if_pos ⟨rfl, h⟩, if_pos h]
  · rw [if_neg (fun z => h z.2), if_neg h]
theorem bef_asymm {f : Int → Int} {a b : Int} (h : bef f a b) : ¬ bef f b a := by unfold bef at *; omega
theorem nbef_trans {f : Int → Int} {a b d : Int} (h : ¬ bef f a b) (h1 : ¬ bef f b d) : ¬ bef f a d := by unfold bef at *; omega
theorem nbef_bef {f : Int → Int} {a b d : Int} (h : ¬ bef f a b) (h1 : bef f d b) : ¬ bef f a d := by unfold bef at *; omega
theorem bef_irr {f : Int → Int} {a : Int} : ¬ bef f a a := by unfold bef; omega
theorem bef_tri {f : Int → Int} {a b : Int} (h : ¬ bef f a b) (h1 : a ≠ b) : bef f b a := by unfold bef at *; omega
/-- a row of places and where each is -/
def HW (S : Int) (h s : Int → Int) (len : Int) : Prop := 0 ≤ len ∧ len ≤ S ∧ (∀ i, 0 ≤ i → i < len → 0 ≤ h i ∧ h i < S ∧ s (h i) = i) ∧ (∀ p, 0 ≤ p → p < S → s p = -1 ∨ (0 ≤ s p ∧ s p < len ∧ h (s p) = p))
def HO (h co : Int → Int) (len : Int) : Prop := ∀ i, 0 < i → i < len → ¬ bef co (h i) (h ((i - 1) / 2))
/-- with a hole, for pl to come into -/
def HX (S : Int) (h s : Int → Int) (len t pl : Int) : Prop := 0 ≤ t ∧ t < len ∧ len ≤ S ∧ 0 ≤ pl ∧ pl < S ∧ (∀ i, 0 ≤ i → i < len → i ≠ t → 0 ≤ h i ∧ h i < S ∧ s (h i) = i ∧ h i ≠ pl) ∧ (∀ p, 0 ≤ p → p < S → p ≠ pl → s p = -1 ∨ (0 ≤ s p ∧ s p < len ∧ s p ≠ t ∧ h (s p) = p))
def HY (h co : Int → Int) (len t : Int) : Prop := (∀ i, 0 < i → i < len → i ≠ t → (i - 1) / 2 ≠ t → ¬ bef co (h i) (h ((i - 1) / 2))) ∧ (∀ i, 0 < i → i < len → (i - 1) / 2 = t → 0 < t → ¬ bef co (h i) (h ((t - 1) / 2)))
def HU (h co : Int → Int) (len t pl : Int) : Prop := ∀ i, 0 < i → i < len → (i - 1) / 2 = t → ¬ bef co (h i) pl
def HD (h co : Int → Int) (t pl : Int) : Prop := 0 < t → ¬ bef co pl (h ((t - 1) / 2))
theorem hx_move {S len t pl j : Int} {h s : Int → Int} (H : HX S h s len t pl) (j0 : 0 ≤ j) (j1 : j < len) (jn : j ≠ t) : HX S (up1 h t (h j)) (up1 s (h j) t) len j pl ∧ ∀ p, 0 ≤ p → p < S → p ≠ pl → (up1 s (h j) t p = -1 ↔ s p = -1) := by
  obtain ⟨a1, a2, a3, a4, a5, a6, a7⟩ := H
  have hj := a6 j j0 j1 jn
  refine ⟨⟨j0, j1, a3, a4, a5, ?_, ?_⟩, ?_⟩
  · intro i i0 i1 i2
    by_cases e : i = t
    · subst e
      rw [up1_s, up1_s]
      exact ⟨hj.1, hj.2.1, rfl, hj.2.2.2⟩
    · have hi := a6 i i0 i1 e
      rw [up1_n e, up1_n (fun z => i2 (by rw [← hi.2.2.1, z, hj.2.2.1]))]
      exact hi
  · intro p p0 p1 p2
    by_cases e : p = h j
    · subst e
      rw [up1_s]
      exact .inr ⟨a1, a2, fun z => jn z.symm, up1_s _ _ _⟩
    · rw [up1_n e]
      rcases a7 p p0 p1 p2 with q | ⟨q1, q2, q3, q4⟩
      · exact .inl q
      · refine .inr ⟨q1, q2, fun z => e ?_, ?_⟩
        · rw [← q4, z]
        · rw [up1_n q3, q4]
  · intro p p0 p1 p2
    by_cases e : p = h j
    · subst e
      rw [up1_s, hj.2.2.1]
      constructor <;> intro z <;> omega
    · rw [up1_n e]
theorem hx_up {len t pl : Int} {h co : Int → Int} (H : HY h co len t) (HUp : HU h co len t pl) (t0 : 0 < t) (t1 : t < len) (hb : bef co pl (h ((t - 1) / 2))) : HY (up1 h t (h ((t - 1) / 2))) co len ((t - 1) / 2) ∧ HU (up1 h t (h ((t - 1) / 2))) co len ((t - 1) / 2) pl := by
  obtain ⟨b1, b2⟩ := H
  refine ⟨⟨?_, ?_⟩, ?_⟩
  · intro i i0 i1 i2 i3
    rw [up1_n (show i ≠ t by omega)]
    by_cases e : (i - 1) / 2 = t
    · rw [e, up1_s]
      exact b2 i i0 i1 e t0
    · rw [up1_n e]
      exact b1 i i0 i1 (by omega) e
  · intro i i0 i1 i2 i3
    rw [up1_n (show ((t - 1) / 2 - 1) / 2 ≠ t by omega)]
    have q := b1 ((t - 1) / 2) i3 (by omega) (by omega) (by omega)
    by_cases e : i = t
    · rw [e, up1_s]
      exact q
    · rw [up1_n e]
      have q2 := b1 i i0 i1 e (by omega)
      rw [i2] at q2
      exact nbef_trans q2 q
  · intro i i0 i1 i2
    by_cases e : i = t
    · rw [e, up1_s]
      exact bef_asymm hb
    · rw [up1_n e]
      have q2 := b1 i i0 i1 e (by omega)
      rw [i2] at q2
      exact nbef_bef q2 hb
theorem hx_dn {len t pl j : Int} {h co : Int → Int} (H : HY h co len t) (j0 : 0 < j) (j1 : j < len) (jt : (j - 1) / 2 = t) (hl : ∀ i, 0 < i → i < len → (i - 1) / 2 = t → ¬ bef co (h i) (h j)) (hb : bef co (h j) pl) : HY (up1 h t (h j)) co len j ∧ HD (up1 h t (h j)) co j pl := by
  obtain ⟨b1, b2⟩ := H
  refine ⟨⟨?_, ?_⟩, ?_⟩
  · intro i i0 i1 i2 i3
    by_cases e : i = t
    · subst e
      rw [up1_s, up1_n (show (i - 1) / 2 ≠ i by omega)]
      exact b2 j j0 j1 jt i0
    · rw [up1_n e]
      by_cases e2 : (i - 1) / 2 = t
      · rw [e2, up1_s]
        exact hl i i0 i1 e2
      · rw [up1_n e2]
        exact b1 i i0 i1 e e2
  · intro i i0 i1 i2 i3
    rw [jt, up1_s, up1_n (show i ≠ t by omega)]
    have := b1 i i0 i1 (by omega) (by omega)
    rw [i2] at this
    exact this
  · intro _
    rw [jt, up1_s]
    exact bef_asymm hb
theorem hx_end {S len t pl : Int} {h s co : Int → Int} (H : HX S h s len t pl) (HYp : HY h co len t) (HUp : HU h co len t pl) (HDp : HD h co t pl) : HW S (up1 h t pl) (up1 s pl t) len ∧ HO (up1 h t pl) co len ∧ ∀ p, 0 ≤ p → p < S → (up1 s pl t p = -1 ↔ (s p = -1 ∧ p ≠ pl)) := by
  obtain ⟨a1, a2, a3, a4, a5, a6, a7⟩ := H
  obtain ⟨b1, b2⟩ := HYp
  refine ⟨⟨by omega, a3, ?_, ?_⟩, ?_, ?_⟩
  · intro i i0 i1
    by_cases e : i = t
    · subst e
      rw [up1_s, up1_s]
      exact ⟨a4, a5, rfl⟩
    · have hi := a6 i i0 i1 e
      rw [up1_n e, up1_n hi.2.2.2]
      exact ⟨hi.1, hi.2.1, hi.2.2.1⟩
  · intro p p0 p1
    by_cases e : p = pl
    · subst e
      rw [up1_s, up1_s]
      exact .inr ⟨a1, a2, rfl⟩
    · rw [up1_n e]
      rcases a7 p p0 p1 e with q | ⟨q1, q2, q3, q4⟩
      · exact .inl q
      · rw [up1_n q3]
        exact .inr ⟨q1, q2, q4⟩
  · intro i i0 i1
    by_cases e : i = t
    · subst e
      rw [up1_s, up1_n (show (i - 1) / 2 ≠ i by omega)]
      exact HDp i0
    · rw [up1_n e]
      by_cases e2 : (i - 1) / 2 = t
      · rw [e2, up1_s]
        exact HUp i i0 i1 e2
      · rw [up1_n e2]
        exact b1 i i0 i1 e e2
  · intro p p0 p1
    by_cases e : p = pl
    · subst e
      rw [up1_s]
      constructor
      · intro z; omega
      · intro z; exact absurd rfl z.2
    · rw [up1_n e]
      exact ⟨fun z => ⟨z, e⟩, fun z => z.1⟩
/-- the first of a heap is the least -/
theorem ho_min {S len : Int} {h s co : Int → Int} (H : HW S h s len) (HOp : HO h co len) : ∀ (n : Nat) (i : Int), i.toNat = n → 0 ≤ i → i < len → ¬ bef co (h i) (h 0) := by
  intro n
  refine Nat.strongRecOn n (fun n ih => ?_)
  intro i hn i0 i1
  by_cases e : i = 0
  · rw [e]
    exact bef_irr
  · exact nbef_trans (HOp i (by omega) i1) (ih ((i - 1) / 2).toNat (by omega) ((i - 1) / 2) rfl (by omega) (by omega))
/-- more than n cannot go into n -/
theorem pig : ∀ (n : Nat) (f : Int → Int) (m : Int), (∀ i, 0 ≤ i → i < m → 0 ≤ f i ∧ f i < n) → (∀ i j, 0 ≤ i → i < m → 0 ≤ j → j < m → f i = f j → i = j) → m ≤ n
  | 0, f, m, h, hi => by
    by_cases q : 0 < m
    · have := h 0 (by omega) q
      omega
    · omega
  | n + 1, f, m, h, hi => by
    by_cases q : 0 < m
    · have hl := h (m - 1) (by omega) (by omega)
      have := pig n (fun i => if f i < f (m - 1) then f i else f i - 1) (m - 1) (fun i i0 i1 => by
        have a := h i i0 (by omega)
        have b : f i ≠ f (m - 1) := fun z => by have := hi i (m - 1) i0 (by omega) (by omega) (by omega) z; omega
        split <;> omega) (fun i j i0 i1 j0 j1 e => by
        have a : f i ≠ f (m - 1) := fun z => by have := hi i (m - 1) i0 (by omega) (by omega) (by omega) z; omega
        have b : f j ≠ f (m - 1) := fun z => by have := hi j (m - 1) j0 (by omega) (by omega) (by omega) z; omega
        refine hi i j i0 (by omega) j0 (by omega) ?_
        split at e <;> split at e <;> omega)
      omega
    · omega
theorem hw_room {S : Nat} {len p : Int} {h s : Int → Int} (H : HW S h s len) (p0 : 0 ≤ p) (p1 : p < S) (hp : s p = -1) : len < S := by
  obtain ⟨a1, a2, a3, a4⟩ := H
  have := pig S (fun i => if i < len then h i else p) (len + 1) (fun i i0 i1 => by
    split
    · have := a3 i i0 (by omega); omega
    · omega) (fun i j i0 i1 j0 j1 e => by
    split at e <;> split at e
    · rw [← (a3 i i0 (by omega)).2.2, e, (a3 j j0 (by omega)).2.2]
    · have := (a3 i i0 (by omega)).2.2; rw [e, hp] at this; omega
    · have := (a3 j j0 (by omega)).2.2; rw [← e, hp] at this; omega
    · omega)
  omega
/-- the beginnings: a place that is in, a place that comes in, the first taken out -/
theorem hx_in {S len p v : Int} {h s co : Int → Int} (H : HW S h s len) (HOp : HO h co len) (p0 : 0 ≤ p) (p1 : p < S) (hs : s p ≠ -1) (hv : v < co p) : HX S h s len (s p) p ∧ HY h (up1 co p v) len (s p) ∧ HU h (up1 co p v) len (s p) p := by
  obtain ⟨a1, a2, a3, a4⟩ := H
  obtain ⟨q1, q2, q3⟩ := (a4 p p0 p1).resolve_left hs
  have ne : ∀ i, 0 ≤ i → i < len → i ≠ s p → h i ≠ p := fun i i0 i1 i2 z => i2 (by rw [← z, (a3 i i0 i1).2.2])
  have bc : ∀ a b, a ≠ p → b ≠ p → ¬ bef co a b → ¬ bef (up1 co p v) a b := fun a b ha hb z => by
    unfold bef at *
    rw [up1_n ha, up1_n hb]
    exact z
  refine ⟨⟨q1, q2, a2, p0, p1, ?_, ?_⟩, ⟨?_, ?_⟩, ?_⟩
  · intro i i0 i1 i2
    have := a3 i i0 i1
    exact ⟨this.1, this.2.1, this.2.2, ne i i0 i1 i2⟩
  · intro b b0 b1 b2
    rcases a4 b b0 b1 with z | ⟨z1, z2, z3⟩
    · exact .inl z
    · exact .inr ⟨z1, z2, fun y => b2 (by rw [← z3, y, q3]), z3⟩
  · intro i i0 i1 i2 i3
    exact bc _ _ (ne i (by omega) i1 i2) (ne _ (by omega) (by omega) i3) (HOp i i0 i1)
  · intro i i0 i1 i2 i3
    refine bc _ _ (ne i (by omega) i1 (by omega)) (ne _ (by omega) (by omega) (by omega)) ?_
    have z1 := HOp i i0 i1
    have z2 := HOp (s p) i3 q2
    rw [i2] at z1
    exact nbef_trans z1 z2
  · intro i i0 i1 i2
    have z1 := HOp i i0 i1
    rw [i2, q3] at z1
    have z2 := ne i (by omega) i1 (by omega)
    unfold bef at *
    rw [up1_n z2, up1_s]
    omega
theorem hx_new {S : Nat} {len p v : Int} {h s co : Int → Int} (H : HW S h s len) (HOp : HO h co len) (p0 : 0 ≤ p) (p1 : p < S) (hs : s p = -1) : HX S h s (len + 1) len p ∧ HY h (up1 co p v) (len + 1) len ∧ HU h (up1 co p v) (len + 1) len p := by
  have hl := hw_room H p0 p1 hs
  obtain ⟨a1, a2, a3, a4⟩ := H
  have ne : ∀ i, 0 ≤ i → i < len → h i ≠ p := fun i i0 i1 z => by have := (a3 i i0 i1).2.2; rw [z, hs] at this; omega
  have bc : ∀ a b, a ≠ p → b ≠ p → ¬ bef co a b → ¬ bef (up1 co p v) a b := fun a b ha hb z => by
    unfold bef at *
    rw [up1_n ha, up1_n hb]
    exact z
  refine ⟨⟨a1, by omega, by omega, p0, p1, ?_, ?_⟩, ⟨?_, ?_⟩, ?_⟩
  · intro i i0 i1 i2
    have := a3 i i0 (by omega)
    exact ⟨this.1, this.2.1, this.2.2, ne i i0 (by omega)⟩
  · intro b b0 b1 b2
    rcases a4 b b0 b1 with z | ⟨z1, z2, z3⟩
    · exact .inl z
    · exact .inr ⟨z1, by omega, by omega, z3⟩
  · intro i i0 i1 i2 i3
    exact bc _ _ (ne i (by omega) (by omega)) (ne _ (by omega) (by omega)) (HOp i i0 (by omega))
  · intro i i0 i1 i2 i3
    omega
  · intro i i0 i1 i2
    omega
theorem hx_out {S len : Int} {h s co : Int → Int} (H : HW S h s len) (HOp : HO h co len) (l0 : 1 < len) : HX S h (up1 s (h 0) (-1)) (len - 1) 0 (h (len - 1)) ∧ HY h co (len - 1) 0 ∧ HD h co 0 (h (len - 1)) := by
  obtain ⟨a1, a2, a3, a4⟩ := H
  have inj : ∀ i j, 0 ≤ i → i < len → 0 ≤ j → j < len → h i = h j → i = j := fun i j i0 i1 j0 j1 e => by rw [← (a3 i i0 i1).2.2, e, (a3 j j0 j1).2.2]
  have hl := a3 (len - 1) (by omega) (by omega)
  refine ⟨⟨by omega, by omega, by omega, hl.1, hl.2.1, ?_, ?_⟩, ⟨?_, ?_⟩, ?_⟩
  · intro i i0 i1 i2
    have := a3 i i0 (by omega)
    refine ⟨this.1, this.2.1, ?_, fun z => ?_⟩
    · rw [up1_n (fun z => i2 (inj i 0 i0 (by omega) (by omega) (by omega) z))]
      exact this.2.2
    · have := inj i (len - 1) i0 (by omega) (by omega) (by omega) z
      omega
  · intro b b0 b1 b2
    by_cases e : b = h 0
    · rw [e, up1_s]
      exact .inl rfl
    · rw [up1_n e]
      rcases a4 b b0 b1 with z | ⟨z1, z2, z3⟩
      · exact .inl z
      · refine .inr ⟨z1, ?_, fun y => e (by rw [← z3, y]), z3⟩
        by_cases q : s b = len - 1
        · exact absurd (by rw [← z3, q]) b2
        · omega
  · intro i i0 i1 i2 i3
    exact HOp i i0 (by omega)
  · intro i i0 i1 i2 i3
    omega
  · intro z
    omega
/-- the last one out -/
theorem hx_one {S len : Int} {h s co : Int → Int} (H : HW S h s len) (l0 : len = 1) : HW S h (up1 s (h 0) (-1)) (len - 1) ∧ HO h co (len - 1) := by
  obtain ⟨a1, a2, a3, a4⟩ := H
  refine ⟨⟨by omega, by omega, fun i i0 i1 => by omega, ?_⟩, fun i i0 i1 => by omega⟩
  intro b b0 b1
  by_cases e : b = h 0
  · rw [e, up1_s]
    exact .inl rfl
  · rw [up1_n e]
    rcases a4 b b0 b1 with z | ⟨z1, z2, z3⟩
    · exact .inl z
    · exact absurd (show b = h 0 by rw [← z3]; congr 1; omega) e
