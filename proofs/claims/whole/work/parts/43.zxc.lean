/-! calls -/
abbrev zBmp (w : zW) : zW := (w.1 + 1, w.2.1 + 6, w.2.2)
abbrev zSI (w : zW) (I : zI) : zW := (w.1, w.2.1, w.2.2.1, w.2.2.2.1, I, w.2.2.2.2.2)
/-- answers v, nothing changes -/
def qF (v : zV) (w : zW) : zO → zW → Prop := fun o w1 => o = .inl (some v) ∧ w1 = w
/-- answers an int of a kind, nothing changes -/
def qV (P : Int → Prop) (w : zW) : zO → zW → Prop := fun o w1 => ∃ r, o = .inl (some (.inl r)) ∧ w1 = w ∧ P r
/-- answers nothing, the ints are then of a kind -/
def qU (P : zI → Prop) (w : zW) : zO → zW → Prop := fun o w1 => ∃ I1, o = .inl none ∧ w1 = zSI w I1 ∧ P I1
/-- answers an int, the ints are then of a kind -/
def qR (P : Int → zI → Prop) (w : zW) : zO → zW → Prop := fun o w1 => ∃ r I1, o = .inl (some (.inl r)) ∧ w1 = zSI w I1 ∧ P r I1
/-- throws if not C -/
def qN (C : Prop) (ex : Nat) (w : zW) : zO → zW → Prop := fun o w1 => (C ∧ o = .inl none ∧ w1 = w) ∨ (¬ C ∧ o = .inr ex ∧ w1 = zBmp w)
theorem zSum_c (r : List zV) : pmSum (r.map zc) = pmSum (r.map zc) := rfl
section ZXC
variable {mid pc x y : Nat} {k : Int32} {M M2 : pmM} {l : zL} {st rest As : List zV} {w : zW} {Q Q1 : zO → zW → Prop} {idx a : Nat}
theorem zEnt_len (l : List zV) : (pmEnt (l.map zc)).length = (zEnt l).length := by rw [zEnt_c]; simp [zcl]
theorem zx_cv (hG : pgG mid = some M) (hc : pmCode M pc = some (.invokevirtual idx, x, y, k)) (hG2 : pgG x = some M2) (hst : st = As.reverse ++ .inr (.inr a) :: rest) (hy : As.length + 1 = y) (hs : pmSum (rest.map zc) ≤ 8) (he : (zEnt (.inr (.inr a) :: As)).length ≤ M2.2.1) (hh : hd0 w.2.2.1 w.2.2.2.1 a = .inr M2.2.2.2) (ha : 1 ≤ a ∧ a ≤ 55) (hM : MZ x (.inr (.inr a) :: As) w Q1)
    (kr : ∀ o w1, Q1 o w1 → (∃ v, o = .inl v ∧ ZX mid (pc + 3) l (v.toList ++ rest) w1 Q) ∨ (∃ ex, o = .inr ex ∧ M.2.2.1 = [] ∧ Q (.inr ex) w1)) : ZX mid pc l st w Q := by
  refine px_callV (As := As.map zc) (rest := rest.map zc) (a := a) hG hc hG2 (by rw [hst]; simp [zc]) (by simp [hy]) hs ?_ (show pmh (zw w) a = .inr M2.2.2.2 from hh) ha hM ?_
  · have := zEnt_len (.inr (.inr a) :: As)
    simp only [List.map_cons, zc] at this
    rw [this]
    exact he
  · rintro o w1 ⟨zo, z1, rfl, rfl, hq⟩
    rcases kr zo z1 hq with ⟨v, rfl, K⟩ | ⟨ex, rfl, h1, h2⟩
    · refine .inl ⟨v.map zc, rfl, ?_⟩
      have e : (v.map zc).toList ++ rest.map zc = (v.toList ++ rest).map zc := by cases v <;> rfl
      rw [e]
      exact K
    · exact .inr ⟨ex, rfl, h1, .inr ex, z1, rfl, rfl, h2⟩
theorem zx_cs (hG : pgG mid = some M) (hc : pmCode M pc = some (.invokestatic idx, x, y, k)) (hG2 : pgG x = some M2) (hst : st = As.reverse ++ rest) (hy : As.length = y) (hs : pmSum (rest.map zc) ≤ 8) (he : (zEnt As).length ≤ M2.2.1) (hM : MZ x As w Q1)
    (kr : ∀ o w1, Q1 o w1 → ∃ v, o = .inl v ∧ ZX mid (pc + 3) l (v.toList ++ rest) w1 Q) : ZX mid pc l st w Q := by
  refine px_callS (As := As.map zc) (rest := rest.map zc) hG hc hG2 (by rw [hst]; simp) (by simp [hy]) hs ?_ hM ?_
  · rw [zEnt_len]
    exact he
  · rintro o w1 ⟨zo, z1, rfl, rfl, hq⟩
    obtain ⟨v, rfl, K⟩ := kr zo z1 hq
    refine ⟨v.map zc, rfl, ?_⟩
    have e : (v.map zc).toList ++ rest.map zc = (v.toList ++ rest).map zc := by cases v <;> rfl
    rw [e]
    exact K
theorem zx_cvF {v : zV} (hG : pgG mid = some M) (hc : pmCode M pc = some (.invokevirtual idx, x, y, k)) (hG2 : pgG x = some M2) (hst : st = As.reverse ++ .inr (.inr a) :: rest) (hy : As.length + 1 = y) (hs : pmSum (rest.map zc) ≤ 8) (he : (zEnt (.inr (.inr a) :: As)).length ≤ M2.2.1) (hh : hd0 w.2.2.1 w.2.2.2.1 a = .inr M2.2.2.2) (ha : 1 ≤ a ∧ a ≤ 55) (hM : MZ x (.inr (.inr a) :: As) w (qF v w)) (K : ZX mid (pc + 3) l (v :: rest) w Q) : ZX mid pc l st w Q :=
  zx_cv hG hc hG2 hst hy hs he hh ha hM (fun o w1 ⟨h1, h2⟩ => .inl ⟨some v, h1, by rw [h2]; exact K⟩)
theorem zx_cvV {P : Int → Prop} (hG : pgG mid = some M) (hc : pmCode M pc = some (.invokevirtual idx, x, y, k)) (hG2 : pgG x = some M2) (hst : st = As.reverse ++ .inr (.inr a) :: rest) (hy : As.length + 1 = y) (hs : pmSum (rest.map zc) ≤ 8) (he : (zEnt (.inr (.inr a) :: As)).length ≤ M2.2.1) (hh : hd0 w.2.2.1 w.2.2.2.1 a = .inr M2.2.2.2) (ha : 1 ≤ a ∧ a ≤ 55) (hM : MZ x (.inr (.inr a) :: As) w (qV P w)) (K : ∀ v, P v → ZX mid (pc + 3) l (.inl v :: rest) w Q) : ZX mid pc l st w Q :=
  zx_cv hG hc hG2 hst hy hs he hh ha hM (fun o w1 ⟨v, h1, h2, h3⟩ => .inl ⟨some (.inl v), h1, by rw [h2]; exact K v h3⟩)
theorem zx_cvU {P : zI → Prop} (hG : pgG mid = some M) (hc : pmCode M pc = some (.invokevirtual idx, x, y, k)) (hG2 : pgG x = some M2) (hst : st = As.reverse ++ .inr (.inr a) :: rest) (hy : As.length + 1 = y) (hs : pmSum (rest.map zc) ≤ 8) (he : (zEnt (.inr (.inr a) :: As)).length ≤ M2.2.1) (hh : hd0 w.2.2.1 w.2.2.2.1 a = .inr M2.2.2.2) (ha : 1 ≤ a ∧ a ≤ 55) (hM : MZ x (.inr (.inr a) :: As) w (qU P w)) (K : ∀ I1, P I1 → ZX mid (pc + 3) l rest (zSI w I1) Q) : ZX mid pc l st w Q :=
  zx_cv hG hc hG2 hst hy hs he hh ha hM (fun o w1 ⟨v, h1, h2, h3⟩ => .inl ⟨none, h1, by rw [h2]; exact K v h3⟩)
theorem zx_cvR {P : Int → zI → Prop} (hG : pgG mid = some M) (hc : pmCode M pc = some (.invokevirtual idx, x, y, k)) (hG2 : pgG x = some M2) (hst : st = As.reverse ++ .inr (.inr a) :: rest) (hy : As.length + 1 = y) (hs : pmSum (rest.map zc) ≤ 8) (he : (zEnt (.inr (.inr a) :: As)).length ≤ M2.2.1) (hh : hd0 w.2.2.1 w.2.2.2.1 a = .inr M2.2.2.2) (ha : 1 ≤ a ∧ a ≤ 55) (hM : MZ x (.inr (.inr a) :: As) w (qR P w)) (K : ∀ v I1, P v I1 → ZX mid (pc + 3) l (.inl v :: rest) (zSI w I1) Q) : ZX mid pc l st w Q :=
  zx_cv hG hc hG2 hst hy hs he hh ha hM (fun o w1 ⟨v, I1, h1, h2, h3⟩ => .inl ⟨some (.inl v), h1, by rw [h2]; exact K v I1 h3⟩)
theorem zx_cvN {C : Prop} {ex : Nat} (hG : pgG mid = some M) (hc : pmCode M pc = some (.invokevirtual idx, x, y, k)) (hG2 : pgG x = some M2) (hst : st = As.reverse ++ .inr (.inr a) :: rest) (hy : As.length + 1 = y) (hs : pmSum (rest.map zc) ≤ 8) (he : (zEnt (.inr (.inr a) :: As)).length ≤ M2.2.1) (hh : hd0 w.2.2.1 w.2.2.2.1 a = .inr M2.2.2.2) (ha : 1 ≤ a ∧ a ≤ 55) (hM : MZ x (.inr (.inr a) :: As) w (qN C ex w)) (hno : M.2.2.1 = []) (kx : ¬ C → Q (.inr ex) (zBmp w)) (K : C → ZX mid (pc + 3) l rest w Q) : ZX mid pc l st w Q :=
  zx_cv hG hc hG2 hst hy hs he hh ha hM (fun o w1 h => by
    rcases h with ⟨h1, h2, h3⟩ | ⟨h1, h2, h3⟩
    · exact .inl ⟨none, h2, by rw [h3]; exact K h1⟩
    · exact .inr ⟨ex, h2, hno, by rw [h3]; exact kx h1⟩)
theorem zx_csF {v : zV} (hG : pgG mid = some M) (hc : pmCode M pc = some (.invokestatic idx, x, y, k)) (hG2 : pgG x = some M2) (hst : st = As.reverse ++ rest) (hy : As.length = y) (hs : pmSum (rest.map zc) ≤ 8) (he : (zEnt As).length ≤ M2.2.1) (hM : MZ x As w (qF v w)) (K : ZX mid (pc + 3) l (v :: rest) w Q) : ZX mid pc l st w Q :=
  zx_cs hG hc hG2 hst hy hs he hM (fun o w1 ⟨h1, h2⟩ => ⟨some v, h1, by rw [h2]; exact K⟩)
theorem zx_csV {P : Int → Prop} (hG : pgG mid = some M) (hc : pmCode M pc = some (.invokestatic idx, x, y, k)) (hG2 : pgG x = some M2) (hst : st = As.reverse ++ rest) (hy : As.length = y) (hs : pmSum (rest.map zc) ≤ 8) (he : (zEnt As).length ≤ M2.2.1) (hM : MZ x As w (qV P w)) (K : ∀ v, P v → ZX mid (pc + 3) l (.inl v :: rest) w Q) : ZX mid pc l st w Q :=
  zx_cs hG hc hG2 hst hy hs he hM (fun o w1 ⟨v, h1, h2, h3⟩ => ⟨some (.inl v), h1, by rw [h2]; exact K v h3⟩)
theorem zx_csU {P : zI → Prop} (hG : pgG mid = some M) (hc : pmCode M pc = some (.invokestatic idx, x, y, k)) (hG2 : pgG x = some M2) (hst : st = As.reverse ++ rest) (hy : As.length = y) (hs : pmSum (rest.map zc) ≤ 8) (he : (zEnt As).length ≤ M2.2.1) (hM : MZ x As w (qU P w)) (K : ∀ I1, P I1 → ZX mid (pc + 3) l rest (zSI w I1) Q) : ZX mid pc l st w Q :=
  zx_cs hG hc hG2 hst hy hs he hM (fun o w1 ⟨v, h1, h2, h3⟩ => ⟨none, h1, by rw [h2]; exact K v h3⟩)
end ZXC
/-! the int cells -/
theorem zU_same (I : zI) (a : Nat) (k v : Int) : zU I a k v a k = v := if_pos ⟨rfl, rfl⟩
theorem zU_cell {I : zI} {a b : Nat} {k v : Int} (h : b ≠ a) : zU I a k v b = I b := by
  funext j
  exact if_neg (fun q => h q.1)
theorem zU_at {I : zI} {a b : Nat} {k v j : Int} (h : j ≠ k) : zU I a k v b j = I b j := if_neg (fun q => h q.2)
theorem zU_cell' {I : zI} {a b : Nat} {k v j : Int} (h : b ≠ a) : zU I a k v b j = I b j := if_neg (fun q => h q.1)
