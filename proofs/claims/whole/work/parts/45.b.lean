/-! answers that are yes or no -/
noncomputable def bI (P : Prop) : Int := @ite Int P (Classical.propDecidable P) 1 0
theorem bI_t {P : Prop} (h : P) : bI P = 1 := @if_pos P (Classical.propDecidable P) h Int 1 0
theorem bI_f {P : Prop} (h : ¬ P) : bI P = 0 := @if_neg P (Classical.propDecidable P) h Int 1 0
theorem bI_01 (P : Prop) : bI P = 0 ∨ bI P = 1 := by
  by_cases h : P
  · exact .inr (bI_t h)
  · exact .inl (bI_f h)
theorem bI_ne {P : Prop} : bI P ≠ 0 ↔ P := by
  by_cases h : P
  · rw [bI_t h]; exact ⟨fun _ => h, fun _ => by decide⟩
  · rw [bI_f h]; exact ⟨fun q => absurd rfl q, fun q => absurd q h⟩
theorem bI_1 {P : Prop} : bI P = 1 ↔ P := by
  by_cases h : P
  · rw [bI_t h]; exact ⟨fun _ => h, fun _ => rfl⟩
  · rw [bI_f h]; exact ⟨fun q => absurd q (by decide), fun q => absurd q h⟩
theorem bI_0 {P : Prop} : bI P = 0 ↔ ¬ P := by
  by_cases h : P
  · rw [bI_t h]; exact ⟨fun q => absurd q (by decide), fun q => absurd h q⟩
  · rw [bI_f h]; exact ⟨fun _ => h, fun _ => rfl⟩
theorem bI_congr {P P1 : Prop} (h : P ↔ P1) : bI P = bI P1 := by rw [propext h]
theorem bI_R (P : Prop) : inR (bI P) := by rcases bI_01 P with h | h <;> rw [h] <;> omega
theorem qF_i {v v1 : Int} {w : zW} (h : v = v1) : qF (.inl v1) w (.inl (some (.inl v))) w := ⟨by rw [h], rfl⟩
theorem qF_t {P : Prop} {w : zW} (h : P) : qF (.inl (bI P)) w (.inl (some (.inl 1))) w := qF_i (bI_t h).symm
theorem qF_f {P : Prop} {w : zW} (h : ¬ P) : qF (.inl (bI P)) w (.inl (some (.inl 0))) w := qF_i (bI_f h).symm
theorem qV_i {v : Int} {P : Int → Prop} {w : zW} (h : P v) : qV P w (.inl (some (.inl v))) w := ⟨v, rfl, rfl, h⟩
theorem qU_i {I1 : zI} {P : zI → Prop} {w : zW} (h : P I1) : qU P w (.inl none) (zSI w I1) := ⟨I1, rfl, rfl, h⟩
theorem qR_i {v : Int} {I1 : zI} {P : Int → zI → Prop} {w : zW} (h : P v I1) : qR P w (.inl (some (.inl v))) (zSI w I1) := ⟨v, I1, rfl, rfl, h⟩
/-- the same of worlds with a grid -/
def gU (P : zI → Prop) (c : zC) : zO → zW → Prop := fun o w1 => ∃ R1, o = .inl none ∧ w1 = wr c R1 ∧ P R1
def gR (P : Int → zI → Prop) (c : zC) : zO → zW → Prop := fun o w1 => ∃ r R1, o = .inl (some (.inl r)) ∧ w1 = wr c R1 ∧ P r R1
theorem gU_i {R1 : zI} {P : zI → Prop} {c : zC} (h : P R1) : gU P c (.inl none) (wr c R1) := ⟨R1, rfl, rfl, h⟩
theorem gR_i {v : Int} {R1 : zI} {P : Int → zI → Prop} {c : zC} (h : P v R1) : gR P c (.inl (some (.inl v))) (wr c R1) := ⟨v, R1, rfl, rfl, h⟩
section ZXD
variable {mid pc x y : Nat} {k : Int32} {M M2 : pmM} {l : zL} {st r rest As : List zV} {w : zW} {c : zC} {R : zI} {Q : zO → zW → Prop} {idx a : Nat}
theorem zx_ifT {cd : ClassFile.Cond} {off : Int} {v : Int} (hG : pgG mid = some M) (hc : pmCode M pc = some (.ifCond cd off, x, y, k)) (hr : inR v) (h : zCnd cd v) (K : ZX mid x l r w Q) : ZX mid pc l (.inl v :: r) w Q := zx_if hG hc hr (fun _ => K) (fun q => absurd h q)
theorem zx_ifF {cd : ClassFile.Cond} {off : Int} {v : Int} (hG : pgG mid = some M) (hc : pmCode M pc = some (.ifCond cd off, x, y, k)) (hr : inR v) (h : ¬ zCnd cd v) (K : ZX mid (pc + 3) l r w Q) : ZX mid pc l (.inl v :: r) w Q := zx_if hG hc hr (fun q => absurd q h) (fun _ => K)
theorem zx_ifeq {off : Int} {P : Prop} (hG : pgG mid = some M) (hc : pmCode M pc = some (.ifCond .eq off, x, y, k)) (kt : ¬ P → ZX mid x l r w Q) (kf : P → ZX mid (pc + 3) l r w Q) : ZX mid pc l (.inl (bI P) :: r) w Q := zx_if hG hc (bI_R P) (fun h => kt (bI_0.mp h)) (fun h => kf (bI_ne.mp h))
theorem zx_ifne {off : Int} {P : Prop} (hG : pgG mid = some M) (hc : pmCode M pc = some (.ifCond .ne off, x, y, k)) (kt : P → ZX mid x l r w Q) (kf : ¬ P → ZX mid (pc + 3) l r w Q) : ZX mid pc l (.inl (bI P) :: r) w Q := zx_if hG hc (bI_R P) (fun h => kt (bI_ne.mp h)) (fun h => kf (fun q => h (bI_ne.mpr q)))
theorem zx_swE {v v0 : Int} {d lo hi : Int} {offs : Array Int} (hG : pgG mid = some M) (hc : pmCode M pc = some (.tableswitch d lo hi offs, x, y, k)) (hv : v = v0) (hr : inR v0) {t : Nat} (ht : (if v0 < lo ∨ hi < v0 then some (((pc : Int) + d).toNat) else (match offs[(v0 - lo).toNat]? with | some off => some (((pc : Int) + off).toNat) | none => none)) = some t) (K : ZX mid t l r w Q) : ZX mid pc l (.inl v :: r) w Q := by
  subst hv
  exact zx_sw hG hc hr ht K
theorem zx_swD {v : Int} {d lo hi : Int} {offs : Array Int} (hG : pgG mid = some M) (hc : pmCode M pc = some (.tableswitch d lo hi offs, x, y, k)) (hr : inR v) (hv : v < lo ∨ hi < v) {t : Nat} (ht : some (((pc : Int) + d).toNat) = some t) (K : ZX mid t l r w Q) : ZX mid pc l (.inl v :: r) w Q :=
  zx_sw hG hc hr (by rw [if_pos hv]; exact ht) K
theorem gx_cvU {P : zI → Prop} (hG : pgG mid = some M) (hc : pmCode M pc = some (.invokevirtual idx, x, y, k)) (hG2 : pgG x = some M2) (hst : st = As.reverse ++ .inr (.inr a) :: rest) (hy : As.length + 1 = y) (hs : pmSum (rest.map zc) ≤ 8) (he : (zEnt (.inr (.inr a) :: As)).length ≤ M2.2.1) (hh : hd0 c.2.2.1 c.2.2.2.1 a = .inr M2.2.2.2) (ha : 1 ≤ a ∧ a ≤ 55) (hM : MZ x (.inr (.inr a) :: As) (wr c R) (gU P c)) (K : ∀ R1, P R1 → ZX mid (pc + 3) l rest (wr c R1) Q) : ZX mid pc l st (wr c R) Q :=
  zx_cv hG hc hG2 hst hy hs he hh ha hM (fun o w1 ⟨v, h1, h2, h3⟩ => .inl ⟨none, h1, by rw [h2]; exact K v h3⟩)
theorem gx_cvR {P : Int → zI → Prop} (hG : pgG mid = some M) (hc : pmCode M pc = some (.invokevirtual idx, x, y, k)) (hG2 : pgG x = some M2) (hst : st = As.reverse ++ .inr (.inr a) :: rest) (hy : As.length + 1 = y) (hs : pmSum (rest.map zc) ≤ 8) (he : (zEnt (.inr (.inr a) :: As)).length ≤ M2.2.1) (hh : hd0 c.2.2.1 c.2.2.2.1 a = .inr M2.2.2.2) (ha : 1 ≤ a ∧ a ≤ 55) (hM : MZ x (.inr (.inr a) :: As) (wr c R) (gR P c)) (K : ∀ v R1, P v R1 → ZX mid (pc + 3) l (.inl v :: rest) (wr c R1) Q) : ZX mid pc l st (wr c R) Q :=
  zx_cv hG hc hG2 hst hy hs he hh ha hM (fun o w1 ⟨v, I1, h1, h2, h3⟩ => .inl ⟨some (.inl v), h1, by rw [h2]; exact K v I1 h3⟩)
theorem gx_csU {P : zI → Prop} (hG : pgG mid = some M) (hc : pmCode M pc = some (.invokestatic idx, x, y, k)) (hG2 : pgG x = some M2) (hst : st = As.reverse ++ rest) (hy : As.length = y) (hs : pmSum (rest.map zc) ≤ 8) (he : (zEnt As).length ≤ M2.2.1) (hM : MZ x As (wr c R) (gU P c)) (K : ∀ R1, P R1 → ZX mid (pc + 3) l rest (wr c R1) Q) : ZX mid pc l st (wr c R) Q :=
  zx_cs hG hc hG2 hst hy hs he hM (fun o w1 ⟨v, h1, h2, h3⟩ => ⟨none, h1, by rw [h2]; exact K v h3⟩)
end ZXD
