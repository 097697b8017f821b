/-! ===== sets of nets at places, as the class keeps them ===== -/
noncomputable def cI {α : Type} (P : Prop) (a b : α) : α := @ite α P (Classical.propDecidable P) a b
theorem cI_t {α : Type} {P : Prop} {a b : α} (h : P) : cI P a b = a := @if_pos P (Classical.propDecidable P) h α a b
theorem cI_f {α : Type} {P : Prop} {a b : α} (h : ¬ P) : cI P a b = b := @if_neg P (Classical.propDecidable P) h α a b
def ES (c : zC) (D : zI) (h n f : Int → Int) (st : Int → Int → Prop) : Prop := ∀ p, pls c p → M16 (h p) ∧ M16 (n p) ∧ M16 (f p) ∧ ∀ b, 0 ≤ b → b < 16 → ((tb (h p) b ↔ st b p) ∧ (tb (n p) b ↔ ∃ q, pls c q ∧ st b q ∧ nr c p q (D 3 (lay c p))) ∧ (tb (f p) b ↔ ∃ q, pls c q ∧ st b q ∧ nr c p q (D 3 (lay c p) + 1)))
theorem one_ne {m n : Int} (h0 : 0 ≤ n) (h1 : n < 16) : zand m (zshl 1 n) ≠ 0 ↔ tb m n := by
  rw [M16_ne0 (M16_andr (M16_one h0 h1))]
  constructor
  · rintro ⟨b, b0, b1, b2⟩
    rw [tb_and b0 (by omega), tb_one b0 (by omega) h0 (by omega)] at b2
    rw [← b2.2]
    exact b2.1
  · intro h
    refine ⟨n, h0, h1, ?_⟩
    rw [tb_and h0 (by omega), tb_one h0 (by omega) h0 (by omega)]
    exact ⟨h, rfl⟩
theorem nr_mono {c : zC} {p q d d1 : Int} (h : nr c p q d) (hd : d ≤ d1) : nr c p q d1 := by unfold nr at *; omega
theorem clv_M {n f : Int → Int} {net p sh : Int} (hn : M16 (n p)) (hf : M16 (f p)) : M16 (clv n f net p sh) := by
  unfold clv
  by_cases q : zand sh (zshl 1 net) ≠ 0
  · rw [pI_t q]
    exact M16_andl hf
  · rw [pI_f q]
    exact M16_andl (M16_or hn (M16_andl hf))
theorem es_clv {c : zC} {D : zI} {h n f : Int → Int} {st : Int → Int → Prop} (H : ES c D h n f st) {p net b : Int} (hp : pls c p) (n0 : 0 ≤ net) (n1 : net < 16) (b0 : 0 ≤ b) (b1 : b < 16) : tb (clv n f net p (D 10 1)) b ↔ ∃ q, pls c q ∧ st b q ∧ clash c D net p b q := by
  obtain ⟨m1, m2, m3, hb⟩ := H p hp
  obtain ⟨-, k2, k3⟩ := hb b b0 b1
  unfold clv
  rw [tb_and b0 (by omega), tb_not b0 (by omega), tb_one b0 (by omega) n0 (by omega)]
  by_cases s : shd D net
  · have e : zand (D 10 1) (zshl 1 net) ≠ 0 := (one_ne n0 n1).mpr s
    rw [pI_t e, k3]
    constructor
    · rintro ⟨⟨q, q0, q1, q2⟩, z⟩
      refine ⟨q, q0, q1, fun y => z y.symm, ?_⟩
      unfold rch
      rw [bI_t (.inl s)]
      exact q2
    · rintro ⟨q, q0, q1, q2, q3⟩
      refine ⟨⟨q, q0, q1, ?_⟩, fun y => q2 y.symm⟩
      unfold rch at q3
      rw [bI_t (.inl s)] at q3
      exact q3
  · have e : ¬ zand (D 10 1) (zshl 1 net) ≠ 0 := fun z => s ((one_ne n0 n1).mp z)
    rw [pI_f e, tb_or b0 (by omega), tb_and b0 (by omega), k2, k3]
    by_cases s2 : shd D b
    · constructor
      · rintro ⟨y, z⟩
        have y' : ∃ q, pls c q ∧ st b q ∧ nr c p q (D 3 (lay c p) + 1) := by
          rcases y with ⟨q, q0, q1, q2⟩ | ⟨y, -⟩
          · exact ⟨q, q0, q1, nr_mono q2 (by omega)⟩
          · exact y
        obtain ⟨q, q0, q1, q2⟩ := y'
        refine ⟨q, q0, q1, fun y => z y.symm, ?_⟩
        unfold rch
        rw [bI_t (.inr s2)]
        exact q2
      · rintro ⟨q, q0, q1, q2, q3⟩
        unfold rch at q3
        rw [bI_t (.inr s2)] at q3
        exact ⟨.inr ⟨⟨q, q0, q1, q3⟩, s2⟩, fun y => q2 y.symm⟩
    · have e2 : ¬ (shd D net ∨ shd D b) := fun z => z.elim s s2
      constructor
      · rintro ⟨y, z⟩
        rcases y with ⟨q, q0, q1, q2⟩ | ⟨-, y⟩
        · refine ⟨q, q0, q1, fun y => z y.symm, ?_⟩
          unfold rch
          rw [bI_f e2, Int.add_zero]
          exact q2
        · exact absurd y s2
      · rintro ⟨q, q0, q1, q2, q3⟩
        unfold rch at q3
        rw [bI_f e2, Int.add_zero] at q3
        exact ⟨.inl ⟨q, q0, q1, q3⟩, fun y => q2 y.symm⟩
theorem es_clv0 {c : zC} {D : zI} {h n f : Int → Int} {st : Int → Int → Prop} (H : ES c D h n f st) (hst : ∀ b q, st b q → 0 ≤ b ∧ b < 16) {p net : Int} (hp : pls c p) (n0 : 0 ≤ net) (n1 : net < 16) : clv n f net p (D 10 1) ≠ 0 ↔ ∃ b q, pls c q ∧ st b q ∧ clash c D net p b q := by
  obtain ⟨m1, m2, m3, hb⟩ := H p hp
  rw [M16_ne0 (clv_M m2 m3)]
  constructor
  · rintro ⟨b, b0, b1, b2⟩
    obtain ⟨q, q0, q1, q2⟩ := (es_clv H hp n0 n1 b0 b1).mp b2
    exact ⟨b, q, q0, q1, q2⟩
  · rintro ⟨b, q, q0, q1, q2⟩
    obtain ⟨b0, b1⟩ := hst b q q1
    exact ⟨b, b0, b1, (es_clv H hp n0 n1 b0 b1).mpr ⟨q, q0, q1, q2⟩⟩
theorem mk_bit {m net b : Int} {P : Prop} (n0 : 0 ≤ net) (n1 : net < 16) (b0 : 0 ≤ b) (b1 : b < 16) : tb (pI P (zor m (zshl 1 net)) m) b ↔ tb m b ∨ (b = net ∧ P) := by
  by_cases h : P
  · rw [pI_t h, tb_or b0 (by omega), tb_one b0 (by omega) n0 (by omega)]
    exact ⟨fun z => z.imp id (fun y => ⟨y, h⟩), fun z => z.imp id (fun y => y.1)⟩
  · rw [pI_f h]
    exact ⟨.inl, fun z => z.elim id (fun y => absurd y.2 h)⟩
theorem mk_M {m net : Int} {P : Prop} (n0 : 0 ≤ net) (n1 : net < 16) (hm : M16 m) : M16 (pI P (zor m (zshl 1 net)) m) := by
  by_cases h : P
  · rw [pI_t h]; exact M16_or hm (M16_one n0 n1)
  · rw [pI_f h]; exact hm
theorem es_add {c : zC} {D : zI} {h n f h1 n1 f1 : Int → Int} {st : Int → Int → Prop} (H : ES c D h n f st) {p net : Int} (hp : pls c p) (e0 : 0 ≤ net) (e1 : net < 16) (hh : ∀ j, pls c j → h1 j = pI (j = p) (zor (h j) (zshl 1 net)) (h j)) (hn : ∀ j, pls c j → n1 j = pI (nr c j p (D 3 (lay c p))) (zor (n j) (zshl 1 net)) (n j)) (hf : ∀ j, pls c j → f1 j = pI (nr c j p (D 3 (lay c p) + 1)) (zor (f j) (zshl 1 net)) (f j)) : ES c D h1 n1 f1 (fun b q => st b q ∨ (b = net ∧ q = p)) := by
  intro j hj
  obtain ⟨m1, m2, m3, hb⟩ := H j hj
  rw [hh j hj, hn j hj, hf j hj]
  refine ⟨mk_M e0 e1 m1, mk_M e0 e1 m2, mk_M e0 e1 m3, fun b b0 b1 => ?_⟩
  obtain ⟨k1, k2, k3⟩ := hb b b0 b1
  rw [mk_bit e0 e1 b0 b1, mk_bit e0 e1 b0 b1, mk_bit e0 e1 b0 b1, k1, k2, k3]
  refine ⟨Iff.rfl, ?_, ?_⟩
  · constructor
    · rintro (⟨q, q0, q1, q2⟩ | ⟨z1, z2⟩)
      · exact ⟨q, q0, .inl q1, q2⟩
      · exact ⟨p, hp, .inr ⟨z1, rfl⟩, by rw [z2.1]; exact z2⟩
    · rintro ⟨q, q0, q1 | ⟨q1, q3⟩, q2⟩
      · exact .inl ⟨q, q0, q1, q2⟩
      · subst q3
        exact .inr ⟨q1, by rw [← q2.1]; exact q2⟩
  · constructor
    · rintro (⟨q, q0, q1, q2⟩ | ⟨z1, z2⟩)
      · exact ⟨q, q0, .inl q1, q2⟩
      · exact ⟨p, hp, .inr ⟨z1, rfl⟩, by rw [z2.1]; exact z2⟩
    · rintro ⟨q, q0, q1 | ⟨q1, q3⟩, q2⟩
      · exact .inl ⟨q, q0, q1, q2⟩
      · subst q3
        exact .inr ⟨q1, by rw [← q2.1]; exact q2⟩
theorem drop_bit {m net b : Int} (n0 : 0 ≤ net) (n1 : net < 16) (b0 : 0 ≤ b) (b1 : b < 16) : tb (zand m (zxor (zshl 1 net) (-1))) b ↔ tb m b ∧ b ≠ net := by
  rw [tb_and b0 (by omega), tb_not b0 (by omega), tb_one b0 (by omega) n0 (by omega)]
theorem es_drop {c : zC} {D : zI} {h n f h1 n1 f1 : Int → Int} {st : Int → Int → Prop} (H : ES c D h n f st) {net : Int} (e0 : 0 ≤ net) (e1 : net < 16) (hh : ∀ j, pls c j → h1 j = zand (h j) (zxor (zshl 1 net) (-1))) (hn : ∀ j, pls c j → n1 j = zand (n j) (zxor (zshl 1 net) (-1))) (hf : ∀ j, pls c j → f1 j = zand (f j) (zxor (zshl 1 net) (-1))) : ES c D h1 n1 f1 (fun b q => st b q ∧ b ≠ net) := by
  intro j hj
  obtain ⟨m1, m2, m3, hb⟩ := H j hj
  rw [hh j hj, hn j hj, hf j hj]
  refine ⟨M16_andl m1, M16_andl m2, M16_andl m3, fun b b0 b1 => ?_⟩
  obtain ⟨k1, k2, k3⟩ := hb b b0 b1
  rw [drop_bit e0 e1 b0 b1, drop_bit e0 e1 b0 b1, drop_bit e0 e1 b0 b1, k1, k2, k3]
  refine ⟨Iff.rfl, ?_, ?_⟩
  · exact ⟨fun ⟨⟨q, q0, q1, q2⟩, z⟩ => ⟨q, q0, ⟨q1, z⟩, q2⟩, fun ⟨q, q0, q1, q2⟩ => ⟨⟨q, q0, q1.1, q2⟩, q1.2⟩⟩
  · exact ⟨fun ⟨⟨q, q0, q1, q2⟩, z⟩ => ⟨q, q0, ⟨q1, z⟩, q2⟩, fun ⟨q, q0, q1, q2⟩ => ⟨⟨q, q0, q1.1, q2⟩, q1.2⟩⟩
theorem ES.congr {c : zC} {D : zI} {h n f : Int → Int} {st st1 : Int → Int → Prop} (H : ES c D h n f st) (hs : ∀ b q, 0 ≤ b → b < 16 → pls c q → (st b q ↔ st1 b q)) : ES c D h n f st1 := by
  intro p hp
  obtain ⟨m1, m2, m3, hb⟩ := H p hp
  refine ⟨m1, m2, m3, fun b b0 b1 => ?_⟩
  obtain ⟨k1, k2, k3⟩ := hb b b0 b1
  refine ⟨k1.trans (hs b p b0 b1 hp), k2.trans ?_, k3.trans ?_⟩
  · exact ⟨fun ⟨q, q0, q1, q2⟩ => ⟨q, q0, (hs b q b0 b1 q0).mp q1, q2⟩, fun ⟨q, q0, q1, q2⟩ => ⟨q, q0, (hs b q b0 b1 q0).mpr q1, q2⟩⟩
  · exact ⟨fun ⟨q, q0, q1, q2⟩ => ⟨q, q0, (hs b q b0 b1 q0).mp q1, q2⟩, fun ⟨q, q0, q1, q2⟩ => ⟨q, q0, (hs b q b0 b1 q0).mpr q1, q2⟩⟩
theorem es_nil {c : zC} {D : zI} {h n f : Int → Int} (hh : ∀ p, pls c p → h p = 0 ∧ n p = 0 ∧ f p = 0) : ES c D h n f (fun _ _ => False) := by
  intro p hp
  obtain ⟨a1, a2, a3⟩ := hh p hp
  rw [a1, a2, a3]
  exact ⟨M16_0, M16_0, M16_0, fun b b0 b1 => ⟨⟨fun z => tb_zero b0 (by omega) z, False.elim⟩, ⟨fun z => absurd z (tb_zero b0 (by omega)), fun ⟨q, _, z, _⟩ => z.elim⟩, ⟨fun z => absurd z (tb_zero b0 (by omega)), fun ⟨q, _, z, _⟩ => z.elim⟩⟩⟩
/-- the class's rows after a place was added, after a net was dropped -/
theorem mkd_row {c : zC} {R : zI} {A : Nat} {net q d j : Int} (hj : pls c j) : mkd c R A net q d (fun _ => True) A j = pI (nr c j q d) (zor (R A j) (zshl 1 net)) (R A j) := by
  unfold mkd ch
  exact pI_congr ⟨fun z => z.2.2.2.1, fun z => ⟨rfl, hj.1, hj.2, z, trivial⟩⟩
theorem mkd_cell {c : zC} {R : zI} {A b : Nat} {net q d : Int} {P : Int → Prop} (hb : b ≠ A) : mkd c R A net q d P b = R b := by
  funext j
  unfold mkd
  rw [ch_f (fun z => hb z.1)]
def adds (st : Int → Int → Prop) (n p : Int) : Int → Int → Prop := fun b q => st b q ∨ (b = n ∧ q = p)
theorem t_add21 {c : zC} {R D : zI} (hg : Geo c) {n p : Int} (hp : pls c p) (n0 : 0 ≤ n) (n1 : n < 16) (s0 : 0 ≤ D 3 (lay c p)) (s1 : D 3 (lay c p) ≤ 2) (h3 : R 3 = D 3) : MZ m_X4_add [zr 21, zi n, zi p] (wr c R) (gU (fun R1 => (∀ a, a ≠ 22 → a ≠ 23 → a ≠ 24 → R1 a = R a) ∧ ∀ st, ES c D (R 22) (R 23) (R 24) st → ES c D (R1 22) (R1 23) (R1 24) (adds st n p)) c) := by
  refine MZ.mono (s_add21 hg hp.1 hp.2 (by rw [h3]; exact s0) (by rw [h3]; exact s1)) ?_
  rintro o w ⟨R1, rfl, rfl, rfl⟩
  refine ⟨_, rfl, rfl, fun a a1 a2 a3 => ?_, fun st H => ?_⟩
  · rw [mkd_cell a3, mkd_cell a2, zU_cell a1]
  · refine es_add H hp n0 n1 (fun j hj => ?_) (fun j hj => ?_) (fun j hj => ?_)
    · rw [mkd_cell (by decide), mkd_cell (by decide), zU_row]
      by_cases e : j = p
      · rw [pI_t e, e, up1_s]
      · rw [pI_f e, up1_n e]
    · rw [mkd_cell (by decide), mkd_row hj, zU_cell (by decide), h3]
    · rw [mkd_row hj, mkd_cell (by decide), zU_cell (by decide), h3]
theorem t_add17 {c : zC} {R D : zI} (hg : Geo c) {n p : Int} (hp : pls c p) (n0 : 0 ≤ n) (n1 : n < 16) (s0 : 0 ≤ D 3 (lay c p)) (s1 : D 3 (lay c p) ≤ 2) (h3 : R 3 = D 3) : MZ m_X4_add [zr 17, zi n, zi p] (wr c R) (gU (fun R1 => (∀ a, a ≠ 18 → a ≠ 19 → a ≠ 20 → R1 a = R a) ∧ ∀ st, ES c D (R 18) (R 19) (R 20) st → ES c D (R1 18) (R1 19) (R1 20) (adds st n p)) c) := by
  refine MZ.mono (s_add17 hg hp.1 hp.2 (by rw [h3]; exact s0) (by rw [h3]; exact s1)) ?_
  rintro o w ⟨R1, rfl, rfl, rfl⟩
  refine ⟨_, rfl, rfl, fun a a1 a2 a3 => ?_, fun st H => ?_⟩
  · rw [mkd_cell a3, mkd_cell a2, zU_cell a1]
  · refine es_add H hp n0 n1 (fun j hj => ?_) (fun j hj => ?_) (fun j hj => ?_)
    · rw [mkd_cell (by decide), mkd_cell (by decide), zU_row]
      by_cases e : j = p
      · rw [pI_t e, e, up1_s]
      · rw [pI_f e, up1_n e]
    · rw [mkd_cell (by decide), mkd_row hj, zU_cell (by decide), h3]
    · rw [mkd_row hj, mkd_cell (by decide), zU_cell (by decide), h3]
/-- the bits of one row -/
def EB (c : zC) (f : Int → Int) (st : Int → Int → Prop) : Prop := ∀ p, pls c p → M16 (f p) ∧ ∀ b, 0 ≤ b → b < 16 → (tb (f p) b ↔ st b p)
theorem t_drop {c : zC} {R D : zI} (hg : Geo c) {n : Int} (n0 : 0 ≤ n) (n1 : n < 16) : MZ m_X3_dropRoute [zr 15, zi n] (wr c R) (gU (fun R1 => (∀ a, a ≠ 22 → a ≠ 23 → a ≠ 24 → a ≠ 30 → R1 a = R a) ∧ (∀ st, ES c D (R 22) (R 23) (R 24) st → ES c D (R1 22) (R1 23) (R1 24) (fun b q => st b q ∧ b ≠ n)) ∧ (∀ st, EB c (R 30) st → EB c (R1 30) (fun b q => st b q ∧ b ≠ n))) c) := by
  refine MZ.mono (s_dropRoute hg) ?_
  rintro o w ⟨R1, rfl, rfl, rfl⟩
  refine ⟨_, rfl, rfl, fun a a1 a2 a3 a4 => ?_, fun st H => ?_, fun st H => ?_⟩
  · funext j
    rw [ch_f]
    rintro ⟨(q | q | q) | q, -⟩
    · exact a1 q
    · exact a2 q
    · exact a3 q
    · exact a4 q
  · refine es_drop H n0 n1 (fun j hj => ?_) (fun j hj => ?_) (fun j hj => ?_)
    · rw [ch_t ⟨.inl (.inl rfl), hj⟩]
    · rw [ch_t ⟨.inl (.inr (.inl rfl)), hj⟩]
    · rw [ch_t ⟨.inl (.inr (.inr rfl)), hj⟩]
  · intro p hp
    rw [ch_t ⟨.inr rfl, hp⟩]
    obtain ⟨m1, m2⟩ := H p hp
    exact ⟨M16_andl m1, fun b b0 b1 => by rw [drop_bit n0 n1 b0 b1, m2 b b0 b1]⟩
