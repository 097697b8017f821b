/-! ===== what holds between calls ===== -/
def dz (R : zI) : zI := fun a => match a with
  | 3 => R 3
  | 4 => R 4
  | 5 => R 5
  | 9 => R 9
  | 10 => R 10
  | 11 => R 11
  | 12 => R 12
  | 13 => R 13
  | 14 => R 14
  | _ => fun _ => 0
theorem dz_Din (R : zI) : Din (dz R) R := ⟨rfl, rfl, rfl, rfl, rfl, rfl, rfl, rfl, rfl⟩
theorem dz_eq {R R1 : zI} (h : ∀ a : Nat, 3 ≤ a → a ≤ 14 → R1 a = R a) : dz R1 = dz R := by
  funext a
  unfold dz
  split
  · exact h 3 (by decide) (by decide)
  · exact h 4 (by decide) (by decide)
  · exact h 5 (by decide) (by decide)
  · exact h 9 (by decide) (by decide)
  · exact h 10 (by decide) (by decide)
  · exact h 11 (by decide) (by decide)
  · exact h 12 (by decide) (by decide)
  · exact h 13 (by decide) (by decide)
  · exact h 14 (by decide) (by decide)
  · rfl
def TOLD (c : zC) (R : zI) (s : aS) : Prop := CE c (dz R) s R ∧ MS0 c (dz R) s R ∧ MC s R ∧ AI c (dz R) s 5120 ∧ aN s ≤ 8
def INV (c : zC) (R : zI) : Prop := DOK c (dz R) ∧ MDn c (dz R) R ∧ (∀ n, 0 ≤ n → n < 16 → R 12 n = cnt (fun k => R 11 k = n) (R 10 2).toNat) ∧ R 2 12 = cnt (fun p => R 9 p ≠ 0) (cS c) ∧ (R 1 3 = 0 ∨ R 1 3 = 1) ∧ R 32 14 = R 1 3 ∧ (∀ j, inR (R 0 j)) ∧ ∃ s : aS, R 1 3 ≠ 0 → TOLD c R s
def cw (c : zC) (a b : Nat) (J : zI) : zC := (a, b, c.2.2.1, c.2.2.2.1, c.2.2.2.2.1, c.2.2.2.2.2.1, c.2.2.2.2.2.2.1, J)
theorem pkS_cw {c : zC} {a b : Nat} {J D : zI} : ∀ n : Nat, pkS (cw c a b J) D n = pkS c D n
  | 0 => rfl
  | n + 1 => by
    show up1 (pkS (cw c a b J) D n) n (kth (fun i => mayb (cw c a b J) D (pkS (cw c a b J) D n) n (D 14 ((n : Int) * 4 + i))) (D 13 n).toNat 0 0) = _
    rw [pkS_cw n]
    rfl
theorem pk_cw {c : zC} {a b : Nat} {J : zI} : pk (cw c a b J) = pk c := by
  funext D
  exact pkS_cw _
theorem pp_cw {c : zC} {a b : Nat} {J : zI} : pp (cw c a b J) = pp c := by
  funext D k
  unfold pp
  rw [pk_cw]
theorem pin_cw {c : zC} {a b : Nat} {J : zI} : pin (cw c a b J) = pin c := by
  funext D n p
  unfold pin
  rw [pk_cw, pp_cw]
theorem clo_cw {c : zC} {a b : Nat} {J : zI} : clo (cw c a b J) = clo c := by
  funext D n
  unfold clo
  rw [pk_cw]
theorem CE_cw {c : zC} {a b : Nat} {J D R : zI} {s : aS} : CE (cw c a b J) D s R = CE c D s R := by
  unfold CE
  rw [pk_cw, pin_cw, clo_cw]
  rfl
theorem MS0_cw {c : zC} {a b : Nat} {J D R : zI} {s : aS} : MS0 (cw c a b J) D s R = MS0 c D s R := by
  unfold MS0
  rw [pk_cw, clo_cw]
  rfl
theorem AI_cw {c : zC} {a b : Nat} {J D : zI} {s : aS} {B : Int} : AI (cw c a b J) D s B = AI c D s B := by
  unfold AI
  rw [pin_cw, clo_cw]
  rfl
theorem std_cw {c : zC} {a b : Nat} {J : zI} : std (cw c a b J) = std c := by
  funext D s n p
  unfold std
  rw [pin_cw]
theorem brk_cw {c : zC} {a b : Nat} {J : zI} : brk (cw c a b J) = brk c := by
  funext D s p
  unfold brk
  rw [std_cw]
  rfl
theorem opv_cw {c : zC} {a b : Nat} {J : zI} : opv (cw c a b J) = opv c := by
  funext D s q w
  unfold opv
  rw [clo_cw]
theorem INV_cw {c : zC} {a b : Nat} {J R : zI} : INV (cw c a b J) R = INV c R := by
  unfold INV TOLD
  simp only [CE_cw, MS0_cw, AI_cw]
  rfl
theorem wr_Bmp {c : zC} {R : zI} : wr (cBmp c) R = wr (cw c (c.1 + 1) (c.2.1 + 6) c.2.2.2.2.2.2.2) R := rfl
/-- nothing but marks of the reference's own changed -/
theorem CE.dz_ {c : zC} {R R1 : zI} {s : aS} (h : CE c (dz R) s R) (hf : ∀ a : Nat, 3 ≤ a → a ≤ 31 → R1 a = R a) : CE c (dz R1) s R1 := by
  have e := dz_eq (R := R) (R1 := R1) (fun a h1 h2 => hf a h1 (by omega))
  rw [e]
  unfold CE Din at h ⊢
  rw [hf 3 (by decide) (by decide), hf 4 (by decide) (by decide), hf 5 (by decide) (by decide), hf 9 (by decide) (by decide), hf 10 (by decide) (by decide), hf 11 (by decide) (by decide), hf 12 (by decide) (by decide), hf 13 (by decide) (by decide), hf 14 (by decide) (by decide), hf 15 (by decide) (by decide), hf 16 (by decide) (by decide), hf 18 (by decide) (by decide), hf 19 (by decide) (by decide), hf 20 (by decide) (by decide), hf 22 (by decide) (by decide), hf 23 (by decide) (by decide), hf 24 (by decide) (by decide), hf 29 (by decide) (by decide), hf 30 (by decide) (by decide)]
  exact h
theorem INV_keep {c : zC} {R R1 : zI} (h : INV c R) (hf : ∀ a : Nat, a ≤ 47 → a ≠ 32 → R1 a = R a) (hj : ∀ j, j ≠ 0 → R1 32 j = R 32 j) : INV c R1 := by
  obtain ⟨i1_v, i2_v, i3_v, i4_v, i5_v, i6_v, i7_v, s, i8_v⟩ := h
  have e := dz_eq (R := R) (R1 := R1) (fun a h1 h2 => hf a (by omega) (by omega))
  have m1_v : MDn c (dz R) R1 := i2_v.of2 (fun a h1 h2 => hf a (by omega) h2) (hj 8 (by decide)) (hj 10 (by decide))
  refine ⟨by rw [e]; exact i1_v, by rw [e]; exact m1_v, ?_, ?_, ?_, ?_, ?_, s, fun z => ?_⟩
  · rw [hf 10 (by decide) (by decide), hf 11 (by decide) (by decide), hf 12 (by decide) (by decide)]; exact i3_v
  · rw [hf 2 (by decide) (by decide), hf 9 (by decide) (by decide)]; exact i4_v
  · rw [hf 1 (by decide) (by decide)]; exact i5_v
  · rw [hj 14 (by decide), hf 1 (by decide) (by decide)]; exact i6_v
  · rw [hf 0 (by decide) (by decide)]; exact i7_v
  · rw [hf 1 (by decide) (by decide)] at z
    obtain ⟨t1_v, t2_v, t3_v, t4_v⟩ := i8_v z
    refine ⟨t1_v.dz_ (fun a h1 h2 => hf a (by omega) (by omega)), ?_, ?_, by rw [e]; exact t4_v⟩
    · rw [e]; exact t2_v.of m1_v (fun a h1 h2 => hf a (by omega) (by omega))
    · exact ⟨by rw [hj 22 (by decide)]; exact t3_v.1, by rw [hj 23 (by decide)]; exact t3_v.2.1, by rw [hj 24 (by decide)]; exact t3_v.2.2⟩
theorem INV_code {c : zC} {R : zI} {v : Int} (h : INV c R) : INV c (zU R 32 0 v) := INV_keep h (fun a _ hb_v => zU_cell hb_v) (fun j hj => zU_at hj)
/-- both sides of a call: the class throws or answers, the reference refuses and answers alike -/
def both (mc mm : Nat) (ac am : List zV) (ex : Int → Nat) (m : Int) (Pv : Int → Prop) (c : zC) (R : zI) : Prop := ∃ (code val : Int) (V : zI → Prop), (code = 0 ∨ code = 1 ∨ code = m) ∧ (code = 0 → Pv val) ∧ (∀ R1, V R1 → R1 0 = R 0) ∧ MZ mc ac (wr c R) (cP code ex (fun v R1 => v = val ∧ V R1) c R) ∧ ∀ (a b : Nat) (J R1 : zI), ((code = 0 ∧ V R1) ∨ (code ≠ 0 ∧ R1 = R)) → MZ mm am (wr (cw c a b J) R1) (gR (fun v R2 => R2 32 0 = code ∧ (code = 0 → v = val) ∧ INV (cw c a b J) R2) (cw c a b J))
abbrev pb (v : Int) : Prop := v = 0 ∨ v = 1
abbrev pz (v : Int) : Prop := inR v
theorem cdv_0 {P Q : Prop} (h : cdv P Q = 0) : ¬ P ∧ ¬ Q := by
  by_cases p : P
  · rw [cdv1 p] at h; omega
  · by_cases q : Q
    · rw [cdv2 p q] at h; omega
    · exact ⟨p, q⟩
theorem cd3_0 {P Q N : Prop} (h : cd3 P Q N = 0) : ¬ P ∧ ¬ Q ∧ ¬ N := by
  by_cases p : P
  · rw [cd31 p] at h; omega
  · by_cases q : Q
    · rw [cd32 p q] at h; omega
    · by_cases n : N
      · rw [cd33 p q n] at h; omega
      · exact ⟨p, q, n⟩
theorem cdv_R {P Q : Prop} : cdv P Q = 0 ∨ cdv P Q = 1 ∨ cdv P Q = 2 := by
  by_cases h : P
  · rw [cdv1 h]; omega
  · by_cases h1 : Q
    · rw [cdv2 h h1]; omega
    · rw [cdv0 h h1]; omega
theorem cdv_R1 {P : Prop} : cdv P False = 0 ∨ cdv P False = 1 ∨ cdv P False = 1 := by
  by_cases h : P
  · rw [cdv1 h]; omega
  · rw [cdv0 h id]; omega
theorem cd3_R {P Q N : Prop} : cd3 P Q N = 0 ∨ cd3 P Q N = 1 ∨ cd3 P Q N = 2 := by
  by_cases h : P
  · rw [cd31 h]; omega
  · by_cases h1 : Q
    · rw [cd32 h h1]; omega
    · by_cases h2 : N
      · rw [cd33 h h1 h2]; omega
      · rw [cd30 h h1 h2]; omega
/-- a question: nothing changes -/
theorem both_q {mc mm : Nat} {ac am : List zV} {ex : Int → Nat} {m : Int} {Pv : Int → Prop} {c : zC} {R : zI} {code val : Int} (h : INV c R) (hr : code = 0 ∨ code = 1 ∨ code = m) (hv : code = 0 → Pv val) (hc : MZ mc ac (wr c R) (cP code ex (fun v R1 => v = val ∧ R1 = R) c R)) (hm : ∀ (a b : Nat) (J : zI), MZ mm am (wr (cw c a b J) R) (mP code (fun v R2 => v = val ∧ (∀ a : Nat, a ≤ 47 → a ≠ 32 → R2 a = R a) ∧ (∀ j, j ≠ 0 → R2 32 j = R 32 j) ∧ R2 32 0 = 0) (cw c a b J) R)) : both mc mm ac am ex m Pv c R := by
  refine ⟨code, val, fun R1 => R1 = R, hr, hv, fun R1 h1 => by rw [h1], hc, fun a b J R1 h1 => ?_⟩
  have e : R1 = R := h1.elim (fun z => z.2) (fun z => z.2)
  subst e
  refine MZ.mono (hm a b J) ?_
  rintro o w ⟨v, R2, rfl, rfl, h2⟩
  refine ⟨v, R2, rfl, rfl, ?_⟩
  rcases h2 with ⟨z1, z2⟩ | ⟨z1, z2, z3, z4, z5⟩
  · subst z2
    exact ⟨zU_same _ _ _ _, fun z => absurd z z1, by rw [INV_cw]; exact INV_code h⟩
  · exact ⟨by rw [z1]; exact z5, fun _ => z2, by rw [INV_cw]; exact INV_keep h z3 z4⟩
theorem mP_q {mm : Nat} {am : List zV} {c : zC} {R : zI} {code val : Int} (h : MZ mm am (wr c R) (mP code (fun v R2 => v = val ∧ R2 = ac0 R) c R)) : MZ mm am (wr c R) (mP code (fun v R2 => v = val ∧ (∀ a : Nat, a ≤ 47 → a ≠ 32 → R2 a = R a) ∧ (∀ j, j ≠ 0 → R2 32 j = R 32 j) ∧ R2 32 0 = 0) c R) := by
  refine MZ.mono h ?_
  rintro o w ⟨v, R2, rfl, rfl, h2⟩
  refine ⟨v, R2, rfl, rfl, h2.imp id (fun ⟨z1, z2, z3⟩ => ⟨z1, z2, ?_⟩)⟩
  rw [z3]
  exact ⟨fun a _ hb_v => zU_cell hb_v, fun j hj => zU_at hj, zU_same _ _ _ _⟩
section BOTH
variable {c : zC} {R : zI}
theorem b_chosen {k : Int} (h : INV c R) (kr : inR k) : both m_X5_chosen m_X6_chosen [zr 1, zi k] [zr 32, zi k] exB 2 pz c R := by
  have h0 := h
  obtain ⟨i1_v, i2_v, i3_v, i4_v, i5_v, i6_v, i7_v, s, i8_v⟩ := h
  refine both_q h0 (cdv_R) (fun z => by
    obtain ⟨q1_v, q2_v⟩ := cdv_0 z
    have q := pk_R i1_v (show 0 ≤ k by omega) (show k < dz R 10 2 by omega)
    omega) (s_chosen i1_v (dz_Din R) i5_v (fun z => (i8_v z).1) kr) (fun a b J => ?_)
  have e : (R 32 14 = 0) = (R 1 3 = 0) := by rw [i6_v]
  have m := m_chosen (c := cw c a b J) (s := s) i1_v i2_v (by rw [i6_v]; exact i5_v) (fun z => by rw [MS0_cw]; exact (i8_v (by rw [← i6_v]; exact z)).2.1) kr
  rw [e] at m
  first | simp only [pk_cw, std_cw, brk_cw, opv_cw] at m | skip
  exact mP_q m
theorem b_joined {n : Int} (h : INV c R) (nr1 : inR n) : both m_X5_joined m_X6_joined [zr 1, zi n] [zr 32, zi n] exB 2 pb c R := by
  have h0 := h
  obtain ⟨i1_v, i2_v, i3_v, i4_v, i5_v, i6_v, i7_v, s, i8_v⟩ := h
  refine both_q h0 (cdv_R) (fun _ => bI_01 _) (s_joined i1_v (dz_Din R) i5_v (fun z => (i8_v z).1) nr1) (fun a b J => ?_)
  have e : (R 32 14 = 0) = (R 1 3 = 0) := by rw [i6_v]
  have m := m_joined (c := cw c a b J) (s := s) i1_v i2_v (by rw [i6_v]; exact i5_v) (fun z => by rw [MS0_cw]; exact (i8_v (by rw [← i6_v]; exact z)).2.1) nr1
  rw [e] at m
  first | simp only [pk_cw, std_cw, brk_cw, opv_cw] at m | skip
  exact mP_q m
theorem b_open {k w : Int} (h : INV c R) (kr : inR k) (wr1 : inR w) : both m_X5_open m_X6_open [zr 1, zi k, zi w] [zr 32, zi k, zi w] exB 2 pz c R := by
  have h0 := h
  obtain ⟨i1_v, i2_v, i3_v, i4_v, i5_v, i6_v, i7_v, s, i8_v⟩ := h
  refine both_q h0 (cdv_R) (fun _ => by
    have n16 := i1_v.2.1
    have q := kth_lt (P := fun i => ¬ aJ s i) (dz R 10 0).toNat 0 k
    unfold opv
    by_cases q1_v : kth (fun i => ¬ aJ s i) (dz R 10 0).toNat 0 k = -1
    · rw [if_pos q1_v]; decide
    · rw [if_neg q1_v]
      by_cases q2_v : w = 0
      · rw [if_pos q2_v]; omega
      · rw [if_neg q2_v]
        by_cases q3_v : clo c (dz R) (kth (fun i => ¬ aJ s i) (dz R 10 0).toNat 0 k)
        · rw [pI_t q3_v]; decide
        · rw [pI_f q3_v]
          by_cases q4_v : aF s (kth (fun i => ¬ aJ s i) (dz R 10 0).toNat 0 k)
          · rw [pI_t q4_v]; decide
          · rw [pI_f q4_v]; decide) (s_open i1_v (dz_Din R) i5_v (fun z => (i8_v z).1) kr wr1) (fun a b J => ?_)
  have e : (R 32 14 = 0) = (R 1 3 = 0) := by rw [i6_v]
  have m := m_open (c := cw c a b J) (s := s) i1_v i2_v (by rw [i6_v]; exact i5_v) (fun z => by rw [MS0_cw]; exact (i8_v (by rw [← i6_v]; exact z)).2.1) kr wr1
  rw [e] at m
  first | simp only [pk_cw, std_cw, brk_cw, opv_cw] at m | skip
  exact mP_q m
theorem b_piece {n k w : Int} (h : INV c R) (nr1 : inR n) (kr : inR k) (wr1 : inR w) : both m_X5_piece m_X6_piece [zr 1, zi n, zi k, zi w] [zr 32, zi n, zi k, zi w] exB 2 pz c R := by
  have h0 := h
  obtain ⟨i1_v, i2_v, i3_v, i4_v, i5_v, i6_v, i7_v, s, i8_v⟩ := h
  refine both_q h0 (cd3_R) (fun z => by
    obtain ⟨q1_v, q2_v, q3_v⟩ := cd3_0 z
    have g3_v := i1_v.1.S
    have g2 := i1_v.1
    unfold Geo at g2
    obtain ⟨q4_v, q5_v, q6_v⟩ := (kth_lt (P := std c (dz R) s n) (cS c : Int).toNat 0 k).resolve_left q3_v
    have g_v := place_geo i1_v.1 q4_v (by omega)
    unfold pcv
    have b := bI_01 (aU s n (kth (std c (dz R) s n) (cS c : Int).toNat 0 k))
    by_cases w0_v : w = 0
    · rw [if_pos w0_v]; omega
    · rw [if_neg w0_v]
      by_cases w1_v : w = 1
      · rw [if_pos w1_v]; omega
      · rw [if_neg w1_v]
        by_cases w2_v : w = 2
        · rw [if_pos w2_v]; omega
        · rw [if_neg w2_v]; omega) (s_piece i1_v (dz_Din R) i5_v (fun z => (i8_v z).1) nr1 kr wr1) (fun a b J => ?_)
  have e : (R 32 14 = 0) = (R 1 3 = 0) := by rw [i6_v]
  have m := m_piece (c := cw c a b J) (s := s) i1_v i2_v (by rw [i6_v]; exact i5_v) (fun z => by rw [MS0_cw]; exact (i8_v (by rw [← i6_v]; exact z)).2.1) nr1 kr wr1
  rw [e] at m
  first | simp only [pk_cw, std_cw, brk_cw, opv_cw] at m | skip
  exact mP_q m
theorem b_broken {k : Int} (h : INV c R) (kr : inR k) : both m_X5_broken m_X6_broken [zr 1, zi k] [zr 32, zi k] exB 2 pz c R := by
  have h0 := h
  obtain ⟨i1_v, i2_v, i3_v, i4_v, i5_v, i6_v, i7_v, s, i8_v⟩ := h
  refine both_q h0 (cdv_R) (fun _ => by
    have g3_v := i1_v.1.S
    have q := kth_lt (P := brk c (dz R) s) (cS c : Int).toNat 0 k
    omega) (s_broken i1_v (dz_Din R) i5_v (fun z => (i8_v z).1) (fun z => (i8_v z).2.2.2.1) kr) (fun a b J => ?_)
  have e : (R 32 14 = 0) = (R 1 3 = 0) := by rw [i6_v]
  have m := m_broken (c := cw c a b J) (s := s) i1_v i2_v (by rw [i6_v]; exact i5_v) (fun z => by rw [MS0_cw]; exact (i8_v (by rw [← i6_v]; exact z)).2.1) kr
  rw [e] at m
  first | simp only [pk_cw, std_cw, brk_cw, opv_cw] at m | skip
  refine MZ.mono m ?_
  rintro o w ⟨v, R2, rfl, rfl, h2⟩
  refine ⟨v, R2, rfl, rfl, h2.imp id (fun ⟨z1, z2, z3, z4⟩ => ⟨z1, z2, fun a h1 h2 => z3 a h2 (by omega), fun j hj => by rw [z4, up1_n hj], by rw [z4, up1_s]⟩)⟩
theorem plo_ok {c : zC} {z x y : Int} (hg : Geo c) : (plo c z x y = -1) = ¬ ((0 ≤ z ∧ z < cLa c) ∧ (0 ≤ x ∧ x < cW c) ∧ (0 ≤ y ∧ y < cH c)) := by
  refine propext ⟨fun h w => ?_, fun h => ?_⟩
  · unfold plo at h
    rw [if_pos (by omega)] at h
    have := (pl_geo hg w.1.1 w.1.2 w.2.1.1 w.2.1.2 w.2.2.1 w.2.2.2).1
    omega
  · unfold plo
    rw [if_neg (fun w => h (by omega))]
theorem plo_pl {c : zC} {z x y : Int} (h : (0 ≤ z ∧ z < cLa c) ∧ (0 ≤ x ∧ x < cW c) ∧ (0 ≤ y ∧ y < cH c)) : plo c z x y = pl c z x y := by
  unfold plo
  rw [if_pos (by omega)]
theorem b_history {z x y : Int} (h : INV c R) (zr1 : inR z) (xr : inR64 x) (yr : inR64 y) : both m_X5_history m_X6_history [zr 1, zi z, zl x, zl y] [zr 32, zi z, zl x, zl y] exB 2 pz c R := by
  have h0 := h
  obtain ⟨i1_v, i2_v, i3_v, i4_v, i5_v, i6_v, i7_v, s, i8_v⟩ := h
  refine both_q h0 (cdv_R) (fun q => by
    obtain ⟨q1_v, q2_v⟩ := cdv_0 q
    have q1_v := Classical.not_not.mp q1_v
    have g_v := pl_geo i1_v.1 q1_v.1.1 q1_v.1.2 q1_v.2.1.1 q1_v.2.1.2 q1_v.2.2.1 q1_v.2.2.2
    have t := (i8_v q2_v).2.2.2.1
    have t1_v := t.2.2.2.1 _ (show pls c (pl c z x y) from ⟨g_v.1, g_v.2.1⟩)
    have t2_v := t.2.2.2.2.2.1
    omega) (s_history i1_v (dz_Din R) i5_v (fun z => (i8_v z).1) zr1 xr yr) (fun a b J => ?_)
  have e : (R 32 14 = 0) = (R 1 3 = 0) := by rw [i6_v]
  have m := m_history (c := cw c a b J) (s := s) i1_v i2_v (by rw [i6_v]; exact i5_v) (fun z => by rw [MS0_cw]; exact (i8_v (by rw [← i6_v]; exact z)).2.1) zr1 xr yr
  rw [e, plo_ok (c := cw c a b J) i1_v.1] at m
  by_cases q : (0 ≤ z ∧ z < cLa c) ∧ (0 ≤ x ∧ x < cW c) ∧ (0 ≤ y ∧ y < cH c)
  · rw [plo_pl (c := cw c a b J) q] at m
    exact mP_q m
  · refine MZ.mono m ?_
    rintro o w ⟨v, R2, rfl, rfl, h2⟩
    refine ⟨v, R2, rfl, rfl, .inl ?_⟩
    rcases h2 with z1 | ⟨z1, -⟩
    · exact z1
    · rw [cdv1 (show ¬ ((0 ≤ z ∧ z < cLa (cw c a b J)) ∧ (0 ≤ x ∧ x < cW (cw c a b J)) ∧ (0 ≤ y ∧ y < cH (cw c a b J))) from q)] at z1
      exact absurd z1 (by decide)
theorem b_count {w : Int} (h : INV c R) (wr1 : inR w) : both m_X5_count m_X6_count [zr 1, zi w] [zr 32, zi w] exB 1 pz c R := by
  have h0 := h
  obtain ⟨i1_v, i2_v, i3_v, i4_v, i5_v, i6_v, i7_v, s, i8_v⟩ := h
  refine both_q h0 (cdv_R1) (fun q => by
    obtain ⟨q1_v, q2_v⟩ := cdv_0 q
    have n16 : 0 ≤ R 10 0 ∧ R 10 0 ≤ 16 := i1_v.2.1
    have p40 : 0 ≤ R 10 2 ∧ R 10 2 ≤ 40 := i1_v.2.2.1
    have g3_v := i1_v.1.S
    have cb := cnt_R (fun p => R 9 p ≠ 0) (cS c)
    by_cases e : R 1 3 = 0
    · rw [if_pos e]; omega
    · obtain ⟨t1_v, t2_v, t3_v, t4_v, t5_v⟩ := i8_v e
      have c1_v : R 15 13 = aN s := t1_v.2.2.2.2.2.2.2.2.2.2.1
      have c2_v : R 15 14 = aA s := t1_v.2.2.2.2.2.2.2.2.2.2.2.1
      have c3_v : R 15 15 = aT s := t1_v.2.2.2.2.2.2.2.2.2.2.2.2
      have a1_v := t4_v.2.2.2.2.1
      have a2 := t4_v.2.2.2.2.2.1
      have a3 := t4_v.2.2.2.2.2.2.1
      have a4 := t4_v.2.2.2.2.2.2.2.1
      have a5 := t4_v.2.2.2.2.2.2.2.2.1
      rw [if_neg e]; omega) (s_count i5_v wr1) (fun a b J => ?_)
  have m := m_count (c := cw c a b J) i1_v i2_v (by rw [i6_v]; exact i5_v) wr1
  have e : (if w = 0 then R 10 0 else if w = 1 then R 10 2 else if w = 2 then R 2 12 else if R 1 3 = 0 then 0 else if w = 3 then R 15 13 else if w = 4 then R 15 14 else R 15 15) = (if w = 0 then dz R 10 0 else if w = 1 then dz R 10 2 else if w = 2 then cnt (fun p => dz R 9 p ≠ 0) (cS (cw c a b J)) else if R 32 14 = 0 then 0 else if w = 3 then R 32 22 else if w = 4 then R 32 23 else R 32 24) := by
    rw [i6_v]
    have e2_v : cnt (fun p => dz R 9 p ≠ 0) (cS (cw c a b J)) = R 2 12 := i4_v.symm
    rw [e2_v]
    by_cases q : R 1 3 = 0
    · rw [if_pos q, if_pos q]; rfl
    · obtain ⟨t1_v, t2_v, t3_v, t4_v⟩ := i8_v q
      have c1_v : R 15 13 = R 32 22 := t1_v.2.2.2.2.2.2.2.2.2.2.1.trans t3_v.1.symm
      have c2_v : R 15 14 = R 32 23 := t1_v.2.2.2.2.2.2.2.2.2.2.2.1.trans t3_v.2.1.symm
      have c3_v : R 15 15 = R 32 24 := t1_v.2.2.2.2.2.2.2.2.2.2.2.2.trans t3_v.2.2.symm
      rw [c1_v, c2_v, c3_v]
      rfl
  rw [← e] at m
  exact mP_q m
end BOTH

