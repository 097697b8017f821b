/-! ===== calls that may be refused; the reference's calls that change the input ===== -/
noncomputable def cdv (P Q : Prop) : Int := pI P 1 (pI Q 2 0)
theorem cdv1 {P Q : Prop} (h : P) : cdv P Q = 1 := pI_t h
theorem cdv2 {P Q : Prop} (h : ¬ P) (h1 : Q) : cdv P Q = 2 := by unfold cdv; rw [pI_f h, pI_t h1]
theorem cdv0 {P Q : Prop} (h : ¬ P) (h1 : ¬ Q) : cdv P Q = 0 := by unfold cdv; rw [pI_f h, pI_f h1]
/-- a call of the reference: refused, or done -/
def mP (code : Int) (V : Int → zI → Prop) (c : zC) (R : zI) : zO → zW → Prop := gR (fun b R2 => (code ≠ 0 ∧ R2 = zU R 32 0 code) ∨ (code = 0 ∧ V b R2)) c
theorem mP_1 {code b : Int} {V : Int → zI → Prop} {c : zC} {R : zI} (h : code = 1) : mP code V c R (.inl (some (.inl b))) (wr c (zU R 32 0 1)) := gR_i (.inl ⟨by omega, by rw [h]⟩)
theorem mP_2 {code b : Int} {V : Int → zI → Prop} {c : zC} {R : zI} (h : code = 2) : mP code V c R (.inl (some (.inl b))) (wr c (zU R 32 0 2)) := gR_i (.inl ⟨by omega, by rw [h]⟩)
theorem mP_0 {code b : Int} {V : Int → zI → Prop} {c : zC} {R R2 : zI} (h : code = 0) (hv : V b R2) : mP code V c R (.inl (some (.inl b))) (wr c R2) := gR_i (.inr ⟨h, hv⟩)
/-- a call of the class: it throws, or it is done -/
def cP (code : Int) (ex : Int → Nat) (V : Int → zI → Prop) (c : zC) (R : zI) : zO → zW → Prop := fun o w1 => (code = 0 ∧ ∃ v R1, o = .inl (some (.inl v)) ∧ w1 = wr c R1 ∧ V v R1) ∨ (code ≠ 0 ∧ o = .inr (ex code) ∧ w1 = wr (cBmp c) R)
theorem cP_1 {code : Int} {ex : Int → Nat} {e : Nat} {V : Int → zI → Prop} {c : zC} {R : zI} (h : code = 1) (he : ex 1 = e) : cP code ex V c R (.inr e) (zBmp (wr c R)) := .inr ⟨by omega, by rw [h, he], rfl⟩
theorem cP_2 {code : Int} {ex : Int → Nat} {e : Nat} {V : Int → zI → Prop} {c : zC} {R : zI} (h : code = 2) (he : ex 2 = e) : cP code ex V c R (.inr e) (zBmp (wr c R)) := .inr ⟨by omega, by rw [h, he], rfl⟩
theorem cP_0 {code v : Int} {ex : Int → Nat} {V : Int → zI → Prop} {c : zC} {R R1 : zI} (h : code = 0) (hv : V v R1) : cP code ex V c R (.inl (some (.inl v))) (wr c R1) := .inl ⟨h, v, R1, rfl, rfl, hv⟩
def exA (k : Int) : Nat := if k = 1 then 0 else 1
def exB (k : Int) : Nat := if k = 1 then 0 else 2
def exC (_ : Int) : Nat := 2
def exD (_ : Int) : Nat := 1

set_option maxHeartbeats 1000000 in
theorem m_rule0 {c : zC} {R : zI} {z v : Int} (hg : Geo c) (zr1 : inR z) (vr : inR64 v) (hA : ∀ z, 0 ≤ z → z < 3 → inR (R 33 z)) (h14 : R 32 14 = 0 ∨ R 32 14 = 1) : MZ m_X6_rule [zr 32, zi 0, zi z, zl v] (wr c R) (mP (cdv (¬ (0 ≤ z ∧ z < cLa c)) (¬ (0 ≤ v ∧ v ≤ 2))) (fun b R2 => b = bI (¬ R 33 z = v) ∧ R2 = zU (zU (zU R 32 0 0) 33 z v) 32 14 (bI (R 32 14 ≠ 0 ∧ R 33 z = v))) c R) := by
  refine MZ.of g_X6_rule ?_
  show ZX m_X6_rule 0 [some (zr 32), some (zi 0), some (zi z), some (zl v), none, none, none] [] (wr c R) _
  have g2 := hg
  unfold Geo at g2
  refine zx_go (pc1 := 1) (l1 := [some (zr 32), some (zi 0), some (zi z), some (zl v), none, none, none]) (st1 := [zi 0]) (w1 := wr c R) g_X6_rule 1 _ _ _ _ rfl ?_
  refine zx_ifF g_X6_rule rfl (by decide) (show ¬ ((0 : Int) ≠ 0) by decide) ?_
  refine zx_go (pc1 := 9) (l1 := [some (zr 32), some (zi 0), some (zi z), some (zl v), none, none, none]) (st1 := [zl 2, zl 0, zl v]) (w1 := wr c R) g_X6_rule 3 _ _ _ _ rfl ?_
  refine zx_csF (As := [zl v, zl 0, zl 2]) (rest := []) g_X6_rule rfl g_X6_isIn rfl rfl (Nat.le_of_ble_eq_true rfl) (Nat.le_of_ble_eq_true rfl) (m_isIn (by omega) (by omega) (by omega)) ?_
  refine zx_go (pc1 := 56) (l1 := [some (zr 32), some (zi 0), some (zi z), some (zl v), none, some (zi (bI (0 ≤ v ∧ v ≤ 2))), none]) (st1 := [zi z, zr 32]) (w1 := wr c R) g_X6_rule 4 _ _ _ _ rfl ?_
  refine zx_i2l g_X6_rule rfl (by omega) ?_
  refine zx_go (pc1 := 64) (l1 := [some (zr 32), some (zi 0), some (zi z), some (zl v), none, some (zi (bI (0 ≤ v ∧ v ≤ 2))), none]) (st1 := [zi ((cLa c) - 1), zl 0, zl z, zr 32]) (w1 := wr c R) g_X6_rule 5 _ _ _ _ rfl ?_
  refine zx_i2l g_X6_rule rfl (by omega) ?_
  refine zx_csF (As := [zl z, zl 0, zl ((cLa c) - 1)]) (rest := [zr 32]) g_X6_rule rfl g_X6_isIn rfl rfl (Nat.le_of_ble_eq_true rfl) (Nat.le_of_ble_eq_true rfl) (m_isIn (by omega) (by omega) (by omega)) ?_
  refine zx_ifne g_X6_rule rfl (fun (h68 : (0 ≤ z ∧ z ≤ ((cLa c) - 1))) => ?_) (fun (h68 : ¬ (0 ≤ z ∧ z ≤ ((cLa c) - 1))) => ?_)
  · refine zx_go (pc1 := 77) (l1 := [some (zr 32), some (zi 0), some (zi z), some (zl v), none, some (zi (bI (0 ≤ v ∧ v ≤ 2))), none]) (st1 := [zi (bI (0 ≤ v ∧ v ≤ 2)), zr 32]) (w1 := wr c R) g_X6_rule 1 _ _ _ _ rfl ?_
    refine zx_ifne g_X6_rule rfl (fun (h77 : (0 ≤ v ∧ v ≤ 2)) => ?_) (fun (h77 : ¬ (0 ≤ v ∧ v ≤ 2)) => ?_)
    · refine zx_go (pc1 := 85) (l1 := [some (zr 32), some (zi 0), some (zi z), some (zl v), none, some (zi (bI (0 ≤ v ∧ v ≤ 2))), none]) (st1 := [zi 0, zr 32]) (w1 := wr c R) g_X6_rule 1 _ _ _ _ rfl ?_
      refine gx_cvG (As := [zi 0]) (rest := []) g_X6_rule rfl g_X6_refuses rfl rfl (Nat.le_of_ble_eq_true rfl) (Nat.le_of_ble_eq_true rfl) rfl (by decide) (m_ref (v := 0) (by decide) (bI_f (by decide))) ?_
      refine zx_ifT g_X6_rule rfl (by decide) (show ((0 : Int) = 0) by decide) ?_
      generalize hR9 : zU R 32 0 0 = R9
      have f9_v : ∀ a, a ≠ 32 → R9 a = R a := fun a ha_v => by rw [← hR9, zU_cell ha_v]
      have f9j : ∀ j, j ≠ 0 → R9 32 j = R 32 j := fun j hj => by rw [← hR9, zU_at hj]
      refine zx_go (pc1 := 94) (l1 := [some (zr 32), some (zi 0), some (zi z), some (zl v), none, some (zi (bI (0 ≤ v ∧ v ≤ 2))), none]) (st1 := [zi 0]) (w1 := wr c R9) g_X6_rule 1 _ _ _ _ rfl ?_
      refine zx_ifF g_X6_rule rfl (by decide) (show ¬ ((0 : Int) ≠ 0) by decide) ?_
      refine zx_go (pc1 := 102) (l1 := [some (zr 32), some (zi 0), some (zi z), some (zl v), none, some (zi (bI (0 ≤ v ∧ v ≤ 2))), none]) (st1 := [zi z, zr 33]) (w1 := wr c R9) g_X6_rule 3 _ _ _ _ rfl ?_
      refine gz_iald g_X6_rule rfl (n := 3) rfl (by decide) rfl (by decide) (by omega) (by omega) ?_
      refine zx_go (pc1 := 126) (l1 := [some (zr 32), some (zi 0), some (zi z), some (zl v), none, some (zi (bI (0 ≤ v ∧ v ≤ 2))), none]) (st1 := [zi (R9 33 z)]) (w1 := wr c R9) g_X6_rule 1 _ _ _ _ rfl ?_
      have hA1 := hA z (by omega) (by omega)
      have eA_v : R9 33 z = R 33 z := by rw [f9_v 33 (by decide)]
      refine zx_go (pc1 := 129) (l1 := [some (zr 32), some (zi 0), some (zi z), some (zl v), none, some (zi (bI (0 ≤ v ∧ v ≤ 2))), some (zi (R9 33 z))]) (st1 := [zi 0]) (w1 := wr c R9) g_X6_rule 2 _ _ _ _ rfl ?_
      refine zx_ifF g_X6_rule rfl (by decide) (show ¬ ((0 : Int) ≠ 0) by decide) ?_
      refine zx_go (pc1 := 139) (l1 := [some (zr 32), some (zi 0), some (zi z), some (zl v), none, some (zi (bI (0 ≤ v ∧ v ≤ 2))), some (zi (R9 33 z))]) (st1 := [zi v, zi z, zr 33]) (w1 := wr c R9) g_X6_rule 5 _ _ _ _ rfl ?_
      refine gz_iast g_X6_rule rfl (n := 3) rfl (by decide) (by refine ⟨?_, ?_, ?_, ?_, ?_⟩ <;> simp) (by decide) (by omega) (by omega) ?_
      refine zx_go (pc1 := 167) (l1 := [some (zr 32), some (zi 0), some (zi z), some (zl v), none, some (zi (bI (0 ≤ v ∧ v ≤ 2))), some (zi (R9 33 z))]) (st1 := []) (w1 := wr c (zU R9 33 z v)) g_X6_rule 1 _ _ _ _ rfl ?_
      have e14_v : (zU R9 33 z v) 32 14 = R 32 14 := by rw [zU_cell (by decide), f9j 14 (by decide)]
      refine zx_go (pc1 := 172) (l1 := [some (zr 32), some (zi 0), some (zi z), some (zl v), none, some (zi (bI (0 ≤ v ∧ v ≤ 2))), some (zi (R9 33 z))]) (st1 := [zi ((zU R9 33 z v) 32 14), zr 32]) (w1 := wr c (zU R9 33 z v)) g_X6_rule 3 _ _ _ _ rfl ?_
      refine zx_if g_X6_rule rfl (by omega) (fun (h172 : ((zU R9 33 z v) 32 14) = 0) => ?_) (fun (h172 : ¬ ((zU R9 33 z v) 32 14) = 0) => ?_)
      · refine zx_go (pc1 := 188) (l1 := [some (zr 32), some (zi 0), some (zi z), some (zl v), none, some (zi (bI (0 ≤ v ∧ v ≤ 2))), some (zi (R9 33 z))]) (st1 := [zi 0, zr 32]) (w1 := wr c (zU R9 33 z v)) g_X6_rule 1 _ _ _ _ rfl ?_
        refine gz_putb 14 g_X6_rule rfl rfl rfl (by decide) rfl (by refine ⟨?_, ?_, ?_, ?_, ?_⟩ <;> simp) (.inl rfl) ?_
        refine zx_go (pc1 := 193) (l1 := [some (zr 32), some (zi 0), some (zi z), some (zl v), none, some (zi (bI (0 ≤ v ∧ v ≤ 2))), some (zi (R9 33 z))]) (st1 := [zi (R9 33 z)]) (w1 := wr c (zU (zU R9 33 z v) 32 14 0)) g_X6_rule 1 _ _ _ _ rfl ?_
        refine zx_i2l g_X6_rule rfl (by omega) ?_
        refine zx_go (pc1 := 195) (l1 := [some (zr 32), some (zi 0), some (zi z), some (zl v), none, some (zi (bI (0 ≤ v ∧ v ≤ 2))), some (zi (R9 33 z))]) (st1 := [zl v, zl (R9 33 z)]) (w1 := wr c (zU (zU R9 33 z v) 32 14 0)) g_X6_rule 1 _ _ _ _ rfl ?_
        refine zx_lcif g_X6_rule rfl rfl (by omega) (by omega) (fun (h195 : (R9 33 z) = v) => ?_) (fun (h195 : ¬ ((R9 33 z) = v)) => ?_)
        · refine zx_go (pc1 := 204) (l1 := [some (zr 32), some (zi 0), some (zi z), some (zl v), none, some (zi (bI (0 ≤ v ∧ v ≤ 2))), some (zi (R9 33 z))]) (st1 := [zi 0]) (w1 := wr c (zU (zU R9 33 z v) 32 14 0)) g_X6_rule 1 _ _ _ _ rfl ?_
          refine zx_iret g_X6_rule rfl (.inr (.inl rfl)) ?_
          refine mP_0 (cdv0 (by omega) (by omega)) ⟨?_, ?_⟩
          · exact (bI_f (fun z => z (by omega))).symm
          · rw [bI_f (fun z => by omega)]
        · refine zx_go (pc1 := 204) (l1 := [some (zr 32), some (zi 0), some (zi z), some (zl v), none, some (zi (bI (0 ≤ v ∧ v ≤ 2))), some (zi (R9 33 z))]) (st1 := [zi 1]) (w1 := wr c (zU (zU R9 33 z v) 32 14 0)) g_X6_rule 2 _ _ _ _ rfl ?_
          refine zx_iret g_X6_rule rfl (.inr (.inr rfl)) ?_
          refine mP_0 (cdv0 (by omega) (by omega)) ⟨?_, ?_⟩
          · exact (bI_t (by omega)).symm
          · rw [bI_f (fun z => by omega)]
      · refine zx_go (pc1 := 177) (l1 := [some (zr 32), some (zi 0), some (zi z), some (zl v), none, some (zi (bI (0 ≤ v ∧ v ≤ 2))), some (zi (R9 33 z))]) (st1 := [zi (R9 33 z), zr 32]) (w1 := wr c (zU R9 33 z v)) g_X6_rule 1 _ _ _ _ rfl ?_
        refine zx_i2l g_X6_rule rfl (by omega) ?_
        refine zx_go (pc1 := 179) (l1 := [some (zr 32), some (zi 0), some (zi z), some (zl v), none, some (zi (bI (0 ≤ v ∧ v ≤ 2))), some (zi (R9 33 z))]) (st1 := [zl v, zl (R9 33 z), zr 32]) (w1 := wr c (zU R9 33 z v)) g_X6_rule 1 _ _ _ _ rfl ?_
        refine zx_lcif g_X6_rule rfl rfl (by omega) (by omega) (fun (h179 : (R9 33 z) ≠ v) => ?_) (fun (h179 : ¬ ((R9 33 z) ≠ v)) => ?_)
        · refine zx_go (pc1 := 188) (l1 := [some (zr 32), some (zi 0), some (zi z), some (zl v), none, some (zi (bI (0 ≤ v ∧ v ≤ 2))), some (zi (R9 33 z))]) (st1 := [zi 0, zr 32]) (w1 := wr c (zU R9 33 z v)) g_X6_rule 1 _ _ _ _ rfl ?_
          refine gz_putb 14 g_X6_rule rfl rfl rfl (by decide) rfl (by refine ⟨?_, ?_, ?_, ?_, ?_⟩ <;> simp) (.inl rfl) ?_
          refine zx_go (pc1 := 193) (l1 := [some (zr 32), some (zi 0), some (zi z), some (zl v), none, some (zi (bI (0 ≤ v ∧ v ≤ 2))), some (zi (R9 33 z))]) (st1 := [zi (R9 33 z)]) (w1 := wr c (zU (zU R9 33 z v) 32 14 0)) g_X6_rule 1 _ _ _ _ rfl ?_
          refine zx_i2l g_X6_rule rfl (by omega) ?_
          refine zx_go (pc1 := 195) (l1 := [some (zr 32), some (zi 0), some (zi z), some (zl v), none, some (zi (bI (0 ≤ v ∧ v ≤ 2))), some (zi (R9 33 z))]) (st1 := [zl v, zl (R9 33 z)]) (w1 := wr c (zU (zU R9 33 z v) 32 14 0)) g_X6_rule 1 _ _ _ _ rfl ?_
          refine zx_lcif g_X6_rule rfl rfl (by omega) (by omega) (fun (h195 : (R9 33 z) = v) => ?_) (fun (h195 : ¬ ((R9 33 z) = v)) => ?_)
          · refine zx_go (pc1 := 204) (l1 := [some (zr 32), some (zi 0), some (zi z), some (zl v), none, some (zi (bI (0 ≤ v ∧ v ≤ 2))), some (zi (R9 33 z))]) (st1 := [zi 0]) (w1 := wr c (zU (zU R9 33 z v) 32 14 0)) g_X6_rule 1 _ _ _ _ rfl ?_
            refine zx_iret g_X6_rule rfl (.inr (.inl rfl)) ?_
            refine mP_0 (cdv0 (by omega) (by omega)) ⟨?_, ?_⟩
            · exact (bI_f (fun z => z (by omega))).symm
            · rw [bI_f (fun z => by omega)]
          · refine zx_go (pc1 := 204) (l1 := [some (zr 32), some (zi 0), some (zi z), some (zl v), none, some (zi (bI (0 ≤ v ∧ v ≤ 2))), some (zi (R9 33 z))]) (st1 := [zi 1]) (w1 := wr c (zU (zU R9 33 z v) 32 14 0)) g_X6_rule 2 _ _ _ _ rfl ?_
            refine zx_iret g_X6_rule rfl (.inr (.inr rfl)) ?_
            refine mP_0 (cdv0 (by omega) (by omega)) ⟨?_, ?_⟩
            · exact (bI_t (by omega)).symm
            · rw [bI_f (fun z => by omega)]
        · refine zx_go (pc1 := 188) (l1 := [some (zr 32), some (zi 0), some (zi z), some (zl v), none, some (zi (bI (0 ≤ v ∧ v ≤ 2))), some (zi (R9 33 z))]) (st1 := [zi 1, zr 32]) (w1 := wr c (zU R9 33 z v)) g_X6_rule 2 _ _ _ _ rfl ?_
          refine gz_putb 14 g_X6_rule rfl rfl rfl (by decide) rfl (by refine ⟨?_, ?_, ?_, ?_, ?_⟩ <;> simp) (.inr rfl) ?_
          refine zx_go (pc1 := 193) (l1 := [some (zr 32), some (zi 0), some (zi z), some (zl v), none, some (zi (bI (0 ≤ v ∧ v ≤ 2))), some (zi (R9 33 z))]) (st1 := [zi (R9 33 z)]) (w1 := wr c (zU (zU R9 33 z v) 32 14 1)) g_X6_rule 1 _ _ _ _ rfl ?_
          refine zx_i2l g_X6_rule rfl (by omega) ?_
          refine zx_go (pc1 := 195) (l1 := [some (zr 32), some (zi 0), some (zi z), some (zl v), none, some (zi (bI (0 ≤ v ∧ v ≤ 2))), some (zi (R9 33 z))]) (st1 := [zl v, zl (R9 33 z)]) (w1 := wr c (zU (zU R9 33 z v) 32 14 1)) g_X6_rule 1 _ _ _ _ rfl ?_
          refine zx_lcif g_X6_rule rfl rfl (by omega) (by omega) (fun (h195 : (R9 33 z) = v) => ?_) (fun (h195 : ¬ ((R9 33 z) = v)) => ?_)
          · refine zx_go (pc1 := 204) (l1 := [some (zr 32), some (zi 0), some (zi z), some (zl v), none, some (zi (bI (0 ≤ v ∧ v ≤ 2))), some (zi (R9 33 z))]) (st1 := [zi 0]) (w1 := wr c (zU (zU R9 33 z v) 32 14 1)) g_X6_rule 1 _ _ _ _ rfl ?_
            refine zx_iret g_X6_rule rfl (.inr (.inl rfl)) ?_
            refine mP_0 (cdv0 (by omega) (by omega)) ⟨?_, ?_⟩
            · exact (bI_f (fun z => z (by omega))).symm
            · rw [bI_t ⟨by omega, by omega⟩]
          · refine zx_go (pc1 := 204) (l1 := [some (zr 32), some (zi 0), some (zi z), some (zl v), none, some (zi (bI (0 ≤ v ∧ v ≤ 2))), some (zi (R9 33 z))]) (st1 := [zi 1]) (w1 := wr c (zU (zU R9 33 z v) 32 14 1)) g_X6_rule 2 _ _ _ _ rfl ?_
            refine zx_iret g_X6_rule rfl (.inr (.inr rfl)) ?_
            refine mP_0 (cdv0 (by omega) (by omega)) ⟨?_, ?_⟩
            · exact (bI_t (by omega)).symm
            · rw [bI_t ⟨by omega, by omega⟩]
    · refine zx_go (pc1 := 85) (l1 := [some (zr 32), some (zi 0), some (zi z), some (zl v), none, some (zi (bI (0 ≤ v ∧ v ≤ 2))), none]) (st1 := [zi 2, zr 32]) (w1 := wr c R) g_X6_rule 2 _ _ _ _ rfl ?_
      refine gx_cvG (As := [zi 2]) (rest := []) g_X6_rule rfl g_X6_refuses rfl rfl (Nat.le_of_ble_eq_true rfl) (Nat.le_of_ble_eq_true rfl) rfl (by decide) (m_ref (v := 1) (by decide) (bI_t (by decide))) ?_
      refine zx_ifF g_X6_rule rfl (by decide) (show ¬ ((1 : Int) = 0) by decide) ?_
      refine zx_go (pc1 := 92) (l1 := [some (zr 32), some (zi 0), some (zi z), some (zl v), none, some (zi (bI (0 ≤ v ∧ v ≤ 2))), none]) (st1 := [zi 0]) (w1 := wr c (zU R 32 0 2)) g_X6_rule 1 _ _ _ _ rfl ?_
      refine zx_iret g_X6_rule rfl (.inr (.inl rfl)) ?_
      exact mP_2 (cdv2 (by omega) (by omega))
  · refine zx_go (pc1 := 85) (l1 := [some (zr 32), some (zi 0), some (zi z), some (zl v), none, some (zi (bI (0 ≤ v ∧ v ≤ 2))), none]) (st1 := [zi 1, zr 32]) (w1 := wr c R) g_X6_rule 2 _ _ _ _ rfl ?_
    refine gx_cvG (As := [zi 1]) (rest := []) g_X6_rule rfl g_X6_refuses rfl rfl (Nat.le_of_ble_eq_true rfl) (Nat.le_of_ble_eq_true rfl) rfl (by decide) (m_ref (v := 1) (by decide) (bI_t (by decide))) ?_
    refine zx_ifF g_X6_rule rfl (by decide) (show ¬ ((1 : Int) = 0) by decide) ?_
    refine zx_go (pc1 := 92) (l1 := [some (zr 32), some (zi 0), some (zi z), some (zl v), none, some (zi (bI (0 ≤ v ∧ v ≤ 2))), none]) (st1 := [zi 0]) (w1 := wr c (zU R 32 0 1)) g_X6_rule 1 _ _ _ _ rfl ?_
    refine zx_iret g_X6_rule rfl (.inr (.inl rfl)) ?_
    exact mP_1 (cdv1 (by omega))

set_option maxHeartbeats 1000000 in
theorem m_rule1 {c : zC} {R : zI} {z v : Int} (hg : Geo c) (zr1 : inR z) (vr : inR64 v) (hA : ∀ z, 0 ≤ z → z < 3 → inR (R 34 z)) (h14 : R 32 14 = 0 ∨ R 32 14 = 1) : MZ m_X6_rule [zr 32, zi 1, zi z, zl v] (wr c R) (mP (cdv (¬ (0 ≤ z ∧ z < cLa c)) (¬ (0 ≤ v ∧ v ≤ 50))) (fun b R2 => b = bI (¬ R 34 z = v) ∧ R2 = zU (zU (zU R 32 0 0) 34 z v) 32 14 (bI (R 32 14 ≠ 0 ∧ R 34 z = v))) c R) := by
  refine MZ.of g_X6_rule ?_
  show ZX m_X6_rule 0 [some (zr 32), some (zi 1), some (zi z), some (zl v), none, none, none] [] (wr c R) _
  have g2 := hg
  unfold Geo at g2
  refine zx_go (pc1 := 1) (l1 := [some (zr 32), some (zi 1), some (zi z), some (zl v), none, none, none]) (st1 := [zi 1]) (w1 := wr c R) g_X6_rule 1 _ _ _ _ rfl ?_
  refine zx_ifT g_X6_rule rfl (by decide) (show ((1 : Int) ≠ 0) by decide) ?_
  refine zx_go (pc1 := 17) (l1 := [some (zr 32), some (zi 1), some (zi z), some (zl v), none, none, none]) (st1 := [zi 1, zi 1]) (w1 := wr c R) g_X6_rule 2 _ _ _ _ rfl ?_
  refine zx_cmp g_X6_rule rfl (by decide) (by decide) (fun (h17 : (1 : Int) ≠ (1 : Int)) => absurd h17 (by decide)) (fun _ => ?_)
  refine zx_go (pc1 := 25) (l1 := [some (zr 32), some (zi 1), some (zi z), some (zl v), none, none, none]) (st1 := [zl 50, zl 0, zl v]) (w1 := wr c R) g_X6_rule 3 _ _ _ _ rfl ?_
  refine zx_csF (As := [zl v, zl 0, zl 50]) (rest := []) g_X6_rule rfl g_X6_isIn rfl rfl (Nat.le_of_ble_eq_true rfl) (Nat.le_of_ble_eq_true rfl) (m_isIn (by omega) (by omega) (by omega)) ?_
  refine zx_go (pc1 := 56) (l1 := [some (zr 32), some (zi 1), some (zi z), some (zl v), none, some (zi (bI (0 ≤ v ∧ v ≤ 50))), none]) (st1 := [zi z, zr 32]) (w1 := wr c R) g_X6_rule 4 _ _ _ _ rfl ?_
  refine zx_i2l g_X6_rule rfl (by omega) ?_
  refine zx_go (pc1 := 64) (l1 := [some (zr 32), some (zi 1), some (zi z), some (zl v), none, some (zi (bI (0 ≤ v ∧ v ≤ 50))), none]) (st1 := [zi ((cLa c) - 1), zl 0, zl z, zr 32]) (w1 := wr c R) g_X6_rule 5 _ _ _ _ rfl ?_
  refine zx_i2l g_X6_rule rfl (by omega) ?_
  refine zx_csF (As := [zl z, zl 0, zl ((cLa c) - 1)]) (rest := [zr 32]) g_X6_rule rfl g_X6_isIn rfl rfl (Nat.le_of_ble_eq_true rfl) (Nat.le_of_ble_eq_true rfl) (m_isIn (by omega) (by omega) (by omega)) ?_
  refine zx_ifne g_X6_rule rfl (fun (h68 : (0 ≤ z ∧ z ≤ ((cLa c) - 1))) => ?_) (fun (h68 : ¬ (0 ≤ z ∧ z ≤ ((cLa c) - 1))) => ?_)
  · refine zx_go (pc1 := 77) (l1 := [some (zr 32), some (zi 1), some (zi z), some (zl v), none, some (zi (bI (0 ≤ v ∧ v ≤ 50))), none]) (st1 := [zi (bI (0 ≤ v ∧ v ≤ 50)), zr 32]) (w1 := wr c R) g_X6_rule 1 _ _ _ _ rfl ?_
    refine zx_ifne g_X6_rule rfl (fun (h77 : (0 ≤ v ∧ v ≤ 50)) => ?_) (fun (h77 : ¬ (0 ≤ v ∧ v ≤ 50)) => ?_)
    · refine zx_go (pc1 := 85) (l1 := [some (zr 32), some (zi 1), some (zi z), some (zl v), none, some (zi (bI (0 ≤ v ∧ v ≤ 50))), none]) (st1 := [zi 0, zr 32]) (w1 := wr c R) g_X6_rule 1 _ _ _ _ rfl ?_
      refine gx_cvG (As := [zi 0]) (rest := []) g_X6_rule rfl g_X6_refuses rfl rfl (Nat.le_of_ble_eq_true rfl) (Nat.le_of_ble_eq_true rfl) rfl (by decide) (m_ref (v := 0) (by decide) (bI_f (by decide))) ?_
      refine zx_ifT g_X6_rule rfl (by decide) (show ((0 : Int) = 0) by decide) ?_
      generalize hR9 : zU R 32 0 0 = R9
      have f9_v : ∀ a, a ≠ 32 → R9 a = R a := fun a ha_v => by rw [← hR9, zU_cell ha_v]
      have f9j : ∀ j, j ≠ 0 → R9 32 j = R 32 j := fun j hj => by rw [← hR9, zU_at hj]
      refine zx_go (pc1 := 94) (l1 := [some (zr 32), some (zi 1), some (zi z), some (zl v), none, some (zi (bI (0 ≤ v ∧ v ≤ 50))), none]) (st1 := [zi 1]) (w1 := wr c R9) g_X6_rule 1 _ _ _ _ rfl ?_
      refine zx_ifT g_X6_rule rfl (by decide) (show ((1 : Int) ≠ 0) by decide) ?_
      refine zx_go (pc1 := 108) (l1 := [some (zr 32), some (zi 1), some (zi z), some (zl v), none, some (zi (bI (0 ≤ v ∧ v ≤ 50))), none]) (st1 := [zi 1, zi 1]) (w1 := wr c R9) g_X6_rule 2 _ _ _ _ rfl ?_
      refine zx_cmp g_X6_rule rfl (by decide) (by decide) (fun (h108 : (1 : Int) ≠ (1 : Int)) => absurd h108 (by decide)) (fun _ => ?_)
      refine zx_go (pc1 := 116) (l1 := [some (zr 32), some (zi 1), some (zi z), some (zl v), none, some (zi (bI (0 ≤ v ∧ v ≤ 50))), none]) (st1 := [zi z, zr 34]) (w1 := wr c R9) g_X6_rule 3 _ _ _ _ rfl ?_
      refine gz_iald g_X6_rule rfl (n := 3) rfl (by decide) rfl (by decide) (by omega) (by omega) ?_
      refine zx_go (pc1 := 126) (l1 := [some (zr 32), some (zi 1), some (zi z), some (zl v), none, some (zi (bI (0 ≤ v ∧ v ≤ 50))), none]) (st1 := [zi (R9 34 z)]) (w1 := wr c R9) g_X6_rule 1 _ _ _ _ rfl ?_
      have hA1 := hA z (by omega) (by omega)
      have eA_v : R9 34 z = R 34 z := by rw [f9_v 34 (by decide)]
      refine zx_go (pc1 := 129) (l1 := [some (zr 32), some (zi 1), some (zi z), some (zl v), none, some (zi (bI (0 ≤ v ∧ v ≤ 50))), some (zi (R9 34 z))]) (st1 := [zi 1]) (w1 := wr c R9) g_X6_rule 2 _ _ _ _ rfl ?_
      refine zx_ifT g_X6_rule rfl (by decide) (show ((1 : Int) ≠ 0) by decide) ?_
      refine zx_go (pc1 := 145) (l1 := [some (zr 32), some (zi 1), some (zi z), some (zl v), none, some (zi (bI (0 ≤ v ∧ v ≤ 50))), some (zi (R9 34 z))]) (st1 := [zi 1, zi 1]) (w1 := wr c R9) g_X6_rule 2 _ _ _ _ rfl ?_
      refine zx_cmp g_X6_rule rfl (by decide) (by decide) (fun (h145 : (1 : Int) ≠ (1 : Int)) => absurd h145 (by decide)) (fun _ => ?_)
      refine zx_go (pc1 := 155) (l1 := [some (zr 32), some (zi 1), some (zi z), some (zl v), none, some (zi (bI (0 ≤ v ∧ v ≤ 50))), some (zi (R9 34 z))]) (st1 := [zi v, zi z, zr 34]) (w1 := wr c R9) g_X6_rule 5 _ _ _ _ rfl ?_
      refine gz_iast g_X6_rule rfl (n := 3) rfl (by decide) (by refine ⟨?_, ?_, ?_, ?_, ?_⟩ <;> simp) (by decide) (by omega) (by omega) ?_
      refine zx_go (pc1 := 167) (l1 := [some (zr 32), some (zi 1), some (zi z), some (zl v), none, some (zi (bI (0 ≤ v ∧ v ≤ 50))), some (zi (R9 34 z))]) (st1 := []) (w1 := wr c (zU R9 34 z v)) g_X6_rule 1 _ _ _ _ rfl ?_
      have e14_v : (zU R9 34 z v) 32 14 = R 32 14 := by rw [zU_cell (by decide), f9j 14 (by decide)]
      refine zx_go (pc1 := 172) (l1 := [some (zr 32), some (zi 1), some (zi z), some (zl v), none, some (zi (bI (0 ≤ v ∧ v ≤ 50))), some (zi (R9 34 z))]) (st1 := [zi ((zU R9 34 z v) 32 14), zr 32]) (w1 := wr c (zU R9 34 z v)) g_X6_rule 3 _ _ _ _ rfl ?_
      refine zx_if g_X6_rule rfl (by omega) (fun (h172 : ((zU R9 34 z v) 32 14) = 0) => ?_) (fun (h172 : ¬ ((zU R9 34 z v) 32 14) = 0) => ?_)
      · refine zx_go (pc1 := 188) (l1 := [some (zr 32), some (zi 1), some (zi z), some (zl v), none, some (zi (bI (0 ≤ v ∧ v ≤ 50))), some (zi (R9 34 z))]) (st1 := [zi 0, zr 32]) (w1 := wr c (zU R9 34 z v)) g_X6_rule 1 _ _ _ _ rfl ?_
        refine gz_putb 14 g_X6_rule rfl rfl rfl (by decide) rfl (by refine ⟨?_, ?_, ?_, ?_, ?_⟩ <;> simp) (.inl rfl) ?_
        refine zx_go (pc1 := 193) (l1 := [some (zr 32), some (zi 1), some (zi z), some (zl v), none, some (zi (bI (0 ≤ v ∧ v ≤ 50))), some (zi (R9 34 z))]) (st1 := [zi (R9 34 z)]) (w1 := wr c (zU (zU R9 34 z v) 32 14 0)) g_X6_rule 1 _ _ _ _ rfl ?_
        refine zx_i2l g_X6_rule rfl (by omega) ?_
        refine zx_go (pc1 := 195) (l1 := [some (zr 32), some (zi 1), some (zi z), some (zl v), none, some (zi (bI (0 ≤ v ∧ v ≤ 50))), some (zi (R9 34 z))]) (st1 := [zl v, zl (R9 34 z)]) (w1 := wr c (zU (zU R9 34 z v) 32 14 0)) g_X6_rule 1 _ _ _ _ rfl ?_
        refine zx_lcif g_X6_rule rfl rfl (by omega) (by omega) (fun (h195 : (R9 34 z) = v) => ?_) (fun (h195 : ¬ ((R9 34 z) = v)) => ?_)
        · refine zx_go (pc1 := 204) (l1 := [some (zr 32), some (zi 1), some (zi z), some (zl v), none, some (zi (bI (0 ≤ v ∧ v ≤ 50))), some (zi (R9 34 z))]) (st1 := [zi 0]) (w1 := wr c (zU (zU R9 34 z v) 32 14 0)) g_X6_rule 1 _ _ _ _ rfl ?_
          refine zx_iret g_X6_rule rfl (.inr (.inl rfl)) ?_
          refine mP_0 (cdv0 (by omega) (by omega)) ⟨?_, ?_⟩
          · exact (bI_f (fun z => z (by omega))).symm
          · rw [bI_f (fun z => by omega)]
        · refine zx_go (pc1 := 204) (l1 := [some (zr 32), some (zi 1), some (zi z), some (zl v), none, some (zi (bI (0 ≤ v ∧ v ≤ 50))), some (zi (R9 34 z))]) (st1 := [zi 1]) (w1 := wr c (zU (zU R9 34 z v) 32 14 0)) g_X6_rule 2 _ _ _ _ rfl ?_
          refine zx_iret g_X6_rule rfl (.inr (.inr rfl)) ?_
          refine mP_0 (cdv0 (by omega) (by omega)) ⟨?_, ?_⟩
          · exact (bI_t (by omega)).symm
          · rw [bI_f (fun z => by omega)]
      · refine zx_go (pc1 := 177) (l1 := [some (zr 32), some (zi 1), some (zi z), some (zl v), none, some (zi (bI (0 ≤ v ∧ v ≤ 50))), some (zi (R9 34 z))]) (st1 := [zi (R9 34 z), zr 32]) (w1 := wr c (zU R9 34 z v)) g_X6_rule 1 _ _ _ _ rfl ?_
        refine zx_i2l g_X6_rule rfl (by omega) ?_
        refine zx_go (pc1 := 179) (l1 := [some (zr 32), some (zi 1), some (zi z), some (zl v), none, some (zi (bI (0 ≤ v ∧ v ≤ 50))), some (zi (R9 34 z))]) (st1 := [zl v, zl (R9 34 z), zr 32]) (w1 := wr c (zU R9 34 z v)) g_X6_rule 1 _ _ _ _ rfl ?_
        refine zx_lcif g_X6_rule rfl rfl (by omega) (by omega) (fun (h179 : (R9 34 z) ≠ v) => ?_) (fun (h179 : ¬ ((R9 34 z) ≠ v)) => ?_)
        · refine zx_go (pc1 := 188) (l1 := [some (zr 32), some (zi 1), some (zi z), some (zl v), none, some (zi (bI (0 ≤ v ∧ v ≤ 50))), some (zi (R9 34 z))]) (st1 := [zi 0, zr 32]) (w1 := wr c (zU R9 34 z v)) g_X6_rule 1 _ _ _ _ rfl ?_
          refine gz_putb 14 g_X6_rule rfl rfl rfl (by decide) rfl (by refine ⟨?_, ?_, ?_, ?_, ?_⟩ <;> simp) (.inl rfl) ?_
          refine zx_go (pc1 := 193) (l1 := [some (zr 32), some (zi 1), some (zi z), some (zl v), none, some (zi (bI (0 ≤ v ∧ v ≤ 50))), some (zi (R9 34 z))]) (st1 := [zi (R9 34 z)]) (w1 := wr c (zU (zU R9 34 z v) 32 14 0)) g_X6_rule 1 _ _ _ _ rfl ?_
          refine zx_i2l g_X6_rule rfl (by omega) ?_
          refine zx_go (pc1 := 195) (l1 := [some (zr 32), some (zi 1), some (zi z), some (zl v), none, some (zi (bI (0 ≤ v ∧ v ≤ 50))), some (zi (R9 34 z))]) (st1 := [zl v, zl (R9 34 z)]) (w1 := wr c (zU (zU R9 34 z v) 32 14 0)) g_X6_rule 1 _ _ _ _ rfl ?_
          refine zx_lcif g_X6_rule rfl rfl (by omega) (by omega) (fun (h195 : (R9 34 z) = v) => ?_) (fun (h195 : ¬ ((R9 34 z) = v)) => ?_)
          · refine zx_go (pc1 := 204) (l1 := [some (zr 32), some (zi 1), some (zi z), some (zl v), none, some (zi (bI (0 ≤ v ∧ v ≤ 50))), some (zi (R9 34 z))]) (st1 := [zi 0]) (w1 := wr c (zU (zU R9 34 z v) 32 14 0)) g_X6_rule 1 _ _ _ _ rfl ?_
            refine zx_iret g_X6_rule rfl (.inr (.inl rfl)) ?_
            refine mP_0 (cdv0 (by omega) (by omega)) ⟨?_, ?_⟩
            · exact (bI_f (fun z => z (by omega))).symm
            · rw [bI_f (fun z => by omega)]
          · refine zx_go (pc1 := 204) (l1 := [some (zr 32), some (zi 1), some (zi z), some (zl v), none, some (zi (bI (0 ≤ v ∧ v ≤ 50))), some (zi (R9 34 z))]) (st1 := [zi 1]) (w1 := wr c (zU (zU R9 34 z v) 32 14 0)) g_X6_rule 2 _ _ _ _ rfl ?_
            refine zx_iret g_X6_rule rfl (.inr (.inr rfl)) ?_
            refine mP_0 (cdv0 (by omega) (by omega)) ⟨?_, ?_⟩
            · exact (bI_t (by omega)).symm
            · rw [bI_f (fun z => by omega)]
        · refine zx_go (pc1 := 188) (l1 := [some (zr 32), some (zi 1), some (zi z), some (zl v), none, some (zi (bI (0 ≤ v ∧ v ≤ 50))), some (zi (R9 34 z))]) (st1 := [zi 1, zr 32]) (w1 := wr c (zU R9 34 z v)) g_X6_rule 2 _ _ _ _ rfl ?_
          refine gz_putb 14 g_X6_rule rfl rfl rfl (by decide) rfl (by refine ⟨?_, ?_, ?_, ?_, ?_⟩ <;> simp) (.inr rfl) ?_
          refine zx_go (pc1 := 193) (l1 := [some (zr 32), some (zi 1), some (zi z), some (zl v), none, some (zi (bI (0 ≤ v ∧ v ≤ 50))), some (zi (R9 34 z))]) (st1 := [zi (R9 34 z)]) (w1 := wr c (zU (zU R9 34 z v) 32 14 1)) g_X6_rule 1 _ _ _ _ rfl ?_
          refine zx_i2l g_X6_rule rfl (by omega) ?_
          refine zx_go (pc1 := 195) (l1 := [some (zr 32), some (zi 1), some (zi z), some (zl v), none, some (zi (bI (0 ≤ v ∧ v ≤ 50))), some (zi (R9 34 z))]) (st1 := [zl v, zl (R9 34 z)]) (w1 := wr c (zU (zU R9 34 z v) 32 14 1)) g_X6_rule 1 _ _ _ _ rfl ?_
          refine zx_lcif g_X6_rule rfl rfl (by omega) (by omega) (fun (h195 : (R9 34 z) = v) => ?_) (fun (h195 : ¬ ((R9 34 z) = v)) => ?_)
          · refine zx_go (pc1 := 204) (l1 := [some (zr 32), some (zi 1), some (zi z), some (zl v), none, some (zi (bI (0 ≤ v ∧ v ≤ 50))), some (zi (R9 34 z))]) (st1 := [zi 0]) (w1 := wr c (zU (zU R9 34 z v) 32 14 1)) g_X6_rule 1 _ _ _ _ rfl ?_
            refine zx_iret g_X6_rule rfl (.inr (.inl rfl)) ?_
            refine mP_0 (cdv0 (by omega) (by omega)) ⟨?_, ?_⟩
            · exact (bI_f (fun z => z (by omega))).symm
            · rw [bI_t ⟨by omega, by omega⟩]
          · refine zx_go (pc1 := 204) (l1 := [some (zr 32), some (zi 1), some (zi z), some (zl v), none, some (zi (bI (0 ≤ v ∧ v ≤ 50))), some (zi (R9 34 z))]) (st1 := [zi 1]) (w1 := wr c (zU (zU R9 34 z v) 32 14 1)) g_X6_rule 2 _ _ _ _ rfl ?_
            refine zx_iret g_X6_rule rfl (.inr (.inr rfl)) ?_
            refine mP_0 (cdv0 (by omega) (by omega)) ⟨?_, ?_⟩
            · exact (bI_t (by omega)).symm
            · rw [bI_t ⟨by omega, by omega⟩]
    · refine zx_go (pc1 := 85) (l1 := [some (zr 32), some (zi 1), some (zi z), some (zl v), none, some (zi (bI (0 ≤ v ∧ v ≤ 50))), none]) (st1 := [zi 2, zr 32]) (w1 := wr c R) g_X6_rule 2 _ _ _ _ rfl ?_
      refine gx_cvG (As := [zi 2]) (rest := []) g_X6_rule rfl g_X6_refuses rfl rfl (Nat.le_of_ble_eq_true rfl) (Nat.le_of_ble_eq_true rfl) rfl (by decide) (m_ref (v := 1) (by decide) (bI_t (by decide))) ?_
      refine zx_ifF g_X6_rule rfl (by decide) (show ¬ ((1 : Int) = 0) by decide) ?_
      refine zx_go (pc1 := 92) (l1 := [some (zr 32), some (zi 1), some (zi z), some (zl v), none, some (zi (bI (0 ≤ v ∧ v ≤ 50))), none]) (st1 := [zi 0]) (w1 := wr c (zU R 32 0 2)) g_X6_rule 1 _ _ _ _ rfl ?_
      refine zx_iret g_X6_rule rfl (.inr (.inl rfl)) ?_
      exact mP_2 (cdv2 (by omega) (by omega))
  · refine zx_go (pc1 := 85) (l1 := [some (zr 32), some (zi 1), some (zi z), some (zl v), none, some (zi (bI (0 ≤ v ∧ v ≤ 50))), none]) (st1 := [zi 1, zr 32]) (w1 := wr c R) g_X6_rule 2 _ _ _ _ rfl ?_
    refine gx_cvG (As := [zi 1]) (rest := []) g_X6_rule rfl g_X6_refuses rfl rfl (Nat.le_of_ble_eq_true rfl) (Nat.le_of_ble_eq_true rfl) rfl (by decide) (m_ref (v := 1) (by decide) (bI_t (by decide))) ?_
    refine zx_ifF g_X6_rule rfl (by decide) (show ¬ ((1 : Int) = 0) by decide) ?_
    refine zx_go (pc1 := 92) (l1 := [some (zr 32), some (zi 1), some (zi z), some (zl v), none, some (zi (bI (0 ≤ v ∧ v ≤ 50))), none]) (st1 := [zi 0]) (w1 := wr c (zU R 32 0 1)) g_X6_rule 1 _ _ _ _ rfl ?_
    refine zx_iret g_X6_rule rfl (.inr (.inl rfl)) ?_
    exact mP_1 (cdv1 (by omega))

set_option maxHeartbeats 1000000 in
theorem m_rule2 {c : zC} {R : zI} {z v : Int} (hg : Geo c) (zr1 : inR z) (vr : inR64 v) (hA : ∀ z, 0 ≤ z → z < 3 → inR (R 35 z)) (h14 : R 32 14 = 0 ∨ R 32 14 = 1) : MZ m_X6_rule [zr 32, zi 2, zi z, zl v] (wr c R) (mP (cdv (¬ (0 ≤ z ∧ z < cLa c)) (¬ (1 ≤ v ∧ v ≤ 50))) (fun b R2 => b = bI (¬ R 35 z = v) ∧ R2 = zU (zU (zU R 32 0 0) 35 z v) 32 14 (bI (R 32 14 ≠ 0 ∧ R 35 z = v))) c R) := by
  refine MZ.of g_X6_rule ?_
  show ZX m_X6_rule 0 [some (zr 32), some (zi 2), some (zi z), some (zl v), none, none, none] [] (wr c R) _
  have g2 := hg
  unfold Geo at g2
  refine zx_go (pc1 := 1) (l1 := [some (zr 32), some (zi 2), some (zi z), some (zl v), none, none, none]) (st1 := [zi 2]) (w1 := wr c R) g_X6_rule 1 _ _ _ _ rfl ?_
  refine zx_ifT g_X6_rule rfl (by decide) (show ((2 : Int) ≠ 0) by decide) ?_
  refine zx_go (pc1 := 17) (l1 := [some (zr 32), some (zi 2), some (zi z), some (zl v), none, none, none]) (st1 := [zi 1, zi 2]) (w1 := wr c R) g_X6_rule 2 _ _ _ _ rfl ?_
  refine zx_cmp g_X6_rule rfl (by decide) (by decide) (fun _ => ?_) (fun (h17 : ¬ ((2 : Int) ≠ (1 : Int))) => absurd (show (2 : Int) ≠ (1 : Int) by decide) h17)
  refine zx_go (pc1 := 33) (l1 := [some (zr 32), some (zi 2), some (zi z), some (zl v), none, none, none]) (st1 := [zi 2, zi 2]) (w1 := wr c R) g_X6_rule 2 _ _ _ _ rfl ?_
  refine zx_cmp g_X6_rule rfl (by decide) (by decide) (fun (h33 : (2 : Int) ≠ (2 : Int)) => absurd h33 (by decide)) (fun _ => ?_)
  refine zx_go (pc1 := 41) (l1 := [some (zr 32), some (zi 2), some (zi z), some (zl v), none, none, none]) (st1 := [zl 50, zl 1, zl v]) (w1 := wr c R) g_X6_rule 3 _ _ _ _ rfl ?_
  refine zx_csF (As := [zl v, zl 1, zl 50]) (rest := []) g_X6_rule rfl g_X6_isIn rfl rfl (Nat.le_of_ble_eq_true rfl) (Nat.le_of_ble_eq_true rfl) (m_isIn (by omega) (by omega) (by omega)) ?_
  refine zx_ifeq g_X6_rule rfl (fun (h44 : ¬ (1 ≤ v ∧ v ≤ 50)) => ?_) (fun (h44 : (1 ≤ v ∧ v ≤ 50)) => ?_)
  · refine zx_go (pc1 := 56) (l1 := [some (zr 32), some (zi 2), some (zi z), some (zl v), none, some (zi 0), none]) (st1 := [zi z, zr 32]) (w1 := wr c R) g_X6_rule 4 _ _ _ _ rfl ?_
    refine zx_i2l g_X6_rule rfl (by omega) ?_
    refine zx_go (pc1 := 64) (l1 := [some (zr 32), some (zi 2), some (zi z), some (zl v), none, some (zi 0), none]) (st1 := [zi ((cLa c) - 1), zl 0, zl z, zr 32]) (w1 := wr c R) g_X6_rule 5 _ _ _ _ rfl ?_
    refine zx_i2l g_X6_rule rfl (by omega) ?_
    refine zx_csF (As := [zl z, zl 0, zl ((cLa c) - 1)]) (rest := [zr 32]) g_X6_rule rfl g_X6_isIn rfl rfl (Nat.le_of_ble_eq_true rfl) (Nat.le_of_ble_eq_true rfl) (m_isIn (by omega) (by omega) (by omega)) ?_
    refine zx_ifne g_X6_rule rfl (fun (h68 : (0 ≤ z ∧ z ≤ ((cLa c) - 1))) => ?_) (fun (h68 : ¬ (0 ≤ z ∧ z ≤ ((cLa c) - 1))) => ?_)
    · refine zx_go (pc1 := 77) (l1 := [some (zr 32), some (zi 2), some (zi z), some (zl v), none, some (zi 0), none]) (st1 := [zi 0, zr 32]) (w1 := wr c R) g_X6_rule 1 _ _ _ _ rfl ?_
      refine zx_ifF g_X6_rule rfl (by decide) (show ¬ ((0 : Int) ≠ 0) by decide) ?_
      refine zx_go (pc1 := 85) (l1 := [some (zr 32), some (zi 2), some (zi z), some (zl v), none, some (zi 0), none]) (st1 := [zi 2, zr 32]) (w1 := wr c R) g_X6_rule 2 _ _ _ _ rfl ?_
      refine gx_cvG (As := [zi 2]) (rest := []) g_X6_rule rfl g_X6_refuses rfl rfl (Nat.le_of_ble_eq_true rfl) (Nat.le_of_ble_eq_true rfl) rfl (by decide) (m_ref (v := 1) (by decide) (bI_t (by decide))) ?_
      refine zx_ifF g_X6_rule rfl (by decide) (show ¬ ((1 : Int) = 0) by decide) ?_
      refine zx_go (pc1 := 92) (l1 := [some (zr 32), some (zi 2), some (zi z), some (zl v), none, some (zi 0), none]) (st1 := [zi 0]) (w1 := wr c (zU R 32 0 2)) g_X6_rule 1 _ _ _ _ rfl ?_
      refine zx_iret g_X6_rule rfl (.inr (.inl rfl)) ?_
      exact mP_2 (cdv2 (by omega) (by omega))
    · refine zx_go (pc1 := 85) (l1 := [some (zr 32), some (zi 2), some (zi z), some (zl v), none, some (zi 0), none]) (st1 := [zi 1, zr 32]) (w1 := wr c R) g_X6_rule 2 _ _ _ _ rfl ?_
      refine gx_cvG (As := [zi 1]) (rest := []) g_X6_rule rfl g_X6_refuses rfl rfl (Nat.le_of_ble_eq_true rfl) (Nat.le_of_ble_eq_true rfl) rfl (by decide) (m_ref (v := 1) (by decide) (bI_t (by decide))) ?_
      refine zx_ifF g_X6_rule rfl (by decide) (show ¬ ((1 : Int) = 0) by decide) ?_
      refine zx_go (pc1 := 92) (l1 := [some (zr 32), some (zi 2), some (zi z), some (zl v), none, some (zi 0), none]) (st1 := [zi 0]) (w1 := wr c (zU R 32 0 1)) g_X6_rule 1 _ _ _ _ rfl ?_
      refine zx_iret g_X6_rule rfl (.inr (.inl rfl)) ?_
      exact mP_1 (cdv1 (by omega))
  · refine zx_go (pc1 := 56) (l1 := [some (zr 32), some (zi 2), some (zi z), some (zl v), none, some (zi 1), none]) (st1 := [zi z, zr 32]) (w1 := wr c R) g_X6_rule 5 _ _ _ _ rfl ?_
    refine zx_i2l g_X6_rule rfl (by omega) ?_
    refine zx_go (pc1 := 64) (l1 := [some (zr 32), some (zi 2), some (zi z), some (zl v), none, some (zi 1), none]) (st1 := [zi ((cLa c) - 1), zl 0, zl z, zr 32]) (w1 := wr c R) g_X6_rule 5 _ _ _ _ rfl ?_
    refine zx_i2l g_X6_rule rfl (by omega) ?_
    refine zx_csF (As := [zl z, zl 0, zl ((cLa c) - 1)]) (rest := [zr 32]) g_X6_rule rfl g_X6_isIn rfl rfl (Nat.le_of_ble_eq_true rfl) (Nat.le_of_ble_eq_true rfl) (m_isIn (by omega) (by omega) (by omega)) ?_
    refine zx_ifne g_X6_rule rfl (fun (h68 : (0 ≤ z ∧ z ≤ ((cLa c) - 1))) => ?_) (fun (h68 : ¬ (0 ≤ z ∧ z ≤ ((cLa c) - 1))) => ?_)
    · refine zx_go (pc1 := 77) (l1 := [some (zr 32), some (zi 2), some (zi z), some (zl v), none, some (zi 1), none]) (st1 := [zi 1, zr 32]) (w1 := wr c R) g_X6_rule 1 _ _ _ _ rfl ?_
      refine zx_ifT g_X6_rule rfl (by decide) (show ((1 : Int) ≠ 0) by decide) ?_
      refine zx_go (pc1 := 85) (l1 := [some (zr 32), some (zi 2), some (zi z), some (zl v), none, some (zi 1), none]) (st1 := [zi 0, zr 32]) (w1 := wr c R) g_X6_rule 1 _ _ _ _ rfl ?_
      refine gx_cvG (As := [zi 0]) (rest := []) g_X6_rule rfl g_X6_refuses rfl rfl (Nat.le_of_ble_eq_true rfl) (Nat.le_of_ble_eq_true rfl) rfl (by decide) (m_ref (v := 0) (by decide) (bI_f (by decide))) ?_
      refine zx_ifT g_X6_rule rfl (by decide) (show ((0 : Int) = 0) by decide) ?_
      generalize hR9 : zU R 32 0 0 = R9
      have f9_v : ∀ a, a ≠ 32 → R9 a = R a := fun a ha_v => by rw [← hR9, zU_cell ha_v]
      have f9j : ∀ j, j ≠ 0 → R9 32 j = R 32 j := fun j hj => by rw [← hR9, zU_at hj]
      refine zx_go (pc1 := 94) (l1 := [some (zr 32), some (zi 2), some (zi z), some (zl v), none, some (zi 1), none]) (st1 := [zi 2]) (w1 := wr c R9) g_X6_rule 1 _ _ _ _ rfl ?_
      refine zx_ifT g_X6_rule rfl (by decide) (show ((2 : Int) ≠ 0) by decide) ?_
      refine zx_go (pc1 := 108) (l1 := [some (zr 32), some (zi 2), some (zi z), some (zl v), none, some (zi 1), none]) (st1 := [zi 1, zi 2]) (w1 := wr c R9) g_X6_rule 2 _ _ _ _ rfl ?_
      refine zx_cmp g_X6_rule rfl (by decide) (by decide) (fun _ => ?_) (fun (h108 : ¬ ((2 : Int) ≠ (1 : Int))) => absurd (show (2 : Int) ≠ (1 : Int) by decide) h108)
      refine zx_go (pc1 := 125) (l1 := [some (zr 32), some (zi 2), some (zi z), some (zl v), none, some (zi 1), none]) (st1 := [zi z, zr 35]) (w1 := wr c R9) g_X6_rule 3 _ _ _ _ rfl ?_
      refine gz_iald g_X6_rule rfl (n := 3) rfl (by decide) rfl (by decide) (by omega) (by omega) ?_
      have hA1 := hA z (by omega) (by omega)
      have eA_v : R9 35 z = R 35 z := by rw [f9_v 35 (by decide)]
      refine zx_go (pc1 := 129) (l1 := [some (zr 32), some (zi 2), some (zi z), some (zl v), none, some (zi 1), some (zi (R9 35 z))]) (st1 := [zi 2]) (w1 := wr c R9) g_X6_rule 2 _ _ _ _ rfl ?_
      refine zx_ifT g_X6_rule rfl (by decide) (show ((2 : Int) ≠ 0) by decide) ?_
      refine zx_go (pc1 := 145) (l1 := [some (zr 32), some (zi 2), some (zi z), some (zl v), none, some (zi 1), some (zi (R9 35 z))]) (st1 := [zi 1, zi 2]) (w1 := wr c R9) g_X6_rule 2 _ _ _ _ rfl ?_
      refine zx_cmp g_X6_rule rfl (by decide) (by decide) (fun _ => ?_) (fun (h145 : ¬ ((2 : Int) ≠ (1 : Int))) => absurd (show (2 : Int) ≠ (1 : Int) by decide) h145)
      refine zx_go (pc1 := 166) (l1 := [some (zr 32), some (zi 2), some (zi z), some (zl v), none, some (zi 1), some (zi (R9 35 z))]) (st1 := [zi v, zi z, zr 35]) (w1 := wr c R9) g_X6_rule 5 _ _ _ _ rfl ?_
      refine gz_iast g_X6_rule rfl (n := 3) rfl (by decide) (by refine ⟨?_, ?_, ?_, ?_, ?_⟩ <;> simp) (by decide) (by omega) (by omega) ?_
      have e14_v : (zU R9 35 z v) 32 14 = R 32 14 := by rw [zU_cell (by decide), f9j 14 (by decide)]
      refine zx_go (pc1 := 172) (l1 := [some (zr 32), some (zi 2), some (zi z), some (zl v), none, some (zi 1), some (zi (R9 35 z))]) (st1 := [zi ((zU R9 35 z v) 32 14), zr 32]) (w1 := wr c (zU R9 35 z v)) g_X6_rule 3 _ _ _ _ rfl ?_
      refine zx_if g_X6_rule rfl (by omega) (fun (h172 : ((zU R9 35 z v) 32 14) = 0) => ?_) (fun (h172 : ¬ ((zU R9 35 z v) 32 14) = 0) => ?_)
      · refine zx_go (pc1 := 188) (l1 := [some (zr 32), some (zi 2), some (zi z), some (zl v), none, some (zi 1), some (zi (R9 35 z))]) (st1 := [zi 0, zr 32]) (w1 := wr c (zU R9 35 z v)) g_X6_rule 1 _ _ _ _ rfl ?_
        refine gz_putb 14 g_X6_rule rfl rfl rfl (by decide) rfl (by refine ⟨?_, ?_, ?_, ?_, ?_⟩ <;> simp) (.inl rfl) ?_
        refine zx_go (pc1 := 193) (l1 := [some (zr 32), some (zi 2), some (zi z), some (zl v), none, some (zi 1), some (zi (R9 35 z))]) (st1 := [zi (R9 35 z)]) (w1 := wr c (zU (zU R9 35 z v) 32 14 0)) g_X6_rule 1 _ _ _ _ rfl ?_
        refine zx_i2l g_X6_rule rfl (by omega) ?_
        refine zx_go (pc1 := 195) (l1 := [some (zr 32), some (zi 2), some (zi z), some (zl v), none, some (zi 1), some (zi (R9 35 z))]) (st1 := [zl v, zl (R9 35 z)]) (w1 := wr c (zU (zU R9 35 z v) 32 14 0)) g_X6_rule 1 _ _ _ _ rfl ?_
        refine zx_lcif g_X6_rule rfl rfl (by omega) (by omega) (fun (h195 : (R9 35 z) = v) => ?_) (fun (h195 : ¬ ((R9 35 z) = v)) => ?_)
        · refine zx_go (pc1 := 204) (l1 := [some (zr 32), some (zi 2), some (zi z), some (zl v), none, some (zi 1), some (zi (R9 35 z))]) (st1 := [zi 0]) (w1 := wr c (zU (zU R9 35 z v) 32 14 0)) g_X6_rule 1 _ _ _ _ rfl ?_
          refine zx_iret g_X6_rule rfl (.inr (.inl rfl)) ?_
          refine mP_0 (cdv0 (by omega) (by omega)) ⟨?_, ?_⟩
          · exact (bI_f (fun z => z (by omega))).symm
          · rw [bI_f (fun z => by omega)]
        · refine zx_go (pc1 := 204) (l1 := [some (zr 32), some (zi 2), some (zi z), some (zl v), none, some (zi 1), some (zi (R9 35 z))]) (st1 := [zi 1]) (w1 := wr c (zU (zU R9 35 z v) 32 14 0)) g_X6_rule 2 _ _ _ _ rfl ?_
          refine zx_iret g_X6_rule rfl (.inr (.inr rfl)) ?_
          refine mP_0 (cdv0 (by omega) (by omega)) ⟨?_, ?_⟩
          · exact (bI_t (by omega)).symm
          · rw [bI_f (fun z => by omega)]
      · refine zx_go (pc1 := 177) (l1 := [some (zr 32), some (zi 2), some (zi z), some (zl v), none, some (zi 1), some (zi (R9 35 z))]) (st1 := [zi (R9 35 z), zr 32]) (w1 := wr c (zU R9 35 z v)) g_X6_rule 1 _ _ _ _ rfl ?_
        refine zx_i2l g_X6_rule rfl (by omega) ?_
        refine zx_go (pc1 := 179) (l1 := [some (zr 32), some (zi 2), some (zi z), some (zl v), none, some (zi 1), some (zi (R9 35 z))]) (st1 := [zl v, zl (R9 35 z), zr 32]) (w1 := wr c (zU R9 35 z v)) g_X6_rule 1 _ _ _ _ rfl ?_
        refine zx_lcif g_X6_rule rfl rfl (by omega) (by omega) (fun (h179 : (R9 35 z) ≠ v) => ?_) (fun (h179 : ¬ ((R9 35 z) ≠ v)) => ?_)
        · refine zx_go (pc1 := 188) (l1 := [some (zr 32), some (zi 2), some (zi z), some (zl v), none, some (zi 1), some (zi (R9 35 z))]) (st1 := [zi 0, zr 32]) (w1 := wr c (zU R9 35 z v)) g_X6_rule 1 _ _ _ _ rfl ?_
          refine gz_putb 14 g_X6_rule rfl rfl rfl (by decide) rfl (by refine ⟨?_, ?_, ?_, ?_, ?_⟩ <;> simp) (.inl rfl) ?_
          refine zx_go (pc1 := 193) (l1 := [some (zr 32), some (zi 2), some (zi z), some (zl v), none, some (zi 1), some (zi (R9 35 z))]) (st1 := [zi (R9 35 z)]) (w1 := wr c (zU (zU R9 35 z v) 32 14 0)) g_X6_rule 1 _ _ _ _ rfl ?_
          refine zx_i2l g_X6_rule rfl (by omega) ?_
          refine zx_go (pc1 := 195) (l1 := [some (zr 32), some (zi 2), some (zi z), some (zl v), none, some (zi 1), some (zi (R9 35 z))]) (st1 := [zl v, zl (R9 35 z)]) (w1 := wr c (zU (zU R9 35 z v) 32 14 0)) g_X6_rule 1 _ _ _ _ rfl ?_
          refine zx_lcif g_X6_rule rfl rfl (by omega) (by omega) (fun (h195 : (R9 35 z) = v) => ?_) (fun (h195 : ¬ ((R9 35 z) = v)) => ?_)
          · refine zx_go (pc1 := 204) (l1 := [some (zr 32), some (zi 2), some (zi z), some (zl v), none, some (zi 1), some (zi (R9 35 z))]) (st1 := [zi 0]) (w1 := wr c (zU (zU R9 35 z v) 32 14 0)) g_X6_rule 1 _ _ _ _ rfl ?_
            refine zx_iret g_X6_rule rfl (.inr (.inl rfl)) ?_
            refine mP_0 (cdv0 (by omega) (by omega)) ⟨?_, ?_⟩
            · exact (bI_f (fun z => z (by omega))).symm
            · rw [bI_f (fun z => by omega)]
          · refine zx_go (pc1 := 204) (l1 := [some (zr 32), some (zi 2), some (zi z), some (zl v), none, some (zi 1), some (zi (R9 35 z))]) (st1 := [zi 1]) (w1 := wr c (zU (zU R9 35 z v) 32 14 0)) g_X6_rule 2 _ _ _ _ rfl ?_
            refine zx_iret g_X6_rule rfl (.inr (.inr rfl)) ?_
            refine mP_0 (cdv0 (by omega) (by omega)) ⟨?_, ?_⟩
            · exact (bI_t (by omega)).symm
            · rw [bI_f (fun z => by omega)]
        · refine zx_go (pc1 := 188) (l1 := [some (zr 32), some (zi 2), some (zi z), some (zl v), none, some (zi 1), some (zi (R9 35 z))]) (st1 := [zi 1, zr 32]) (w1 := wr c (zU R9 35 z v)) g_X6_rule 2 _ _ _ _ rfl ?_
          refine gz_putb 14 g_X6_rule rfl rfl rfl (by decide) rfl (by refine ⟨?_, ?_, ?_, ?_, ?_⟩ <;> simp) (.inr rfl) ?_
          refine zx_go (pc1 := 193) (l1 := [some (zr 32), some (zi 2), some (zi z), some (zl v), none, some (zi 1), some (zi (R9 35 z))]) (st1 := [zi (R9 35 z)]) (w1 := wr c (zU (zU R9 35 z v) 32 14 1)) g_X6_rule 1 _ _ _ _ rfl ?_
          refine zx_i2l g_X6_rule rfl (by omega) ?_
          refine zx_go (pc1 := 195) (l1 := [some (zr 32), some (zi 2), some (zi z), some (zl v), none, some (zi 1), some (zi (R9 35 z))]) (st1 := [zl v, zl (R9 35 z)]) (w1 := wr c (zU (zU R9 35 z v) 32 14 1)) g_X6_rule 1 _ _ _ _ rfl ?_
          refine zx_lcif g_X6_rule rfl rfl (by omega) (by omega) (fun (h195 : (R9 35 z) = v) => ?_) (fun (h195 : ¬ ((R9 35 z) = v)) => ?_)
          · refine zx_go (pc1 := 204) (l1 := [some (zr 32), some (zi 2), some (zi z), some (zl v), none, some (zi 1), some (zi (R9 35 z))]) (st1 := [zi 0]) (w1 := wr c (zU (zU R9 35 z v) 32 14 1)) g_X6_rule 1 _ _ _ _ rfl ?_
            refine zx_iret g_X6_rule rfl (.inr (.inl rfl)) ?_
            refine mP_0 (cdv0 (by omega) (by omega)) ⟨?_, ?_⟩
            · exact (bI_f (fun z => z (by omega))).symm
            · rw [bI_t ⟨by omega, by omega⟩]
          · refine zx_go (pc1 := 204) (l1 := [some (zr 32), some (zi 2), some (zi z), some (zl v), none, some (zi 1), some (zi (R9 35 z))]) (st1 := [zi 1]) (w1 := wr c (zU (zU R9 35 z v) 32 14 1)) g_X6_rule 2 _ _ _ _ rfl ?_
            refine zx_iret g_X6_rule rfl (.inr (.inr rfl)) ?_
            refine mP_0 (cdv0 (by omega) (by omega)) ⟨?_, ?_⟩
            · exact (bI_t (by omega)).symm
            · rw [bI_t ⟨by omega, by omega⟩]
    · refine zx_go (pc1 := 85) (l1 := [some (zr 32), some (zi 2), some (zi z), some (zl v), none, some (zi 1), none]) (st1 := [zi 1, zr 32]) (w1 := wr c R) g_X6_rule 2 _ _ _ _ rfl ?_
      refine gx_cvG (As := [zi 1]) (rest := []) g_X6_rule rfl g_X6_refuses rfl rfl (Nat.le_of_ble_eq_true rfl) (Nat.le_of_ble_eq_true rfl) rfl (by decide) (m_ref (v := 1) (by decide) (bI_t (by decide))) ?_
      refine zx_ifF g_X6_rule rfl (by decide) (show ¬ ((1 : Int) = 0) by decide) ?_
      refine zx_go (pc1 := 92) (l1 := [some (zr 32), some (zi 2), some (zi z), some (zl v), none, some (zi 1), none]) (st1 := [zi 0]) (w1 := wr c (zU R 32 0 1)) g_X6_rule 1 _ _ _ _ rfl ?_
      refine zx_iret g_X6_rule rfl (.inr (.inl rfl)) ?_
      exact mP_1 (cdv1 (by omega))

set_option maxHeartbeats 1000000 in
theorem m_ruleX {c : zC} {R : zI} {k z v : Int} (hg : Geo c) (kr : inR k) (zr1 : inR z) (vr : inR64 v) (k0 : k ≠ 0) (k1 : k ≠ 1) (k2 : k ≠ 2) : MZ m_X6_rule [zr 32, zi k, zi z, zl v] (wr c R) (mP (cdv (¬ (0 ≤ z ∧ z < cLa c)) True) (fun b R2 => False) c R) := by
  refine MZ.of g_X6_rule ?_
  show ZX m_X6_rule 0 [some (zr 32), some (zi k), some (zi z), some (zl v), none, none, none] [] (wr c R) _
  have g2 := hg
  unfold Geo at g2
  refine zx_go (pc1 := 1) (l1 := [some (zr 32), some (zi k), some (zi z), some (zl v), none, none, none]) (st1 := [zi k]) (w1 := wr c R) g_X6_rule 1 _ _ _ _ rfl ?_
  refine zx_if g_X6_rule rfl (by omega) (fun (h1 : k ≠ 0) => ?_) (fun (h1 : ¬ k ≠ 0) => ?_)
  · refine zx_go (pc1 := 17) (l1 := [some (zr 32), some (zi k), some (zi z), some (zl v), none, none, none]) (st1 := [zi 1, zi k]) (w1 := wr c R) g_X6_rule 2 _ _ _ _ rfl ?_
    refine zx_cmp g_X6_rule rfl (by omega) (by decide) (fun (h17 : k ≠ 1) => ?_) (fun (h17 : ¬ (k ≠ 1)) => ?_)
    · refine zx_go (pc1 := 33) (l1 := [some (zr 32), some (zi k), some (zi z), some (zl v), none, none, none]) (st1 := [zi 2, zi k]) (w1 := wr c R) g_X6_rule 2 _ _ _ _ rfl ?_
      refine zx_cmp g_X6_rule rfl (by omega) (by decide) (fun (h33 : k ≠ 2) => ?_) (fun (h33 : ¬ (k ≠ 2)) => ?_)
      · refine zx_go (pc1 := 56) (l1 := [some (zr 32), some (zi k), some (zi z), some (zl v), none, some (zi 0), none]) (st1 := [zi z, zr 32]) (w1 := wr c R) g_X6_rule 4 _ _ _ _ rfl ?_
        refine zx_i2l g_X6_rule rfl (by omega) ?_
        refine zx_go (pc1 := 64) (l1 := [some (zr 32), some (zi k), some (zi z), some (zl v), none, some (zi 0), none]) (st1 := [zi ((cLa c) - 1), zl 0, zl z, zr 32]) (w1 := wr c R) g_X6_rule 5 _ _ _ _ rfl ?_
        refine zx_i2l g_X6_rule rfl (by omega) ?_
        refine zx_csF (As := [zl z, zl 0, zl ((cLa c) - 1)]) (rest := [zr 32]) g_X6_rule rfl g_X6_isIn rfl rfl (Nat.le_of_ble_eq_true rfl) (Nat.le_of_ble_eq_true rfl) (m_isIn (by omega) (by omega) (by omega)) ?_
        refine zx_ifne g_X6_rule rfl (fun (h68 : (0 ≤ z ∧ z ≤ ((cLa c) - 1))) => ?_) (fun (h68 : ¬ (0 ≤ z ∧ z ≤ ((cLa c) - 1))) => ?_)
        · refine zx_go (pc1 := 77) (l1 := [some (zr 32), some (zi k), some (zi z), some (zl v), none, some (zi 0), none]) (st1 := [zi 0, zr 32]) (w1 := wr c R) g_X6_rule 1 _ _ _ _ rfl ?_
          refine zx_ifF g_X6_rule rfl (by decide) (show ¬ ((0 : Int) ≠ 0) by decide) ?_
          refine zx_go (pc1 := 85) (l1 := [some (zr 32), some (zi k), some (zi z), some (zl v), none, some (zi 0), none]) (st1 := [zi 2, zr 32]) (w1 := wr c R) g_X6_rule 2 _ _ _ _ rfl ?_
          refine gx_cvG (As := [zi 2]) (rest := []) g_X6_rule rfl g_X6_refuses rfl rfl (Nat.le_of_ble_eq_true rfl) (Nat.le_of_ble_eq_true rfl) rfl (by decide) (m_ref (v := 1) (by decide) (bI_t (by decide))) ?_
          refine zx_ifF g_X6_rule rfl (by decide) (show ¬ ((1 : Int) = 0) by decide) ?_
          refine zx_go (pc1 := 92) (l1 := [some (zr 32), some (zi k), some (zi z), some (zl v), none, some (zi 0), none]) (st1 := [zi 0]) (w1 := wr c (zU R 32 0 2)) g_X6_rule 1 _ _ _ _ rfl ?_
          refine zx_iret g_X6_rule rfl (.inr (.inl rfl)) ?_
          exact mP_2 (cdv2 (by omega) trivial)
        · refine zx_go (pc1 := 85) (l1 := [some (zr 32), some (zi k), some (zi z), some (zl v), none, some (zi 0), none]) (st1 := [zi 1, zr 32]) (w1 := wr c R) g_X6_rule 2 _ _ _ _ rfl ?_
          refine gx_cvG (As := [zi 1]) (rest := []) g_X6_rule rfl g_X6_refuses rfl rfl (Nat.le_of_ble_eq_true rfl) (Nat.le_of_ble_eq_true rfl) rfl (by decide) (m_ref (v := 1) (by decide) (bI_t (by decide))) ?_
          refine zx_ifF g_X6_rule rfl (by decide) (show ¬ ((1 : Int) = 0) by decide) ?_
          refine zx_go (pc1 := 92) (l1 := [some (zr 32), some (zi k), some (zi z), some (zl v), none, some (zi 0), none]) (st1 := [zi 0]) (w1 := wr c (zU R 32 0 1)) g_X6_rule 1 _ _ _ _ rfl ?_
          refine zx_iret g_X6_rule rfl (.inr (.inl rfl)) ?_
          exact mP_1 (cdv1 (by omega))
      · exact absurd h33 (fun z => z k2)
    · exact absurd h17 (fun z => z k1)
  · exact absurd h1 (fun z => z k0)

set_option maxHeartbeats 1000000 in
theorem m_net {c : zC} {R : zI} (h0 : 0 ≤ R 32 8) (h1 : R 32 8 ≤ 16) : MZ m_X6_net [zr 32] (wr c R) (mP (cdv (R 32 8 = 16) False) (fun b R2 => b = R 32 8 ∧ R2 = zU (zU (zU R 32 0 0) 32 14 0) 32 8 (R 32 8 + 1)) c R) := by
  refine MZ.of g_X6_net ?_
  show ZX m_X6_net 0 [some (zr 32)] [] (wr c R) _
  refine zx_go (pc1 := 7) (l1 := [some (zr 32)]) (st1 := [zi 16, zi (R 32 8), zr 32]) (w1 := wr c R) g_X6_net 4 _ _ _ _ rfl ?_
  refine zx_cmp g_X6_net rfl (by omega) (by decide) (fun (h7 : (R 32 8) ≠ 16) => ?_) (fun (h7 : ¬ ((R 32 8) ≠ 16)) => ?_)
  · refine zx_go (pc1 := 15) (l1 := [some (zr 32)]) (st1 := [zi 0, zr 32]) (w1 := wr c R) g_X6_net 1 _ _ _ _ rfl ?_
    refine gx_cvG (As := [zi 0]) (rest := []) g_X6_net rfl g_X6_refuses rfl rfl (Nat.le_of_ble_eq_true rfl) (Nat.le_of_ble_eq_true rfl) rfl (by decide) (m_ref (v := 0) (by decide) (bI_f (by decide))) ?_
    refine zx_ifT g_X6_net rfl (by decide) (show ((0 : Int) = 0) by decide) ?_
    refine zx_go (pc1 := 25) (l1 := [some (zr 32)]) (st1 := [zi 0, zr 32]) (w1 := wr c (zU R 32 0 0)) g_X6_net 2 _ _ _ _ rfl ?_
    refine gz_putb 14 g_X6_net rfl rfl rfl (by decide) rfl (by refine ⟨?_, ?_, ?_, ?_, ?_⟩ <;> simp) (.inl rfl) ?_
    refine zx_go (pc1 := 35) (l1 := [some (zr 32)]) (st1 := [zi (((zU (zU R 32 0 0) 32 14 0) 32 8) + 1), zr 32]) (w1 := wr c (zU (zU R 32 0 0) 32 14 0)) g_X6_net 5 _ _ _ _ rfl ?_
    refine gz_put 8 g_X6_net rfl rfl rfl (by decide) rfl (by refine ⟨?_, ?_, ?_, ?_, ?_⟩ <;> simp) ?_
    refine zx_go (pc1 := 44) (l1 := [some (zr 32)]) (st1 := [zi (((zU (zU (zU R 32 0 0) 32 14 0) 32 8 (((zU (zU R 32 0 0) 32 14 0) 32 8) + 1)) 32 8) - 1)]) (w1 := wr c (zU (zU (zU R 32 0 0) 32 14 0) 32 8 (((zU (zU R 32 0 0) 32 14 0) 32 8) + 1))) g_X6_net 4 _ _ _ _ rfl ?_
    refine zx_iret g_X6_net rfl (.inl rfl) ?_
    refine mP_0 (cdv0 (by omega) id) ⟨?_, ?_⟩
    · simp [zU]
    · simp [zU]
  · refine zx_go (pc1 := 15) (l1 := [some (zr 32)]) (st1 := [zi 1, zr 32]) (w1 := wr c R) g_X6_net 2 _ _ _ _ rfl ?_
    refine gx_cvG (As := [zi 1]) (rest := []) g_X6_net rfl g_X6_refuses rfl rfl (Nat.le_of_ble_eq_true rfl) (Nat.le_of_ble_eq_true rfl) rfl (by decide) (m_ref (v := 1) (by decide) (bI_t (by decide))) ?_
    refine zx_ifF g_X6_net rfl (by decide) (show ¬ ((1 : Int) = 0) by decide) ?_
    refine zx_go (pc1 := 22) (l1 := [some (zr 32)]) (st1 := [zi 0]) (w1 := wr c (zU R 32 0 1)) g_X6_net 1 _ _ _ _ rfl ?_
    refine zx_iret g_X6_net rfl (.inl rfl) ?_
    exact mP_1 (cdv1 (by omega))

set_option maxHeartbeats 1000000 in
theorem m_pin {c : zC} {R : zI} {n : Int} (nr1 : inR n) (h0 : 0 ≤ R 32 8) (h1 : R 32 8 ≤ 16) (h2 : 0 ≤ R 32 10) (h3 : R 32 10 ≤ 40) : MZ m_X6_pin [zr 32, zi n] (wr c R) (mP (cdv (¬ (0 ≤ n ∧ n < R 32 8)) (R 32 10 = 40)) (fun b R2 => b = R 32 10 ∧ R2 = zU (zU (zU (zU R 32 0 0) 32 14 0) 38 (R 32 10) n) 32 10 (R 32 10 + 1)) c R) := by
  refine MZ.of g_X6_pin ?_
  show ZX m_X6_pin 0 [some (zr 32), some (zi n)] [] (wr c R) _
  refine zx_go (pc1 := 3) (l1 := [some (zr 32), some (zi n)]) (st1 := [zi n, zr 32, zr 32]) (w1 := wr c R) g_X6_pin 3 _ _ _ _ rfl ?_
  refine zx_cvF (As := [zi n]) (rest := [zr 32]) g_X6_pin rfl g_X6_isNet rfl rfl (Nat.le_of_ble_eq_true rfl) (Nat.le_of_ble_eq_true rfl) rfl (by decide) (m_isNet (by omega) (by omega)) ?_
  refine zx_ifne g_X6_pin rfl (fun (h6 : (0 ≤ n ∧ n < R 32 8)) => ?_) (fun (h6 : ¬ (0 ≤ n ∧ n < R 32 8)) => ?_)
  · refine zx_go (pc1 := 19) (l1 := [some (zr 32), some (zi n)]) (st1 := [zi 40, zi (R 32 10), zr 32]) (w1 := wr c R) g_X6_pin 3 _ _ _ _ rfl ?_
    refine zx_cmp g_X6_pin rfl (by omega) (by decide) (fun (h19 : (R 32 10) ≠ 40) => ?_) (fun (h19 : ¬ ((R 32 10) ≠ 40)) => ?_)
    · refine zx_go (pc1 := 27) (l1 := [some (zr 32), some (zi n)]) (st1 := [zi 0, zr 32]) (w1 := wr c R) g_X6_pin 1 _ _ _ _ rfl ?_
      refine gx_cvG (As := [zi 0]) (rest := []) g_X6_pin rfl g_X6_refuses rfl rfl (Nat.le_of_ble_eq_true rfl) (Nat.le_of_ble_eq_true rfl) rfl (by decide) (m_ref (v := 0) (by decide) (bI_f (by decide))) ?_
      refine zx_ifT g_X6_pin rfl (by decide) (show ((0 : Int) = 0) by decide) ?_
      generalize hR9 : zU R 32 0 0 = R9
      have e10_v : R9 32 10 = R 32 10 := by rw [← hR9, zU_at (by decide)]
      refine zx_go (pc1 := 37) (l1 := [some (zr 32), some (zi n)]) (st1 := [zi 0, zr 32]) (w1 := wr c R9) g_X6_pin 2 _ _ _ _ rfl ?_
      refine gz_putb 14 g_X6_pin rfl rfl rfl (by decide) rfl (by refine ⟨?_, ?_, ?_, ?_, ?_⟩ <;> simp) (.inl rfl) ?_
      have e10b : (zU R9 32 14 0) 32 10 = R 32 10 := by rw [zU_at (by decide)]; exact e10_v
      refine zx_go (pc1 := 49) (l1 := [some (zr 32), some (zi n)]) (st1 := [zi n, zi ((zU R9 32 14 0) 32 10), zr 38]) (w1 := wr c (zU R9 32 14 0)) g_X6_pin 5 _ _ _ _ rfl ?_
      refine gz_iast g_X6_pin rfl (n := 40) rfl (by decide) (by refine ⟨?_, ?_, ?_, ?_, ?_⟩ <;> simp) (by decide) (by omega) (by omega) ?_
      refine zx_go (pc1 := 57) (l1 := [some (zr 32), some (zi n)]) (st1 := [zi (((zU (zU R9 32 14 0) 38 ((zU R9 32 14 0) 32 10) n) 32 10) + 1), zr 32]) (w1 := wr c (zU (zU R9 32 14 0) 38 ((zU R9 32 14 0) 32 10) n)) g_X6_pin 5 _ _ _ _ rfl ?_
      refine gz_put 10 g_X6_pin rfl rfl rfl (by decide) rfl (by refine ⟨?_, ?_, ?_, ?_, ?_⟩ <;> simp) ?_
      refine zx_go (pc1 := 66) (l1 := [some (zr 32), some (zi n)]) (st1 := [zi (((zU (zU (zU R9 32 14 0) 38 ((zU R9 32 14 0) 32 10) n) 32 10 (((zU (zU R9 32 14 0) 38 ((zU R9 32 14 0) 32 10) n) 32 10) + 1)) 32 10) - 1)]) (w1 := wr c (zU (zU (zU R9 32 14 0) 38 ((zU R9 32 14 0) 32 10) n) 32 10 (((zU (zU R9 32 14 0) 38 ((zU R9 32 14 0) 32 10) n) 32 10) + 1))) g_X6_pin 4 _ _ _ _ rfl ?_
      refine zx_iret g_X6_pin rfl (.inl rfl) ?_
      refine mP_0 (cdv0 (by omega) (by omega)) ⟨?_, ?_⟩
      · subst hR9; simp [zU]
      · subst hR9; simp [zU]
    · refine zx_go (pc1 := 27) (l1 := [some (zr 32), some (zi n)]) (st1 := [zi 2, zr 32]) (w1 := wr c R) g_X6_pin 2 _ _ _ _ rfl ?_
      refine gx_cvG (As := [zi 2]) (rest := []) g_X6_pin rfl g_X6_refuses rfl rfl (Nat.le_of_ble_eq_true rfl) (Nat.le_of_ble_eq_true rfl) rfl (by decide) (m_ref (v := 1) (by decide) (bI_t (by decide))) ?_
      refine zx_ifF g_X6_pin rfl (by decide) (show ¬ ((1 : Int) = 0) by decide) ?_
      refine zx_go (pc1 := 34) (l1 := [some (zr 32), some (zi n)]) (st1 := [zi 0]) (w1 := wr c (zU R 32 0 2)) g_X6_pin 1 _ _ _ _ rfl ?_
      refine zx_iret g_X6_pin rfl (.inl rfl) ?_
      exact mP_2 (cdv2 (by omega) (by omega))
  · refine zx_go (pc1 := 27) (l1 := [some (zr 32), some (zi n)]) (st1 := [zi 1, zr 32]) (w1 := wr c R) g_X6_pin 2 _ _ _ _ rfl ?_
    refine gx_cvG (As := [zi 1]) (rest := []) g_X6_pin rfl g_X6_refuses rfl rfl (Nat.le_of_ble_eq_true rfl) (Nat.le_of_ble_eq_true rfl) rfl (by decide) (m_ref (v := 1) (by decide) (bI_t (by decide))) ?_
    refine zx_ifF g_X6_pin rfl (by decide) (show ¬ ((1 : Int) = 0) by decide) ?_
    refine zx_go (pc1 := 34) (l1 := [some (zr 32), some (zi n)]) (st1 := [zi 0]) (w1 := wr c (zU R 32 0 1)) g_X6_pin 1 _ _ _ _ rfl ?_
    refine zx_iret g_X6_pin rfl (.inl rfl) ?_
    exact mP_1 (cdv1 (by omega))

def ac0 (R : zI) : zI := zU R 32 0 0
def ac1 (R : zI) (k p : Int) : zI := zU (zU (zU (zU R 32 0 0) 32 14 0) 39 (4 * k + R 40 k) p) 40 k (R 40 k + 1)

set_option maxHeartbeats 1000000 in
theorem m_access {c : zC} {R : zI} {k z x y : Int} (hg : Geo c) (kr : inR k) (zr1 : inR z) (xr : inR64 x) (yr : inR64 y) (h2 : 0 ≤ R 32 10) (h3 : R 32 10 ≤ 40) (h4 : ∀ k, 0 ≤ k → k < 40 → 0 ≤ R 40 k ∧ R 40 k ≤ 4 ∧ ∀ i, 0 ≤ i → i < R 40 k → inR (R 39 (4 * k + i))) : MZ m_X6_access [zr 32, zi k, zi z, zl x, zl y] (wr c R) (mP (cdv (¬ (0 ≤ k ∧ k < R 32 10) ∨ plo c z x y = -1) (R 40 k = 4)) (fun b R2 => b = bI (¬ (∃ i, 0 ≤ i ∧ i < R 40 k ∧ R 39 (4 * k + i) = plo c z x y)) ∧ R2 = pIR (∃ i, 0 ≤ i ∧ i < R 40 k ∧ R 39 (4 * k + i) = plo c z x y) (ac0 R) (ac1 R k (plo c z x y))) c R) := by
  refine MZ.of g_X6_access ?_
  show ZX m_X6_access 0 [some (zr 32), some (zi k), some (zi z), some (zl x), none, some (zl y), none, none, none] [] (wr c R) _
  have g3_v := hg.S
  refine zx_go (pc1 := 5) (l1 := [some (zr 32), some (zi k), some (zi z), some (zl x), none, some (zl y), none, none, none]) (st1 := [zl y, zl x, zi z, zr 32]) (w1 := wr c R) g_X6_access 4 _ _ _ _ rfl ?_
  refine zx_cvF (As := [zi z, zl x, zl y]) (rest := []) g_X6_access rfl g_X6_placeOf rfl rfl (Nat.le_of_ble_eq_true rfl) (Nat.le_of_ble_eq_true rfl) rfl (by decide) (m_placeOf hg (by omega) (by omega) (by omega)) ?_
  have pI1 := plo_I hg z x y
  refine zx_go (pc1 := 13) (l1 := [some (zr 32), some (zi k), some (zi z), some (zl x), none, some (zl y), none, some (zi (plo c z x y)), none]) (st1 := [zi k, zr 32, zr 32]) (w1 := wr c R) g_X6_access 4 _ _ _ _ rfl ?_
  refine zx_cvF (As := [zi k]) (rest := [zr 32]) g_X6_access rfl g_X6_isPin rfl rfl (Nat.le_of_ble_eq_true rfl) (Nat.le_of_ble_eq_true rfl) rfl (by decide) (m_isPin (by omega) (by omega)) ?_
  refine zx_ifeq g_X6_access rfl (fun (h16_v : ¬ (0 ≤ k ∧ k < R 32 10)) => ?_) (fun (h16_v : (0 ≤ k ∧ k < R 32 10)) => ?_)
  · refine zx_go (pc1 := 44) (l1 := [some (zr 32), some (zi k), some (zi z), some (zl x), none, some (zl y), none, some (zi (plo c z x y)), none]) (st1 := [zi 1, zr 32]) (w1 := wr c R) g_X6_access 2 _ _ _ _ rfl ?_
    refine gx_cvG (As := [zi 1]) (rest := []) g_X6_access rfl g_X6_refuses rfl rfl (Nat.le_of_ble_eq_true rfl) (Nat.le_of_ble_eq_true rfl) rfl (by decide) (m_ref (v := 1) (by decide) (bI_t (by decide))) ?_
    refine zx_ifF g_X6_access rfl (by decide) (show ¬ ((1 : Int) = 0) by decide) ?_
    refine zx_go (pc1 := 51) (l1 := [some (zr 32), some (zi k), some (zi z), some (zl x), none, some (zl y), none, some (zi (plo c z x y)), none]) (st1 := [zi 0]) (w1 := wr c (zU R 32 0 1)) g_X6_access 1 _ _ _ _ rfl ?_
    refine zx_iret g_X6_access rfl (.inr (.inl rfl)) ?_
    exact mP_1 (cdv1 (by first | exact .inl h16_v | exact .inr (by omega)))
  · refine zx_go (pc1 := 22) (l1 := [some (zr 32), some (zi k), some (zi z), some (zl x), none, some (zl y), none, some (zi (plo c z x y)), none]) (st1 := [zi (-1), zi (plo c z x y), zr 32]) (w1 := wr c R) g_X6_access 2 _ _ _ _ rfl ?_
    refine zx_cmp g_X6_access rfl (by omega) (by omega) (fun (h22 : (plo c z x y) ≠ (-1)) => ?_) (fun (h22 : ¬ ((plo c z x y) ≠ (-1))) => ?_)
    · have h4k := h4 k (by omega) (by omega)
      refine zx_go (pc1 := 34) (l1 := [some (zr 32), some (zi k), some (zi z), some (zl x), none, some (zl y), none, some (zi (plo c z x y)), none]) (st1 := [zi k, zr 40, zr 32]) (w1 := wr c R) g_X6_access 3 _ _ _ _ rfl ?_
      refine gz_iald g_X6_access rfl (n := 40) rfl (by decide) rfl (by decide) (by omega) (by omega) ?_
      refine zx_go (pc1 := 36) (l1 := [some (zr 32), some (zi k), some (zi z), some (zl x), none, some (zl y), none, some (zi (plo c z x y)), none]) (st1 := [zi 4, zi (R 40 k), zr 32]) (w1 := wr c R) g_X6_access 1 _ _ _ _ rfl ?_
      refine zx_cmp g_X6_access rfl (by omega) (by decide) (fun (h36 : (R 40 k) ≠ 4) => ?_) (fun (h36 : ¬ ((R 40 k) ≠ 4)) => ?_)
      · refine zx_go (pc1 := 44) (l1 := [some (zr 32), some (zi k), some (zi z), some (zl x), none, some (zl y), none, some (zi (plo c z x y)), none]) (st1 := [zi 0, zr 32]) (w1 := wr c R) g_X6_access 1 _ _ _ _ rfl ?_
        refine gx_cvG (As := [zi 0]) (rest := []) g_X6_access rfl g_X6_refuses rfl rfl (Nat.le_of_ble_eq_true rfl) (Nat.le_of_ble_eq_true rfl) rfl (by decide) (m_ref (v := 0) (by decide) (bI_f (by decide))) ?_
        refine zx_ifT g_X6_access rfl (by decide) (show ((0 : Int) = 0) by decide) ?_
        generalize hR9 : zU R 32 0 0 = R9
        have f9_v : ∀ a, a ≠ 32 → R9 a = R a := fun a ha_v => by rw [← hR9, zU_cell ha_v]
        have f9j : ∀ j, j ≠ 0 → R9 32 j = R 32 j := fun j hj => by rw [← hR9, zU_at hj]
        refine zx_go (pc1 := 55) (l1 := [some (zr 32), some (zi k), some (zi z), some (zl x), none, some (zl y), none, some (zi (plo c z x y)), some (zi 0)]) (st1 := []) (w1 := wr c R9) g_X6_access 2 _ _ _ _ rfl ?_
        have lp55 : ∀ (it : Nat) (i : Int), (it : Int) = R 40 k - i → (0 ≤ i ∧ i ≤ R 40 k ∧ ∀ j, 0 ≤ j → j < i → R 39 (4 * k + j) ≠ plo c z x y) → ZX m_X6_access 55 [some (zr 32), some (zi k), some (zi z), some (zl x), none, some (zl y), none, some (zi (plo c z x y)), some (zi i)] [] (wr c R9) (mP (cdv (¬ (0 ≤ k ∧ k < R 32 10) ∨ plo c z x y = -1) (R 40 k = 4)) (fun b R2 => b = bI (¬ (∃ i, 0 ≤ i ∧ i < R 40 k ∧ R 39 (4 * k + i) = plo c z x y)) ∧ R2 = pIR (∃ i, 0 ≤ i ∧ i < R 40 k ∧ R 39 (4 * k + i) = plo c z x y) (ac0 R) (ac1 R k (plo c z x y))) c R) := by
          refine fun it => Nat.strongRecOn it (fun it ih55 => ?_)
          intro i hn55 hi55
          obtain ⟨i0_v, i1_v, i2_v⟩ := hi55
          have e40 : R9 40 k = R 40 k := by rw [f9_v 40 (by decide)]
          refine zx_go (pc1 := 62) (l1 := [some (zr 32), some (zi k), some (zi z), some (zl x), none, some (zl y), none, some (zi (plo c z x y)), some (zi i)]) (st1 := [zi k, zr 40, zi i]) (w1 := wr c R9) g_X6_access 4 _ _ _ _ rfl ?_
          refine gz_iald g_X6_access rfl (n := 40) rfl (by decide) rfl (by decide) (by omega) (by omega) ?_
          refine zx_cmp g_X6_access rfl (by omega) (by omega) (fun (h63 : (R9 40 k) ≤ i) => ?_) (fun (h63 : ¬ ((R9 40 k) ≤ i)) => ?_)
          · refine zx_go (pc1 := 92) (l1 := [some (zr 32), some (zi k), some (zi z), some (zl x), none, some (zl y), none, some (zi (plo c z x y)), some (zi i)]) (st1 := [zi 0, zr 32]) (w1 := wr c R9) g_X6_access 2 _ _ _ _ rfl ?_
            refine gz_putb 14 g_X6_access rfl rfl rfl (by decide) rfl (by refine ⟨?_, ?_, ?_, ?_, ?_⟩ <;> simp) (.inl rfl) ?_
            refine zx_go (pc1 := 107) (l1 := [some (zr 32), some (zi k), some (zi z), some (zl x), none, some (zl y), none, some (zi (plo c z x y)), some (zi i)]) (st1 := [zi k, zr 40, zi (4 * k), zr 39]) (w1 := wr c (zU R9 32 14 0)) g_X6_access 8 _ _ _ _ rfl ?_
            refine gz_iald g_X6_access rfl (n := 40) rfl (by decide) rfl (by decide) (by omega) (by omega) ?_
            refine zx_go (pc1 := 111) (l1 := [some (zr 32), some (zi k), some (zi z), some (zl x), none, some (zl y), none, some (zi (plo c z x y)), some (zi i)]) (st1 := [zi (plo c z x y), zi ((4 * k) + ((zU R9 32 14 0) 40 k)), zr 39]) (w1 := wr c (zU R9 32 14 0)) g_X6_access 2 _ _ _ _ rfl ?_
            refine gz_iast g_X6_access rfl (n := 160) rfl (by decide) (by refine ⟨?_, ?_, ?_, ?_, ?_⟩ <;> simp) (by decide) (by rw [zU_cell' (by decide)]; omega) (by rw [zU_cell' (by decide)]; omega) ?_
            refine zx_go (pc1 := 118) (l1 := [some (zr 32), some (zi k), some (zi z), some (zl x), none, some (zl y), none, some (zi (plo c z x y)), some (zi i)]) (st1 := [zi k, zr 40, zi k, zr 40]) (w1 := wr c (zU (zU R9 32 14 0) 39 ((4 * k) + ((zU R9 32 14 0) 40 k)) (plo c z x y))) g_X6_access 4 _ _ _ _ rfl ?_
            refine gz_iald g_X6_access rfl (n := 40) rfl (by decide) rfl (by decide) (by omega) (by omega) ?_
            refine zx_go (pc1 := 121) (l1 := [some (zr 32), some (zi k), some (zi z), some (zl x), none, some (zl y), none, some (zi (plo c z x y)), some (zi i)]) (st1 := [zi (((zU (zU R9 32 14 0) 39 ((4 * k) + ((zU R9 32 14 0) 40 k)) (plo c z x y)) 40 k) + 1), zi k, zr 40]) (w1 := wr c (zU (zU R9 32 14 0) 39 ((4 * k) + ((zU R9 32 14 0) 40 k)) (plo c z x y))) g_X6_access 2 _ _ _ _ rfl ?_
            refine gz_iast g_X6_access rfl (n := 40) rfl (by decide) (by refine ⟨?_, ?_, ?_, ?_, ?_⟩ <;> simp) (by decide) (by omega) (by omega) ?_
            refine zx_go (pc1 := 123) (l1 := [some (zr 32), some (zi k), some (zi z), some (zl x), none, some (zl y), none, some (zi (plo c z x y)), some (zi i)]) (st1 := [zi 1]) (w1 := wr c (zU (zU (zU R9 32 14 0) 39 ((4 * k) + ((zU R9 32 14 0) 40 k)) (plo c z x y)) 40 k (((zU (zU R9 32 14 0) 39 ((4 * k) + ((zU R9 32 14 0) 40 k)) (plo c z x y)) 40 k) + 1))) g_X6_access 1 _ _ _ _ rfl ?_
            refine zx_iret g_X6_access rfl (.inr (.inr rfl)) ?_
            have ex : ¬ (∃ i, 0 ≤ i ∧ i < R 40 k ∧ R 39 (4 * k + i) = plo c z x y) := fun ⟨j, a, b, d⟩ => i2_v j a (by omega) d
            refine mP_0 (cdv0 (fun z => z.elim (fun w => w h16_v) (by omega)) (by omega)) ⟨?_, ?_⟩
            · exact (bI_t ex).symm
            · rw [pIR_f ex]
              unfold ac1
              rw [hR9, zU_cell' (show (40 : Nat) ≠ 39 by decide), zU_cell' (show (40 : Nat) ≠ 32 by decide), e40]
          · have h4i := h4k.2.2 i (by omega) (by omega)
            have e39 : R9 39 (4 * k + i) = R 39 (4 * k + i) := by rw [f9_v 39 (by decide)]
            refine zx_go (pc1 := 76) (l1 := [some (zr 32), some (zi k), some (zi z), some (zl x), none, some (zl y), none, some (zi (plo c z x y)), some (zi i)]) (st1 := [zi ((4 * k) + i), zr 39]) (w1 := wr c R9) g_X6_access 7 _ _ _ _ rfl ?_
            refine gz_iald g_X6_access rfl (n := 160) rfl (by decide) rfl (by decide) (by omega) (by omega) ?_
            refine zx_go (pc1 := 79) (l1 := [some (zr 32), some (zi k), some (zi z), some (zl x), none, some (zl y), none, some (zi (plo c z x y)), some (zi i)]) (st1 := [zi (plo c z x y), zi (R9 39 ((4 * k) + i))]) (w1 := wr c R9) g_X6_access 1 _ _ _ _ rfl ?_
            refine zx_cmp g_X6_access rfl (by omega) (by omega) (fun (h79 : (R9 39 ((4 * k) + i)) ≠ (plo c z x y)) => ?_) (fun (h79 : ¬ ((R9 39 ((4 * k) + i)) ≠ (plo c z x y))) => ?_)
            · refine zx_go (pc1 := 55) (l1 := [some (zr 32), some (zi k), some (zi z), some (zl x), none, some (zl y), none, some (zi (plo c z x y)), some (zi (i + 1))]) (st1 := []) (w1 := wr c R9) g_X6_access 2 _ _ _ _ rfl ?_
              refine ih55 (Int.toNat (R 40 k - (i + 1))) (by omega) (i + 1) (by omega) ?_
              refine ⟨by omega, by omega, fun j a b => ?_⟩
              by_cases y1 : j = i
              · rw [y1, ← e39]; exact h79
              · exact i2_v j a (by omega)
            · refine zx_go (pc1 := 83) (l1 := [some (zr 32), some (zi k), some (zi z), some (zl x), none, some (zl y), none, some (zi (plo c z x y)), some (zi i)]) (st1 := [zi 0]) (w1 := wr c R9) g_X6_access 1 _ _ _ _ rfl ?_
              refine zx_iret g_X6_access rfl (.inr (.inl rfl)) ?_
              have ex : (∃ i, 0 ≤ i ∧ i < R 40 k ∧ R 39 (4 * k + i) = plo c z x y) := ⟨i, i0_v, by omega, by rw [← e39]; omega⟩
              refine mP_0 (cdv0 (fun z => z.elim (fun w => w h16_v) (by omega)) (by omega)) ⟨?_, ?_⟩
              · exact (bI_f (fun z => z ex)).symm
              · rw [pIR_t ex]; exact hR9.symm
        refine lp55 (Int.toNat (R 40 k - 0)) 0 (by omega) ?_
        exact ⟨by omega, by omega, fun j a b => by omega⟩
      · refine zx_go (pc1 := 44) (l1 := [some (zr 32), some (zi k), some (zi z), some (zl x), none, some (zl y), none, some (zi (plo c z x y)), none]) (st1 := [zi 2, zr 32]) (w1 := wr c R) g_X6_access 2 _ _ _ _ rfl ?_
        refine gx_cvG (As := [zi 2]) (rest := []) g_X6_access rfl g_X6_refuses rfl rfl (Nat.le_of_ble_eq_true rfl) (Nat.le_of_ble_eq_true rfl) rfl (by decide) (m_ref (v := 1) (by decide) (bI_t (by decide))) ?_
        refine zx_ifF g_X6_access rfl (by decide) (show ¬ ((1 : Int) = 0) by decide) ?_
        refine zx_go (pc1 := 51) (l1 := [some (zr 32), some (zi k), some (zi z), some (zl x), none, some (zl y), none, some (zi (plo c z x y)), none]) (st1 := [zi 0]) (w1 := wr c (zU R 32 0 2)) g_X6_access 1 _ _ _ _ rfl ?_
        refine zx_iret g_X6_access rfl (.inr (.inl rfl)) ?_
        exact mP_2 (cdv2 (fun z => z.elim (fun w => w h16_v) (by omega)) (by omega))
    · refine zx_go (pc1 := 44) (l1 := [some (zr 32), some (zi k), some (zi z), some (zl x), none, some (zl y), none, some (zi (plo c z x y)), none]) (st1 := [zi 1, zr 32]) (w1 := wr c R) g_X6_access 2 _ _ _ _ rfl ?_
      refine gx_cvG (As := [zi 1]) (rest := []) g_X6_access rfl g_X6_refuses rfl rfl (Nat.le_of_ble_eq_true rfl) (Nat.le_of_ble_eq_true rfl) rfl (by decide) (m_ref (v := 1) (by decide) (bI_t (by decide))) ?_
      refine zx_ifF g_X6_access rfl (by decide) (show ¬ ((1 : Int) = 0) by decide) ?_
      refine zx_go (pc1 := 51) (l1 := [some (zr 32), some (zi k), some (zi z), some (zl x), none, some (zl y), none, some (zi (plo c z x y)), none]) (st1 := [zi 0]) (w1 := wr c (zU R 32 0 1)) g_X6_access 1 _ _ _ _ rfl ?_
      refine zx_iret g_X6_access rfl (.inr (.inl rfl)) ?_
      exact mP_1 (cdv1 (by first | exact .inl h16_v | exact .inr (by omega)))

def inB (c : zC) (z x0 y0 x1 y1 p : Int) : Prop := lay c p = z ∧ (x0 ≤ xo c p ∧ xo c p ≤ x1) ∧ (y0 ≤ yo c p ∧ yo c p ≤ y1)

set_option maxHeartbeats 1000000 in
theorem m_bar {c : zC} {R : zI} {z x0 y0 x1 y1 : Int} (hg : Geo c) (zr1 : inR z) (x0r : inR64 x0) (y0r : inR64 y0) (x1r : inR64 x1) (y1r : inR64 y1) (h36 : ∀ p, pls c p → R 36 p = 0 ∨ R 36 p = 1) (h14 : R 32 14 = 0 ∨ R 32 14 = 1) : MZ m_X6_bar [zr 32, zi z, zl x0, zl y0, zl x1, zl y1] (wr c R) (mP (cdv (¬ (0 ≤ z ∧ z < cLa c)) (¬ (0 ≤ x0 ∧ x0 ≤ x1 ∧ x1 < cW c ∧ 0 ≤ y0 ∧ y0 ≤ y1 ∧ y1 < cH c))) (fun b R2 => b = bI (∃ p, 0 ≤ p ∧ p < (cS c : Int) ∧ inB c z x0 y0 x1 y1 p ∧ R 36 p = 0) ∧ (∀ a, a ≠ 32 → a ≠ 36 → R2 a = R a) ∧ (∀ p, pls c p → R2 36 p = pI (inB c z x0 y0 x1 y1 p) 1 (R 36 p)) ∧ R2 32 0 = 0 ∧ R2 32 14 = bI (R 32 14 ≠ 0 ∧ ¬ (∃ p, 0 ≤ p ∧ p < (cS c : Int) ∧ inB c z x0 y0 x1 y1 p ∧ R 36 p = 0)) ∧ ∀ j, j ≠ 0 → j ≠ 14 → R2 32 j = R 32 j) c R) := by
  refine MZ.of g_X6_bar ?_
  show ZX m_X6_bar 0 [some (zr 32), some (zi z), some (zl x0), none, some (zl y0), none, some (zl x1), none, some (zl y1), none, none, none, none, none] [] (wr c R) _
  have g2 := hg
  unfold Geo at g2
  have g3_v := hg.S
  refine zx_go (pc1 := 8) (l1 := [some (zr 32), some (zi z), some (zl x0), none, some (zl y0), none, some (zl x1), none, some (zl y1), none, none, none, none, none]) (st1 := [zi ((cW c) - 1), zl 0, zl x0]) (w1 := wr c R) g_X6_bar 6 _ _ _ _ rfl ?_
  refine zx_i2l g_X6_bar rfl (by omega) ?_
  refine zx_csF (As := [zl x0, zl 0, zl ((cW c) - 1)]) (rest := []) g_X6_bar rfl g_X6_isIn rfl rfl (Nat.le_of_ble_eq_true rfl) (Nat.le_of_ble_eq_true rfl) (m_isIn (by omega) (by omega) (by omega)) ?_
  refine zx_ifeq g_X6_bar rfl (fun (h12 : ¬ (0 ≤ x0 ∧ x0 ≤ ((cW c) - 1))) => ?_) (fun (h12 : (0 ≤ x0 ∧ x0 ≤ ((cW c) - 1))) => ?_)
  · refine zx_go (pc1 := 73) (l1 := [some (zr 32), some (zi z), some (zl x0), none, some (zl y0), none, some (zl x1), none, some (zl y1), none, some (zi 0), none, none, none]) (st1 := [zi z, zr 32]) (w1 := wr c R) g_X6_bar 4 _ _ _ _ rfl ?_
    refine zx_i2l g_X6_bar rfl (by omega) ?_
    refine zx_go (pc1 := 81) (l1 := [some (zr 32), some (zi z), some (zl x0), none, some (zl y0), none, some (zl x1), none, some (zl y1), none, some (zi 0), none, none, none]) (st1 := [zi ((cLa c) - 1), zl 0, zl z, zr 32]) (w1 := wr c R) g_X6_bar 5 _ _ _ _ rfl ?_
    refine zx_i2l g_X6_bar rfl (by omega) ?_
    refine zx_csF (As := [zl z, zl 0, zl ((cLa c) - 1)]) (rest := [zr 32]) g_X6_bar rfl g_X6_isIn rfl rfl (Nat.le_of_ble_eq_true rfl) (Nat.le_of_ble_eq_true rfl) (m_isIn (by omega) (by omega) (by omega)) ?_
    refine zx_ifne g_X6_bar rfl (fun (h85 : (0 ≤ z ∧ z ≤ ((cLa c) - 1))) => ?_) (fun (h85 : ¬ (0 ≤ z ∧ z ≤ ((cLa c) - 1))) => ?_)
    · refine zx_go (pc1 := 94) (l1 := [some (zr 32), some (zi z), some (zl x0), none, some (zl y0), none, some (zl x1), none, some (zl y1), none, some (zi 0), none, none, none]) (st1 := [zi 0, zr 32]) (w1 := wr c R) g_X6_bar 1 _ _ _ _ rfl ?_
      refine zx_ifF g_X6_bar rfl (by decide) (show ¬ ((0 : Int) ≠ 0) by decide) ?_
      refine zx_go (pc1 := 102) (l1 := [some (zr 32), some (zi z), some (zl x0), none, some (zl y0), none, some (zl x1), none, some (zl y1), none, some (zi 0), none, none, none]) (st1 := [zi 2, zr 32]) (w1 := wr c R) g_X6_bar 2 _ _ _ _ rfl ?_
      refine gx_cvG (As := [zi 2]) (rest := []) g_X6_bar rfl g_X6_refuses rfl rfl (Nat.le_of_ble_eq_true rfl) (Nat.le_of_ble_eq_true rfl) rfl (by decide) (m_ref (v := 1) (by decide) (bI_t (by decide))) ?_
      refine zx_ifF g_X6_bar rfl (by decide) (show ¬ ((1 : Int) = 0) by decide) ?_
      refine zx_go (pc1 := 109) (l1 := [some (zr 32), some (zi z), some (zl x0), none, some (zl y0), none, some (zl x1), none, some (zl y1), none, some (zi 0), none, none, none]) (st1 := [zi 0]) (w1 := wr c (zU R 32 0 2)) g_X6_bar 1 _ _ _ _ rfl ?_
      refine zx_iret g_X6_bar rfl (.inr (.inl rfl)) ?_
      exact mP_2 (cdv2 (by omega) (by omega))
    · refine zx_go (pc1 := 102) (l1 := [some (zr 32), some (zi z), some (zl x0), none, some (zl y0), none, some (zl x1), none, some (zl y1), none, some (zi 0), none, none, none]) (st1 := [zi 1, zr 32]) (w1 := wr c R) g_X6_bar 2 _ _ _ _ rfl ?_
      refine gx_cvG (As := [zi 1]) (rest := []) g_X6_bar rfl g_X6_refuses rfl rfl (Nat.le_of_ble_eq_true rfl) (Nat.le_of_ble_eq_true rfl) rfl (by decide) (m_ref (v := 1) (by decide) (bI_t (by decide))) ?_
      refine zx_ifF g_X6_bar rfl (by decide) (show ¬ ((1 : Int) = 0) by decide) ?_
      refine zx_go (pc1 := 109) (l1 := [some (zr 32), some (zi z), some (zl x0), none, some (zl y0), none, some (zl x1), none, some (zl y1), none, some (zi 0), none, none, none]) (st1 := [zi 0]) (w1 := wr c (zU R 32 0 1)) g_X6_bar 1 _ _ _ _ rfl ?_
      refine zx_iret g_X6_bar rfl (.inr (.inl rfl)) ?_
      exact mP_1 (cdv1 (by omega))
  · refine zx_go (pc1 := 24) (l1 := [some (zr 32), some (zi z), some (zl x0), none, some (zl y0), none, some (zl x1), none, some (zl y1), none, none, none, none, none]) (st1 := [zi ((cW c) - 1), zl x0, zl x1]) (w1 := wr c R) g_X6_bar 6 _ _ _ _ rfl ?_
    refine zx_i2l g_X6_bar rfl (by omega) ?_
    refine zx_csF (As := [zl x1, zl x0, zl ((cW c) - 1)]) (rest := []) g_X6_bar rfl g_X6_isIn rfl rfl (Nat.le_of_ble_eq_true rfl) (Nat.le_of_ble_eq_true rfl) (m_isIn (by omega) (by omega) (by omega)) ?_
    refine zx_ifeq g_X6_bar rfl (fun (h28 : ¬ (x0 ≤ x1 ∧ x1 ≤ ((cW c) - 1))) => ?_) (fun (h28 : (x0 ≤ x1 ∧ x1 ≤ ((cW c) - 1))) => ?_)
    · refine zx_go (pc1 := 73) (l1 := [some (zr 32), some (zi z), some (zl x0), none, some (zl y0), none, some (zl x1), none, some (zl y1), none, some (zi 0), none, none, none]) (st1 := [zi z, zr 32]) (w1 := wr c R) g_X6_bar 4 _ _ _ _ rfl ?_
      refine zx_i2l g_X6_bar rfl (by omega) ?_
      refine zx_go (pc1 := 81) (l1 := [some (zr 32), some (zi z), some (zl x0), none, some (zl y0), none, some (zl x1), none, some (zl y1), none, some (zi 0), none, none, none]) (st1 := [zi ((cLa c) - 1), zl 0, zl z, zr 32]) (w1 := wr c R) g_X6_bar 5 _ _ _ _ rfl ?_
      refine zx_i2l g_X6_bar rfl (by omega) ?_
      refine zx_csF (As := [zl z, zl 0, zl ((cLa c) - 1)]) (rest := [zr 32]) g_X6_bar rfl g_X6_isIn rfl rfl (Nat.le_of_ble_eq_true rfl) (Nat.le_of_ble_eq_true rfl) (m_isIn (by omega) (by omega) (by omega)) ?_
      refine zx_ifne g_X6_bar rfl (fun (h85 : (0 ≤ z ∧ z ≤ ((cLa c) - 1))) => ?_) (fun (h85 : ¬ (0 ≤ z ∧ z ≤ ((cLa c) - 1))) => ?_)
      · refine zx_go (pc1 := 94) (l1 := [some (zr 32), some (zi z), some (zl x0), none, some (zl y0), none, some (zl x1), none, some (zl y1), none, some (zi 0), none, none, none]) (st1 := [zi 0, zr 32]) (w1 := wr c R) g_X6_bar 1 _ _ _ _ rfl ?_
        refine zx_ifF g_X6_bar rfl (by decide) (show ¬ ((0 : Int) ≠ 0) by decide) ?_
        refine zx_go (pc1 := 102) (l1 := [some (zr 32), some (zi z), some (zl x0), none, some (zl y0), none, some (zl x1), none, some (zl y1), none, some (zi 0), none, none, none]) (st1 := [zi 2, zr 32]) (w1 := wr c R) g_X6_bar 2 _ _ _ _ rfl ?_
        refine gx_cvG (As := [zi 2]) (rest := []) g_X6_bar rfl g_X6_refuses rfl rfl (Nat.le_of_ble_eq_true rfl) (Nat.le_of_ble_eq_true rfl) rfl (by decide) (m_ref (v := 1) (by decide) (bI_t (by decide))) ?_
        refine zx_ifF g_X6_bar rfl (by decide) (show ¬ ((1 : Int) = 0) by decide) ?_
        refine zx_go (pc1 := 109) (l1 := [some (zr 32), some (zi z), some (zl x0), none, some (zl y0), none, some (zl x1), none, some (zl y1), none, some (zi 0), none, none, none]) (st1 := [zi 0]) (w1 := wr c (zU R 32 0 2)) g_X6_bar 1 _ _ _ _ rfl ?_
        refine zx_iret g_X6_bar rfl (.inr (.inl rfl)) ?_
        exact mP_2 (cdv2 (by omega) (by omega))
      · refine zx_go (pc1 := 102) (l1 := [some (zr 32), some (zi z), some (zl x0), none, some (zl y0), none, some (zl x1), none, some (zl y1), none, some (zi 0), none, none, none]) (st1 := [zi 1, zr 32]) (w1 := wr c R) g_X6_bar 2 _ _ _ _ rfl ?_
        refine gx_cvG (As := [zi 1]) (rest := []) g_X6_bar rfl g_X6_refuses rfl rfl (Nat.le_of_ble_eq_true rfl) (Nat.le_of_ble_eq_true rfl) rfl (by decide) (m_ref (v := 1) (by decide) (bI_t (by decide))) ?_
        refine zx_ifF g_X6_bar rfl (by decide) (show ¬ ((1 : Int) = 0) by decide) ?_
        refine zx_go (pc1 := 109) (l1 := [some (zr 32), some (zi z), some (zl x0), none, some (zl y0), none, some (zl x1), none, some (zl y1), none, some (zi 0), none, none, none]) (st1 := [zi 0]) (w1 := wr c (zU R 32 0 1)) g_X6_bar 1 _ _ _ _ rfl ?_
        refine zx_iret g_X6_bar rfl (.inr (.inl rfl)) ?_
        exact mP_1 (cdv1 (by omega))
    · refine zx_go (pc1 := 40) (l1 := [some (zr 32), some (zi z), some (zl x0), none, some (zl y0), none, some (zl x1), none, some (zl y1), none, none, none, none, none]) (st1 := [zi ((cH c) - 1), zl 0, zl y0]) (w1 := wr c R) g_X6_bar 6 _ _ _ _ rfl ?_
      refine zx_i2l g_X6_bar rfl (by omega) ?_
      refine zx_csF (As := [zl y0, zl 0, zl ((cH c) - 1)]) (rest := []) g_X6_bar rfl g_X6_isIn rfl rfl (Nat.le_of_ble_eq_true rfl) (Nat.le_of_ble_eq_true rfl) (m_isIn (by omega) (by omega) (by omega)) ?_
      refine zx_ifeq g_X6_bar rfl (fun (h44 : ¬ (0 ≤ y0 ∧ y0 ≤ ((cH c) - 1))) => ?_) (fun (h44 : (0 ≤ y0 ∧ y0 ≤ ((cH c) - 1))) => ?_)
      · refine zx_go (pc1 := 73) (l1 := [some (zr 32), some (zi z), some (zl x0), none, some (zl y0), none, some (zl x1), none, some (zl y1), none, some (zi 0), none, none, none]) (st1 := [zi z, zr 32]) (w1 := wr c R) g_X6_bar 4 _ _ _ _ rfl ?_
        refine zx_i2l g_X6_bar rfl (by omega) ?_
        refine zx_go (pc1 := 81) (l1 := [some (zr 32), some (zi z), some (zl x0), none, some (zl y0), none, some (zl x1), none, some (zl y1), none, some (zi 0), none, none, none]) (st1 := [zi ((cLa c) - 1), zl 0, zl z, zr 32]) (w1 := wr c R) g_X6_bar 5 _ _ _ _ rfl ?_
        refine zx_i2l g_X6_bar rfl (by omega) ?_
        refine zx_csF (As := [zl z, zl 0, zl ((cLa c) - 1)]) (rest := [zr 32]) g_X6_bar rfl g_X6_isIn rfl rfl (Nat.le_of_ble_eq_true rfl) (Nat.le_of_ble_eq_true rfl) (m_isIn (by omega) (by omega) (by omega)) ?_
        refine zx_ifne g_X6_bar rfl (fun (h85 : (0 ≤ z ∧ z ≤ ((cLa c) - 1))) => ?_) (fun (h85 : ¬ (0 ≤ z ∧ z ≤ ((cLa c) - 1))) => ?_)
        · refine zx_go (pc1 := 94) (l1 := [some (zr 32), some (zi z), some (zl x0), none, some (zl y0), none, some (zl x1), none, some (zl y1), none, some (zi 0), none, none, none]) (st1 := [zi 0, zr 32]) (w1 := wr c R) g_X6_bar 1 _ _ _ _ rfl ?_
          refine zx_ifF g_X6_bar rfl (by decide) (show ¬ ((0 : Int) ≠ 0) by decide) ?_
          refine zx_go (pc1 := 102) (l1 := [some (zr 32), some (zi z), some (zl x0), none, some (zl y0), none, some (zl x1), none, some (zl y1), none, some (zi 0), none, none, none]) (st1 := [zi 2, zr 32]) (w1 := wr c R) g_X6_bar 2 _ _ _ _ rfl ?_
          refine gx_cvG (As := [zi 2]) (rest := []) g_X6_bar rfl g_X6_refuses rfl rfl (Nat.le_of_ble_eq_true rfl) (Nat.le_of_ble_eq_true rfl) rfl (by decide) (m_ref (v := 1) (by decide) (bI_t (by decide))) ?_
          refine zx_ifF g_X6_bar rfl (by decide) (show ¬ ((1 : Int) = 0) by decide) ?_
          refine zx_go (pc1 := 109) (l1 := [some (zr 32), some (zi z), some (zl x0), none, some (zl y0), none, some (zl x1), none, some (zl y1), none, some (zi 0), none, none, none]) (st1 := [zi 0]) (w1 := wr c (zU R 32 0 2)) g_X6_bar 1 _ _ _ _ rfl ?_
          refine zx_iret g_X6_bar rfl (.inr (.inl rfl)) ?_
          exact mP_2 (cdv2 (by omega) (by omega))
        · refine zx_go (pc1 := 102) (l1 := [some (zr 32), some (zi z), some (zl x0), none, some (zl y0), none, some (zl x1), none, some (zl y1), none, some (zi 0), none, none, none]) (st1 := [zi 1, zr 32]) (w1 := wr c R) g_X6_bar 2 _ _ _ _ rfl ?_
          refine gx_cvG (As := [zi 1]) (rest := []) g_X6_bar rfl g_X6_refuses rfl rfl (Nat.le_of_ble_eq_true rfl) (Nat.le_of_ble_eq_true rfl) rfl (by decide) (m_ref (v := 1) (by decide) (bI_t (by decide))) ?_
          refine zx_ifF g_X6_bar rfl (by decide) (show ¬ ((1 : Int) = 0) by decide) ?_
          refine zx_go (pc1 := 109) (l1 := [some (zr 32), some (zi z), some (zl x0), none, some (zl y0), none, some (zl x1), none, some (zl y1), none, some (zi 0), none, none, none]) (st1 := [zi 0]) (w1 := wr c (zU R 32 0 1)) g_X6_bar 1 _ _ _ _ rfl ?_
          refine zx_iret g_X6_bar rfl (.inr (.inl rfl)) ?_
          exact mP_1 (cdv1 (by omega))
      · refine zx_go (pc1 := 57) (l1 := [some (zr 32), some (zi z), some (zl x0), none, some (zl y0), none, some (zl x1), none, some (zl y1), none, none, none, none, none]) (st1 := [zi ((cH c) - 1), zl y0, zl y1]) (w1 := wr c R) g_X6_bar 6 _ _ _ _ rfl ?_
        refine zx_i2l g_X6_bar rfl (by omega) ?_
        refine zx_csF (As := [zl y1, zl y0, zl ((cH c) - 1)]) (rest := []) g_X6_bar rfl g_X6_isIn rfl rfl (Nat.le_of_ble_eq_true rfl) (Nat.le_of_ble_eq_true rfl) (m_isIn (by omega) (by omega) (by omega)) ?_
        refine zx_ifeq g_X6_bar rfl (fun (h61 : ¬ (y0 ≤ y1 ∧ y1 ≤ ((cH c) - 1))) => ?_) (fun (h61 : (y0 ≤ y1 ∧ y1 ≤ ((cH c) - 1))) => ?_)
        · refine zx_go (pc1 := 73) (l1 := [some (zr 32), some (zi z), some (zl x0), none, some (zl y0), none, some (zl x1), none, some (zl y1), none, some (zi 0), none, none, none]) (st1 := [zi z, zr 32]) (w1 := wr c R) g_X6_bar 4 _ _ _ _ rfl ?_
          refine zx_i2l g_X6_bar rfl (by omega) ?_
          refine zx_go (pc1 := 81) (l1 := [some (zr 32), some (zi z), some (zl x0), none, some (zl y0), none, some (zl x1), none, some (zl y1), none, some (zi 0), none, none, none]) (st1 := [zi ((cLa c) - 1), zl 0, zl z, zr 32]) (w1 := wr c R) g_X6_bar 5 _ _ _ _ rfl ?_
          refine zx_i2l g_X6_bar rfl (by omega) ?_
          refine zx_csF (As := [zl z, zl 0, zl ((cLa c) - 1)]) (rest := [zr 32]) g_X6_bar rfl g_X6_isIn rfl rfl (Nat.le_of_ble_eq_true rfl) (Nat.le_of_ble_eq_true rfl) (m_isIn (by omega) (by omega) (by omega)) ?_
          refine zx_ifne g_X6_bar rfl (fun (h85 : (0 ≤ z ∧ z ≤ ((cLa c) - 1))) => ?_) (fun (h85 : ¬ (0 ≤ z ∧ z ≤ ((cLa c) - 1))) => ?_)
          · refine zx_go (pc1 := 94) (l1 := [some (zr 32), some (zi z), some (zl x0), none, some (zl y0), none, some (zl x1), none, some (zl y1), none, some (zi 0), none, none, none]) (st1 := [zi 0, zr 32]) (w1 := wr c R) g_X6_bar 1 _ _ _ _ rfl ?_
            refine zx_ifF g_X6_bar rfl (by decide) (show ¬ ((0 : Int) ≠ 0) by decide) ?_
            refine zx_go (pc1 := 102) (l1 := [some (zr 32), some (zi z), some (zl x0), none, some (zl y0), none, some (zl x1), none, some (zl y1), none, some (zi 0), none, none, none]) (st1 := [zi 2, zr 32]) (w1 := wr c R) g_X6_bar 2 _ _ _ _ rfl ?_
            refine gx_cvG (As := [zi 2]) (rest := []) g_X6_bar rfl g_X6_refuses rfl rfl (Nat.le_of_ble_eq_true rfl) (Nat.le_of_ble_eq_true rfl) rfl (by decide) (m_ref (v := 1) (by decide) (bI_t (by decide))) ?_
            refine zx_ifF g_X6_bar rfl (by decide) (show ¬ ((1 : Int) = 0) by decide) ?_
            refine zx_go (pc1 := 109) (l1 := [some (zr 32), some (zi z), some (zl x0), none, some (zl y0), none, some (zl x1), none, some (zl y1), none, some (zi 0), none, none, none]) (st1 := [zi 0]) (w1 := wr c (zU R 32 0 2)) g_X6_bar 1 _ _ _ _ rfl ?_
            refine zx_iret g_X6_bar rfl (.inr (.inl rfl)) ?_
            exact mP_2 (cdv2 (by omega) (by omega))
          · refine zx_go (pc1 := 102) (l1 := [some (zr 32), some (zi z), some (zl x0), none, some (zl y0), none, some (zl x1), none, some (zl y1), none, some (zi 0), none, none, none]) (st1 := [zi 1, zr 32]) (w1 := wr c R) g_X6_bar 2 _ _ _ _ rfl ?_
            refine gx_cvG (As := [zi 1]) (rest := []) g_X6_bar rfl g_X6_refuses rfl rfl (Nat.le_of_ble_eq_true rfl) (Nat.le_of_ble_eq_true rfl) rfl (by decide) (m_ref (v := 1) (by decide) (bI_t (by decide))) ?_
            refine zx_ifF g_X6_bar rfl (by decide) (show ¬ ((1 : Int) = 0) by decide) ?_
            refine zx_go (pc1 := 109) (l1 := [some (zr 32), some (zi z), some (zl x0), none, some (zl y0), none, some (zl x1), none, some (zl y1), none, some (zi 0), none, none, none]) (st1 := [zi 0]) (w1 := wr c (zU R 32 0 1)) g_X6_bar 1 _ _ _ _ rfl ?_
            refine zx_iret g_X6_bar rfl (.inr (.inl rfl)) ?_
            exact mP_1 (cdv1 (by omega))
        · refine zx_go (pc1 := 73) (l1 := [some (zr 32), some (zi z), some (zl x0), none, some (zl y0), none, some (zl x1), none, some (zl y1), none, some (zi 1), none, none, none]) (st1 := [zi z, zr 32]) (w1 := wr c R) g_X6_bar 5 _ _ _ _ rfl ?_
          refine zx_i2l g_X6_bar rfl (by omega) ?_
          refine zx_go (pc1 := 81) (l1 := [some (zr 32), some (zi z), some (zl x0), none, some (zl y0), none, some (zl x1), none, some (zl y1), none, some (zi 1), none, none, none]) (st1 := [zi ((cLa c) - 1), zl 0, zl z, zr 32]) (w1 := wr c R) g_X6_bar 5 _ _ _ _ rfl ?_
          refine zx_i2l g_X6_bar rfl (by omega) ?_
          refine zx_csF (As := [zl z, zl 0, zl ((cLa c) - 1)]) (rest := [zr 32]) g_X6_bar rfl g_X6_isIn rfl rfl (Nat.le_of_ble_eq_true rfl) (Nat.le_of_ble_eq_true rfl) (m_isIn (by omega) (by omega) (by omega)) ?_
          refine zx_ifne g_X6_bar rfl (fun (h85 : (0 ≤ z ∧ z ≤ ((cLa c) - 1))) => ?_) (fun (h85 : ¬ (0 ≤ z ∧ z ≤ ((cLa c) - 1))) => ?_)
          · refine zx_go (pc1 := 94) (l1 := [some (zr 32), some (zi z), some (zl x0), none, some (zl y0), none, some (zl x1), none, some (zl y1), none, some (zi 1), none, none, none]) (st1 := [zi 1, zr 32]) (w1 := wr c R) g_X6_bar 1 _ _ _ _ rfl ?_
            refine zx_ifT g_X6_bar rfl (by decide) (show ((1 : Int) ≠ 0) by decide) ?_
            refine zx_go (pc1 := 102) (l1 := [some (zr 32), some (zi z), some (zl x0), none, some (zl y0), none, some (zl x1), none, some (zl y1), none, some (zi 1), none, none, none]) (st1 := [zi 0, zr 32]) (w1 := wr c R) g_X6_bar 1 _ _ _ _ rfl ?_
            refine gx_cvG (As := [zi 0]) (rest := []) g_X6_bar rfl g_X6_refuses rfl rfl (Nat.le_of_ble_eq_true rfl) (Nat.le_of_ble_eq_true rfl) rfl (by decide) (m_ref (v := 0) (by decide) (bI_f (by decide))) ?_
            refine zx_ifT g_X6_bar rfl (by decide) (show ((0 : Int) = 0) by decide) ?_
            generalize hR9 : zU R 32 0 0 = R9
            have f9_v : ∀ a, a ≠ 32 → R9 a = R a := fun a ha_v => by rw [← hR9, zU_cell ha_v]
            have f9j : ∀ j, j ≠ 0 → R9 32 j = R 32 j := fun j hj => by rw [← hR9, zU_at hj]
            refine zx_go (pc1 := 116) (l1 := [some (zr 32), some (zi z), some (zl x0), none, some (zl y0), none, some (zl x1), none, some (zl y1), none, some (zi 1), some (zi 0), some (zi 0), none]) (st1 := []) (w1 := wr c R9) g_X6_bar 4 _ _ _ _ rfl ?_
            have lp116 : ∀ (it : Nat) (so : Int) (i : Int) (R1 : zI) (o13 : Option zV), (it : Int) = (cS c : Int) - i → (0 ≤ i ∧ i ≤ (cS c : Int) ∧ (∀ a, a ≠ 36 → R1 a = R9 a) ∧ (∀ p, 0 ≤ p → p < (cS c : Int) → R1 36 p = if p < i then pI (inB c z x0 y0 x1 y1 p) 1 (R 36 p) else R 36 p) ∧ so = bI (∃ p, 0 ≤ p ∧ p < i ∧ inB c z x0 y0 x1 y1 p ∧ R 36 p = 0)) → ZX m_X6_bar 116 [some (zr 32), some (zi z), some (zl x0), none, some (zl y0), none, some (zl x1), none, some (zl y1), none, some (zi 1), some (zi so), some (zi i), o13] [] (wr c R1) (mP (cdv (¬ (0 ≤ z ∧ z < cLa c)) (¬ (0 ≤ x0 ∧ x0 ≤ x1 ∧ x1 < cW c ∧ 0 ≤ y0 ∧ y0 ≤ y1 ∧ y1 < cH c))) (fun b R2 => b = bI (∃ p, 0 ≤ p ∧ p < (cS c : Int) ∧ inB c z x0 y0 x1 y1 p ∧ R 36 p = 0) ∧ (∀ a, a ≠ 32 → a ≠ 36 → R2 a = R a) ∧ (∀ p, pls c p → R2 36 p = pI (inB c z x0 y0 x1 y1 p) 1 (R 36 p)) ∧ R2 32 0 = 0 ∧ R2 32 14 = bI (R 32 14 ≠ 0 ∧ ¬ (∃ p, 0 ≤ p ∧ p < (cS c : Int) ∧ inB c z x0 y0 x1 y1 p ∧ R 36 p = 0)) ∧ ∀ j, j ≠ 0 → j ≠ 14 → R2 32 j = R 32 j) c R) := by
              refine fun it => Nat.strongRecOn it (fun it ih116 => ?_)
              intro so i R1 o13 hn116 hi116
              obtain ⟨i0_v, i1_v, fr1, z1, es⟩ := hi116
              have so01 : so = 0 ∨ so = 1 := by rw [es]; exact bI_01 _
              have e14_v : R1 32 14 = R 32 14 := by rw [fr1 32 (by decide), f9j 14 (by decide)]
              refine zx_go (pc1 := 119) (l1 := [some (zr 32), some (zi z), some (zl x0), none, some (zl y0), none, some (zl x1), none, some (zl y1), none, some (zi 1), some (zi so), some (zi i), o13]) (st1 := [zr 32, zi i]) (w1 := wr c R1) g_X6_bar 2 _ _ _ _ rfl ?_
              refine zx_cvF (As := []) (rest := [zi i]) g_X6_bar rfl g_X6_all rfl rfl (Nat.le_of_ble_eq_true rfl) (Nat.le_of_ble_eq_true rfl) rfl (by decide) (m_all hg) ?_
              refine zx_cmp g_X6_bar rfl (by omega) (by omega) (fun (h122 : (cS c : Int) ≤ i) => ?_) (fun (h122 : ¬ ((cS c : Int) ≤ i)) => ?_)
              · refine zx_go (pc1 := 240) (l1 := [some (zr 32), some (zi z), some (zl x0), none, some (zl y0), none, some (zl x1), none, some (zl y1), none, some (zi 1), some (zi so), some (zi i), o13]) (st1 := [zi (R1 32 14), zr 32]) (w1 := wr c R1) g_X6_bar 3 _ _ _ _ rfl ?_
                refine zx_if g_X6_bar rfl (by omega) (fun (h240 : (R1 32 14) = 0) => ?_) (fun (h240 : ¬ (R1 32 14) = 0) => ?_)
                · refine zx_go (pc1 := 253) (l1 := [some (zr 32), some (zi z), some (zl x0), none, some (zl y0), none, some (zl x1), none, some (zl y1), none, some (zi 1), some (zi so), some (zi i), o13]) (st1 := [zi 0, zr 32]) (w1 := wr c R1) g_X6_bar 1 _ _ _ _ rfl ?_
                  refine gz_putb 14 g_X6_bar rfl rfl rfl (by decide) rfl (by refine ⟨?_, ?_, ?_, ?_, ?_⟩ <;> simp) (.inl rfl) ?_
                  refine zx_go (pc1 := 258) (l1 := [some (zr 32), some (zi z), some (zl x0), none, some (zl y0), none, some (zl x1), none, some (zl y1), none, some (zi 1), some (zi so), some (zi i), o13]) (st1 := [zi so]) (w1 := wr c (zU R1 32 14 0)) g_X6_bar 1 _ _ _ _ rfl ?_
                  refine zx_iret g_X6_bar rfl (by omega) ?_
                  have ei : i = (cS c : Int) := by omega
                  subst ei
                  refine mP_0 (cdv0 (by omega) (by omega)) ⟨es, fun a h1 h2 => ?_, fun p hp => ?_, ?_, ?_, fun j a b => ?_⟩
                  · rw [zU_cell h1, fr1 a h2, f9_v a h1]
                  · rw [zU_cell (by decide), z1 p hp.1 hp.2, if_pos hp.2]
                  · rw [zU_at (by decide), fr1 32 (by decide), ← hR9, zU_same]
                  · rw [zU_same]
                    exact (bI_f (fun w => w.1 (by omega))).symm
                  · rw [zU_at b, fr1 32 (by decide), f9j j a]
                · refine zx_go (pc1 := 245) (l1 := [some (zr 32), some (zi z), some (zl x0), none, some (zl y0), none, some (zl x1), none, some (zl y1), none, some (zi 1), some (zi so), some (zi i), o13]) (st1 := [zi so, zr 32]) (w1 := wr c R1) g_X6_bar 1 _ _ _ _ rfl ?_
                  refine zx_if g_X6_bar rfl (by omega) (fun (h245 : so ≠ 0) => ?_) (fun (h245 : ¬ so ≠ 0) => ?_)
                  · refine zx_go (pc1 := 253) (l1 := [some (zr 32), some (zi z), some (zl x0), none, some (zl y0), none, some (zl x1), none, some (zl y1), none, some (zi 1), some (zi so), some (zi i), o13]) (st1 := [zi 0, zr 32]) (w1 := wr c R1) g_X6_bar 1 _ _ _ _ rfl ?_
                    refine gz_putb 14 g_X6_bar rfl rfl rfl (by decide) rfl (by refine ⟨?_, ?_, ?_, ?_, ?_⟩ <;> simp) (.inl rfl) ?_
                    refine zx_go (pc1 := 258) (l1 := [some (zr 32), some (zi z), some (zl x0), none, some (zl y0), none, some (zl x1), none, some (zl y1), none, some (zi 1), some (zi so), some (zi i), o13]) (st1 := [zi so]) (w1 := wr c (zU R1 32 14 0)) g_X6_bar 1 _ _ _ _ rfl ?_
                    refine zx_iret g_X6_bar rfl (by omega) ?_
                    have ei : i = (cS c : Int) := by omega
                    subst ei
                    refine mP_0 (cdv0 (by omega) (by omega)) ⟨es, fun a h1 h2 => ?_, fun p hp => ?_, ?_, ?_, fun j a b => ?_⟩
                    · rw [zU_cell h1, fr1 a h2, f9_v a h1]
                    · rw [zU_cell (by decide), z1 p hp.1 hp.2, if_pos hp.2]
                    · rw [zU_at (by decide), fr1 32 (by decide), ← hR9, zU_same]
                    · rw [zU_same]
                      exact (bI_f (fun w => w.2 (bI_ne.mp (by rw [← es]; exact h245)))).symm
                    · rw [zU_at b, fr1 32 (by decide), f9j j a]
                  · refine zx_go (pc1 := 253) (l1 := [some (zr 32), some (zi z), some (zl x0), none, some (zl y0), none, some (zl x1), none, some (zl y1), none, some (zi 1), some (zi so), some (zi i), o13]) (st1 := [zi 1, zr 32]) (w1 := wr c R1) g_X6_bar 2 _ _ _ _ rfl ?_
                    refine gz_putb 14 g_X6_bar rfl rfl rfl (by decide) rfl (by refine ⟨?_, ?_, ?_, ?_, ?_⟩ <;> simp) (.inr rfl) ?_
                    refine zx_go (pc1 := 258) (l1 := [some (zr 32), some (zi z), some (zl x0), none, some (zl y0), none, some (zl x1), none, some (zl y1), none, some (zi 1), some (zi so), some (zi i), o13]) (st1 := [zi so]) (w1 := wr c (zU R1 32 14 1)) g_X6_bar 1 _ _ _ _ rfl ?_
                    refine zx_iret g_X6_bar rfl (by omega) ?_
                    have ei : i = (cS c : Int) := by omega
                    subst ei
                    refine mP_0 (cdv0 (by omega) (by omega)) ⟨es, fun a h1 h2 => ?_, fun p hp => ?_, ?_, ?_, fun j a b => ?_⟩
                    · rw [zU_cell h1, fr1 a h2, f9_v a h1]
                    · rw [zU_cell (by decide), z1 p hp.1 hp.2, if_pos hp.2]
                    · rw [zU_at (by decide), fr1 32 (by decide), ← hR9, zU_same]
                    · rw [zU_same]
                      exact (bI_t ⟨by omega, fun w => bI_ne.mpr w (by rw [← es]; exact Classical.not_not.mp h245)⟩).symm
                    · rw [zU_at b, fr1 32 (by decide), f9j j a]
              · have hi_v : pls c i := ⟨by omega, by omega⟩
                have gi := place_geo hg hi_v.1 hi_v.2
                have b36 := h36 i hi_v
                have e36 : R1 36 i = R 36 i := by rw [z1 i i0_v (by omega), if_neg (by omega)]
                refine zx_go (pc1 := 128) (l1 := [some (zr 32), some (zi z), some (zl x0), none, some (zl y0), none, some (zl x1), none, some (zl y1), none, some (zi 1), some (zi so), some (zi i), o13]) (st1 := [zi i, zr 32]) (w1 := wr c R1) g_X6_bar 2 _ _ _ _ rfl ?_
                refine zx_cvF (As := [zi i]) (rest := []) g_X6_bar rfl g_X6_layerOf rfl rfl (Nat.le_of_ble_eq_true rfl) (Nat.le_of_ble_eq_true rfl) rfl (by decide) (m_layerOf hg (by omega) (by omega)) ?_
                refine zx_go (pc1 := 132) (l1 := [some (zr 32), some (zi z), some (zl x0), none, some (zl y0), none, some (zl x1), none, some (zl y1), none, some (zi 1), some (zi so), some (zi i), o13]) (st1 := [zi z, zi (lay c i)]) (w1 := wr c R1) g_X6_bar 1 _ _ _ _ rfl ?_
                refine zx_cmp g_X6_bar rfl (by omega) (by omega) (fun (h132 : (lay c i) ≠ z) => ?_) (fun (h132 : ¬ ((lay c i) ≠ z)) => ?_)
                · refine zx_go (pc1 := 173) (l1 := [some (zr 32), some (zi z), some (zl x0), none, some (zl y0), none, some (zl x1), none, some (zl y1), none, some (zi 1), some (zi so), some (zi i), o13]) (st1 := [zi 0]) (w1 := wr c R1) g_X6_bar 1 _ _ _ _ rfl ?_
                  have ib : ¬ inB c z x0 y0 x1 y1 i := fun w => h132 w.1
                  refine zx_go (pc1 := 177) (l1 := [some (zr 32), some (zi z), some (zl x0), none, some (zl y0), none, some (zl x1), none, some (zl y1), none, some (zi 1), some (zi so), some (zi i), some (zi 0)]) (st1 := [zi so]) (w1 := wr c R1) g_X6_bar 2 _ _ _ _ rfl ?_
                  refine zx_if g_X6_bar rfl (by omega) (fun (h177 : so ≠ 0) => ?_) (fun (h177 : ¬ so ≠ 0) => ?_)
                  · refine zx_go (pc1 := 214) (l1 := [some (zr 32), some (zi z), some (zl x0), none, some (zl y0), none, some (zl x1), none, some (zl y1), none, some (zi 1), some (zi 1), some (zi i), some (zi 0)]) (st1 := [zi i, zr 36, zi i, zr 36]) (w1 := wr c R1) g_X6_bar 9 _ _ _ _ rfl ?_
                    refine gz_bald g_X6_bar rfl (n := 1728) rfl (by decide) rfl (by decide) (by omega) (by omega) ?_
                    refine zx_if g_X6_bar rfl (by omega) (fun (h215 : (R1 36 i) ≠ 0) => ?_) (fun (h215 : ¬ (R1 36 i) ≠ 0) => ?_)
                    · refine zx_go (pc1 := 228) (l1 := [some (zr 32), some (zi z), some (zl x0), none, some (zl y0), none, some (zl x1), none, some (zl y1), none, some (zi 1), some (zi 1), some (zi i), some (zi 0)]) (st1 := [zi 1, zi i, zr 36]) (w1 := wr c R1) g_X6_bar 2 _ _ _ _ rfl ?_
                      refine gz_bast g_X6_bar rfl (n := 1728) rfl (by decide) (by refine ⟨?_, ?_, ?_, ?_, ?_⟩ <;> simp) (by decide) (by omega) (by omega) (.inr rfl) ?_
                      refine zx_go (pc1 := 116) (l1 := [some (zr 32), some (zi z), some (zl x0), none, some (zl y0), none, some (zl x1), none, some (zl y1), none, some (zi 1), some (zi 1), some (zi (i + 1)), some (zi 0)]) (st1 := []) (w1 := wr c (zU R1 36 i 1)) g_X6_bar 2 _ _ _ _ rfl ?_
                      refine ih116 (Int.toNat ((cS c : Int) - (i + 1))) (by omega) 1 (i + 1) (zU R1 36 i 1) (some (zi 0)) (by omega) ?_
                      refine ⟨by omega, by omega, fun a h1 => by rw [zU_cell h1]; exact fr1 a h1, fun p a b => ?_, ?_⟩
                      · rw [zU_row]
                        by_cases y : p = i
                        · rw [y, up1_s, if_pos (by omega)]
                          rw [pI_f ib]
                          omega
                        · rw [up1_n y, z1 p a b]
                          by_cases y2 : p < i
                          · rw [if_pos y2, if_pos (by omega)]
                          · rw [if_neg y2, if_neg (by omega)]
                      · obtain ⟨p, a, b, d⟩ := bI_ne.mp (show bI (∃ p, 0 ≤ p ∧ p < i ∧ inB c z x0 y0 x1 y1 p ∧ R 36 p = 0) ≠ 0 by rw [← es]; exact h177)
                        exact (bI_t ⟨p, a, by omega, d⟩).symm
                    · refine zx_go (pc1 := 220) (l1 := [some (zr 32), some (zi z), some (zl x0), none, some (zl y0), none, some (zl x1), none, some (zl y1), none, some (zi 1), some (zi 1), some (zi i), some (zi 0)]) (st1 := [zi 0, zi i, zr 36]) (w1 := wr c R1) g_X6_bar 1 _ _ _ _ rfl ?_
                      refine zx_ifT g_X6_bar rfl (by decide) (show ((0 : Int) = 0) by decide) ?_
                      refine zx_go (pc1 := 228) (l1 := [some (zr 32), some (zi z), some (zl x0), none, some (zl y0), none, some (zl x1), none, some (zl y1), none, some (zi 1), some (zi 1), some (zi i), some (zi 0)]) (st1 := [zi 0, zi i, zr 36]) (w1 := wr c R1) g_X6_bar 1 _ _ _ _ rfl ?_
                      refine gz_bast g_X6_bar rfl (n := 1728) rfl (by decide) (by refine ⟨?_, ?_, ?_, ?_, ?_⟩ <;> simp) (by decide) (by omega) (by omega) (.inl rfl) ?_
                      refine zx_go (pc1 := 116) (l1 := [some (zr 32), some (zi z), some (zl x0), none, some (zl y0), none, some (zl x1), none, some (zl y1), none, some (zi 1), some (zi 1), some (zi (i + 1)), some (zi 0)]) (st1 := []) (w1 := wr c (zU R1 36 i 0)) g_X6_bar 2 _ _ _ _ rfl ?_
                      refine ih116 (Int.toNat ((cS c : Int) - (i + 1))) (by omega) 1 (i + 1) (zU R1 36 i 0) (some (zi 0)) (by omega) ?_
                      refine ⟨by omega, by omega, fun a h1 => by rw [zU_cell h1]; exact fr1 a h1, fun p a b => ?_, ?_⟩
                      · rw [zU_row]
                        by_cases y : p = i
                        · rw [y, up1_s, if_pos (by omega)]
                          rw [pI_f ib]
                          omega
                        · rw [up1_n y, z1 p a b]
                          by_cases y2 : p < i
                          · rw [if_pos y2, if_pos (by omega)]
                          · rw [if_neg y2, if_neg (by omega)]
                      · obtain ⟨p, a, b, d⟩ := bI_ne.mp (show bI (∃ p, 0 ≤ p ∧ p < i ∧ inB c z x0 y0 x1 y1 p ∧ R 36 p = 0) ≠ 0 by rw [← es]; exact h177)
                        exact (bI_t ⟨p, a, by omega, d⟩).symm
                  · refine zx_go (pc1 := 182) (l1 := [some (zr 32), some (zi z), some (zl x0), none, some (zl y0), none, some (zl x1), none, some (zl y1), none, some (zi 1), some (zi so), some (zi i), some (zi 0)]) (st1 := [zi 0]) (w1 := wr c R1) g_X6_bar 1 _ _ _ _ rfl ?_
                    refine zx_ifT g_X6_bar rfl (by decide) (show ((0 : Int) = 0) by decide) ?_
                    refine zx_go (pc1 := 214) (l1 := [some (zr 32), some (zi z), some (zl x0), none, some (zl y0), none, some (zl x1), none, some (zl y1), none, some (zi 1), some (zi 0), some (zi i), some (zi 0)]) (st1 := [zi i, zr 36, zi i, zr 36]) (w1 := wr c R1) g_X6_bar 8 _ _ _ _ rfl ?_
                    refine gz_bald g_X6_bar rfl (n := 1728) rfl (by decide) rfl (by decide) (by omega) (by omega) ?_
                    refine zx_if g_X6_bar rfl (by omega) (fun (h215 : (R1 36 i) ≠ 0) => ?_) (fun (h215 : ¬ (R1 36 i) ≠ 0) => ?_)
                    · refine zx_go (pc1 := 228) (l1 := [some (zr 32), some (zi z), some (zl x0), none, some (zl y0), none, some (zl x1), none, some (zl y1), none, some (zi 1), some (zi 0), some (zi i), some (zi 0)]) (st1 := [zi 1, zi i, zr 36]) (w1 := wr c R1) g_X6_bar 2 _ _ _ _ rfl ?_
                      refine gz_bast g_X6_bar rfl (n := 1728) rfl (by decide) (by refine ⟨?_, ?_, ?_, ?_, ?_⟩ <;> simp) (by decide) (by omega) (by omega) (.inr rfl) ?_
                      refine zx_go (pc1 := 116) (l1 := [some (zr 32), some (zi z), some (zl x0), none, some (zl y0), none, some (zl x1), none, some (zl y1), none, some (zi 1), some (zi 0), some (zi (i + 1)), some (zi 0)]) (st1 := []) (w1 := wr c (zU R1 36 i 1)) g_X6_bar 2 _ _ _ _ rfl ?_
                      refine ih116 (Int.toNat ((cS c : Int) - (i + 1))) (by omega) 0 (i + 1) (zU R1 36 i 1) (some (zi 0)) (by omega) ?_
                      refine ⟨by omega, by omega, fun a h1 => by rw [zU_cell h1]; exact fr1 a h1, fun p a b => ?_, ?_⟩
                      · rw [zU_row]
                        by_cases y : p = i
                        · rw [y, up1_s, if_pos (by omega)]
                          rw [pI_f ib]
                          omega
                        · rw [up1_n y, z1 p a b]
                          by_cases y2 : p < i
                          · rw [if_pos y2, if_pos (by omega)]
                          · rw [if_neg y2, if_neg (by omega)]
                      · refine (bI_f ?_).symm
                        rintro ⟨p, a, b, d1_v, d2_v⟩
                        by_cases y : p = i
                        · subst y
                          exact ib d1_v
                        · exact absurd (show bI (∃ p, 0 ≤ p ∧ p < i ∧ inB c z x0 y0 x1 y1 p ∧ R 36 p = 0) = 0 by rw [← es]; exact Classical.not_not.mp h177) (bI_ne.mpr ⟨p, a, by omega, d1_v, d2_v⟩)
                    · refine zx_go (pc1 := 220) (l1 := [some (zr 32), some (zi z), some (zl x0), none, some (zl y0), none, some (zl x1), none, some (zl y1), none, some (zi 1), some (zi 0), some (zi i), some (zi 0)]) (st1 := [zi 0, zi i, zr 36]) (w1 := wr c R1) g_X6_bar 1 _ _ _ _ rfl ?_
                      refine zx_ifT g_X6_bar rfl (by decide) (show ((0 : Int) = 0) by decide) ?_
                      refine zx_go (pc1 := 228) (l1 := [some (zr 32), some (zi z), some (zl x0), none, some (zl y0), none, some (zl x1), none, some (zl y1), none, some (zi 1), some (zi 0), some (zi i), some (zi 0)]) (st1 := [zi 0, zi i, zr 36]) (w1 := wr c R1) g_X6_bar 1 _ _ _ _ rfl ?_
                      refine gz_bast g_X6_bar rfl (n := 1728) rfl (by decide) (by refine ⟨?_, ?_, ?_, ?_, ?_⟩ <;> simp) (by decide) (by omega) (by omega) (.inl rfl) ?_
                      refine zx_go (pc1 := 116) (l1 := [some (zr 32), some (zi z), some (zl x0), none, some (zl y0), none, some (zl x1), none, some (zl y1), none, some (zi 1), some (zi 0), some (zi (i + 1)), some (zi 0)]) (st1 := []) (w1 := wr c (zU R1 36 i 0)) g_X6_bar 2 _ _ _ _ rfl ?_
                      refine ih116 (Int.toNat ((cS c : Int) - (i + 1))) (by omega) 0 (i + 1) (zU R1 36 i 0) (some (zi 0)) (by omega) ?_
                      refine ⟨by omega, by omega, fun a h1 => by rw [zU_cell h1]; exact fr1 a h1, fun p a b => ?_, ?_⟩
                      · rw [zU_row]
                        by_cases y : p = i
                        · rw [y, up1_s, if_pos (by omega)]
                          rw [pI_f ib]
                          omega
                        · rw [up1_n y, z1 p a b]
                          by_cases y2 : p < i
                          · rw [if_pos y2, if_pos (by omega)]
                          · rw [if_neg y2, if_neg (by omega)]
                      · refine (bI_f ?_).symm
                        rintro ⟨p, a, b, d1_v, d2_v⟩
                        by_cases y : p = i
                        · subst y
                          exact ib d1_v
                        · exact absurd (show bI (∃ p, 0 ≤ p ∧ p < i ∧ inB c z x0 y0 x1 y1 p ∧ R 36 p = 0) = 0 by rw [← es]; exact Classical.not_not.mp h177) (bI_ne.mpr ⟨p, a, by omega, d1_v, d2_v⟩)
                · refine zx_go (pc1 := 138) (l1 := [some (zr 32), some (zi z), some (zl x0), none, some (zl y0), none, some (zl x1), none, some (zl y1), none, some (zi 1), some (zi so), some (zi i), o13]) (st1 := [zi i, zr 32]) (w1 := wr c R1) g_X6_bar 2 _ _ _ _ rfl ?_
                  refine zx_cvF (As := [zi i]) (rest := []) g_X6_bar rfl g_X6_xOf rfl rfl (Nat.le_of_ble_eq_true rfl) (Nat.le_of_ble_eq_true rfl) rfl (by decide) (m_xOf hg (by omega) (by omega)) ?_
                  refine zx_i2l g_X6_bar rfl (by omega) ?_
                  refine zx_go (pc1 := 145) (l1 := [some (zr 32), some (zi z), some (zl x0), none, some (zl y0), none, some (zl x1), none, some (zl y1), none, some (zi 1), some (zi so), some (zi i), o13]) (st1 := [zl x1, zl x0, zl (xo c i)]) (w1 := wr c R1) g_X6_bar 2 _ _ _ _ rfl ?_
                  refine zx_csF (As := [zl (xo c i), zl x0, zl x1]) (rest := []) g_X6_bar rfl g_X6_isIn rfl rfl (Nat.le_of_ble_eq_true rfl) (Nat.le_of_ble_eq_true rfl) (m_isIn (by omega) (by omega) (by omega)) ?_
                  refine zx_ifeq g_X6_bar rfl (fun (h148 : ¬ (x0 ≤ (xo c i) ∧ (xo c i) ≤ x1)) => ?_) (fun (h148 : (x0 ≤ (xo c i) ∧ (xo c i) ≤ x1)) => ?_)
                  · refine zx_go (pc1 := 173) (l1 := [some (zr 32), some (zi z), some (zl x0), none, some (zl y0), none, some (zl x1), none, some (zl y1), none, some (zi 1), some (zi so), some (zi i), o13]) (st1 := [zi 0]) (w1 := wr c R1) g_X6_bar 1 _ _ _ _ rfl ?_
                    have ib : ¬ inB c z x0 y0 x1 y1 i := fun w => h148 w.2.1
                    refine zx_go (pc1 := 177) (l1 := [some (zr 32), some (zi z), some (zl x0), none, some (zl y0), none, some (zl x1), none, some (zl y1), none, some (zi 1), some (zi so), some (zi i), some (zi 0)]) (st1 := [zi so]) (w1 := wr c R1) g_X6_bar 2 _ _ _ _ rfl ?_
                    refine zx_if g_X6_bar rfl (by omega) (fun (h177 : so ≠ 0) => ?_) (fun (h177 : ¬ so ≠ 0) => ?_)
                    · refine zx_go (pc1 := 214) (l1 := [some (zr 32), some (zi z), some (zl x0), none, some (zl y0), none, some (zl x1), none, some (zl y1), none, some (zi 1), some (zi 1), some (zi i), some (zi 0)]) (st1 := [zi i, zr 36, zi i, zr 36]) (w1 := wr c R1) g_X6_bar 9 _ _ _ _ rfl ?_
                      refine gz_bald g_X6_bar rfl (n := 1728) rfl (by decide) rfl (by decide) (by omega) (by omega) ?_
                      refine zx_if g_X6_bar rfl (by omega) (fun (h215 : (R1 36 i) ≠ 0) => ?_) (fun (h215 : ¬ (R1 36 i) ≠ 0) => ?_)
                      · refine zx_go (pc1 := 228) (l1 := [some (zr 32), some (zi z), some (zl x0), none, some (zl y0), none, some (zl x1), none, some (zl y1), none, some (zi 1), some (zi 1), some (zi i), some (zi 0)]) (st1 := [zi 1, zi i, zr 36]) (w1 := wr c R1) g_X6_bar 2 _ _ _ _ rfl ?_
                        refine gz_bast g_X6_bar rfl (n := 1728) rfl (by decide) (by refine ⟨?_, ?_, ?_, ?_, ?_⟩ <;> simp) (by decide) (by omega) (by omega) (.inr rfl) ?_
                        refine zx_go (pc1 := 116) (l1 := [some (zr 32), some (zi z), some (zl x0), none, some (zl y0), none, some (zl x1), none, some (zl y1), none, some (zi 1), some (zi 1), some (zi (i + 1)), some (zi 0)]) (st1 := []) (w1 := wr c (zU R1 36 i 1)) g_X6_bar 2 _ _ _ _ rfl ?_
                        refine ih116 (Int.toNat ((cS c : Int) - (i + 1))) (by omega) 1 (i + 1) (zU R1 36 i 1) (some (zi 0)) (by omega) ?_
                        refine ⟨by omega, by omega, fun a h1 => by rw [zU_cell h1]; exact fr1 a h1, fun p a b => ?_, ?_⟩
                        · rw [zU_row]
                          by_cases y : p = i
                          · rw [y, up1_s, if_pos (by omega)]
                            rw [pI_f ib]
                            omega
                          · rw [up1_n y, z1 p a b]
                            by_cases y2 : p < i
                            · rw [if_pos y2, if_pos (by omega)]
                            · rw [if_neg y2, if_neg (by omega)]
                        · obtain ⟨p, a, b, d⟩ := bI_ne.mp (show bI (∃ p, 0 ≤ p ∧ p < i ∧ inB c z x0 y0 x1 y1 p ∧ R 36 p = 0) ≠ 0 by rw [← es]; exact h177)
                          exact (bI_t ⟨p, a, by omega, d⟩).symm
                      · refine zx_go (pc1 := 220) (l1 := [some (zr 32), some (zi z), some (zl x0), none, some (zl y0), none, some (zl x1), none, some (zl y1), none, some (zi 1), some (zi 1), some (zi i), some (zi 0)]) (st1 := [zi 0, zi i, zr 36]) (w1 := wr c R1) g_X6_bar 1 _ _ _ _ rfl ?_
                        refine zx_ifT g_X6_bar rfl (by decide) (show ((0 : Int) = 0) by decide) ?_
                        refine zx_go (pc1 := 228) (l1 := [some (zr 32), some (zi z), some (zl x0), none, some (zl y0), none, some (zl x1), none, some (zl y1), none, some (zi 1), some (zi 1), some (zi i), some (zi 0)]) (st1 := [zi 0, zi i, zr 36]) (w1 := wr c R1) g_X6_bar 1 _ _ _ _ rfl ?_
                        refine gz_bast g_X6_bar rfl (n := 1728) rfl (by decide) (by refine ⟨?_, ?_, ?_, ?_, ?_⟩ <;> simp) (by decide) (by omega) (by omega) (.inl rfl) ?_
                        refine zx_go (pc1 := 116) (l1 := [some (zr 32), some (zi z), some (zl x0), none, some (zl y0), none, some (zl x1), none, some (zl y1), none, some (zi 1), some (zi 1), some (zi (i + 1)), some (zi 0)]) (st1 := []) (w1 := wr c (zU R1 36 i 0)) g_X6_bar 2 _ _ _ _ rfl ?_
                        refine ih116 (Int.toNat ((cS c : Int) - (i + 1))) (by omega) 1 (i + 1) (zU R1 36 i 0) (some (zi 0)) (by omega) ?_
                        refine ⟨by omega, by omega, fun a h1 => by rw [zU_cell h1]; exact fr1 a h1, fun p a b => ?_, ?_⟩
                        · rw [zU_row]
                          by_cases y : p = i
                          · rw [y, up1_s, if_pos (by omega)]
                            rw [pI_f ib]
                            omega
                          · rw [up1_n y, z1 p a b]
                            by_cases y2 : p < i
                            · rw [if_pos y2, if_pos (by omega)]
                            · rw [if_neg y2, if_neg (by omega)]
                        · obtain ⟨p, a, b, d⟩ := bI_ne.mp (show bI (∃ p, 0 ≤ p ∧ p < i ∧ inB c z x0 y0 x1 y1 p ∧ R 36 p = 0) ≠ 0 by rw [← es]; exact h177)
                          exact (bI_t ⟨p, a, by omega, d⟩).symm
                    · refine zx_go (pc1 := 182) (l1 := [some (zr 32), some (zi z), some (zl x0), none, some (zl y0), none, some (zl x1), none, some (zl y1), none, some (zi 1), some (zi so), some (zi i), some (zi 0)]) (st1 := [zi 0]) (w1 := wr c R1) g_X6_bar 1 _ _ _ _ rfl ?_
                      refine zx_ifT g_X6_bar rfl (by decide) (show ((0 : Int) = 0) by decide) ?_
                      refine zx_go (pc1 := 214) (l1 := [some (zr 32), some (zi z), some (zl x0), none, some (zl y0), none, some (zl x1), none, some (zl y1), none, some (zi 1), some (zi 0), some (zi i), some (zi 0)]) (st1 := [zi i, zr 36, zi i, zr 36]) (w1 := wr c R1) g_X6_bar 8 _ _ _ _ rfl ?_
                      refine gz_bald g_X6_bar rfl (n := 1728) rfl (by decide) rfl (by decide) (by omega) (by omega) ?_
                      refine zx_if g_X6_bar rfl (by omega) (fun (h215 : (R1 36 i) ≠ 0) => ?_) (fun (h215 : ¬ (R1 36 i) ≠ 0) => ?_)
                      · refine zx_go (pc1 := 228) (l1 := [some (zr 32), some (zi z), some (zl x0), none, some (zl y0), none, some (zl x1), none, some (zl y1), none, some (zi 1), some (zi 0), some (zi i), some (zi 0)]) (st1 := [zi 1, zi i, zr 36]) (w1 := wr c R1) g_X6_bar 2 _ _ _ _ rfl ?_
                        refine gz_bast g_X6_bar rfl (n := 1728) rfl (by decide) (by refine ⟨?_, ?_, ?_, ?_, ?_⟩ <;> simp) (by decide) (by omega) (by omega) (.inr rfl) ?_
                        refine zx_go (pc1 := 116) (l1 := [some (zr 32), some (zi z), some (zl x0), none, some (zl y0), none, some (zl x1), none, some (zl y1), none, some (zi 1), some (zi 0), some (zi (i + 1)), some (zi 0)]) (st1 := []) (w1 := wr c (zU R1 36 i 1)) g_X6_bar 2 _ _ _ _ rfl ?_
                        refine ih116 (Int.toNat ((cS c : Int) - (i + 1))) (by omega) 0 (i + 1) (zU R1 36 i 1) (some (zi 0)) (by omega) ?_
                        refine ⟨by omega, by omega, fun a h1 => by rw [zU_cell h1]; exact fr1 a h1, fun p a b => ?_, ?_⟩
                        · rw [zU_row]
                          by_cases y : p = i
                          · rw [y, up1_s, if_pos (by omega)]
                            rw [pI_f ib]
                            omega
                          · rw [up1_n y, z1 p a b]
                            by_cases y2 : p < i
                            · rw [if_pos y2, if_pos (by omega)]
                            · rw [if_neg y2, if_neg (by omega)]
                        · refine (bI_f ?_).symm
                          rintro ⟨p, a, b, d1_v, d2_v⟩
                          by_cases y : p = i
                          · subst y
                            exact ib d1_v
                          · exact absurd (show bI (∃ p, 0 ≤ p ∧ p < i ∧ inB c z x0 y0 x1 y1 p ∧ R 36 p = 0) = 0 by rw [← es]; exact Classical.not_not.mp h177) (bI_ne.mpr ⟨p, a, by omega, d1_v, d2_v⟩)
                      · refine zx_go (pc1 := 220) (l1 := [some (zr 32), some (zi z), some (zl x0), none, some (zl y0), none, some (zl x1), none, some (zl y1), none, some (zi 1), some (zi 0), some (zi i), some (zi 0)]) (st1 := [zi 0, zi i, zr 36]) (w1 := wr c R1) g_X6_bar 1 _ _ _ _ rfl ?_
                        refine zx_ifT g_X6_bar rfl (by decide) (show ((0 : Int) = 0) by decide) ?_
                        refine zx_go (pc1 := 228) (l1 := [some (zr 32), some (zi z), some (zl x0), none, some (zl y0), none, some (zl x1), none, some (zl y1), none, some (zi 1), some (zi 0), some (zi i), some (zi 0)]) (st1 := [zi 0, zi i, zr 36]) (w1 := wr c R1) g_X6_bar 1 _ _ _ _ rfl ?_
                        refine gz_bast g_X6_bar rfl (n := 1728) rfl (by decide) (by refine ⟨?_, ?_, ?_, ?_, ?_⟩ <;> simp) (by decide) (by omega) (by omega) (.inl rfl) ?_
                        refine zx_go (pc1 := 116) (l1 := [some (zr 32), some (zi z), some (zl x0), none, some (zl y0), none, some (zl x1), none, some (zl y1), none, some (zi 1), some (zi 0), some (zi (i + 1)), some (zi 0)]) (st1 := []) (w1 := wr c (zU R1 36 i 0)) g_X6_bar 2 _ _ _ _ rfl ?_
                        refine ih116 (Int.toNat ((cS c : Int) - (i + 1))) (by omega) 0 (i + 1) (zU R1 36 i 0) (some (zi 0)) (by omega) ?_
                        refine ⟨by omega, by omega, fun a h1 => by rw [zU_cell h1]; exact fr1 a h1, fun p a b => ?_, ?_⟩
                        · rw [zU_row]
                          by_cases y : p = i
                          · rw [y, up1_s, if_pos (by omega)]
                            rw [pI_f ib]
                            omega
                          · rw [up1_n y, z1 p a b]
                            by_cases y2 : p < i
                            · rw [if_pos y2, if_pos (by omega)]
                            · rw [if_neg y2, if_neg (by omega)]
                        · refine (bI_f ?_).symm
                          rintro ⟨p, a, b, d1_v, d2_v⟩
                          by_cases y : p = i
                          · subst y
                            exact ib d1_v
                          · exact absurd (show bI (∃ p, 0 ≤ p ∧ p < i ∧ inB c z x0 y0 x1 y1 p ∧ R 36 p = 0) = 0 by rw [← es]; exact Classical.not_not.mp h177) (bI_ne.mpr ⟨p, a, by omega, d1_v, d2_v⟩)
                  · refine zx_go (pc1 := 154) (l1 := [some (zr 32), some (zi z), some (zl x0), none, some (zl y0), none, some (zl x1), none, some (zl y1), none, some (zi 1), some (zi so), some (zi i), o13]) (st1 := [zi i, zr 32]) (w1 := wr c R1) g_X6_bar 2 _ _ _ _ rfl ?_
                    refine zx_cvF (As := [zi i]) (rest := []) g_X6_bar rfl g_X6_yOf rfl rfl (Nat.le_of_ble_eq_true rfl) (Nat.le_of_ble_eq_true rfl) rfl (by decide) (m_yOf hg (by omega) (by omega)) ?_
                    refine zx_i2l g_X6_bar rfl (by omega) ?_
                    refine zx_go (pc1 := 162) (l1 := [some (zr 32), some (zi z), some (zl x0), none, some (zl y0), none, some (zl x1), none, some (zl y1), none, some (zi 1), some (zi so), some (zi i), o13]) (st1 := [zl y1, zl y0, zl (yo c i)]) (w1 := wr c R1) g_X6_bar 2 _ _ _ _ rfl ?_
                    refine zx_csF (As := [zl (yo c i), zl y0, zl y1]) (rest := []) g_X6_bar rfl g_X6_isIn rfl rfl (Nat.le_of_ble_eq_true rfl) (Nat.le_of_ble_eq_true rfl) (m_isIn (by omega) (by omega) (by omega)) ?_
                    refine zx_ifeq g_X6_bar rfl (fun (h165 : ¬ (y0 ≤ (yo c i) ∧ (yo c i) ≤ y1)) => ?_) (fun (h165 : (y0 ≤ (yo c i) ∧ (yo c i) ≤ y1)) => ?_)
                    · refine zx_go (pc1 := 173) (l1 := [some (zr 32), some (zi z), some (zl x0), none, some (zl y0), none, some (zl x1), none, some (zl y1), none, some (zi 1), some (zi so), some (zi i), o13]) (st1 := [zi 0]) (w1 := wr c R1) g_X6_bar 1 _ _ _ _ rfl ?_
                      have ib : ¬ inB c z x0 y0 x1 y1 i := fun w => h165 w.2.2
                      refine zx_go (pc1 := 177) (l1 := [some (zr 32), some (zi z), some (zl x0), none, some (zl y0), none, some (zl x1), none, some (zl y1), none, some (zi 1), some (zi so), some (zi i), some (zi 0)]) (st1 := [zi so]) (w1 := wr c R1) g_X6_bar 2 _ _ _ _ rfl ?_
                      refine zx_if g_X6_bar rfl (by omega) (fun (h177 : so ≠ 0) => ?_) (fun (h177 : ¬ so ≠ 0) => ?_)
                      · refine zx_go (pc1 := 214) (l1 := [some (zr 32), some (zi z), some (zl x0), none, some (zl y0), none, some (zl x1), none, some (zl y1), none, some (zi 1), some (zi 1), some (zi i), some (zi 0)]) (st1 := [zi i, zr 36, zi i, zr 36]) (w1 := wr c R1) g_X6_bar 9 _ _ _ _ rfl ?_
                        refine gz_bald g_X6_bar rfl (n := 1728) rfl (by decide) rfl (by decide) (by omega) (by omega) ?_
                        refine zx_if g_X6_bar rfl (by omega) (fun (h215 : (R1 36 i) ≠ 0) => ?_) (fun (h215 : ¬ (R1 36 i) ≠ 0) => ?_)
                        · refine zx_go (pc1 := 228) (l1 := [some (zr 32), some (zi z), some (zl x0), none, some (zl y0), none, some (zl x1), none, some (zl y1), none, some (zi 1), some (zi 1), some (zi i), some (zi 0)]) (st1 := [zi 1, zi i, zr 36]) (w1 := wr c R1) g_X6_bar 2 _ _ _ _ rfl ?_
                          refine gz_bast g_X6_bar rfl (n := 1728) rfl (by decide) (by refine ⟨?_, ?_, ?_, ?_, ?_⟩ <;> simp) (by decide) (by omega) (by omega) (.inr rfl) ?_
                          refine zx_go (pc1 := 116) (l1 := [some (zr 32), some (zi z), some (zl x0), none, some (zl y0), none, some (zl x1), none, some (zl y1), none, some (zi 1), some (zi 1), some (zi (i + 1)), some (zi 0)]) (st1 := []) (w1 := wr c (zU R1 36 i 1)) g_X6_bar 2 _ _ _ _ rfl ?_
                          refine ih116 (Int.toNat ((cS c : Int) - (i + 1))) (by omega) 1 (i + 1) (zU R1 36 i 1) (some (zi 0)) (by omega) ?_
                          refine ⟨by omega, by omega, fun a h1 => by rw [zU_cell h1]; exact fr1 a h1, fun p a b => ?_, ?_⟩
                          · rw [zU_row]
                            by_cases y : p = i
                            · rw [y, up1_s, if_pos (by omega)]
                              rw [pI_f ib]
                              omega
                            · rw [up1_n y, z1 p a b]
                              by_cases y2 : p < i
                              · rw [if_pos y2, if_pos (by omega)]
                              · rw [if_neg y2, if_neg (by omega)]
                          · obtain ⟨p, a, b, d⟩ := bI_ne.mp (show bI (∃ p, 0 ≤ p ∧ p < i ∧ inB c z x0 y0 x1 y1 p ∧ R 36 p = 0) ≠ 0 by rw [← es]; exact h177)
                            exact (bI_t ⟨p, a, by omega, d⟩).symm
                        · refine zx_go (pc1 := 220) (l1 := [some (zr 32), some (zi z), some (zl x0), none, some (zl y0), none, some (zl x1), none, some (zl y1), none, some (zi 1), some (zi 1), some (zi i), some (zi 0)]) (st1 := [zi 0, zi i, zr 36]) (w1 := wr c R1) g_X6_bar 1 _ _ _ _ rfl ?_
                          refine zx_ifT g_X6_bar rfl (by decide) (show ((0 : Int) = 0) by decide) ?_
                          refine zx_go (pc1 := 228) (l1 := [some (zr 32), some (zi z), some (zl x0), none, some (zl y0), none, some (zl x1), none, some (zl y1), none, some (zi 1), some (zi 1), some (zi i), some (zi 0)]) (st1 := [zi 0, zi i, zr 36]) (w1 := wr c R1) g_X6_bar 1 _ _ _ _ rfl ?_
                          refine gz_bast g_X6_bar rfl (n := 1728) rfl (by decide) (by refine ⟨?_, ?_, ?_, ?_, ?_⟩ <;> simp) (by decide) (by omega) (by omega) (.inl rfl) ?_
                          refine zx_go (pc1 := 116) (l1 := [some (zr 32), some (zi z), some (zl x0), none, some (zl y0), none, some (zl x1), none, some (zl y1), none, some (zi 1), some (zi 1), some (zi (i + 1)), some (zi 0)]) (st1 := []) (w1 := wr c (zU R1 36 i 0)) g_X6_bar 2 _ _ _ _ rfl ?_
                          refine ih116 (Int.toNat ((cS c : Int) - (i + 1))) (by omega) 1 (i + 1) (zU R1 36 i 0) (some (zi 0)) (by omega) ?_
                          refine ⟨by omega, by omega, fun a h1 => by rw [zU_cell h1]; exact fr1 a h1, fun p a b => ?_, ?_⟩
                          · rw [zU_row]
                            by_cases y : p = i
                            · rw [y, up1_s, if_pos (by omega)]
                              rw [pI_f ib]
                              omega
                            · rw [up1_n y, z1 p a b]
                              by_cases y2 : p < i
                              · rw [if_pos y2, if_pos (by omega)]
                              · rw [if_neg y2, if_neg (by omega)]
                          · obtain ⟨p, a, b, d⟩ := bI_ne.mp (show bI (∃ p, 0 ≤ p ∧ p < i ∧ inB c z x0 y0 x1 y1 p ∧ R 36 p = 0) ≠ 0 by rw [← es]; exact h177)
                            exact (bI_t ⟨p, a, by omega, d⟩).symm
                      · refine zx_go (pc1 := 182) (l1 := [some (zr 32), some (zi z), some (zl x0), none, some (zl y0), none, some (zl x1), none, some (zl y1), none, some (zi 1), some (zi so), some (zi i), some (zi 0)]) (st1 := [zi 0]) (w1 := wr c R1) g_X6_bar 1 _ _ _ _ rfl ?_
                        refine zx_ifT g_X6_bar rfl (by decide) (show ((0 : Int) = 0) by decide) ?_
                        refine zx_go (pc1 := 214) (l1 := [some (zr 32), some (zi z), some (zl x0), none, some (zl y0), none, some (zl x1), none, some (zl y1), none, some (zi 1), some (zi 0), some (zi i), some (zi 0)]) (st1 := [zi i, zr 36, zi i, zr 36]) (w1 := wr c R1) g_X6_bar 8 _ _ _ _ rfl ?_
                        refine gz_bald g_X6_bar rfl (n := 1728) rfl (by decide) rfl (by decide) (by omega) (by omega) ?_
                        refine zx_if g_X6_bar rfl (by omega) (fun (h215 : (R1 36 i) ≠ 0) => ?_) (fun (h215 : ¬ (R1 36 i) ≠ 0) => ?_)
                        · refine zx_go (pc1 := 228) (l1 := [some (zr 32), some (zi z), some (zl x0), none, some (zl y0), none, some (zl x1), none, some (zl y1), none, some (zi 1), some (zi 0), some (zi i), some (zi 0)]) (st1 := [zi 1, zi i, zr 36]) (w1 := wr c R1) g_X6_bar 2 _ _ _ _ rfl ?_
                          refine gz_bast g_X6_bar rfl (n := 1728) rfl (by decide) (by refine ⟨?_, ?_, ?_, ?_, ?_⟩ <;> simp) (by decide) (by omega) (by omega) (.inr rfl) ?_
                          refine zx_go (pc1 := 116) (l1 := [some (zr 32), some (zi z), some (zl x0), none, some (zl y0), none, some (zl x1), none, some (zl y1), none, some (zi 1), some (zi 0), some (zi (i + 1)), some (zi 0)]) (st1 := []) (w1 := wr c (zU R1 36 i 1)) g_X6_bar 2 _ _ _ _ rfl ?_
                          refine ih116 (Int.toNat ((cS c : Int) - (i + 1))) (by omega) 0 (i + 1) (zU R1 36 i 1) (some (zi 0)) (by omega) ?_
                          refine ⟨by omega, by omega, fun a h1 => by rw [zU_cell h1]; exact fr1 a h1, fun p a b => ?_, ?_⟩
                          · rw [zU_row]
                            by_cases y : p = i
                            · rw [y, up1_s, if_pos (by omega)]
                              rw [pI_f ib]
                              omega
                            · rw [up1_n y, z1 p a b]
                              by_cases y2 : p < i
                              · rw [if_pos y2, if_pos (by omega)]
                              · rw [if_neg y2, if_neg (by omega)]
                          · refine (bI_f ?_).symm
                            rintro ⟨p, a, b, d1_v, d2_v⟩
                            by_cases y : p = i
                            · subst y
                              exact ib d1_v
                            · exact absurd (show bI (∃ p, 0 ≤ p ∧ p < i ∧ inB c z x0 y0 x1 y1 p ∧ R 36 p = 0) = 0 by rw [← es]; exact Classical.not_not.mp h177) (bI_ne.mpr ⟨p, a, by omega, d1_v, d2_v⟩)
                        · refine zx_go (pc1 := 220) (l1 := [some (zr 32), some (zi z), some (zl x0), none, some (zl y0), none, some (zl x1), none, some (zl y1), none, some (zi 1), some (zi 0), some (zi i), some (zi 0)]) (st1 := [zi 0, zi i, zr 36]) (w1 := wr c R1) g_X6_bar 1 _ _ _ _ rfl ?_
                          refine zx_ifT g_X6_bar rfl (by decide) (show ((0 : Int) = 0) by decide) ?_
                          refine zx_go (pc1 := 228) (l1 := [some (zr 32), some (zi z), some (zl x0), none, some (zl y0), none, some (zl x1), none, some (zl y1), none, some (zi 1), some (zi 0), some (zi i), some (zi 0)]) (st1 := [zi 0, zi i, zr 36]) (w1 := wr c R1) g_X6_bar 1 _ _ _ _ rfl ?_
                          refine gz_bast g_X6_bar rfl (n := 1728) rfl (by decide) (by refine ⟨?_, ?_, ?_, ?_, ?_⟩ <;> simp) (by decide) (by omega) (by omega) (.inl rfl) ?_
                          refine zx_go (pc1 := 116) (l1 := [some (zr 32), some (zi z), some (zl x0), none, some (zl y0), none, some (zl x1), none, some (zl y1), none, some (zi 1), some (zi 0), some (zi (i + 1)), some (zi 0)]) (st1 := []) (w1 := wr c (zU R1 36 i 0)) g_X6_bar 2 _ _ _ _ rfl ?_
                          refine ih116 (Int.toNat ((cS c : Int) - (i + 1))) (by omega) 0 (i + 1) (zU R1 36 i 0) (some (zi 0)) (by omega) ?_
                          refine ⟨by omega, by omega, fun a h1 => by rw [zU_cell h1]; exact fr1 a h1, fun p a b => ?_, ?_⟩
                          · rw [zU_row]
                            by_cases y : p = i
                            · rw [y, up1_s, if_pos (by omega)]
                              rw [pI_f ib]
                              omega
                            · rw [up1_n y, z1 p a b]
                              by_cases y2 : p < i
                              · rw [if_pos y2, if_pos (by omega)]
                              · rw [if_neg y2, if_neg (by omega)]
                          · refine (bI_f ?_).symm
                            rintro ⟨p, a, b, d1_v, d2_v⟩
                            by_cases y : p = i
                            · subst y
                              exact ib d1_v
                            · exact absurd (show bI (∃ p, 0 ≤ p ∧ p < i ∧ inB c z x0 y0 x1 y1 p ∧ R 36 p = 0) = 0 by rw [← es]; exact Classical.not_not.mp h177) (bI_ne.mpr ⟨p, a, by omega, d1_v, d2_v⟩)
                    · refine zx_go (pc1 := 173) (l1 := [some (zr 32), some (zi z), some (zl x0), none, some (zl y0), none, some (zl x1), none, some (zl y1), none, some (zi 1), some (zi so), some (zi i), o13]) (st1 := [zi 1]) (w1 := wr c R1) g_X6_bar 2 _ _ _ _ rfl ?_
                      have ib : inB c z x0 y0 x1 y1 i := ⟨Classical.not_not.mp h132, h148, h165⟩
                      refine zx_go (pc1 := 177) (l1 := [some (zr 32), some (zi z), some (zl x0), none, some (zl y0), none, some (zl x1), none, some (zl y1), none, some (zi 1), some (zi so), some (zi i), some (zi 1)]) (st1 := [zi so]) (w1 := wr c R1) g_X6_bar 2 _ _ _ _ rfl ?_
                      refine zx_if g_X6_bar rfl (by omega) (fun (h177 : so ≠ 0) => ?_) (fun (h177 : ¬ so ≠ 0) => ?_)
                      · refine zx_go (pc1 := 214) (l1 := [some (zr 32), some (zi z), some (zl x0), none, some (zl y0), none, some (zl x1), none, some (zl y1), none, some (zi 1), some (zi 1), some (zi i), some (zi 1)]) (st1 := [zi i, zr 36, zi i, zr 36]) (w1 := wr c R1) g_X6_bar 9 _ _ _ _ rfl ?_
                        refine gz_bald g_X6_bar rfl (n := 1728) rfl (by decide) rfl (by decide) (by omega) (by omega) ?_
                        refine zx_if g_X6_bar rfl (by omega) (fun (h215 : (R1 36 i) ≠ 0) => ?_) (fun (h215 : ¬ (R1 36 i) ≠ 0) => ?_)
                        · refine zx_go (pc1 := 228) (l1 := [some (zr 32), some (zi z), some (zl x0), none, some (zl y0), none, some (zl x1), none, some (zl y1), none, some (zi 1), some (zi 1), some (zi i), some (zi 1)]) (st1 := [zi 1, zi i, zr 36]) (w1 := wr c R1) g_X6_bar 2 _ _ _ _ rfl ?_
                          refine gz_bast g_X6_bar rfl (n := 1728) rfl (by decide) (by refine ⟨?_, ?_, ?_, ?_, ?_⟩ <;> simp) (by decide) (by omega) (by omega) (.inr rfl) ?_
                          refine zx_go (pc1 := 116) (l1 := [some (zr 32), some (zi z), some (zl x0), none, some (zl y0), none, some (zl x1), none, some (zl y1), none, some (zi 1), some (zi 1), some (zi (i + 1)), some (zi 1)]) (st1 := []) (w1 := wr c (zU R1 36 i 1)) g_X6_bar 2 _ _ _ _ rfl ?_
                          refine ih116 (Int.toNat ((cS c : Int) - (i + 1))) (by omega) 1 (i + 1) (zU R1 36 i 1) (some (zi 1)) (by omega) ?_
                          refine ⟨by omega, by omega, fun a h1 => by rw [zU_cell h1]; exact fr1 a h1, fun p a b => ?_, ?_⟩
                          · rw [zU_row]
                            by_cases y : p = i
                            · rw [y, up1_s, if_pos (by omega)]
                              rw [pI_t ib]
                            · rw [up1_n y, z1 p a b]
                              by_cases y2 : p < i
                              · rw [if_pos y2, if_pos (by omega)]
                              · rw [if_neg y2, if_neg (by omega)]
                          · obtain ⟨p, a, b, d⟩ := bI_ne.mp (show bI (∃ p, 0 ≤ p ∧ p < i ∧ inB c z x0 y0 x1 y1 p ∧ R 36 p = 0) ≠ 0 by rw [← es]; exact h177)
                            exact (bI_t ⟨p, a, by omega, d⟩).symm
                        · refine zx_go (pc1 := 220) (l1 := [some (zr 32), some (zi z), some (zl x0), none, some (zl y0), none, some (zl x1), none, some (zl y1), none, some (zi 1), some (zi 1), some (zi i), some (zi 1)]) (st1 := [zi 1, zi i, zr 36]) (w1 := wr c R1) g_X6_bar 1 _ _ _ _ rfl ?_
                          refine zx_ifF g_X6_bar rfl (by decide) (show ¬ ((1 : Int) = 0) by decide) ?_
                          refine zx_go (pc1 := 228) (l1 := [some (zr 32), some (zi z), some (zl x0), none, some (zl y0), none, some (zl x1), none, some (zl y1), none, some (zi 1), some (zi 1), some (zi i), some (zi 1)]) (st1 := [zi 1, zi i, zr 36]) (w1 := wr c R1) g_X6_bar 2 _ _ _ _ rfl ?_
                          refine gz_bast g_X6_bar rfl (n := 1728) rfl (by decide) (by refine ⟨?_, ?_, ?_, ?_, ?_⟩ <;> simp) (by decide) (by omega) (by omega) (.inr rfl) ?_
                          refine zx_go (pc1 := 116) (l1 := [some (zr 32), some (zi z), some (zl x0), none, some (zl y0), none, some (zl x1), none, some (zl y1), none, some (zi 1), some (zi 1), some (zi (i + 1)), some (zi 1)]) (st1 := []) (w1 := wr c (zU R1 36 i 1)) g_X6_bar 2 _ _ _ _ rfl ?_
                          refine ih116 (Int.toNat ((cS c : Int) - (i + 1))) (by omega) 1 (i + 1) (zU R1 36 i 1) (some (zi 1)) (by omega) ?_
                          refine ⟨by omega, by omega, fun a h1 => by rw [zU_cell h1]; exact fr1 a h1, fun p a b => ?_, ?_⟩
                          · rw [zU_row]
                            by_cases y : p = i
                            · rw [y, up1_s, if_pos (by omega)]
                              rw [pI_t ib]
                            · rw [up1_n y, z1 p a b]
                              by_cases y2 : p < i
                              · rw [if_pos y2, if_pos (by omega)]
                              · rw [if_neg y2, if_neg (by omega)]
                          · obtain ⟨p, a, b, d⟩ := bI_ne.mp (show bI (∃ p, 0 ≤ p ∧ p < i ∧ inB c z x0 y0 x1 y1 p ∧ R 36 p = 0) ≠ 0 by rw [← es]; exact h177)
                            exact (bI_t ⟨p, a, by omega, d⟩).symm
                      · refine zx_go (pc1 := 182) (l1 := [some (zr 32), some (zi z), some (zl x0), none, some (zl y0), none, some (zl x1), none, some (zl y1), none, some (zi 1), some (zi so), some (zi i), some (zi 1)]) (st1 := [zi 1]) (w1 := wr c R1) g_X6_bar 1 _ _ _ _ rfl ?_
                        refine zx_ifF g_X6_bar rfl (by decide) (show ¬ ((1 : Int) = 0) by decide) ?_
                        refine zx_go (pc1 := 191) (l1 := [some (zr 32), some (zi z), some (zl x0), none, some (zl y0), none, some (zl x1), none, some (zl y1), none, some (zi 1), some (zi so), some (zi i), some (zi 1)]) (st1 := [zi i, zr 36]) (w1 := wr c R1) g_X6_bar 3 _ _ _ _ rfl ?_
                        refine gz_bald g_X6_bar rfl (n := 1728) rfl (by decide) rfl (by decide) (by omega) (by omega) ?_
                        refine zx_if g_X6_bar rfl (by omega) (fun (h192 : (R1 36 i) ≠ 0) => ?_) (fun (h192 : ¬ (R1 36 i) ≠ 0) => ?_)
                        · refine zx_go (pc1 := 214) (l1 := [some (zr 32), some (zi z), some (zl x0), none, some (zl y0), none, some (zl x1), none, some (zl y1), none, some (zi 1), some (zi 0), some (zi i), some (zi 1)]) (st1 := [zi i, zr 36, zi i, zr 36]) (w1 := wr c R1) g_X6_bar 8 _ _ _ _ rfl ?_
                          refine gz_bald g_X6_bar rfl (n := 1728) rfl (by decide) rfl (by decide) (by omega) (by omega) ?_
                          refine zx_if g_X6_bar rfl (by omega) (fun (h215 : (R1 36 i) ≠ 0) => ?_) (fun (h215 : ¬ (R1 36 i) ≠ 0) => ?_)
                          · refine zx_go (pc1 := 228) (l1 := [some (zr 32), some (zi z), some (zl x0), none, some (zl y0), none, some (zl x1), none, some (zl y1), none, some (zi 1), some (zi 0), some (zi i), some (zi 1)]) (st1 := [zi 1, zi i, zr 36]) (w1 := wr c R1) g_X6_bar 2 _ _ _ _ rfl ?_
                            refine gz_bast g_X6_bar rfl (n := 1728) rfl (by decide) (by refine ⟨?_, ?_, ?_, ?_, ?_⟩ <;> simp) (by decide) (by omega) (by omega) (.inr rfl) ?_
                            refine zx_go (pc1 := 116) (l1 := [some (zr 32), some (zi z), some (zl x0), none, some (zl y0), none, some (zl x1), none, some (zl y1), none, some (zi 1), some (zi 0), some (zi (i + 1)), some (zi 1)]) (st1 := []) (w1 := wr c (zU R1 36 i 1)) g_X6_bar 2 _ _ _ _ rfl ?_
                            refine ih116 (Int.toNat ((cS c : Int) - (i + 1))) (by omega) 0 (i + 1) (zU R1 36 i 1) (some (zi 1)) (by omega) ?_
                            refine ⟨by omega, by omega, fun a h1 => by rw [zU_cell h1]; exact fr1 a h1, fun p a b => ?_, ?_⟩
                            · rw [zU_row]
                              by_cases y : p = i
                              · rw [y, up1_s, if_pos (by omega)]
                                rw [pI_t ib]
                              · rw [up1_n y, z1 p a b]
                                by_cases y2 : p < i
                                · rw [if_pos y2, if_pos (by omega)]
                                · rw [if_neg y2, if_neg (by omega)]
                            · refine (bI_f ?_).symm
                              rintro ⟨p, a, b, d1_v, d2_v⟩
                              by_cases y : p = i
                              · subst y
                                omega
                              · exact absurd (show bI (∃ p, 0 ≤ p ∧ p < i ∧ inB c z x0 y0 x1 y1 p ∧ R 36 p = 0) = 0 by rw [← es]; exact Classical.not_not.mp h177) (bI_ne.mpr ⟨p, a, by omega, d1_v, d2_v⟩)
                          · refine zx_go (pc1 := 220) (l1 := [some (zr 32), some (zi z), some (zl x0), none, some (zl y0), none, some (zl x1), none, some (zl y1), none, some (zi 1), some (zi 0), some (zi i), some (zi 1)]) (st1 := [zi 1, zi i, zr 36]) (w1 := wr c R1) g_X6_bar 1 _ _ _ _ rfl ?_
                            refine zx_ifF g_X6_bar rfl (by decide) (show ¬ ((1 : Int) = 0) by decide) ?_
                            refine zx_go (pc1 := 228) (l1 := [some (zr 32), some (zi z), some (zl x0), none, some (zl y0), none, some (zl x1), none, some (zl y1), none, some (zi 1), some (zi 0), some (zi i), some (zi 1)]) (st1 := [zi 1, zi i, zr 36]) (w1 := wr c R1) g_X6_bar 2 _ _ _ _ rfl ?_
                            refine gz_bast g_X6_bar rfl (n := 1728) rfl (by decide) (by refine ⟨?_, ?_, ?_, ?_, ?_⟩ <;> simp) (by decide) (by omega) (by omega) (.inr rfl) ?_
                            refine zx_go (pc1 := 116) (l1 := [some (zr 32), some (zi z), some (zl x0), none, some (zl y0), none, some (zl x1), none, some (zl y1), none, some (zi 1), some (zi 0), some (zi (i + 1)), some (zi 1)]) (st1 := []) (w1 := wr c (zU R1 36 i 1)) g_X6_bar 2 _ _ _ _ rfl ?_
                            refine ih116 (Int.toNat ((cS c : Int) - (i + 1))) (by omega) 0 (i + 1) (zU R1 36 i 1) (some (zi 1)) (by omega) ?_
                            refine ⟨by omega, by omega, fun a h1 => by rw [zU_cell h1]; exact fr1 a h1, fun p a b => ?_, ?_⟩
                            · rw [zU_row]
                              by_cases y : p = i
                              · rw [y, up1_s, if_pos (by omega)]
                                rw [pI_t ib]
                              · rw [up1_n y, z1 p a b]
                                by_cases y2 : p < i
                                · rw [if_pos y2, if_pos (by omega)]
                                · rw [if_neg y2, if_neg (by omega)]
                            · refine (bI_f ?_).symm
                              rintro ⟨p, a, b, d1_v, d2_v⟩
                              by_cases y : p = i
                              · subst y
                                omega
                              · exact absurd (show bI (∃ p, 0 ≤ p ∧ p < i ∧ inB c z x0 y0 x1 y1 p ∧ R 36 p = 0) = 0 by rw [← es]; exact Classical.not_not.mp h177) (bI_ne.mpr ⟨p, a, by omega, d1_v, d2_v⟩)
                        · refine zx_go (pc1 := 214) (l1 := [some (zr 32), some (zi z), some (zl x0), none, some (zl y0), none, some (zl x1), none, some (zl y1), none, some (zi 1), some (zi 1), some (zi i), some (zi 1)]) (st1 := [zi i, zr 36, zi i, zr 36]) (w1 := wr c R1) g_X6_bar 9 _ _ _ _ rfl ?_
                          refine gz_bald g_X6_bar rfl (n := 1728) rfl (by decide) rfl (by decide) (by omega) (by omega) ?_
                          refine zx_if g_X6_bar rfl (by omega) (fun (h215 : (R1 36 i) ≠ 0) => ?_) (fun (h215 : ¬ (R1 36 i) ≠ 0) => ?_)
                          · refine zx_go (pc1 := 228) (l1 := [some (zr 32), some (zi z), some (zl x0), none, some (zl y0), none, some (zl x1), none, some (zl y1), none, some (zi 1), some (zi 1), some (zi i), some (zi 1)]) (st1 := [zi 1, zi i, zr 36]) (w1 := wr c R1) g_X6_bar 2 _ _ _ _ rfl ?_
                            refine gz_bast g_X6_bar rfl (n := 1728) rfl (by decide) (by refine ⟨?_, ?_, ?_, ?_, ?_⟩ <;> simp) (by decide) (by omega) (by omega) (.inr rfl) ?_
                            refine zx_go (pc1 := 116) (l1 := [some (zr 32), some (zi z), some (zl x0), none, some (zl y0), none, some (zl x1), none, some (zl y1), none, some (zi 1), some (zi 1), some (zi (i + 1)), some (zi 1)]) (st1 := []) (w1 := wr c (zU R1 36 i 1)) g_X6_bar 2 _ _ _ _ rfl ?_
                            refine ih116 (Int.toNat ((cS c : Int) - (i + 1))) (by omega) 1 (i + 1) (zU R1 36 i 1) (some (zi 1)) (by omega) ?_
                            refine ⟨by omega, by omega, fun a h1 => by rw [zU_cell h1]; exact fr1 a h1, fun p a b => ?_, ?_⟩
                            · rw [zU_row]
                              by_cases y : p = i
                              · rw [y, up1_s, if_pos (by omega)]
                                rw [pI_t ib]
                              · rw [up1_n y, z1 p a b]
                                by_cases y2 : p < i
                                · rw [if_pos y2, if_pos (by omega)]
                                · rw [if_neg y2, if_neg (by omega)]
                            · exact (bI_t ⟨i, i0_v, by omega, ib, by omega⟩).symm
                          · refine zx_go (pc1 := 220) (l1 := [some (zr 32), some (zi z), some (zl x0), none, some (zl y0), none, some (zl x1), none, some (zl y1), none, some (zi 1), some (zi 1), some (zi i), some (zi 1)]) (st1 := [zi 1, zi i, zr 36]) (w1 := wr c R1) g_X6_bar 1 _ _ _ _ rfl ?_
                            refine zx_ifF g_X6_bar rfl (by decide) (show ¬ ((1 : Int) = 0) by decide) ?_
                            refine zx_go (pc1 := 228) (l1 := [some (zr 32), some (zi z), some (zl x0), none, some (zl y0), none, some (zl x1), none, some (zl y1), none, some (zi 1), some (zi 1), some (zi i), some (zi 1)]) (st1 := [zi 1, zi i, zr 36]) (w1 := wr c R1) g_X6_bar 2 _ _ _ _ rfl ?_
                            refine gz_bast g_X6_bar rfl (n := 1728) rfl (by decide) (by refine ⟨?_, ?_, ?_, ?_, ?_⟩ <;> simp) (by decide) (by omega) (by omega) (.inr rfl) ?_
                            refine zx_go (pc1 := 116) (l1 := [some (zr 32), some (zi z), some (zl x0), none, some (zl y0), none, some (zl x1), none, some (zl y1), none, some (zi 1), some (zi 1), some (zi (i + 1)), some (zi 1)]) (st1 := []) (w1 := wr c (zU R1 36 i 1)) g_X6_bar 2 _ _ _ _ rfl ?_
                            refine ih116 (Int.toNat ((cS c : Int) - (i + 1))) (by omega) 1 (i + 1) (zU R1 36 i 1) (some (zi 1)) (by omega) ?_
                            refine ⟨by omega, by omega, fun a h1 => by rw [zU_cell h1]; exact fr1 a h1, fun p a b => ?_, ?_⟩
                            · rw [zU_row]
                              by_cases y : p = i
                              · rw [y, up1_s, if_pos (by omega)]
                                rw [pI_t ib]
                              · rw [up1_n y, z1 p a b]
                                by_cases y2 : p < i
                                · rw [if_pos y2, if_pos (by omega)]
                                · rw [if_neg y2, if_neg (by omega)]
                            · exact (bI_t ⟨i, i0_v, by omega, ib, by omega⟩).symm
            refine lp116 (Int.toNat ((cS c : Int) - 0)) 0 0 R9 none (by omega) ?_
            refine ⟨by omega, by omega, fun _ _ => rfl, fun p a b => ?_, ?_⟩
            · rw [if_neg (by omega), f9_v 36 (by decide)]
            · refine (bI_f ?_).symm
              rintro ⟨p, a, b, _⟩
              omega
          · refine zx_go (pc1 := 102) (l1 := [some (zr 32), some (zi z), some (zl x0), none, some (zl y0), none, some (zl x1), none, some (zl y1), none, some (zi 1), none, none, none]) (st1 := [zi 1, zr 32]) (w1 := wr c R) g_X6_bar 2 _ _ _ _ rfl ?_
            refine gx_cvG (As := [zi 1]) (rest := []) g_X6_bar rfl g_X6_refuses rfl rfl (Nat.le_of_ble_eq_true rfl) (Nat.le_of_ble_eq_true rfl) rfl (by decide) (m_ref (v := 1) (by decide) (bI_t (by decide))) ?_
            refine zx_ifF g_X6_bar rfl (by decide) (show ¬ ((1 : Int) = 0) by decide) ?_
            refine zx_go (pc1 := 109) (l1 := [some (zr 32), some (zi z), some (zl x0), none, some (zl y0), none, some (zl x1), none, some (zl y1), none, some (zi 1), none, none, none]) (st1 := [zi 0]) (w1 := wr c (zU R 32 0 1)) g_X6_bar 1 _ _ _ _ rfl ?_
            refine zx_iret g_X6_bar rfl (.inr (.inl rfl)) ?_
            exact mP_1 (cdv1 (by omega))

set_option maxHeartbeats 1000000 in
theorem m_shield {c : zC} {R : zI} {n : Int} (nr1 : inR n) (h0 : 0 ≤ R 32 8) (h1 : R 32 8 ≤ 16) (h37 : ∀ n, 0 ≤ n → n < 16 → R 37 n = 0 ∨ R 37 n = 1) : MZ m_X6_shield [zr 32, zi n] (wr c R) (mP (cdv (¬ (0 ≤ n ∧ n < R 32 8)) False) (fun b R2 => b = bI (R 37 n = 0) ∧ R2 = zU (zU (zU R 32 0 0) 32 14 0) 37 n (bI (R 37 n = 0))) c R) := by
  refine MZ.of g_X6_shield ?_
  show ZX m_X6_shield 0 [some (zr 32), some (zi n)] [] (wr c R) _
  refine zx_go (pc1 := 3) (l1 := [some (zr 32), some (zi n)]) (st1 := [zi n, zr 32, zr 32]) (w1 := wr c R) g_X6_shield 3 _ _ _ _ rfl ?_
  refine zx_cvF (As := [zi n]) (rest := [zr 32]) g_X6_shield rfl g_X6_isNet rfl rfl (Nat.le_of_ble_eq_true rfl) (Nat.le_of_ble_eq_true rfl) rfl (by decide) (m_isNet (by omega) (by omega)) ?_
  refine zx_ifne g_X6_shield rfl (fun (h6 : (0 ≤ n ∧ n < R 32 8)) => ?_) (fun (h6 : ¬ (0 ≤ n ∧ n < R 32 8)) => ?_)
  · refine zx_go (pc1 := 14) (l1 := [some (zr 32), some (zi n)]) (st1 := [zi 0, zr 32]) (w1 := wr c R) g_X6_shield 1 _ _ _ _ rfl ?_
    refine gx_cvG (As := [zi 0]) (rest := []) g_X6_shield rfl g_X6_refuses rfl rfl (Nat.le_of_ble_eq_true rfl) (Nat.le_of_ble_eq_true rfl) rfl (by decide) (m_ref (v := 0) (by decide) (bI_f (by decide))) ?_
    refine zx_ifT g_X6_shield rfl (by decide) (show ((0 : Int) = 0) by decide) ?_
    refine zx_go (pc1 := 24) (l1 := [some (zr 32), some (zi n)]) (st1 := [zi 0, zr 32]) (w1 := wr c (zU R 32 0 0)) g_X6_shield 2 _ _ _ _ rfl ?_
    refine gz_putb 14 g_X6_shield rfl rfl rfl (by decide) rfl (by refine ⟨?_, ?_, ?_, ?_, ?_⟩ <;> simp) (.inl rfl) ?_
    have h37n := h37 n (by omega) (by omega)
    refine zx_go (pc1 := 37) (l1 := [some (zr 32), some (zi n)]) (st1 := [zi n, zr 37, zi n, zr 37]) (w1 := wr c (zU (zU R 32 0 0) 32 14 0)) g_X6_shield 6 _ _ _ _ rfl ?_
    refine gz_bald g_X6_shield rfl (n := 16) rfl (by decide) rfl (by decide) (by omega) (by omega) ?_
    skip
    refine zx_if g_X6_shield rfl (by rw [zU_cell' (by decide), zU_cell' (by decide)]; omega) (fun (h38 : ((zU (zU R 32 0 0) 32 14 0) 37 n) ≠ 0) => ?_) (fun (h38 : ¬ ((zU (zU R 32 0 0) 32 14 0) 37 n) ≠ 0) => ?_)
    · refine zx_go (pc1 := 46) (l1 := [some (zr 32), some (zi n)]) (st1 := [zi 0, zi n, zr 37]) (w1 := wr c (zU (zU R 32 0 0) 32 14 0)) g_X6_shield 1 _ _ _ _ rfl ?_
      refine gz_bast g_X6_shield rfl (n := 16) rfl (by decide) (by refine ⟨?_, ?_, ?_, ?_, ?_⟩ <;> simp) (by decide) (by omega) (by omega) (.inl rfl) ?_
      refine zx_go (pc1 := 52) (l1 := [some (zr 32), some (zi n)]) (st1 := [zi n, zr 37]) (w1 := wr c (zU (zU (zU R 32 0 0) 32 14 0) 37 n 0)) g_X6_shield 3 _ _ _ _ rfl ?_
      refine gz_bald g_X6_shield rfl (n := 16) rfl (by decide) rfl (by decide) (by omega) (by omega) ?_
      refine zx_iret g_X6_shield rfl (.inr (by rw [zU_same]; first | exact .inl rfl | exact .inr rfl)) ?_
      have e37 : (zU (zU R 32 0 0) 32 14 0) 37 n = R 37 n := by rw [zU_cell' (by decide), zU_cell' (by decide)]
      refine mP_0 (cdv0 (fun z => z h6) id) ⟨?_, ?_⟩
      · rw [zU_same]
        exact (bI_f (by omega)).symm
      · rw [bI_f (by omega)]
    · refine zx_go (pc1 := 46) (l1 := [some (zr 32), some (zi n)]) (st1 := [zi 1, zi n, zr 37]) (w1 := wr c (zU (zU R 32 0 0) 32 14 0)) g_X6_shield 2 _ _ _ _ rfl ?_
      refine gz_bast g_X6_shield rfl (n := 16) rfl (by decide) (by refine ⟨?_, ?_, ?_, ?_, ?_⟩ <;> simp) (by decide) (by omega) (by omega) (.inr rfl) ?_
      refine zx_go (pc1 := 52) (l1 := [some (zr 32), some (zi n)]) (st1 := [zi n, zr 37]) (w1 := wr c (zU (zU (zU R 32 0 0) 32 14 0) 37 n 1)) g_X6_shield 3 _ _ _ _ rfl ?_
      refine gz_bald g_X6_shield rfl (n := 16) rfl (by decide) rfl (by decide) (by omega) (by omega) ?_
      refine zx_iret g_X6_shield rfl (.inr (by rw [zU_same]; first | exact .inl rfl | exact .inr rfl)) ?_
      have e37 : (zU (zU R 32 0 0) 32 14 0) 37 n = R 37 n := by rw [zU_cell' (by decide), zU_cell' (by decide)]
      refine mP_0 (cdv0 (fun z => z h6) id) ⟨?_, ?_⟩
      · rw [zU_same]
        exact (bI_t (by omega)).symm
      · rw [bI_t (by omega)]
  · refine zx_go (pc1 := 14) (l1 := [some (zr 32), some (zi n)]) (st1 := [zi 1, zr 32]) (w1 := wr c R) g_X6_shield 2 _ _ _ _ rfl ?_
    refine gx_cvG (As := [zi 1]) (rest := []) g_X6_shield rfl g_X6_refuses rfl rfl (Nat.le_of_ble_eq_true rfl) (Nat.le_of_ble_eq_true rfl) rfl (by decide) (m_ref (v := 1) (by decide) (bI_t (by decide))) ?_
    refine zx_ifF g_X6_shield rfl (by decide) (show ¬ ((1 : Int) = 0) by decide) ?_
    refine zx_go (pc1 := 21) (l1 := [some (zr 32), some (zi n)]) (st1 := [zi 0]) (w1 := wr c (zU R 32 0 1)) g_X6_shield 1 _ _ _ _ rfl ?_
    refine zx_iret g_X6_shield rfl (.inr (.inl rfl)) ?_
    exact mP_1 (cdv1 h6)

