/-! ===== contracts (1): small methods of the class ===== -/
/-- the place beside, or -1 -/
def bes (c : zC) (p d : Int) : Int :=
  if d = 0 then (if 0 < xo c p then p - 1 else -1) else if d = 1 then (if xo c p < cW c - 1 then p + 1 else -1) else
  if d = 2 then (if 0 < yo c p then p - cW c else -1) else if d = 3 then (if yo c p < cH c - 1 then p + cW c else -1) else
  if d = 4 then (if 0 < lay c p then p - cW c * cH c else -1) else if d = 5 then (if lay c p < cLa c - 1 then p + cW c * cH c else -1) else -1

set_option maxHeartbeats 1000000 in
theorem s_isIn {c : zC} {R : zI} (m n : Int) : MZ m_X5_isIn [zi m, zi n] (wr c R) (qF (zi (bI (tb m n))) (wr c R)) := by
  refine MZ.of g_X5_isIn ?_
  show ZX m_X5_isIn 0 [some (zi m), some (zi n)] [] (wr c R) _
  refine zx_go (pc1 := 2) (l1 := [some (zi m), some (zi n)]) (st1 := [zi n, zi m]) (w1 := wr c R) g_X5_isIn 2 _ _ _ _ rfl ?_
  refine zx_go (pc1 := 3) (l1 := [some (zi m), some (zi n)]) (st1 := [zi (zshr m n)]) (w1 := wr c R) g_X5_isIn 1 _ _ _ _ rfl ?_
  refine zx_go (pc1 := 4) (l1 := [some (zi m), some (zi n)]) (st1 := [zi 1, zi (zshr m n)]) (w1 := wr c R) g_X5_isIn 1 _ _ _ _ rfl ?_
  refine zx_go (pc1 := 5) (l1 := [some (zi m), some (zi n)]) (st1 := [zi (zand (zshr m n) 1)]) (w1 := wr c R) g_X5_isIn 1 _ _ _ _ rfl ?_
  refine zx_if g_X5_isIn rfl (zand_R _ _) (fun (h5 : (zand (zshr m n) 1) = 0) => ?_) (fun (h5 : ¬ (zand (zshr m n) 1) = 0) => ?_)
  · refine zx_go (pc1 := 13) (l1 := [some (zi m), some (zi n)]) (st1 := [zi 0]) (w1 := wr c R) g_X5_isIn 1 _ _ _ _ rfl ?_
    refine zx_iret g_X5_isIn rfl (.inr (.inl rfl)) ?_
    exact qF_f (fun q => q h5)
  · refine zx_go (pc1 := 13) (l1 := [some (zi m), some (zi n)]) (st1 := [zi 1]) (w1 := wr c R) g_X5_isIn 2 _ _ _ _ rfl ?_
    refine zx_iret g_X5_isIn rfl (.inr (.inr rfl)) ?_
    exact qF_t (by first | exact h5 | (intro q; exact h5 q))

set_option maxHeartbeats 1000000 in
theorem s_placeAt {c : zC} {R : zI} (z x y : Int) : MZ m_X2_placeAt [zr 2, zi z, zi x, zi y] (wr c R) (qF (zi (pl c z x y)) (wr c R)) := by
  refine MZ.of g_X2_placeAt ?_
  show ZX m_X2_placeAt 0 [some (zr 2), some (zi z), some (zi x), some (zi y)] [] (wr c R) _
  refine zx_go (pc1 := 15) (l1 := [some (zr 2), some (zi z), some (zi x), some (zi y)]) (st1 := [zi (((z * (cW c * cH c)) + (y * (cW c))) + x)]) (w1 := wr c R) g_X2_placeAt 11 _ _ _ _ rfl ?_
  refine zx_iret g_X2_placeAt rfl (.inl rfl) ?_
  exact qF_i (by rfl)

set_option maxHeartbeats 1000000 in
theorem s_beside {c : zC} {R : zI} (hg : Geo c) {p : Int} (h0 : 0 ≤ p) (h1 : p < (cS c : Int)) {d : Int} (hd : inR d) : MZ m_X2_beside [zr 2, zi p, zi d] (wr c R) (qF (zi (bes c p d)) (wr c R)) := by
  refine MZ.of g_X2_beside ?_
  show ZX m_X2_beside 0 [some (zr 2), some (zi p), some (zi d)] [] (wr c R) _
  have g1 := place_geo hg h0 h1; have g2 := hg; unfold Geo at g2; have g3 := hg.S
  refine zx_go (pc1 := 1) (l1 := [some (zr 2), some (zi p), some (zi d)]) (st1 := [zi d]) (w1 := wr c R) g_X2_beside 1 _ _ _ _ rfl ?_
  by_cases h1_0 : d = 0
  · refine zx_swE g_X2_beside rfl h1_0 (by decide) (t := 40) rfl ?_
    refine zx_go (pc1 := 45) (l1 := [some (zr 2), some (zi p), some (zi d)]) (st1 := [zi p, zr 7]) (w1 := wr c R) g_X2_beside 3 _ _ _ _ rfl ?_
    refine gz_ld7 g_X2_beside rfl hg (by omega) (by omega) ?_
    refine zx_if g_X2_beside rfl (by omega) (fun (h46 : (xo c p) ≤ 0) => ?_) (fun (h46 : ¬ (xo c p) ≤ 0) => ?_)
    · refine zx_go (pc1 := 56) (l1 := [some (zr 2), some (zi p), some (zi d)]) (st1 := [zi (-1)]) (w1 := wr c R) g_X2_beside 1 _ _ _ _ rfl ?_
      refine zx_iret g_X2_beside rfl (.inl rfl) ?_
      refine qF_i ?_
      unfold bes
      omega
    · refine zx_go (pc1 := 56) (l1 := [some (zr 2), some (zi p), some (zi d)]) (st1 := [zi (p - 1)]) (w1 := wr c R) g_X2_beside 4 _ _ _ _ rfl ?_
      refine zx_iret g_X2_beside rfl (.inl rfl) ?_
      refine qF_i ?_
      unfold bes
      omega
  · skip
    by_cases h1_1 : d = 1
    · refine zx_swE g_X2_beside rfl h1_1 (by decide) (t := 57) rfl ?_
      refine zx_go (pc1 := 62) (l1 := [some (zr 2), some (zi p), some (zi d)]) (st1 := [zi p, zr 7]) (w1 := wr c R) g_X2_beside 3 _ _ _ _ rfl ?_
      refine gz_ld7 g_X2_beside rfl hg (by omega) (by omega) ?_
      refine zx_go (pc1 := 69) (l1 := [some (zr 2), some (zi p), some (zi d)]) (st1 := [zi ((cW c) - 1), zi (xo c p)]) (w1 := wr c R) g_X2_beside 4 _ _ _ _ rfl ?_
      refine zx_cmp g_X2_beside rfl (by omega) (by omega) (fun (h69 : ((cW c) - 1) ≤ (xo c p)) => ?_) (fun (h69 : ¬ (((cW c) - 1) ≤ (xo c p))) => ?_)
      · refine zx_go (pc1 := 79) (l1 := [some (zr 2), some (zi p), some (zi d)]) (st1 := [zi (-1)]) (w1 := wr c R) g_X2_beside 1 _ _ _ _ rfl ?_
        refine zx_iret g_X2_beside rfl (.inl rfl) ?_
        refine qF_i ?_
        unfold bes
        omega
      · refine zx_go (pc1 := 79) (l1 := [some (zr 2), some (zi p), some (zi d)]) (st1 := [zi (p + 1)]) (w1 := wr c R) g_X2_beside 4 _ _ _ _ rfl ?_
        refine zx_iret g_X2_beside rfl (.inl rfl) ?_
        refine qF_i ?_
        unfold bes
        omega
    · skip
      by_cases h1_2 : d = 2
      · refine zx_swE g_X2_beside rfl h1_2 (by decide) (t := 80) rfl ?_
        refine zx_go (pc1 := 85) (l1 := [some (zr 2), some (zi p), some (zi d)]) (st1 := [zi p, zr 8]) (w1 := wr c R) g_X2_beside 3 _ _ _ _ rfl ?_
        refine gz_ld8 g_X2_beside rfl hg (by omega) (by omega) ?_
        refine zx_if g_X2_beside rfl (by omega) (fun (h86 : (yo c p) ≤ 0) => ?_) (fun (h86 : ¬ (yo c p) ≤ 0) => ?_)
        · refine zx_go (pc1 := 99) (l1 := [some (zr 2), some (zi p), some (zi d)]) (st1 := [zi (-1)]) (w1 := wr c R) g_X2_beside 1 _ _ _ _ rfl ?_
          refine zx_iret g_X2_beside rfl (.inl rfl) ?_
          refine qF_i ?_
          unfold bes
          omega
        · refine zx_go (pc1 := 99) (l1 := [some (zr 2), some (zi p), some (zi d)]) (st1 := [zi (p - (cW c))]) (w1 := wr c R) g_X2_beside 5 _ _ _ _ rfl ?_
          refine zx_iret g_X2_beside rfl (.inl rfl) ?_
          refine qF_i ?_
          unfold bes
          omega
      · skip
        by_cases h1_3 : d = 3
        · refine zx_swE g_X2_beside rfl h1_3 (by decide) (t := 100) rfl ?_
          refine zx_go (pc1 := 105) (l1 := [some (zr 2), some (zi p), some (zi d)]) (st1 := [zi p, zr 8]) (w1 := wr c R) g_X2_beside 3 _ _ _ _ rfl ?_
          refine gz_ld8 g_X2_beside rfl hg (by omega) (by omega) ?_
          refine zx_go (pc1 := 112) (l1 := [some (zr 2), some (zi p), some (zi d)]) (st1 := [zi ((cH c) - 1), zi (yo c p)]) (w1 := wr c R) g_X2_beside 4 _ _ _ _ rfl ?_
          refine zx_cmp g_X2_beside rfl (by omega) (by omega) (fun (h112 : ((cH c) - 1) ≤ (yo c p)) => ?_) (fun (h112 : ¬ (((cH c) - 1) ≤ (yo c p))) => ?_)
          · refine zx_go (pc1 := 125) (l1 := [some (zr 2), some (zi p), some (zi d)]) (st1 := [zi (-1)]) (w1 := wr c R) g_X2_beside 1 _ _ _ _ rfl ?_
            refine zx_iret g_X2_beside rfl (.inl rfl) ?_
            refine qF_i ?_
            unfold bes
            omega
          · refine zx_go (pc1 := 125) (l1 := [some (zr 2), some (zi p), some (zi d)]) (st1 := [zi (p + (cW c))]) (w1 := wr c R) g_X2_beside 5 _ _ _ _ rfl ?_
            refine zx_iret g_X2_beside rfl (.inl rfl) ?_
            refine qF_i ?_
            unfold bes
            omega
        · skip
          by_cases h1_4 : d = 4
          · refine zx_swE g_X2_beside rfl h1_4 (by decide) (t := 126) rfl ?_
            refine zx_go (pc1 := 131) (l1 := [some (zr 2), some (zi p), some (zi d)]) (st1 := [zi p, zr 6]) (w1 := wr c R) g_X2_beside 3 _ _ _ _ rfl ?_
            refine gz_ld6 g_X2_beside rfl hg (by omega) (by omega) ?_
            refine zx_if g_X2_beside rfl (by omega) (fun (h132 : (lay c p) ≤ 0) => ?_) (fun (h132 : ¬ (lay c p) ≤ 0) => ?_)
            · refine zx_go (pc1 := 145) (l1 := [some (zr 2), some (zi p), some (zi d)]) (st1 := [zi (-1)]) (w1 := wr c R) g_X2_beside 1 _ _ _ _ rfl ?_
              refine zx_iret g_X2_beside rfl (.inl rfl) ?_
              refine qF_i ?_
              unfold bes
              omega
            · refine zx_go (pc1 := 145) (l1 := [some (zr 2), some (zi p), some (zi d)]) (st1 := [zi (p - (cW c * cH c))]) (w1 := wr c R) g_X2_beside 5 _ _ _ _ rfl ?_
              refine zx_iret g_X2_beside rfl (.inl rfl) ?_
              refine qF_i ?_
              unfold bes
              omega
          · skip
            by_cases h1_5 : d = 5
            · refine zx_swE g_X2_beside rfl h1_5 (by decide) (t := 146) rfl ?_
              refine zx_go (pc1 := 151) (l1 := [some (zr 2), some (zi p), some (zi d)]) (st1 := [zi p, zr 6]) (w1 := wr c R) g_X2_beside 3 _ _ _ _ rfl ?_
              refine gz_ld6 g_X2_beside rfl hg (by omega) (by omega) ?_
              refine zx_go (pc1 := 158) (l1 := [some (zr 2), some (zi p), some (zi d)]) (st1 := [zi ((cLa c) - 1), zi (lay c p)]) (w1 := wr c R) g_X2_beside 4 _ _ _ _ rfl ?_
              refine zx_cmp g_X2_beside rfl (by omega) (by omega) (fun (h158 : ((cLa c) - 1) ≤ (lay c p)) => ?_) (fun (h158 : ¬ (((cLa c) - 1) ≤ (lay c p))) => ?_)
              · refine zx_go (pc1 := 171) (l1 := [some (zr 2), some (zi p), some (zi d)]) (st1 := [zi (-1)]) (w1 := wr c R) g_X2_beside 1 _ _ _ _ rfl ?_
                refine zx_iret g_X2_beside rfl (.inl rfl) ?_
                refine qF_i ?_
                unfold bes
                omega
              · refine zx_go (pc1 := 171) (l1 := [some (zr 2), some (zi p), some (zi d)]) (st1 := [zi (p + (cW c * cH c))]) (w1 := wr c R) g_X2_beside 5 _ _ _ _ rfl ?_
                refine zx_iret g_X2_beside rfl (.inl rfl) ?_
                refine qF_i ?_
                unfold bes
                omega
            · skip
              refine zx_swD g_X2_beside rfl (by omega) (by omega) (t := 172) rfl ?_
              refine zx_go (pc1 := 173) (l1 := [some (zr 2), some (zi p), some (zi d)]) (st1 := [zi (-1)]) (w1 := wr c R) g_X2_beside 1 _ _ _ _ rfl ?_
              refine zx_iret g_X2_beside rfl (.inl rfl) ?_
              refine qF_i ?_
              unfold bes
              omega

/-- what a step between neighbours costs -/
def scost (c : zC) (vi jg : Int → Int) (p q : Int) : Int := if lay c q ≠ lay c p then vi (min (lay c p) (lay c q)) else if (yo c p = yo c q ↔ lay c p % 2 = 0) then 1 else 1 + jg (lay c p)

set_option maxHeartbeats 1000000 in
theorem s_stepCost {c : zC} {R : zI} (hg : Geo c) {p q : Int} (h0 : 0 ≤ p) (h1 : p < (cS c : Int)) (h2 : 0 ≤ q) (h3 : q < (cS c : Int)) : MZ m_X2_stepCost [zr 2, zi p, zi q] (wr c R) (qF (zi (scost c (R 5) (R 4) p q)) (wr c R)) := by
  refine MZ.of g_X2_stepCost ?_
  show ZX m_X2_stepCost 0 [some (zr 2), some (zi p), some (zi q), none, none, none] [] (wr c R) _
  have g1 := place_geo hg h0 h1; have g0 := place_geo hg h2 h3; have g2 := hg; unfold Geo at g2; have g3 := hg.S
  refine zx_go (pc1 := 5) (l1 := [some (zr 2), some (zi p), some (zi q), none, none, none]) (st1 := [zi p, zr 6]) (w1 := wr c R) g_X2_stepCost 3 _ _ _ _ rfl ?_
  refine gz_ld6 g_X2_stepCost rfl hg (by omega) (by omega) ?_
  refine zx_go (pc1 := 12) (l1 := [some (zr 2), some (zi p), some (zi q), some (zi (lay c p)), none, none]) (st1 := [zi q, zr 6]) (w1 := wr c R) g_X2_stepCost 4 _ _ _ _ rfl ?_
  refine gz_ld6 g_X2_stepCost rfl hg (by omega) (by omega) ?_
  refine zx_go (pc1 := 14) (l1 := [some (zr 2), some (zi p), some (zi q), some (zi (lay c p)), none, none]) (st1 := [zi (lay c p), zi (lay c q)]) (w1 := wr c R) g_X2_stepCost 1 _ _ _ _ rfl ?_
  refine zx_cmp g_X2_stepCost rfl (by omega) (by omega) (fun (h14 : (lay c q) = (lay c p)) => ?_) (fun (h14 : ¬ ((lay c q) = (lay c p))) => ?_)
  · refine zx_go (pc1 := 38) (l1 := [some (zr 2), some (zi p), some (zi q), some (zi (lay c p)), none, none]) (st1 := [zi p, zr 8]) (w1 := wr c R) g_X2_stepCost 3 _ _ _ _ rfl ?_
    refine gz_ld8 g_X2_stepCost rfl hg (by omega) (by omega) ?_
    refine zx_go (pc1 := 44) (l1 := [some (zr 2), some (zi p), some (zi q), some (zi (lay c p)), none, none]) (st1 := [zi q, zr 8, zi (yo c p)]) (w1 := wr c R) g_X2_stepCost 3 _ _ _ _ rfl ?_
    refine gz_ld8 g_X2_stepCost rfl hg (by omega) (by omega) ?_
    refine zx_cmp g_X2_stepCost rfl (by omega) (by omega) (fun (h45 : (yo c p) ≠ (yo c q)) => ?_) (fun (h45 : ¬ ((yo c p) ≠ (yo c q))) => ?_)
    · refine zx_go (pc1 := 57) (l1 := [some (zr 2), some (zi p), some (zi q), some (zi (lay c p)), some (zi 0), none]) (st1 := [zi 2, zi (lay c p)]) (w1 := wr c R) g_X2_stepCost 4 _ _ _ _ rfl ?_
      refine zx_irem g_X2_stepCost rfl (by omega) (by omega) (by omega) (by omega) ?_
      refine zx_if g_X2_stepCost rfl (by omega) (fun (h58 : ((lay c p) % 2) ≠ 0) => ?_) (fun (h58 : ¬ ((lay c p) % 2) ≠ 0) => ?_)
      · refine zx_go (pc1 := 72) (l1 := [some (zr 2), some (zi p), some (zi q), some (zi (lay c p)), some (zi 0), some (zi 0)]) (st1 := [zi 0, zi 0]) (w1 := wr c R) g_X2_stepCost 4 _ _ _ _ rfl ?_
        refine zx_cmp g_X2_stepCost rfl (by decide) (by decide) (fun (h72 : 0 ≠ 0) => ?_) (fun (h72 : ¬ (0 ≠ 0)) => ?_)
        · refine zx_go (pc1 := 85) (l1 := [some (zr 2), some (zi p), some (zi q), some (zi (lay c p)), some (zi 0), some (zi 0)]) (st1 := [zi (lay c p), zr 4, zi 1]) (w1 := wr c R) g_X2_stepCost 4 _ _ _ _ rfl ?_
          refine gz_iald g_X2_stepCost rfl (n := 3) rfl (by decide) rfl (by decide) (by omega) (by omega) ?_
          refine zx_go (pc1 := 87) (l1 := [some (zr 2), some (zi p), some (zi q), some (zi (lay c p)), some (zi 0), some (zi 0)]) (st1 := [zi (1 + (R 4 (lay c p)))]) (w1 := wr c R) g_X2_stepCost 1 _ _ _ _ rfl ?_
          refine zx_iret g_X2_stepCost rfl (.inl rfl) ?_
          refine qF_i ?_
          unfold scost
          first | (rw [if_pos (by omega)]; done) | (rw [if_neg (by omega), if_pos (by omega)]; done) | (rw [if_neg (by omega), if_neg (by omega)]; done)
        · refine zx_go (pc1 := 87) (l1 := [some (zr 2), some (zi p), some (zi q), some (zi (lay c p)), some (zi 0), some (zi 0)]) (st1 := [zi 1]) (w1 := wr c R) g_X2_stepCost 2 _ _ _ _ rfl ?_
          refine zx_iret g_X2_stepCost rfl (.inl rfl) ?_
          refine qF_i ?_
          unfold scost
          first | (rw [if_pos (by omega)]; done) | (rw [if_neg (by omega), if_pos (by omega)]; done) | (rw [if_neg (by omega), if_neg (by omega)]; done)
      · refine zx_go (pc1 := 72) (l1 := [some (zr 2), some (zi p), some (zi q), some (zi (lay c p)), some (zi 0), some (zi 1)]) (st1 := [zi 1, zi 0]) (w1 := wr c R) g_X2_stepCost 5 _ _ _ _ rfl ?_
        refine zx_cmp g_X2_stepCost rfl (by decide) (by decide) (fun (h72 : 0 ≠ 1) => ?_) (fun (h72 : ¬ (0 ≠ 1)) => ?_)
        · refine zx_go (pc1 := 85) (l1 := [some (zr 2), some (zi p), some (zi q), some (zi (lay c p)), some (zi 0), some (zi 1)]) (st1 := [zi (lay c p), zr 4, zi 1]) (w1 := wr c R) g_X2_stepCost 4 _ _ _ _ rfl ?_
          refine gz_iald g_X2_stepCost rfl (n := 3) rfl (by decide) rfl (by decide) (by omega) (by omega) ?_
          refine zx_go (pc1 := 87) (l1 := [some (zr 2), some (zi p), some (zi q), some (zi (lay c p)), some (zi 0), some (zi 1)]) (st1 := [zi (1 + (R 4 (lay c p)))]) (w1 := wr c R) g_X2_stepCost 1 _ _ _ _ rfl ?_
          refine zx_iret g_X2_stepCost rfl (.inl rfl) ?_
          refine qF_i ?_
          unfold scost
          first | (rw [if_pos (by omega)]; done) | (rw [if_neg (by omega), if_pos (by omega)]; done) | (rw [if_neg (by omega), if_neg (by omega)]; done)
        · refine zx_go (pc1 := 87) (l1 := [some (zr 2), some (zi p), some (zi q), some (zi (lay c p)), some (zi 0), some (zi 1)]) (st1 := [zi 1]) (w1 := wr c R) g_X2_stepCost 2 _ _ _ _ rfl ?_
          refine zx_iret g_X2_stepCost rfl (.inl rfl) ?_
          refine qF_i ?_
          unfold scost
          first | (rw [if_pos (by omega)]; done) | (rw [if_neg (by omega), if_pos (by omega)]; done) | (rw [if_neg (by omega), if_neg (by omega)]; done)
    · refine zx_go (pc1 := 57) (l1 := [some (zr 2), some (zi p), some (zi q), some (zi (lay c p)), some (zi 1), none]) (st1 := [zi 2, zi (lay c p)]) (w1 := wr c R) g_X2_stepCost 5 _ _ _ _ rfl ?_
      refine zx_irem g_X2_stepCost rfl (by omega) (by omega) (by omega) (by omega) ?_
      refine zx_if g_X2_stepCost rfl (by omega) (fun (h58 : ((lay c p) % 2) ≠ 0) => ?_) (fun (h58 : ¬ ((lay c p) % 2) ≠ 0) => ?_)
      · refine zx_go (pc1 := 72) (l1 := [some (zr 2), some (zi p), some (zi q), some (zi (lay c p)), some (zi 1), some (zi 0)]) (st1 := [zi 0, zi 1]) (w1 := wr c R) g_X2_stepCost 4 _ _ _ _ rfl ?_
        refine zx_cmp g_X2_stepCost rfl (by decide) (by decide) (fun (h72 : 1 ≠ 0) => ?_) (fun (h72 : ¬ (1 ≠ 0)) => ?_)
        · refine zx_go (pc1 := 85) (l1 := [some (zr 2), some (zi p), some (zi q), some (zi (lay c p)), some (zi 1), some (zi 0)]) (st1 := [zi (lay c p), zr 4, zi 1]) (w1 := wr c R) g_X2_stepCost 4 _ _ _ _ rfl ?_
          refine gz_iald g_X2_stepCost rfl (n := 3) rfl (by decide) rfl (by decide) (by omega) (by omega) ?_
          refine zx_go (pc1 := 87) (l1 := [some (zr 2), some (zi p), some (zi q), some (zi (lay c p)), some (zi 1), some (zi 0)]) (st1 := [zi (1 + (R 4 (lay c p)))]) (w1 := wr c R) g_X2_stepCost 1 _ _ _ _ rfl ?_
          refine zx_iret g_X2_stepCost rfl (.inl rfl) ?_
          refine qF_i ?_
          unfold scost
          first | (rw [if_pos (by omega)]; done) | (rw [if_neg (by omega), if_pos (by omega)]; done) | (rw [if_neg (by omega), if_neg (by omega)]; done)
        · refine zx_go (pc1 := 87) (l1 := [some (zr 2), some (zi p), some (zi q), some (zi (lay c p)), some (zi 1), some (zi 0)]) (st1 := [zi 1]) (w1 := wr c R) g_X2_stepCost 2 _ _ _ _ rfl ?_
          refine zx_iret g_X2_stepCost rfl (.inl rfl) ?_
          refine qF_i ?_
          unfold scost
          first | (rw [if_pos (by omega)]; done) | (rw [if_neg (by omega), if_pos (by omega)]; done) | (rw [if_neg (by omega), if_neg (by omega)]; done)
      · refine zx_go (pc1 := 72) (l1 := [some (zr 2), some (zi p), some (zi q), some (zi (lay c p)), some (zi 1), some (zi 1)]) (st1 := [zi 1, zi 1]) (w1 := wr c R) g_X2_stepCost 5 _ _ _ _ rfl ?_
        refine zx_cmp g_X2_stepCost rfl (by decide) (by decide) (fun (h72 : 1 ≠ 1) => ?_) (fun (h72 : ¬ (1 ≠ 1)) => ?_)
        · refine zx_go (pc1 := 85) (l1 := [some (zr 2), some (zi p), some (zi q), some (zi (lay c p)), some (zi 1), some (zi 1)]) (st1 := [zi (lay c p), zr 4, zi 1]) (w1 := wr c R) g_X2_stepCost 4 _ _ _ _ rfl ?_
          refine gz_iald g_X2_stepCost rfl (n := 3) rfl (by decide) rfl (by decide) (by omega) (by omega) ?_
          refine zx_go (pc1 := 87) (l1 := [some (zr 2), some (zi p), some (zi q), some (zi (lay c p)), some (zi 1), some (zi 1)]) (st1 := [zi (1 + (R 4 (lay c p)))]) (w1 := wr c R) g_X2_stepCost 1 _ _ _ _ rfl ?_
          refine zx_iret g_X2_stepCost rfl (.inl rfl) ?_
          refine qF_i ?_
          unfold scost
          first | (rw [if_pos (by omega)]; done) | (rw [if_neg (by omega), if_pos (by omega)]; done) | (rw [if_neg (by omega), if_neg (by omega)]; done)
        · refine zx_go (pc1 := 87) (l1 := [some (zr 2), some (zi p), some (zi q), some (zi (lay c p)), some (zi 1), some (zi 1)]) (st1 := [zi 1]) (w1 := wr c R) g_X2_stepCost 2 _ _ _ _ rfl ?_
          refine zx_iret g_X2_stepCost rfl (.inl rfl) ?_
          refine qF_i ?_
          unfold scost
          first | (rw [if_pos (by omega)]; done) | (rw [if_neg (by omega), if_pos (by omega)]; done) | (rw [if_neg (by omega), if_neg (by omega)]; done)
  · refine zx_go (pc1 := 27) (l1 := [some (zr 2), some (zi p), some (zi q), some (zi (lay c p)), none, none]) (st1 := [zi q, zr 6, zi (lay c p), zr 5]) (w1 := wr c R) g_X2_stepCost 6 _ _ _ _ rfl ?_
    refine gz_ld6 g_X2_stepCost rfl hg (by omega) (by omega) ?_
    refine zx_imin g_X2_stepCost rfl (Nat.le_of_ble_eq_true rfl) (by omega) (by omega) ?_
    refine gz_iald g_X2_stepCost rfl (n := 3) rfl (by decide) rfl (by decide) (by omega) (by omega) ?_
    refine zx_iret g_X2_stepCost rfl (.inl rfl) ?_
    refine qF_i ?_
    unfold scost
    first | (rw [if_pos (by omega)]; done) | (rw [if_neg (by omega), if_pos (by omega)]; done) | (rw [if_neg (by omega), if_neg (by omega)]; done)

set_option maxHeartbeats 1000000 in
theorem s_accessPlace {c : zC} {R : zI} {p k : Int} (h0 : 0 ≤ p) (h1 : p < 40) (h2 : 0 ≤ k) (h3 : k < 4) : MZ m_X0_accessPlace [zr 10, zi p, zi k] (wr c R) (qF (zi (R 14 (p * 4 + k))) (wr c R)) := by
  refine MZ.of g_X0_accessPlace ?_
  show ZX m_X0_accessPlace 0 [some (zr 10), some (zi p), some (zi k)] [] (wr c R) _
  refine zx_go (pc1 := 9) (l1 := [some (zr 10), some (zi p), some (zi k)]) (st1 := [zi ((p * 4) + k), zr 14]) (w1 := wr c R) g_X0_accessPlace 7 _ _ _ _ rfl ?_
  refine gz_iald g_X0_accessPlace rfl (n := 160) rfl (by decide) rfl (by decide) (by omega) (by omega) ?_
  refine zx_iret g_X0_accessPlace rfl (.inl rfl) ?_
  exact qF_i (by rfl)

def bef (f : Int → Int) (a b : Int) : Prop := f a < f b ∨ (f a = f b ∧ a < b)

set_option maxHeartbeats 1000000 in
theorem s_isBefore {c : zC} {R : zI} (hg : Geo c) {a b : Int} (h0 : 0 ≤ a) (h1 : a < (cS c : Int)) (h2 : 0 ≤ b) (h3 : b < (cS c : Int)) (ha : inR (R 26 a)) (hb : inR (R 26 b)) : MZ m_X1_isBefore [zr 25, zi a, zi b] (wr c R) (qF (zi (bI (bef (R 26) a b))) (wr c R)) := by
  refine MZ.of g_X1_isBefore ?_
  show ZX m_X1_isBefore 0 [some (zr 25), some (zi a), some (zi b)] [] (wr c R) _
  have g3 := hg.S
  refine zx_go (pc1 := 5) (l1 := [some (zr 25), some (zi a), some (zi b)]) (st1 := [zi a, zr 26]) (w1 := wr c R) g_X1_isBefore 3 _ _ _ _ rfl ?_
  refine gz_iald g_X1_isBefore rfl (n := cS c) rfl (by decide) rfl (by have := hg.S; omega) (by omega) (by omega) ?_
  refine zx_go (pc1 := 11) (l1 := [some (zr 25), some (zi a), some (zi b)]) (st1 := [zi b, zr 26, zi (R 26 a)]) (w1 := wr c R) g_X1_isBefore 3 _ _ _ _ rfl ?_
  refine gz_iald g_X1_isBefore rfl (n := cS c) rfl (by decide) rfl (by have := hg.S; omega) (by omega) (by omega) ?_
  refine zx_cmp g_X1_isBefore rfl (by omega) (by omega) (fun (h12 : (R 26 a) = (R 26 b)) => ?_) (fun (h12 : ¬ ((R 26 a) = (R 26 b))) => ?_)
  · refine zx_go (pc1 := 40) (l1 := [some (zr 25), some (zi a), some (zi b)]) (st1 := [zi b, zi a]) (w1 := wr c R) g_X1_isBefore 2 _ _ _ _ rfl ?_
    refine zx_cmp g_X1_isBefore rfl (by omega) (by omega) (fun (h40 : b ≤ a) => ?_) (fun (h40 : ¬ (b ≤ a)) => ?_)
    · refine zx_go (pc1 := 48) (l1 := [some (zr 25), some (zi a), some (zi b)]) (st1 := [zi 0]) (w1 := wr c R) g_X1_isBefore 1 _ _ _ _ rfl ?_
      refine zx_iret g_X1_isBefore rfl (.inr (.inl rfl)) ?_
      exact qF_f (by unfold bef; omega)
    · refine zx_go (pc1 := 48) (l1 := [some (zr 25), some (zi a), some (zi b)]) (st1 := [zi 1]) (w1 := wr c R) g_X1_isBefore 2 _ _ _ _ rfl ?_
      refine zx_iret g_X1_isBefore rfl (.inr (.inr rfl)) ?_
      exact qF_t (by unfold bef; omega)
  · refine zx_go (pc1 := 20) (l1 := [some (zr 25), some (zi a), some (zi b)]) (st1 := [zi a, zr 26]) (w1 := wr c R) g_X1_isBefore 3 _ _ _ _ rfl ?_
    refine gz_iald g_X1_isBefore rfl (n := cS c) rfl (by decide) rfl (by have := hg.S; omega) (by omega) (by omega) ?_
    refine zx_go (pc1 := 26) (l1 := [some (zr 25), some (zi a), some (zi b)]) (st1 := [zi b, zr 26, zi (R 26 a)]) (w1 := wr c R) g_X1_isBefore 3 _ _ _ _ rfl ?_
    refine gz_iald g_X1_isBefore rfl (n := cS c) rfl (by decide) rfl (by have := hg.S; omega) (by omega) (by omega) ?_
    refine zx_cmp g_X1_isBefore rfl (by omega) (by omega) (fun (h27 : (R 26 b) ≤ (R 26 a)) => ?_) (fun (h27 : ¬ ((R 26 b) ≤ (R 26 a))) => ?_)
    · refine zx_go (pc1 := 48) (l1 := [some (zr 25), some (zi a), some (zi b)]) (st1 := [zi 0]) (w1 := wr c R) g_X1_isBefore 2 _ _ _ _ rfl ?_
      refine zx_iret g_X1_isBefore rfl (.inr (.inl rfl)) ?_
      exact qF_f (by unfold bef; omega)
    · refine zx_go (pc1 := 48) (l1 := [some (zr 25), some (zi a), some (zi b)]) (st1 := [zi 1]) (w1 := wr c R) g_X1_isBefore 2 _ _ _ _ rfl ?_
      refine zx_iret g_X1_isBefore rfl (.inr (.inr rfl)) ?_
      exact qF_t (by unfold bef; omega)

set_option maxHeartbeats 1000000 in
theorem s_put {c : zC} {R : zI} (hg : Geo c) {p i : Int} (h0 : 0 ≤ p) (h1 : p < (cS c : Int)) (h2 : 0 ≤ i) (h3 : i < (cS c : Int)) : MZ m_X1_put [zr 25, zi p, zi i] (wr c R) (gU (fun R1 => R1 = zU (zU R 27 i p) 28 p i) c) := by
  refine MZ.of g_X1_put ?_
  show ZX m_X1_put 0 [some (zr 25), some (zi p), some (zi i)] [] (wr c R) _
  refine zx_go (pc1 := 6) (l1 := [some (zr 25), some (zi p), some (zi i)]) (st1 := [zi p, zi i, zr 27]) (w1 := wr c R) g_X1_put 4 _ _ _ _ rfl ?_
  refine gz_iast g_X1_put rfl (n := cS c) rfl (by decide) (by refine ⟨?_, ?_, ?_, ?_, ?_⟩ <;> simp) (by have := hg.S; omega) (by omega) (by omega) ?_
  refine zx_go (pc1 := 13) (l1 := [some (zr 25), some (zi p), some (zi i)]) (st1 := [zi i, zi p, zr 28]) (w1 := wr c (zU R 27 i p)) g_X1_put 4 _ _ _ _ rfl ?_
  refine gz_iast g_X1_put rfl (n := cS c) rfl (by decide) (by refine ⟨?_, ?_, ?_, ?_, ?_⟩ <;> simp) (by have := hg.S; omega) (by omega) (by omega) ?_
  refine zx_vret g_X1_put rfl ?_
  exact gU_i rfl

