/-! ===== constructors ===== -/
theorem put_i {a x y : Nat} (ht : pgTy x y = .int) : ∀ (w : pmW) (z : Int32), (z = 0 ∨ pgTy x y = .int) → pmWr w a y (pgTy x y) (.int z) = some (w.1, w.2.1, w.2.2.1, w.2.2.2.1, w.2.2.2.2.1, pmUI w.2.2.2.2.2.1 a y z, w.2.2.2.2.2.2) := fun w z _ => by
  rw [ht]
  rfl
theorem put_b {a x y : Nat} (ht : pgTy x y = .boolean) : ∀ (w : pmW) (z : Int32), (z = 0 ∨ pgTy x y = .int) → pmWr w a y (pgTy x y) (.int z) = some (w.1, w.2.1, w.2.2.1, w.2.2.2.1, w.2.2.2.2.1, pmUI w.2.2.2.2.2.1 a y z, w.2.2.2.2.2.2) := fun w z h => by
  rw [ht] at h ⊢
  rcases h with h | h
  · subst h
    rfl
  · cases h
theorem zU_o {Z : zI} {a b : Nat} {k j v x : Int} (h : ¬ (b = a ∧ j = k)) (e : Z b j = x) : zU Z a k v b j = x := by
  unfold zU
  rw [if_neg h]
  exact e
theorem zU_z {Z : zI} {a b : Nat} {k v : Int} (h : b ≠ a) (e : ∀ j, Z b j = 0) : ∀ j, zU Z a k v b j = 0 := fun j => by
  rw [zU_cell' h]
  exact e j
def npZ (c : zC) (Z : zI) (p : Int) : zI := fun a k => if 0 ≤ k ∧ k < p then (if a = 6 then lay c k else if a = 7 then xo c k else if a = 8 then yo c k else Z a k) else Z a k
theorem npZ_o {c : zC} {Z : zI} {p k : Int} {a : Nat} (h6 : a ≠ 6) (h7 : a ≠ 7) (h8 : a ≠ 8) : npZ c Z p a k = Z a k := by
  unfold npZ
  by_cases h : 0 ≤ k ∧ k < p
  · rw [if_pos h, if_neg h6, if_neg h7, if_neg h8]
  · rw [if_neg h]
theorem npZ_0 {c : zC} {Z : zI} : npZ c Z 0 = Z := by
  funext a k
  unfold npZ
  rw [if_neg (by omega)]
theorem npZ_s {c : zC} {Z : zI} {p : Int} (p0 : 0 ≤ p) : zU (zU (zU (npZ c Z p) 6 p (lay c p)) 7 p (xo c p)) 8 p (yo c p) = npZ c Z (p + 1) := by
  funext a k
  unfold zU npZ
  by_cases hk : k = p
  · subst hk
    rw [if_pos (show 0 ≤ k ∧ k < k + 1 by omega)]
    by_cases h8 : a = 8
    · rw [if_pos ⟨h8, rfl⟩, if_neg (show ¬ a = 6 by omega), if_neg (show ¬ a = 7 by omega), if_pos h8]
    · rw [if_neg (fun z => h8 z.1)]
      by_cases h7 : a = 7
      · rw [if_pos ⟨h7, rfl⟩, if_neg (show ¬ a = 6 by omega), if_pos h7]
      · rw [if_neg (fun z => h7 z.1)]
        by_cases h6 : a = 6
        · rw [if_pos ⟨h6, rfl⟩, if_pos h6]
        · rw [if_neg (fun z => h6 z.1), if_neg (show ¬ (0 ≤ k ∧ k < k) by omega), if_neg h6, if_neg h7, if_neg h8]
  · rw [if_neg (fun z => hk z.2), if_neg (fun z => hk z.2), if_neg (fun z => hk z.2)]
    by_cases h : 0 ≤ k ∧ k < p
    · rw [if_pos h, if_pos (show 0 ≤ k ∧ k < p + 1 by omega)]
    · rw [if_neg h, if_neg (show ¬ (0 ≤ k ∧ k < p + 1) by omega)]
theorem pl_x {c : zC} {z x y : Int} : pl c z x y + 1 = pl c z (x + 1) y := by unfold pl; omega
theorem pl_y {c : zC} {z y : Int} : pl c z (cW c) y = pl c z 0 (y + 1) := by
  unfold pl
  rw [Int.add_mul]
  omega
theorem pl_z {c : zC} {z : Int} : pl c z 0 (cH c) = pl c (z + 1) 0 0 := by
  unfold pl
  rw [Int.add_mul, Int.mul_comm (cH c)]
  omega
theorem pl_S {c : zC} (hg : Geo c) : pl c (cLa c) 0 0 = (cS c : Int) := by
  unfold pl
  rw [hg.2.2.2.2.2.2]
  omega

set_option maxHeartbeats 1000000 in
theorem i_np {L : Nat} {c : zC} {nc ns : Nat} {Z : zI} (hg : Geo c) (z0 : Z 2 0 = cLa c) (z1 : Z 2 1 = cW c) (z2 : Z 2 2 = cH c) : MS L (cS c) m_X2_numberPlaces [zr 2] (9, nc, ns, rl [(2, 11, 9), (2, 7, 8), (2, 6, 7), (2, 5, 6), (2, 10, 5), (2, 9, 4), (2, 8, 3)], Z) (wU (9, nc, ns, rl [(2, 11, 9), (2, 7, 8), (2, 6, 7), (2, 5, 6), (2, 10, 5), (2, 9, 4), (2, 8, 3)], npZ c Z (cS c : Int))) := by
  have g2 := hg
  unfold Geo at g2
  have g3_v := hg.S
  have e0_v : ∀ p, npZ c Z p 2 0 = cLa c := fun p => (npZ_o (by decide) (by decide) (by decide)).trans z0
  have e1_v : ∀ p, npZ c Z p 2 1 = cW c := fun p => (npZ_o (by decide) (by decide) (by decide)).trans z1
  have e2_v : ∀ p, npZ c Z p 2 2 = cH c := fun p => (npZ_o (by decide) (by decide) (by decide)).trans z2
  refine MS.of g_X2_numberPlaces ?_
  show SX L (cS c) m_X2_numberPlaces 0 [some (zr 2), none, none, none, none] [] (9, nc, ns, rl [(2, 11, 9), (2, 7, 8), (2, 6, 7), (2, 5, 6), (2, 10, 5), (2, 9, 4), (2, 8, 3)], Z) _
  have lz : ∀ (it : Nat) (z : Int) (o3_v o4_v : Option zV), (cLa c - z).toNat = it → 0 ≤ z → z ≤ cLa c → SX L (cS c) m_X2_numberPlaces 4 [some (zr 2), some (zi (pl c z 0 0)), some (zi z), o3_v, o4_v] [] (9, nc, ns, rl [(2, 11, 9), (2, 7, 8), (2, 6, 7), (2, 5, 6), (2, 10, 5), (2, 9, 4), (2, 8, 3)], npZ c Z (pl c z 0 0)) (sQ L (cS c) (wU (9, nc, ns, rl [(2, 11, 9), (2, 7, 8), (2, 6, 7), (2, 5, 6), (2, 10, 5), (2, 9, 4), (2, 8, 3)], npZ c Z (cS c : Int)))) := by
    refine fun it => Nat.strongRecOn it (fun it ihz => ?_)
    intro z o3_v o4_v hit_v a0_v a1_v
    refine sx_go (pc1 := 9) (l1 := [some (zr 2), some (zi (pl c z 0 0)), some (zi z), o3_v, o4_v]) (st1 := [zi (npZ c Z (pl c z 0 0) 2 0), zi z]) g_X2_numberPlaces 3 _ _ _ rfl ?_
    rw [e0_v]
    refine sx_cmp g_X2_numberPlaces rfl (by omega) (by omega) (fun (h : cLa c ≤ z) => ?_) (fun (h : ¬ (cLa c ≤ z)) => ?_)
    · have ez : z = cLa c := by omega
      subst ez
      refine sx_vret g_X2_numberPlaces rfl ?_
      rw [pl_S hg]
      exact ⟨rfl, rfl⟩
    · refine sx_go (pc1 := 14) (l1 := [some (zr 2), some (zi (pl c z 0 0)), some (zi z), some (zi 0), o4_v]) (st1 := []) g_X2_numberPlaces 2 _ _ _ rfl ?_
      have ly : ∀ (it : Nat) (y : Int) (o4_v : Option zV), (cH c - y).toNat = it → 0 ≤ y → y ≤ cH c → SX L (cS c) m_X2_numberPlaces 14 [some (zr 2), some (zi (pl c z 0 y)), some (zi z), some (zi y), o4_v] [] (9, nc, ns, rl [(2, 11, 9), (2, 7, 8), (2, 6, 7), (2, 5, 6), (2, 10, 5), (2, 9, 4), (2, 8, 3)], npZ c Z (pl c z 0 y)) (sQ L (cS c) (wU (9, nc, ns, rl [(2, 11, 9), (2, 7, 8), (2, 6, 7), (2, 5, 6), (2, 10, 5), (2, 9, 4), (2, 8, 3)], npZ c Z (cS c : Int)))) := by
        refine fun it => Nat.strongRecOn it (fun it ihy => ?_)
        intro y o4_v hit_v b0 b1
        refine sx_go (pc1 := 19) (l1 := [some (zr 2), some (zi (pl c z 0 y)), some (zi z), some (zi y), o4_v]) (st1 := [zi (npZ c Z (pl c z 0 y) 2 2), zi y]) g_X2_numberPlaces 3 _ _ _ rfl ?_
        rw [e2_v]
        refine sx_cmp g_X2_numberPlaces rfl (by omega) (by omega) (fun (h : cH c ≤ y) => ?_) (fun (h : ¬ (cH c ≤ y)) => ?_)
        · have ey : y = cH c := by omega
          subst ey
          refine sx_go (pc1 := 4) (l1 := [some (zr 2), some (zi (pl c z 0 (cH c))), some (zi (z + 1)), some (zi (cH c)), o4_v]) (st1 := []) g_X2_numberPlaces 2 _ _ _ rfl ?_
          rw [pl_z]
          exact ihz (cLa c - (z + 1)).toNat (by omega) (z + 1) _ _ rfl (by omega) (by omega)
        · refine sx_go (pc1 := 25) (l1 := [some (zr 2), some (zi (pl c z 0 y)), some (zi z), some (zi y), some (zi 0)]) (st1 := []) g_X2_numberPlaces 2 _ _ _ rfl ?_
          have lx : ∀ (it : Nat) (x : Int), (cW c - x).toNat = it → 0 ≤ x → x ≤ cW c → SX L (cS c) m_X2_numberPlaces 25 [some (zr 2), some (zi (pl c z x y)), some (zi z), some (zi y), some (zi x)] [] (9, nc, ns, rl [(2, 11, 9), (2, 7, 8), (2, 6, 7), (2, 5, 6), (2, 10, 5), (2, 9, 4), (2, 8, 3)], npZ c Z (pl c z x y)) (sQ L (cS c) (wU (9, nc, ns, rl [(2, 11, 9), (2, 7, 8), (2, 6, 7), (2, 5, 6), (2, 10, 5), (2, 9, 4), (2, 8, 3)], npZ c Z (cS c : Int)))) := by
            refine fun it => Nat.strongRecOn it (fun it ihx => ?_)
            intro x hit_v d0_v d1_v
            refine sx_go (pc1 := 31) (l1 := [some (zr 2), some (zi (pl c z x y)), some (zi z), some (zi y), some (zi x)]) (st1 := [zi (npZ c Z (pl c z x y) 2 1), zi x]) g_X2_numberPlaces 3 _ _ _ rfl ?_
            rw [e1_v]
            refine sx_cmp g_X2_numberPlaces rfl (by omega) (by omega) (fun (h : cW c ≤ x) => ?_) (fun (h : ¬ (cW c ≤ x)) => ?_)
            · have ex_v : x = cW c := by omega
              subst ex_v
              refine sx_go (pc1 := 14) (l1 := [some (zr 2), some (zi (pl c z (cW c) y)), some (zi z), some (zi (y + 1)), some (zi (cW c))]) (st1 := []) g_X2_numberPlaces 2 _ _ _ rfl ?_
              rw [pl_y]
              exact ihy (cH c - (y + 1)).toNat (by omega) (y + 1) _ rfl (by omega) (by omega)
            · have gp := pl_geo hg (z := z) (x := x) (y := y) (by omega) (by omega) (by omega) (by omega) (by omega) (by omega)
              obtain ⟨gp0, gp1, gp2, gp3, gp4⟩ := gp
              have st_v := npZ_s (c := c) (Z := Z) gp0
              rw [gp2, gp3, gp4] at st_v
              refine sx_go (pc1 := 40) (l1 := [some (zr 2), some (zi (pl c z x y)), some (zi z), some (zi y), some (zi x)]) (st1 := [zi z, zi (pl c z x y), zr 6]) g_X2_numberPlaces 4 _ _ _ rfl ?_
              refine sx_iast (m := cS c) g_X2_numberPlaces rfl rfl (by decide) (by omega) gp0 gp1 ?_
              refine sx_go (pc1 := 48) (l1 := [some (zr 2), some (zi (pl c z x y)), some (zi z), some (zi y), some (zi x)]) (st1 := [zi x, zi (pl c z x y), zr 7]) g_X2_numberPlaces 4 _ _ _ rfl ?_
              refine sx_iast (m := cS c) g_X2_numberPlaces rfl rfl (by decide) (by omega) gp0 gp1 ?_
              refine sx_go (pc1 := 55) (l1 := [some (zr 2), some (zi (pl c z x y)), some (zi z), some (zi y), some (zi x)]) (st1 := [zi y, zi (pl c z x y), zr 8]) g_X2_numberPlaces 4 _ _ _ rfl ?_
              refine sx_iast (m := cS c) g_X2_numberPlaces rfl rfl (by decide) (by omega) gp0 gp1 ?_
              rw [st_v]
              refine sx_go (pc1 := 25) (l1 := [some (zr 2), some (zi (pl c z x y + 1)), some (zi z), some (zi y), some (zi (x + 1))]) (st1 := []) g_X2_numberPlaces 3 _ _ _ rfl ?_
              rw [pl_x]
              exact ihx (cW c - (x + 1)).toNat (by omega) (x + 1) rfl (by omega) (by omega)
          exact lx (cW c - 0).toNat 0 rfl (by omega) (by omega)
      exact ly (cH c - 0).toNat 0 _ rfl (by omega) (by omega)
  refine sx_go (pc1 := 4) (l1 := [some (zr 2), some (zi 0), some (zi 0), none, none]) (st1 := []) g_X2_numberPlaces 4 _ _ _ rfl ?_
  have h0 := lz (cLa c - 0).toNat 0 none none rfl (by omega) (by omega)
  have ep : pl c 0 0 0 = 0 := by unfold pl; omega
  rw [ep, npZ_0] at h0
  exact h0

set_option maxHeartbeats 1000000 in
theorem i_fill3 {L S n nc ns A : Nat} {rr : List (Nat × Nat × Nat)} {Z : zI} {v : Int} (hh : hS L S n A = .inl (.int, 3)) (ha : 1 ≤ A ∧ A ≤ n) : MS L S m_J7_fill_53178 [zr A, zi v] (n, nc, ns, rl rr, Z) (wU (n, nc, ns, rl rr, zU (zU (zU Z A 0 v) A 1 v) A 2 v)) := by
  refine MS.of g_J7_fill_53178 ?_
  show SX L S m_J7_fill_53178 0 [some (zr A), some (zi v), none, none] [] (n, nc, ns, rl rr, Z) _
  refine sx_go (pc1 := 3) (l1 := [some (zr A), some (zi v), some (zi 0), none]) (st1 := [zr A]) g_J7_fill_53178 3 _ _ _ rfl ?_
  have al_v : ∀ {l : zL} {Q : pmO → pmW → Prop}, SX L S m_J7_fill_53178 4 l [zi 3] (n, nc, ns, rl rr, Z) Q → SX L S m_J7_fill_53178 3 l [zr A] (n, nc, ns, rl rr, Z) Q := fun {l Q} K_v => by
    have hB_v : sB L S .arraylength 0 0 3 l [zr A] (n, nc, ns, rl rr, Z) = some (4, l, [zi 3]) := by
      simp only [sB]
      rw [hh]
      simp only
      rw [decide_eq_true ha.2]
      rfl
    exact PX.step (fun m => pmX_B (mid := m_J7_fill_53178) (pc := 3) (i := .arraylength) g_J7_fill_53178 rfl (pmB_A (sB_c hB_v)) (sB_c hB_v)) K_v
  refine al_v ?_
  refine sx_go (pc1 := 7) (l1 := [some (zr A), some (zi v), some (zi 0), some (zi 3)]) (st1 := [zi 3, zi 0]) g_J7_fill_53178 3 _ _ _ rfl ?_
  refine sx_cmp g_J7_fill_53178 rfl (by decide) (by decide) (fun (h : (3 : Int) ≤ 0) => absurd h (by decide)) (fun _ => ?_)
  refine sx_go (pc1 := 13) (l1 := [some (zr A), some (zi v), some (zi 0), some (zi 3)]) (st1 := [zi v, zi 0, zr A]) g_J7_fill_53178 3 _ _ _ rfl ?_
  refine sx_iast (m := 3) g_J7_fill_53178 rfl hh ha (by decide) (by decide) (by decide) ?_
  refine sx_go (pc1 := 7) (l1 := [some (zr A), some (zi v), some (zi 1), some (zi 3)]) (st1 := [zi 3, zi 1]) g_J7_fill_53178 4 _ _ _ rfl ?_
  refine sx_cmp g_J7_fill_53178 rfl (by decide) (by decide) (fun (h : (3 : Int) ≤ 1) => absurd h (by decide)) (fun _ => ?_)
  refine sx_go (pc1 := 13) (l1 := [some (zr A), some (zi v), some (zi 1), some (zi 3)]) (st1 := [zi v, zi 1, zr A]) g_J7_fill_53178 3 _ _ _ rfl ?_
  refine sx_iast (m := 3) g_J7_fill_53178 rfl hh ha (by decide) (by decide) (by decide) ?_
  refine sx_go (pc1 := 7) (l1 := [some (zr A), some (zi v), some (zi 2), some (zi 3)]) (st1 := [zi 3, zi 2]) g_J7_fill_53178 4 _ _ _ rfl ?_
  refine sx_cmp g_J7_fill_53178 rfl (by decide) (by decide) (fun (h : (3 : Int) ≤ 2) => absurd h (by decide)) (fun _ => ?_)
  refine sx_go (pc1 := 13) (l1 := [some (zr A), some (zi v), some (zi 2), some (zi 3)]) (st1 := [zi v, zi 2, zr A]) g_J7_fill_53178 3 _ _ _ rfl ?_
  refine sx_iast (m := 3) g_J7_fill_53178 rfl hh ha (by decide) (by decide) (by decide) ?_
  refine sx_go (pc1 := 7) (l1 := [some (zr A), some (zi v), some (zi 3), some (zi 3)]) (st1 := [zi 3, zi 3]) g_J7_fill_53178 4 _ _ _ rfl ?_
  refine sx_cmp g_J7_fill_53178 rfl (by decide) (by decide) (fun _ => ?_) (fun (h : ¬ ((3 : Int) ≤ 3)) => absurd (show (3 : Int) ≤ 3 by decide) h)
  refine sx_vret g_J7_fill_53178 rfl ?_
  exact ⟨rfl, rfl⟩
set_option maxHeartbeats 1000000 in
theorem i_cell {L S : Nat} {w : sW} {j : Int} (hL : L ≤ 643) (j0 : 0 ≤ j) (j1 : j < 3) : MS L S m_L_cell [zr 0, zi j] w (wF (if j < L then w.2.2.2.2 0 j else 0) w) := by
  refine MS.of g_L_cell ?_
  show SX L S m_L_cell 0 [some (zr 0), some (zi j)] [] w _
  have al_v : ∀ {Q : pmO → pmW → Prop}, SX L S m_L_cell 3 [some (zr 0), some (zi j)] [zi (L : Int), zi j] w Q → SX L S m_L_cell 0 [some (zr 0), some (zi j)] [] w Q := fun {Q} K_v => by
    refine sx_go (pc1 := 2) (l1 := [some (zr 0), some (zi j)]) (st1 := [zr 0, zi j]) g_L_cell 2 _ _ _ rfl ?_
    have hB_v : sB L S .arraylength 0 0 2 [some (zr 0), some (zi j)] [zr 0, zi j] w = some (3, [some (zr 0), some (zi j)], [zi (L : Int), zi j]) := by
      simp only [sB]
      rw [show hS L S w.1 0 = .inl (.int, L) from rfl]
      simp only
      rw [decide_eq_true (Nat.zero_le w.1)]
    exact PX.step (fun m => pmX_B (mid := m_L_cell) (pc := 2) (i := .arraylength) g_L_cell rfl (pmB_A (sB_c hB_v)) (sB_c hB_v)) K_v
  refine al_v ?_
  refine sx_cmp g_L_cell rfl (by omega) (by omega) (fun (h : (L : Int) ≤ j) => ?_) (fun (h : ¬ ((L : Int) ≤ j)) => ?_)
  · refine sx_go (pc1 := 13) (l1 := [some (zr 0), some (zi j)]) (st1 := [zi 0]) g_L_cell 1 _ _ _ rfl ?_
    refine sx_iret g_L_cell rfl rfl ?_
    exact ⟨by rw [if_neg (by omega)], rfl⟩
  · refine sx_go (pc1 := 8) (l1 := [some (zr 0), some (zi j)]) (st1 := [zi j, zr 0]) g_L_cell 2 _ _ _ rfl ?_
    refine sx_iald (m := L) g_L_cell rfl rfl (Nat.zero_le _) (by omega) j0 (by omega) ?_
    refine sx_go (pc1 := 13) (l1 := [some (zr 0), some (zi j)]) (st1 := [zi (w.2.2.2.2 0 j)]) g_L_cell 1 _ _ _ rfl ?_
    refine sx_iret g_L_cell rfl rfl ?_
    exact ⟨by rw [if_pos (by omega)], rfl⟩
def clp (v m : Int) : Int := if v < 1 then 1 else if m < v then m else v
set_option maxHeartbeats 1000000 in
theorem i_clip {L S : Nat} {w : sW} {v m : Int} (hv : inR64 v) (hm : inR m) : MS L S m_X6_clip [zl v, zi m] w (wF (clp v m) w) := by
  refine MS.of g_X6_clip ?_
  show SX L S m_X6_clip 0 [some (zl v), none, some (zi m)] [] w _
  refine sx_go (pc1 := 2) (l1 := [some (zl v), none, some (zi m)]) (st1 := [zl 1, zl v]) g_X6_clip 2 _ _ _ rfl ?_
  refine sx_lcif g_X6_clip rfl rfl hv (by decide) (fun (h : 1 ≤ v) => ?_) (fun (h : ¬ (1 ≤ v)) => ?_)
  · refine sx_go (pc1 := 12) (l1 := [some (zl v), none, some (zi m)]) (st1 := [zi m, zl v]) g_X6_clip 2 _ _ _ rfl ?_
    refine sx_i2l g_X6_clip rfl hm ?_
    refine sx_lcif g_X6_clip rfl rfl hv (by omega) (fun (h2 : v ≤ m) => ?_) (fun (h2 : ¬ (v ≤ m)) => ?_)
    · refine sx_go (pc1 := 23) (l1 := [some (zl v), none, some (zi m)]) (st1 := [zi v]) g_X6_clip 2 _ _ _ rfl ?_
      refine sx_iret g_X6_clip rfl rfl ?_
      exact ⟨by unfold clp; rw [if_neg (by omega), if_neg (by omega)], rfl⟩
    · refine sx_go (pc1 := 23) (l1 := [some (zl v), none, some (zi m)]) (st1 := [zi m]) g_X6_clip 2 _ _ _ rfl ?_
      refine sx_iret g_X6_clip rfl rfl ?_
      exact ⟨by unfold clp; rw [if_neg (by omega), if_pos (by omega)], rfl⟩
  · refine sx_go (pc1 := 23) (l1 := [some (zl v), none, some (zi m)]) (st1 := [zi 1]) g_X6_clip 2 _ _ _ rfl ?_
    refine sx_iret g_X6_clip rfl rfl ?_
    exact ⟨by unfold clp; rw [if_pos (by omega)], rfl⟩

set_option maxHeartbeats 1000000 in
theorem i_X2 {L : Nat} {c : zC} {nc ns : Nat} {Z : zI} (hg : Geo c) (hz0 : ∀ a : Nat, 2 < a → ∀ j, Z a j = 0) : MS L (cS c) m_X2_init [zr 2, zi (cLa c), zi (cW c), zi (cH c)] (2, nc, ns, rl [], Z) (wU (9, nc + 1 + 1 + 1 + 1 + 1 + 1 + 1, ns + 3 + 3 + 3 + cS c + cS c + cS c + cS c, rl [(2, 11, 9), (2, 7, 8), (2, 6, 7), (2, 5, 6), (2, 10, 5), (2, 9, 4), (2, 8, 3)], npZ c (zU (zU (zU (zU (zU (zU (zU (zU (zU (zU (zU Z 2 0 (cLa c)) 2 1 (cW c)) 2 2 (cH c)) 2 3 ((cW c) * (cH c))) 2 4 ((cLa c) * ((cW c) * (cH c)))) 4 0 3) 4 1 3) 4 2 3) 5 0 5) 5 1 5) 5 2 5) (cS c : Int))) := by
  have g2 := hg
  unfold Geo at g2
  have g3_v := hg.S
  have hS1 : cLa c * (cW c * cH c) = ((cS c : Nat) : Int) := hg.2.2.2.2.2.2.symm
  refine MS.of g_X2_init ?_
  show SX L (cS c) m_X2_init 0 [some (zr 2), some (zi (cLa c)), some (zi (cW c)), some (zi (cH c))] [] (2, nc, ns, rl [], Z) _
  refine sx_go (pc1 := 1) (l1 := [some (zr 2), some (zi (cLa c)), some (zi (cW c)), some (zi (cH c))]) (st1 := [zr 2]) g_X2_init 1 _ _ _ rfl ?_
  refine sx_obj g_X2_init rfl (Nat.le_of_ble_eq_true rfl) ?_
  refine sx_go (pc1 := 6) (l1 := [some (zr 2), some (zi (cLa c)), some (zi (cW c)), some (zi (cH c))]) (st1 := [zi 3, zr 2]) g_X2_init 2 _ _ _ rfl ?_
  refine sx_nI (m := 3) g_X2_init rfl rfl (by decide) rfl rfl (hz0 3 (by decide)) ?_
  refine sx_putR g_X2_init rfl rfl (by decide) (fun _ => rfl) ?_
  refine sx_go (pc1 := 13) (l1 := [some (zr 2), some (zi (cLa c)), some (zi (cW c)), some (zi (cH c))]) (st1 := [zi 3, zr 2]) g_X2_init 2 _ _ _ rfl ?_
  refine sx_nI (m := 3) g_X2_init rfl rfl (by decide) rfl rfl (hz0 4 (by decide)) ?_
  refine sx_putR g_X2_init rfl rfl (by decide) (fun _ => rfl) ?_
  refine sx_go (pc1 := 20) (l1 := [some (zr 2), some (zi (cLa c)), some (zi (cW c)), some (zi (cH c))]) (st1 := [zi 3, zr 2]) g_X2_init 2 _ _ _ rfl ?_
  refine sx_nI (m := 3) g_X2_init rfl rfl (by decide) rfl rfl (hz0 5 (by decide)) ?_
  refine sx_putR g_X2_init rfl rfl (by decide) (fun _ => rfl) ?_
  refine sx_go (pc1 := 27) (l1 := [some (zr 2), some (zi (cLa c)), some (zi (cW c)), some (zi (cH c))]) (st1 := [zi (cLa c), zr 2]) g_X2_init 2 _ _ _ rfl ?_
  refine sx_putI g_X2_init rfl rfl (by decide) (put_i rfl) (.inr rfl) ?_
  refine sx_go (pc1 := 32) (l1 := [some (zr 2), some (zi (cLa c)), some (zi (cW c)), some (zi (cH c))]) (st1 := [zi (cW c), zr 2]) g_X2_init 2 _ _ _ rfl ?_
  refine sx_putI g_X2_init rfl rfl (by decide) (put_i rfl) (.inr rfl) ?_
  refine sx_go (pc1 := 37) (l1 := [some (zr 2), some (zi (cLa c)), some (zi (cW c)), some (zi (cH c))]) (st1 := [zi (cH c), zr 2]) g_X2_init 2 _ _ _ rfl ?_
  refine sx_putI g_X2_init rfl rfl (by decide) (put_i rfl) (.inr rfl) ?_
  refine sx_go (pc1 := 44) (l1 := [some (zr 2), some (zi (cLa c)), some (zi (cW c)), some (zi (cH c))]) (st1 := [zi ((cW c) * (cH c)), zr 2]) g_X2_init 4 _ _ _ rfl ?_
  refine sx_putI g_X2_init rfl rfl (by decide) (put_i rfl) (.inr rfl) ?_
  refine sx_go (pc1 := 53) (l1 := [some (zr 2), some (zi (cLa c)), some (zi (cW c)), some (zi (cH c))]) (st1 := [zi ((zU (zU (zU (zU Z 2 0 (cLa c)) 2 1 (cW c)) 2 2 (cH c)) 2 3 ((cW c) * (cH c))) 2 3), zi (cLa c), zr 2]) g_X2_init 4 _ _ _ rfl ?_
  rw [show (zU (zU (zU (zU Z 2 0 (cLa c)) 2 1 (cW c)) 2 2 (cH c)) 2 3 ((cW c) * (cH c))) 2 3 = (cW c) * (cH c) from (zU_same _ _ _ _)]
  refine sx_go (pc1 := 54) (l1 := [some (zr 2), some (zi (cLa c)), some (zi (cW c)), some (zi (cH c))]) (st1 := [zi ((cLa c) * ((cW c) * (cH c))), zr 2]) g_X2_init 1 _ _ _ rfl ?_
  refine sx_putI g_X2_init rfl rfl (by decide) (put_i rfl) (.inr rfl) ?_
  refine sx_go (pc1 := 62) (l1 := [some (zr 2), some (zi (cLa c)), some (zi (cW c)), some (zi (cH c))]) (st1 := [zi ((zU (zU (zU (zU (zU Z 2 0 (cLa c)) 2 1 (cW c)) 2 2 (cH c)) 2 3 ((cW c) * (cH c))) 2 4 ((cLa c) * ((cW c) * (cH c)))) 2 4), zr 2]) g_X2_init 3 _ _ _ rfl ?_
  rw [show (zU (zU (zU (zU (zU Z 2 0 (cLa c)) 2 1 (cW c)) 2 2 (cH c)) 2 3 ((cW c) * (cH c))) 2 4 ((cLa c) * ((cW c) * (cH c)))) 2 4 = (cLa c) * ((cW c) * (cH c)) from (zU_same _ _ _ _)]
  refine sx_nI (m := cS c) g_X2_init rfl hS1 (by omega) rfl rfl (zU_z (by decide) (zU_z (by decide) (zU_z (by decide) (zU_z (by decide) (zU_z (by decide) (hz0 6 (by decide))))))) ?_
  refine sx_putR g_X2_init rfl rfl (by decide) (fun _ => rfl) ?_
  refine sx_go (pc1 := 72) (l1 := [some (zr 2), some (zi (cLa c)), some (zi (cW c)), some (zi (cH c))]) (st1 := [zi ((zU (zU (zU (zU (zU Z 2 0 (cLa c)) 2 1 (cW c)) 2 2 (cH c)) 2 3 ((cW c) * (cH c))) 2 4 ((cLa c) * ((cW c) * (cH c)))) 2 4), zr 2]) g_X2_init 3 _ _ _ rfl ?_
  rw [show (zU (zU (zU (zU (zU Z 2 0 (cLa c)) 2 1 (cW c)) 2 2 (cH c)) 2 3 ((cW c) * (cH c))) 2 4 ((cLa c) * ((cW c) * (cH c)))) 2 4 = (cLa c) * ((cW c) * (cH c)) from (zU_same _ _ _ _)]
  refine sx_nI (m := cS c) g_X2_init rfl hS1 (by omega) rfl rfl (zU_z (by decide) (zU_z (by decide) (zU_z (by decide) (zU_z (by decide) (zU_z (by decide) (hz0 7 (by decide))))))) ?_
  refine sx_putR g_X2_init rfl rfl (by decide) (fun _ => rfl) ?_
  refine sx_go (pc1 := 82) (l1 := [some (zr 2), some (zi (cLa c)), some (zi (cW c)), some (zi (cH c))]) (st1 := [zi ((zU (zU (zU (zU (zU Z 2 0 (cLa c)) 2 1 (cW c)) 2 2 (cH c)) 2 3 ((cW c) * (cH c))) 2 4 ((cLa c) * ((cW c) * (cH c)))) 2 4), zr 2]) g_X2_init 3 _ _ _ rfl ?_
  rw [show (zU (zU (zU (zU (zU Z 2 0 (cLa c)) 2 1 (cW c)) 2 2 (cH c)) 2 3 ((cW c) * (cH c))) 2 4 ((cLa c) * ((cW c) * (cH c)))) 2 4 = (cLa c) * ((cW c) * (cH c)) from (zU_same _ _ _ _)]
  refine sx_nI (m := cS c) g_X2_init rfl hS1 (by omega) rfl rfl (zU_z (by decide) (zU_z (by decide) (zU_z (by decide) (zU_z (by decide) (zU_z (by decide) (hz0 8 (by decide))))))) ?_
  refine sx_putR g_X2_init rfl rfl (by decide) (fun _ => rfl) ?_
  refine sx_go (pc1 := 92) (l1 := [some (zr 2), some (zi (cLa c)), some (zi (cW c)), some (zi (cH c))]) (st1 := [zi ((zU (zU (zU (zU (zU Z 2 0 (cLa c)) 2 1 (cW c)) 2 2 (cH c)) 2 3 ((cW c) * (cH c))) 2 4 ((cLa c) * ((cW c) * (cH c)))) 2 4), zr 2]) g_X2_init 3 _ _ _ rfl ?_
  rw [show (zU (zU (zU (zU (zU Z 2 0 (cLa c)) 2 1 (cW c)) 2 2 (cH c)) 2 3 ((cW c) * (cH c))) 2 4 ((cLa c) * ((cW c) * (cH c)))) 2 4 = (cLa c) * ((cW c) * (cH c)) from (zU_same _ _ _ _)]
  refine sx_nB (m := cS c) g_X2_init rfl hS1 (by omega) rfl rfl (zU_z (by decide) (zU_z (by decide) (zU_z (by decide) (zU_z (by decide) (zU_z (by decide) (hz0 9 (by decide))))))) ?_
  refine sx_putR g_X2_init rfl rfl (by decide) (fun _ => rfl) ?_
  refine sx_go (pc1 := 102) (l1 := [some (zr 2), some (zi (cLa c)), some (zi (cW c)), some (zi (cH c))]) (st1 := [zi 3, zr 4]) g_X2_init 3 _ _ _ rfl ?_
  refine sx_csU (As := [zr 4, zi 3]) (rest := []) g_X2_init rfl g_J7_fill_53178 rfl rfl (Nat.le_of_ble_eq_true rfl) (Nat.le_of_ble_eq_true rfl) (i_fill3 rfl (by decide)) ?_
  refine sx_go (pc1 := 110) (l1 := [some (zr 2), some (zi (cLa c)), some (zi (cW c)), some (zi (cH c))]) (st1 := [zi 5, zr 5]) g_X2_init 3 _ _ _ rfl ?_
  refine sx_csU (As := [zr 5, zi 5]) (rest := []) g_X2_init rfl g_J7_fill_53178 rfl rfl (Nat.le_of_ble_eq_true rfl) (Nat.le_of_ble_eq_true rfl) (i_fill3 rfl (by decide)) ?_
  refine sx_go (pc1 := 114) (l1 := [some (zr 2), some (zi (cLa c)), some (zi (cW c)), some (zi (cH c))]) (st1 := [zr 2]) g_X2_init 1 _ _ _ rfl ?_
  refine sx_cvU (As := []) (rest := []) g_X2_init rfl g_X2_numberPlaces rfl rfl (Nat.le_of_ble_eq_true rfl) (Nat.le_of_ble_eq_true rfl) rfl ⟨Nat.le_of_ble_eq_true rfl, Nat.le_of_ble_eq_true rfl⟩ (i_np hg (zU_o (by decide) (zU_o (by decide) (zU_o (by decide) (zU_o (by decide) (zU_o (by decide) (zU_o (by decide) (zU_o (by decide) (zU_o (by decide) (zU_o (by decide) (zU_o (by decide) (zU_same _ _ _ _))))))))))) (zU_o (by decide) (zU_o (by decide) (zU_o (by decide) (zU_o (by decide) (zU_o (by decide) (zU_o (by decide) (zU_o (by decide) (zU_o (by decide) (zU_o (by decide) (zU_same _ _ _ _)))))))))) (zU_o (by decide) (zU_o (by decide) (zU_o (by decide) (zU_o (by decide) (zU_o (by decide) (zU_o (by decide) (zU_o (by decide) (zU_o (by decide) (zU_same _ _ _ _)))))))))) ?_
  refine sx_vret g_X2_init rfl ?_
  exact ⟨rfl, rfl⟩

set_option maxHeartbeats 1000000 in
theorem i_X0 {L : Nat} {c : zC} {nc ns : Nat} {Z : zI} (hz0 : ∀ a : Nat, 10 < a → ∀ j, Z a j = 0) : MS L (cS c) m_X0_init [zr 10] (10, nc, ns, rl [(1, 0, 2), (2, 11, 9), (2, 7, 8), (2, 6, 7), (2, 5, 6), (2, 10, 5), (2, 9, 4), (2, 8, 3)], Z) (wU (14, nc + 1 + 1 + 1 + 1, ns + 40 + 16 + 40 + 160, rl [(10, 6, 14), (10, 5, 13), (10, 4, 12), (10, 3, 11), (1, 0, 2), (2, 11, 9), (2, 7, 8), (2, 6, 7), (2, 5, 6), (2, 10, 5), (2, 9, 4), (2, 8, 3)], Z)) := by
  refine MS.of g_X0_init ?_
  show SX L (cS c) m_X0_init 0 [some (zr 10)] [] (10, nc, ns, rl [(1, 0, 2), (2, 11, 9), (2, 7, 8), (2, 6, 7), (2, 5, 6), (2, 10, 5), (2, 9, 4), (2, 8, 3)], Z) _
  refine sx_go (pc1 := 1) (l1 := [some (zr 10)]) (st1 := [zr 10]) g_X0_init 1 _ _ _ rfl ?_
  refine sx_obj g_X0_init rfl (Nat.le_of_ble_eq_true rfl) ?_
  refine sx_go (pc1 := 7) (l1 := [some (zr 10)]) (st1 := [zi 40, zr 10]) g_X0_init 2 _ _ _ rfl ?_
  refine sx_nI (m := 40) g_X0_init rfl rfl (by decide) rfl rfl (hz0 11 (by decide)) ?_
  refine sx_putR g_X0_init rfl rfl (by decide) (fun _ => rfl) ?_
  refine sx_go (pc1 := 15) (l1 := [some (zr 10)]) (st1 := [zi 16, zr 10]) g_X0_init 2 _ _ _ rfl ?_
  refine sx_nI (m := 16) g_X0_init rfl rfl (by decide) rfl rfl (hz0 12 (by decide)) ?_
  refine sx_putR g_X0_init rfl rfl (by decide) (fun _ => rfl) ?_
  refine sx_go (pc1 := 23) (l1 := [some (zr 10)]) (st1 := [zi 40, zr 10]) g_X0_init 2 _ _ _ rfl ?_
  refine sx_nI (m := 40) g_X0_init rfl rfl (by decide) rfl rfl (hz0 13 (by decide)) ?_
  refine sx_putR g_X0_init rfl rfl (by decide) (fun _ => rfl) ?_
  refine sx_go (pc1 := 32) (l1 := [some (zr 10)]) (st1 := [zi 160, zr 10]) g_X0_init 2 _ _ _ rfl ?_
  refine sx_nI (m := 160) g_X0_init rfl rfl (by decide) rfl rfl (hz0 14 (by decide)) ?_
  refine sx_putR g_X0_init rfl rfl (by decide) (fun _ => rfl) ?_
  refine sx_vret g_X0_init rfl ?_
  exact ⟨rfl, rfl⟩

set_option maxHeartbeats 1000000 in
theorem i_X4_17 {L : Nat} {c : zC} {nc ns : Nat} {Z : zI} (hg : Geo c) (hz4 : Z 2 4 = (cS c : Int)) (hz0 : ∀ a : Nat, 17 < a → ∀ j, Z a j = 0) : MS L (cS c) m_X4_init [zr 17, zr 2] (17, nc, ns, rl [(15, 1, 10), (15, 0, 2), (15, 5, 16), (1, 1, 10), (10, 6, 14), (10, 5, 13), (10, 4, 12), (10, 3, 11), (1, 0, 2), (2, 11, 9), (2, 7, 8), (2, 6, 7), (2, 5, 6), (2, 10, 5), (2, 9, 4), (2, 8, 3)], Z) (wU (20, nc + 1 + 1 + 1, ns + cS c + cS c + cS c, rl [(17, 3, 20), (17, 2, 19), (17, 1, 18), (17, 0, 2), (15, 1, 10), (15, 0, 2), (15, 5, 16), (1, 1, 10), (10, 6, 14), (10, 5, 13), (10, 4, 12), (10, 3, 11), (1, 0, 2), (2, 11, 9), (2, 7, 8), (2, 6, 7), (2, 5, 6), (2, 10, 5), (2, 9, 4), (2, 8, 3)], Z)) := by
  have g3_v := hg.S
  have hS1 : (cS c : Int) = ((cS c : Nat) : Int) := rfl
  refine MS.of g_X4_init ?_
  show SX L (cS c) m_X4_init 0 [some (zr 17), some (zr 2)] [] (17, nc, ns, rl [(15, 1, 10), (15, 0, 2), (15, 5, 16), (1, 1, 10), (10, 6, 14), (10, 5, 13), (10, 4, 12), (10, 3, 11), (1, 0, 2), (2, 11, 9), (2, 7, 8), (2, 6, 7), (2, 5, 6), (2, 10, 5), (2, 9, 4), (2, 8, 3)], Z) _
  refine sx_go (pc1 := 1) (l1 := [some (zr 17), some (zr 2)]) (st1 := [zr 17]) g_X4_init 1 _ _ _ rfl ?_
  refine sx_obj g_X4_init rfl (Nat.le_of_ble_eq_true rfl) ?_
  refine sx_go (pc1 := 6) (l1 := [some (zr 17), some (zr 2)]) (st1 := [zr 2, zr 17]) g_X4_init 2 _ _ _ rfl ?_
  refine sx_putR g_X4_init rfl rfl (by decide) (fun _ => rfl) ?_
  refine sx_go (pc1 := 14) (l1 := [some (zr 17), some (zr 2)]) (st1 := [zi (Z 2 4), zr 17]) g_X4_init 3 _ _ _ rfl ?_
  rw [show Z 2 4 = (cS c : Int) from hz4]
  refine sx_nI (m := cS c) g_X4_init rfl hS1 (by omega) rfl rfl (hz0 18 (by decide)) ?_
  refine sx_putR g_X4_init rfl rfl (by decide) (fun _ => rfl) ?_
  refine sx_go (pc1 := 24) (l1 := [some (zr 17), some (zr 2)]) (st1 := [zi (Z 2 4), zr 17]) g_X4_init 3 _ _ _ rfl ?_
  rw [show Z 2 4 = (cS c : Int) from hz4]
  refine sx_nI (m := cS c) g_X4_init rfl hS1 (by omega) rfl rfl (hz0 19 (by decide)) ?_
  refine sx_putR g_X4_init rfl rfl (by decide) (fun _ => rfl) ?_
  refine sx_go (pc1 := 34) (l1 := [some (zr 17), some (zr 2)]) (st1 := [zi (Z 2 4), zr 17]) g_X4_init 3 _ _ _ rfl ?_
  rw [show Z 2 4 = (cS c : Int) from hz4]
  refine sx_nI (m := cS c) g_X4_init rfl hS1 (by omega) rfl rfl (hz0 20 (by decide)) ?_
  refine sx_putR g_X4_init rfl rfl (by decide) (fun _ => rfl) ?_
  refine sx_vret g_X4_init rfl ?_
  exact ⟨rfl, rfl⟩

set_option maxHeartbeats 1000000 in
theorem i_X4_21 {L : Nat} {c : zC} {nc ns : Nat} {Z : zI} (hg : Geo c) (hz4 : Z 2 4 = (cS c : Int)) (hz0 : ∀ a : Nat, 21 < a → ∀ j, Z a j = 0) : MS L (cS c) m_X4_init [zr 21, zr 2] (21, nc, ns, rl [(15, 2, 17), (17, 3, 20), (17, 2, 19), (17, 1, 18), (17, 0, 2), (15, 1, 10), (15, 0, 2), (15, 5, 16), (1, 1, 10), (10, 6, 14), (10, 5, 13), (10, 4, 12), (10, 3, 11), (1, 0, 2), (2, 11, 9), (2, 7, 8), (2, 6, 7), (2, 5, 6), (2, 10, 5), (2, 9, 4), (2, 8, 3)], Z) (wU (24, nc + 1 + 1 + 1, ns + cS c + cS c + cS c, rl [(21, 3, 24), (21, 2, 23), (21, 1, 22), (21, 0, 2), (15, 2, 17), (17, 3, 20), (17, 2, 19), (17, 1, 18), (17, 0, 2), (15, 1, 10), (15, 0, 2), (15, 5, 16), (1, 1, 10), (10, 6, 14), (10, 5, 13), (10, 4, 12), (10, 3, 11), (1, 0, 2), (2, 11, 9), (2, 7, 8), (2, 6, 7), (2, 5, 6), (2, 10, 5), (2, 9, 4), (2, 8, 3)], Z)) := by
  have g3_v := hg.S
  have hS1 : (cS c : Int) = ((cS c : Nat) : Int) := rfl
  refine MS.of g_X4_init ?_
  show SX L (cS c) m_X4_init 0 [some (zr 21), some (zr 2)] [] (21, nc, ns, rl [(15, 2, 17), (17, 3, 20), (17, 2, 19), (17, 1, 18), (17, 0, 2), (15, 1, 10), (15, 0, 2), (15, 5, 16), (1, 1, 10), (10, 6, 14), (10, 5, 13), (10, 4, 12), (10, 3, 11), (1, 0, 2), (2, 11, 9), (2, 7, 8), (2, 6, 7), (2, 5, 6), (2, 10, 5), (2, 9, 4), (2, 8, 3)], Z) _
  refine sx_go (pc1 := 1) (l1 := [some (zr 21), some (zr 2)]) (st1 := [zr 21]) g_X4_init 1 _ _ _ rfl ?_
  refine sx_obj g_X4_init rfl (Nat.le_of_ble_eq_true rfl) ?_
  refine sx_go (pc1 := 6) (l1 := [some (zr 21), some (zr 2)]) (st1 := [zr 2, zr 21]) g_X4_init 2 _ _ _ rfl ?_
  refine sx_putR g_X4_init rfl rfl (by decide) (fun _ => rfl) ?_
  refine sx_go (pc1 := 14) (l1 := [some (zr 21), some (zr 2)]) (st1 := [zi (Z 2 4), zr 21]) g_X4_init 3 _ _ _ rfl ?_
  rw [show Z 2 4 = (cS c : Int) from hz4]
  refine sx_nI (m := cS c) g_X4_init rfl hS1 (by omega) rfl rfl (hz0 22 (by decide)) ?_
  refine sx_putR g_X4_init rfl rfl (by decide) (fun _ => rfl) ?_
  refine sx_go (pc1 := 24) (l1 := [some (zr 21), some (zr 2)]) (st1 := [zi (Z 2 4), zr 21]) g_X4_init 3 _ _ _ rfl ?_
  rw [show Z 2 4 = (cS c : Int) from hz4]
  refine sx_nI (m := cS c) g_X4_init rfl hS1 (by omega) rfl rfl (hz0 23 (by decide)) ?_
  refine sx_putR g_X4_init rfl rfl (by decide) (fun _ => rfl) ?_
  refine sx_go (pc1 := 34) (l1 := [some (zr 21), some (zr 2)]) (st1 := [zi (Z 2 4), zr 21]) g_X4_init 3 _ _ _ rfl ?_
  rw [show Z 2 4 = (cS c : Int) from hz4]
  refine sx_nI (m := cS c) g_X4_init rfl hS1 (by omega) rfl rfl (hz0 24 (by decide)) ?_
  refine sx_putR g_X4_init rfl rfl (by decide) (fun _ => rfl) ?_
  refine sx_vret g_X4_init rfl ?_
  exact ⟨rfl, rfl⟩

set_option maxHeartbeats 1000000 in
theorem i_X1 {L : Nat} {c : zC} {nc ns : Nat} {Z : zI} (hg : Geo c) (hz0 : ∀ a : Nat, 25 < a → ∀ j, Z a j = 0) : MS L (cS c) m_X1_init [zr 25, zi (cS c : Int)] (25, nc, ns, rl [(15, 3, 21), (21, 3, 24), (21, 2, 23), (21, 1, 22), (21, 0, 2), (15, 2, 17), (17, 3, 20), (17, 2, 19), (17, 1, 18), (17, 0, 2), (15, 1, 10), (15, 0, 2), (15, 5, 16), (1, 1, 10), (10, 6, 14), (10, 5, 13), (10, 4, 12), (10, 3, 11), (1, 0, 2), (2, 11, 9), (2, 7, 8), (2, 6, 7), (2, 5, 6), (2, 10, 5), (2, 9, 4), (2, 8, 3)], Z) (wU (28, nc + 1 + 1 + 1, ns + cS c + cS c + cS c, rl [(25, 2, 28), (25, 1, 27), (25, 0, 26), (15, 3, 21), (21, 3, 24), (21, 2, 23), (21, 1, 22), (21, 0, 2), (15, 2, 17), (17, 3, 20), (17, 2, 19), (17, 1, 18), (17, 0, 2), (15, 1, 10), (15, 0, 2), (15, 5, 16), (1, 1, 10), (10, 6, 14), (10, 5, 13), (10, 4, 12), (10, 3, 11), (1, 0, 2), (2, 11, 9), (2, 7, 8), (2, 6, 7), (2, 5, 6), (2, 10, 5), (2, 9, 4), (2, 8, 3)], Z)) := by
  have g3_v := hg.S
  have hS1 : (cS c : Int) = ((cS c : Nat) : Int) := rfl
  refine MS.of g_X1_init ?_
  show SX L (cS c) m_X1_init 0 [some (zr 25), some (zi (cS c : Int))] [] (25, nc, ns, rl [(15, 3, 21), (21, 3, 24), (21, 2, 23), (21, 1, 22), (21, 0, 2), (15, 2, 17), (17, 3, 20), (17, 2, 19), (17, 1, 18), (17, 0, 2), (15, 1, 10), (15, 0, 2), (15, 5, 16), (1, 1, 10), (10, 6, 14), (10, 5, 13), (10, 4, 12), (10, 3, 11), (1, 0, 2), (2, 11, 9), (2, 7, 8), (2, 6, 7), (2, 5, 6), (2, 10, 5), (2, 9, 4), (2, 8, 3)], Z) _
  refine sx_go (pc1 := 1) (l1 := [some (zr 25), some (zi (cS c : Int))]) (st1 := [zr 25]) g_X1_init 1 _ _ _ rfl ?_
  refine sx_obj g_X1_init rfl (Nat.le_of_ble_eq_true rfl) ?_
  refine sx_go (pc1 := 6) (l1 := [some (zr 25), some (zi (cS c : Int))]) (st1 := [zi (cS c : Int), zr 25]) g_X1_init 2 _ _ _ rfl ?_
  refine sx_nI (m := cS c) g_X1_init rfl hS1 (by omega) rfl rfl (hz0 26 (by decide)) ?_
  refine sx_putR g_X1_init rfl rfl (by decide) (fun _ => rfl) ?_
  refine sx_go (pc1 := 13) (l1 := [some (zr 25), some (zi (cS c : Int))]) (st1 := [zi (cS c : Int), zr 25]) g_X1_init 2 _ _ _ rfl ?_
  refine sx_nI (m := cS c) g_X1_init rfl hS1 (by omega) rfl rfl (hz0 27 (by decide)) ?_
  refine sx_putR g_X1_init rfl rfl (by decide) (fun _ => rfl) ?_
  refine sx_go (pc1 := 20) (l1 := [some (zr 25), some (zi (cS c : Int))]) (st1 := [zi (cS c : Int), zr 25]) g_X1_init 2 _ _ _ rfl ?_
  refine sx_nI (m := cS c) g_X1_init rfl hS1 (by omega) rfl rfl (hz0 28 (by decide)) ?_
  refine sx_putR g_X1_init rfl rfl (by decide) (fun _ => rfl) ?_
  refine sx_vret g_X1_init rfl ?_
  exact ⟨rfl, rfl⟩

set_option maxHeartbeats 1000000 in
theorem i_X3 {L : Nat} {c : zC} {nc ns : Nat} {Z : zI} (hg : Geo c) (hz4 : Z 2 4 = (cS c : Int)) (hz0 : ∀ a : Nat, 15 < a → ∀ j, Z a j = 0) : MS L (cS c) m_X3_init [zr 15, zr 2, zr 10] (15, nc, ns, rl [(1, 1, 10), (10, 6, 14), (10, 5, 13), (10, 4, 12), (10, 3, 11), (1, 0, 2), (2, 11, 9), (2, 7, 8), (2, 6, 7), (2, 5, 6), (2, 10, 5), (2, 9, 4), (2, 8, 3)], Z) (wU (31, nc + 1 + 1 + 1 + 1 + 1 + 1 + 1 + 1 + 1 + 1 + 1 + 1 + 1 + 1 + 1 + 1, ns + 40 + 4 + cS c + cS c + cS c + 4 + cS c + cS c + cS c + 4 + cS c + cS c + cS c + cS c + cS c + cS c, rl [(15, 8, 31), (15, 7, 30), (15, 6, 29), (15, 4, 25), (25, 2, 28), (25, 1, 27), (25, 0, 26), (15, 3, 21), (21, 3, 24), (21, 2, 23), (21, 1, 22), (21, 0, 2), (15, 2, 17), (17, 3, 20), (17, 2, 19), (17, 1, 18), (17, 0, 2), (15, 1, 10), (15, 0, 2), (15, 5, 16), (1, 1, 10), (10, 6, 14), (10, 5, 13), (10, 4, 12), (10, 3, 11), (1, 0, 2), (2, 11, 9), (2, 7, 8), (2, 6, 7), (2, 5, 6), (2, 10, 5), (2, 9, 4), (2, 8, 3)], Z)) := by
  have g3_v := hg.S
  have hS1 : (cS c : Int) = ((cS c : Nat) : Int) := rfl
  refine MS.of g_X3_init ?_
  show SX L (cS c) m_X3_init 0 [some (zr 15), some (zr 2), some (zr 10)] [] (15, nc, ns, rl [(1, 1, 10), (10, 6, 14), (10, 5, 13), (10, 4, 12), (10, 3, 11), (1, 0, 2), (2, 11, 9), (2, 7, 8), (2, 6, 7), (2, 5, 6), (2, 10, 5), (2, 9, 4), (2, 8, 3)], Z) _
  refine sx_go (pc1 := 1) (l1 := [some (zr 15), some (zr 2), some (zr 10)]) (st1 := [zr 15]) g_X3_init 1 _ _ _ rfl ?_
  refine sx_obj g_X3_init rfl (Nat.le_of_ble_eq_true rfl) ?_
  refine sx_go (pc1 := 7) (l1 := [some (zr 15), some (zr 2), some (zr 10)]) (st1 := [zi 40, zr 15]) g_X3_init 2 _ _ _ rfl ?_
  refine sx_nI (m := 40) g_X3_init rfl rfl (by decide) rfl rfl (hz0 16 (by decide)) ?_
  refine sx_putR g_X3_init rfl rfl (by decide) (fun _ => rfl) ?_
  refine sx_go (pc1 := 14) (l1 := [some (zr 15), some (zr 2), some (zr 10)]) (st1 := [zr 2, zr 15]) g_X3_init 2 _ _ _ rfl ?_
  refine sx_putR g_X3_init rfl rfl (by decide) (fun _ => rfl) ?_
  refine sx_go (pc1 := 19) (l1 := [some (zr 15), some (zr 2), some (zr 10)]) (st1 := [zr 10, zr 15]) g_X3_init 2 _ _ _ rfl ?_
  refine sx_putR g_X3_init rfl rfl (by decide) (fun _ => rfl) ?_
  refine sx_go (pc1 := 23) (l1 := [some (zr 15), some (zr 2), some (zr 10)]) (st1 := [zr 15]) g_X3_init 1 _ _ _ rfl ?_
  refine sx_new (nf := 4) g_X3_init rfl rfl rfl (hz0 17 (by decide)) rfl ?_
  refine sx_go (pc1 := 28) (l1 := [some (zr 15), some (zr 2), some (zr 10)]) (st1 := [zr 2, zr 17, zr 17, zr 15]) g_X3_init 2 _ _ _ rfl ?_
  refine sx_ciU (As := [zr 2]) (rest := [zr 17, zr 15]) g_X3_init rfl g_X4_init rfl rfl (Nat.le_of_ble_eq_true rfl) (Nat.le_of_ble_eq_true rfl) (i_X4_17 hg hz4 (fun a h j => hz0 a (Nat.lt_trans (by decide) h) j)) ?_
  refine sx_putR g_X3_init rfl rfl (by decide) (fun _ => rfl) ?_
  refine sx_go (pc1 := 35) (l1 := [some (zr 15), some (zr 2), some (zr 10)]) (st1 := [zr 15]) g_X3_init 1 _ _ _ rfl ?_
  refine sx_new (nf := 4) g_X3_init rfl rfl rfl (hz0 21 (by decide)) rfl ?_
  refine sx_go (pc1 := 40) (l1 := [some (zr 15), some (zr 2), some (zr 10)]) (st1 := [zr 2, zr 21, zr 21, zr 15]) g_X3_init 2 _ _ _ rfl ?_
  refine sx_ciU (As := [zr 2]) (rest := [zr 21, zr 15]) g_X3_init rfl g_X4_init rfl rfl (Nat.le_of_ble_eq_true rfl) (Nat.le_of_ble_eq_true rfl) (i_X4_21 hg hz4 (fun a h j => hz0 a (Nat.lt_trans (by decide) h) j)) ?_
  refine sx_putR g_X3_init rfl rfl (by decide) (fun _ => rfl) ?_
  refine sx_go (pc1 := 47) (l1 := [some (zr 15), some (zr 2), some (zr 10)]) (st1 := [zr 15]) g_X3_init 1 _ _ _ rfl ?_
  refine sx_new (nf := 4) g_X3_init rfl rfl rfl (hz0 25 (by decide)) rfl ?_
  refine sx_go (pc1 := 55) (l1 := [some (zr 15), some (zr 2), some (zr 10)]) (st1 := [zi (Z 2 4), zr 25, zr 25, zr 15]) g_X3_init 3 _ _ _ rfl ?_
  rw [show Z 2 4 = (cS c : Int) from hz4]
  refine sx_ciU (As := [zi (cS c : Int)]) (rest := [zr 25, zr 15]) g_X3_init rfl g_X1_init rfl rfl (Nat.le_of_ble_eq_true rfl) (Nat.le_of_ble_eq_true rfl) (i_X1 hg (fun a h j => hz0 a (Nat.lt_trans (by decide) h) j)) ?_
  refine sx_putR g_X3_init rfl rfl (by decide) (fun _ => rfl) ?_
  refine sx_go (pc1 := 66) (l1 := [some (zr 15), some (zr 2), some (zr 10)]) (st1 := [zi (Z 2 4), zr 15]) g_X3_init 3 _ _ _ rfl ?_
  rw [show Z 2 4 = (cS c : Int) from hz4]
  refine sx_nI (m := cS c) g_X3_init rfl hS1 (by omega) rfl rfl (hz0 29 (by decide)) ?_
  refine sx_putR g_X3_init rfl rfl (by decide) (fun _ => rfl) ?_
  refine sx_go (pc1 := 76) (l1 := [some (zr 15), some (zr 2), some (zr 10)]) (st1 := [zi (Z 2 4), zr 15]) g_X3_init 3 _ _ _ rfl ?_
  rw [show Z 2 4 = (cS c : Int) from hz4]
  refine sx_nI (m := cS c) g_X3_init rfl hS1 (by omega) rfl rfl (hz0 30 (by decide)) ?_
  refine sx_putR g_X3_init rfl rfl (by decide) (fun _ => rfl) ?_
  refine sx_go (pc1 := 86) (l1 := [some (zr 15), some (zr 2), some (zr 10)]) (st1 := [zi (Z 2 4), zr 15]) g_X3_init 3 _ _ _ rfl ?_
  rw [show Z 2 4 = (cS c : Int) from hz4]
  refine sx_nI (m := cS c) g_X3_init rfl hS1 (by omega) rfl rfl (hz0 31 (by decide)) ?_
  refine sx_putR g_X3_init rfl rfl (by decide) (fun _ => rfl) ?_
  refine sx_vret g_X3_init rfl ?_
  exact ⟨rfl, rfl⟩

