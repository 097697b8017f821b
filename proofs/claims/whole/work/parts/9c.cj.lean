/-! ===== the constructors, and the law up to its loop ===== -/
theorem i_clipE {L S : Nat} {w : sW} {v m u : Int} (hv : inR64 v) (hm : inR m) (he : clp v m = u) : MS L S m_X6_clip [zl v, zi m] w (wF u w) := by
  rw [← he]
  exact i_clip hv hm
theorem i_cellE {L S : Nat} {w : sW} {j u u0 : Int} (hL : L ≤ 643) (j0 : 0 ≤ j) (j1 : j < 3) (hz : w.2.2.2.2 0 j = u0) (he : (if j < L then u0 else 0) = u) : MS L S m_L_cell [zr 0, zi j] w (wF u w) := by
  rw [← he, ← hz]
  exact i_cell hL j0 j1

set_option maxHeartbeats 1000000 in
theorem i_X5 {L : Nat} {c : zC} {nc ns : Nat} {Z : zI} (hg : Geo c) {v0 v1 v2 : Int} (r0 : inR v0) (r1 : inR v1) (r2 : inR v2) (eLa : max 1 (min 3 v0) = cLa c) (eW : max 1 (min 24 v1) = cW c) (eH : max 1 (min 24 v2) = cH c) (hz0 : ∀ a : Nat, 1 < a → ∀ j, Z a j = 0) : MS L (cS c) m_X5_init [zr 1, zi v0, zl v1, zl v2] (1, nc, ns, rl [], Z) (wU (31, nc + 1 + 1 + 1 + 1 + 1 + 1 + 1 + 1 + 1 + 1 + 1 + 1 + 1 + 1 + 1 + 1 + 1 + 1 + 1 + 1 + 1 + 1 + 1 + 1 + 1 + 1 + 1 + 1 + 1 + 1, ns + 13 + 3 + 3 + 3 + cS c + cS c + cS c + cS c + 7 + 40 + 16 + 40 + 160 + 16 + 40 + 4 + cS c + cS c + cS c + 4 + cS c + cS c + cS c + 4 + cS c + cS c + cS c + cS c + cS c + cS c, rl [(1, 2, 15), (15, 8, 31), (15, 7, 30), (15, 6, 29), (15, 4, 25), (25, 2, 28), (25, 1, 27), (25, 0, 26), (15, 3, 21), (21, 3, 24), (21, 2, 23), (21, 1, 22), (21, 0, 2), (15, 2, 17), (17, 3, 20), (17, 2, 19), (17, 1, 18), (17, 0, 2), (15, 1, 10), (15, 0, 2), (15, 5, 16), (1, 1, 10), (10, 6, 14), (10, 5, 13), (10, 4, 12), (10, 3, 11), (1, 0, 2), (2, 11, 9), (2, 7, 8), (2, 6, 7), (2, 5, 6), (2, 10, 5), (2, 9, 4), (2, 8, 3)], zU ((npZ c (zU (zU (zU (zU (zU (zU (zU (zU (zU (zU (zU Z 2 0 (cLa c)) 2 1 (cW c)) 2 2 (cH c)) 2 3 ((cW c) * (cH c))) 2 4 ((cLa c) * ((cW c) * (cH c)))) 4 0 3) 4 1 3) 4 2 3) 5 0 5) 5 1 5) 5 2 5) (cS c : Int))) 1 3 0)) := by
  have g2 := hg
  unfold Geo at g2
  have g3_v := hg.S
  have hS1 : cLa c * (cW c * cH c) = ((cS c : Nat) : Int) := hg.2.2.2.2.2.2.symm
  refine MS.of g_X5_init ?_
  show SX L (cS c) m_X5_init 0 [some (zr 1), some (zi v0), some (zl v1), none, some (zl v2), none, none, none, none] [] (1, nc, ns, rl [], Z) _
  refine sx_go (pc1 := 1) (l1 := [some (zr 1), some (zi v0), some (zl v1), none, some (zl v2), none, none, none, none]) (st1 := [zr 1]) g_X5_init 1 _ _ _ rfl ?_
  refine sx_obj g_X5_init rfl (Nat.le_of_ble_eq_true rfl) ?_
  refine sx_go (pc1 := 7) (l1 := [some (zr 1), some (zi v0), some (zl v1), none, some (zl v2), none, none, none, none]) (st1 := [zi v0, zi 3, zi 1]) g_X5_init 3 _ _ _ rfl ?_
  refine sx_imin g_X5_init rfl (Nat.le_of_ble_eq_true rfl) (by decide) (by omega) ?_
  refine sx_imax g_X5_init rfl (Nat.le_of_ble_eq_true rfl) (by decide) (by omega) ?_
  refine sx_go (pc1 := 20) (l1 := [some (zr 1), some (zi v0), some (zl v1), none, some (zl v2), none, some (zi (max 1 (min 3 v0))), none, none]) (st1 := [zl v1, zl 24, zl 1]) g_X5_init 4 _ _ _ rfl ?_
  refine sx_lmin g_X5_init rfl (Nat.le_of_ble_eq_true rfl) (by decide) (by omega) ?_
  refine sx_lmax g_X5_init rfl (Nat.le_of_ble_eq_true rfl) (by decide) (by omega) ?_
  refine sx_go (pc1 := 35) (l1 := [some (zr 1), some (zi v0), some (zl v1), none, some (zl v2), none, some (zi (max 1 (min 3 v0))), some (zi (max 1 (min 24 v1))), none]) (st1 := [zl v2, zl 24, zl 1]) g_X5_init 5 _ _ _ rfl ?_
  refine sx_lmin g_X5_init rfl (Nat.le_of_ble_eq_true rfl) (by decide) (by omega) ?_
  refine sx_lmax g_X5_init rfl (Nat.le_of_ble_eq_true rfl) (by decide) (by omega) ?_
  refine sx_go (pc1 := 44) (l1 := [some (zr 1), some (zi v0), some (zl v1), none, some (zl v2), none, some (zi (max 1 (min 3 v0))), some (zi (max 1 (min 24 v1))), some (zi (max 1 (min 24 v2)))]) (st1 := []) g_X5_init 2 _ _ _ rfl ?_
  rw [eLa, eW, eH]
  refine sx_go (pc1 := 45) (l1 := [some (zr 1), some (zi v0), some (zl v1), none, some (zl v2), none, some (zi (cLa c)), some (zi (cW c)), some (zi (cH c))]) (st1 := [zr 1]) g_X5_init 1 _ _ _ rfl ?_
  refine sx_new (nf := 13) g_X5_init rfl rfl rfl (hz0 2 (by decide)) rfl ?_
  refine sx_go (pc1 := 55) (l1 := [some (zr 1), some (zi v0), some (zl v1), none, some (zl v2), none, some (zi (cLa c)), some (zi (cW c)), some (zi (cH c))]) (st1 := [zi (cH c), zi (cW c), zi (cLa c), zr 2, zr 2, zr 1]) g_X5_init 4 _ _ _ rfl ?_
  refine sx_ciU (As := [zi (cLa c), zi (cW c), zi (cH c)]) (rest := [zr 2, zr 1]) g_X5_init rfl g_X2_init rfl rfl (Nat.le_of_ble_eq_true rfl) (Nat.le_of_ble_eq_true rfl) (i_X2 hg (fun a h_v => (hz0 a (by omega)))) ?_
  refine sx_putR g_X5_init rfl rfl (by decide) (fun _ => rfl) ?_
  refine sx_go (pc1 := 62) (l1 := [some (zr 1), some (zi v0), some (zl v1), none, some (zl v2), none, some (zi (cLa c)), some (zi (cW c)), some (zi (cH c))]) (st1 := [zr 1]) g_X5_init 1 _ _ _ rfl ?_
  refine sx_new (nf := 7) g_X5_init rfl rfl rfl (fun j => (npZ_o (by decide) (by decide) (by decide)).trans ((zU_z (by decide) (zU_z (by decide) (zU_z (by decide) (zU_z (by decide) (zU_z (by decide) (zU_z (by decide) (zU_z (by decide) (zU_z (by decide) (zU_z (by decide) (zU_z (by decide) (zU_z (by decide) (hz0 10 (by decide))))))))))))) j)) rfl ?_
  refine sx_go (pc1 := 66) (l1 := [some (zr 1), some (zi v0), some (zl v1), none, some (zl v2), none, some (zi (cLa c)), some (zi (cW c)), some (zi (cH c))]) (st1 := [zr 10, zr 10, zr 1]) g_X5_init 1 _ _ _ rfl ?_
  refine sx_ciU (As := []) (rest := [zr 10, zr 1]) g_X5_init rfl g_X0_init rfl rfl (Nat.le_of_ble_eq_true rfl) (Nat.le_of_ble_eq_true rfl) (i_X0 (fun a h_v => (fun j => (npZ_o (by omega) (by omega) (by omega)).trans ((zU_z (by omega) (zU_z (by omega) (zU_z (by omega) (zU_z (by omega) (zU_z (by omega) (zU_z (by omega) (zU_z (by omega) (zU_z (by omega) (zU_z (by omega) (zU_z (by omega) (zU_z (by omega) (hz0 a (by omega))))))))))))) j)))) ?_
  refine sx_putR g_X5_init rfl rfl (by decide) (fun _ => rfl) ?_
  refine sx_go (pc1 := 73) (l1 := [some (zr 1), some (zi v0), some (zl v1), none, some (zl v2), none, some (zi (cLa c)), some (zi (cW c)), some (zi (cH c))]) (st1 := [zr 1]) g_X5_init 1 _ _ _ rfl ?_
  refine sx_new (nf := 16) g_X5_init rfl rfl rfl (fun j => (npZ_o (by decide) (by decide) (by decide)).trans ((zU_z (by decide) (zU_z (by decide) (zU_z (by decide) (zU_z (by decide) (zU_z (by decide) (zU_z (by decide) (zU_z (by decide) (zU_z (by decide) (zU_z (by decide) (zU_z (by decide) (zU_z (by decide) (hz0 15 (by decide))))))))))))) j)) rfl ?_
  refine sx_go (pc1 := 85) (l1 := [some (zr 1), some (zi v0), some (zl v1), none, some (zl v2), none, some (zi (cLa c)), some (zi (cW c)), some (zi (cH c))]) (st1 := [zr 10, zr 2, zr 15, zr 15, zr 1]) g_X5_init 5 _ _ _ rfl ?_
  refine sx_ciU (As := [zr 2, zr 10]) (rest := [zr 15, zr 1]) g_X5_init rfl g_X3_init rfl rfl (Nat.le_of_ble_eq_true rfl) (Nat.le_of_ble_eq_true rfl) (i_X3 hg (((npZ_o (by decide) (by decide) (by decide)).trans (zU_o (by decide) (zU_o (by decide) (zU_o (by decide) (zU_o (by decide) (zU_o (by decide) (zU_o (by decide) (zU_same _ _ _ _)))))))).trans hS1) (fun a h_v => (fun j => (npZ_o (by omega) (by omega) (by omega)).trans ((zU_z (by omega) (zU_z (by omega) (zU_z (by omega) (zU_z (by omega) (zU_z (by omega) (zU_z (by omega) (zU_z (by omega) (zU_z (by omega) (zU_z (by omega) (zU_z (by omega) (zU_z (by omega) (hz0 a (by omega))))))))))))) j)))) ?_
  refine sx_putR g_X5_init rfl rfl (by decide) (fun _ => rfl) ?_
  refine sx_go (pc1 := 93) (l1 := [some (zr 1), some (zi v0), some (zl v1), none, some (zl v2), none, some (zi (cLa c)), some (zi (cW c)), some (zi (cH c))]) (st1 := [zi 0, zr 1]) g_X5_init 2 _ _ _ rfl ?_
  refine sx_putI g_X5_init rfl rfl (by decide) (put_b rfl) (.inl rfl) ?_
  refine sx_vret g_X5_init rfl ?_
  exact ⟨rfl, rfl⟩

set_option maxHeartbeats 1000000 in
theorem i_X6 {L : Nat} {c : zC} {nc ns : Nat} {Z : zI} {v0 v1 v2 : Int} (r0 : inR v0) (r1 : inR v1) (r2 : inR v2) (fLa : clp v0 3 = cLa c) (fW : clp v1 24 = cW c) (fH : clp v2 24 = cH c) (hz0 : ∀ a : Nat, 32 < a → ∀ j, Z a j = 0) : MS L (cS c) m_X6_init [zr 32, zi v0, zl v1, zl v2] (32, nc, ns, rl [(1, 2, 15), (15, 8, 31), (15, 7, 30), (15, 6, 29), (15, 4, 25), (25, 2, 28), (25, 1, 27), (25, 0, 26), (15, 3, 21), (21, 3, 24), (21, 2, 23), (21, 1, 22), (21, 0, 2), (15, 2, 17), (17, 3, 20), (17, 2, 19), (17, 1, 18), (17, 0, 2), (15, 1, 10), (15, 0, 2), (15, 5, 16), (1, 1, 10), (10, 6, 14), (10, 5, 13), (10, 4, 12), (10, 3, 11), (1, 0, 2), (2, 11, 9), (2, 7, 8), (2, 6, 7), (2, 5, 6), (2, 10, 5), (2, 9, 4), (2, 8, 3)], Z) (wU (54, nc + 1 + 1 + 1 + 1 + 1 + 1 + 1 + 1 + 1 + 1 + 1 + 1 + 1 + 1 + 1 + 1 + 1 + 1 + 1 + 1 + 1 + 1, ns + 3 + 3 + 3 + 1728 + 16 + 40 + 160 + 40 + 40 + 16 + 16 + 16 + 1728 + 27648 + 27648 + 1728 + 1728 + 1728 + 1728 + 1728 + 16 + 27648, rl [(32, 31, 54), (32, 30, 53), (32, 29, 52), (32, 28, 51), (32, 27, 50), (32, 26, 49), (32, 25, 48), (32, 21, 47), (32, 20, 46), (32, 19, 45), (32, 18, 44), (32, 17, 43), (32, 16, 42), (32, 15, 41), (32, 13, 40), (32, 12, 39), (32, 11, 38), (32, 9, 37), (32, 7, 36), (32, 6, 35), (32, 5, 34), (32, 4, 33), (1, 2, 15), (15, 8, 31), (15, 7, 30), (15, 6, 29), (15, 4, 25), (25, 2, 28), (25, 1, 27), (25, 0, 26), (15, 3, 21), (21, 3, 24), (21, 2, 23), (21, 1, 22), (21, 0, 2), (15, 2, 17), (17, 3, 20), (17, 2, 19), (17, 1, 18), (17, 0, 2), (15, 1, 10), (15, 0, 2), (15, 5, 16), (1, 1, 10), (10, 6, 14), (10, 5, 13), (10, 4, 12), (10, 3, 11), (1, 0, 2), (2, 11, 9), (2, 7, 8), (2, 6, 7), (2, 5, 6), (2, 10, 5), (2, 9, 4), (2, 8, 3)], zU (zU (zU (zU (zU (zU (zU (zU (zU Z 34 0 3) 34 1 3) 34 2 3) 35 0 5) 35 1 5) 35 2 5) 32 1 (cLa c)) 32 2 (cW c)) 32 3 (cH c))) := by
  refine MS.of g_X6_init ?_
  show SX L (cS c) m_X6_init 0 [some (zr 32), some (zi v0), some (zl v1), none, some (zl v2), none] [] (32, nc, ns, rl [(1, 2, 15), (15, 8, 31), (15, 7, 30), (15, 6, 29), (15, 4, 25), (25, 2, 28), (25, 1, 27), (25, 0, 26), (15, 3, 21), (21, 3, 24), (21, 2, 23), (21, 1, 22), (21, 0, 2), (15, 2, 17), (17, 3, 20), (17, 2, 19), (17, 1, 18), (17, 0, 2), (15, 1, 10), (15, 0, 2), (15, 5, 16), (1, 1, 10), (10, 6, 14), (10, 5, 13), (10, 4, 12), (10, 3, 11), (1, 0, 2), (2, 11, 9), (2, 7, 8), (2, 6, 7), (2, 5, 6), (2, 10, 5), (2, 9, 4), (2, 8, 3)], Z) _
  refine sx_go (pc1 := 1) (l1 := [some (zr 32), some (zi v0), some (zl v1), none, some (zl v2), none]) (st1 := [zr 32]) g_X6_init 1 _ _ _ rfl ?_
  refine sx_obj g_X6_init rfl (Nat.le_of_ble_eq_true rfl) ?_
  refine sx_go (pc1 := 6) (l1 := [some (zr 32), some (zi v0), some (zl v1), none, some (zl v2), none]) (st1 := [zi 3, zr 32]) g_X6_init 2 _ _ _ rfl ?_
  refine sx_nI (m := 3) g_X6_init rfl rfl (by decide) rfl rfl (hz0 33 (by decide)) ?_
  refine sx_putR g_X6_init rfl rfl (by decide) (fun _ => rfl) ?_
  refine sx_go (pc1 := 13) (l1 := [some (zr 32), some (zi v0), some (zl v1), none, some (zl v2), none]) (st1 := [zi 3, zr 32]) g_X6_init 2 _ _ _ rfl ?_
  refine sx_nI (m := 3) g_X6_init rfl rfl (by decide) rfl rfl (hz0 34 (by decide)) ?_
  refine sx_go (pc1 := 18) (l1 := [some (zr 32), some (zi v0), some (zl v1), none, some (zl v2), none]) (st1 := [zi 3, zi 0, zr 34, zr 34, zr 32]) g_X6_init 3 _ _ _ rfl ?_
  refine sx_iast (m := 3) g_X6_init rfl rfl (by decide) (by decide) (by decide) (by decide) ?_
  refine sx_go (pc1 := 22) (l1 := [some (zr 32), some (zi v0), some (zl v1), none, some (zl v2), none]) (st1 := [zi 3, zi 1, zr 34, zr 34, zr 32]) g_X6_init 3 _ _ _ rfl ?_
  refine sx_iast (m := 3) g_X6_init rfl rfl (by decide) (by decide) (by decide) (by decide) ?_
  refine sx_go (pc1 := 26) (l1 := [some (zr 32), some (zi v0), some (zl v1), none, some (zl v2), none]) (st1 := [zi 3, zi 2, zr 34, zr 34, zr 32]) g_X6_init 3 _ _ _ rfl ?_
  refine sx_iast (m := 3) g_X6_init rfl rfl (by decide) (by decide) (by decide) (by decide) ?_
  refine sx_putR g_X6_init rfl rfl (by decide) (fun _ => rfl) ?_
  refine sx_go (pc1 := 32) (l1 := [some (zr 32), some (zi v0), some (zl v1), none, some (zl v2), none]) (st1 := [zi 3, zr 32]) g_X6_init 2 _ _ _ rfl ?_
  refine sx_nI (m := 3) g_X6_init rfl rfl (by decide) rfl rfl (zU_z (by decide) (zU_z (by decide) (zU_z (by decide) (hz0 35 (by decide))))) ?_
  refine sx_go (pc1 := 37) (l1 := [some (zr 32), some (zi v0), some (zl v1), none, some (zl v2), none]) (st1 := [zi 5, zi 0, zr 35, zr 35, zr 32]) g_X6_init 3 _ _ _ rfl ?_
  refine sx_iast (m := 3) g_X6_init rfl rfl (by decide) (by decide) (by decide) (by decide) ?_
  refine sx_go (pc1 := 41) (l1 := [some (zr 32), some (zi v0), some (zl v1), none, some (zl v2), none]) (st1 := [zi 5, zi 1, zr 35, zr 35, zr 32]) g_X6_init 3 _ _ _ rfl ?_
  refine sx_iast (m := 3) g_X6_init rfl rfl (by decide) (by decide) (by decide) (by decide) ?_
  refine sx_go (pc1 := 45) (l1 := [some (zr 32), some (zi v0), some (zl v1), none, some (zl v2), none]) (st1 := [zi 5, zi 2, zr 35, zr 35, zr 32]) g_X6_init 3 _ _ _ rfl ?_
  refine sx_iast (m := 3) g_X6_init rfl rfl (by decide) (by decide) (by decide) (by decide) ?_
  refine sx_putR g_X6_init rfl rfl (by decide) (fun _ => rfl) ?_
  refine sx_go (pc1 := 53) (l1 := [some (zr 32), some (zi v0), some (zl v1), none, some (zl v2), none]) (st1 := [zi 1728, zr 32]) g_X6_init 2 _ _ _ rfl ?_
  refine sx_nB (m := 1728) g_X6_init rfl rfl (by decide) rfl rfl (zU_z (by decide) (zU_z (by decide) (zU_z (by decide) (zU_z (by decide) (zU_z (by decide) (zU_z (by decide) (hz0 36 (by decide)))))))) ?_
  refine sx_putR g_X6_init rfl rfl (by decide) (fun _ => rfl) ?_
  refine sx_go (pc1 := 61) (l1 := [some (zr 32), some (zi v0), some (zl v1), none, some (zl v2), none]) (st1 := [zi 16, zr 32]) g_X6_init 2 _ _ _ rfl ?_
  refine sx_nB (m := 16) g_X6_init rfl rfl (by decide) rfl rfl (zU_z (by decide) (zU_z (by decide) (zU_z (by decide) (zU_z (by decide) (zU_z (by decide) (zU_z (by decide) (hz0 37 (by decide)))))))) ?_
  refine sx_putR g_X6_init rfl rfl (by decide) (fun _ => rfl) ?_
  refine sx_go (pc1 := 69) (l1 := [some (zr 32), some (zi v0), some (zl v1), none, some (zl v2), none]) (st1 := [zi 40, zr 32]) g_X6_init 2 _ _ _ rfl ?_
  refine sx_nI (m := 40) g_X6_init rfl rfl (by decide) rfl rfl (zU_z (by decide) (zU_z (by decide) (zU_z (by decide) (zU_z (by decide) (zU_z (by decide) (zU_z (by decide) (hz0 38 (by decide)))))))) ?_
  refine sx_putR g_X6_init rfl rfl (by decide) (fun _ => rfl) ?_
  refine sx_go (pc1 := 78) (l1 := [some (zr 32), some (zi v0), some (zl v1), none, some (zl v2), none]) (st1 := [zi 160, zr 32]) g_X6_init 2 _ _ _ rfl ?_
  refine sx_nI (m := 160) g_X6_init rfl rfl (by decide) rfl rfl (zU_z (by decide) (zU_z (by decide) (zU_z (by decide) (zU_z (by decide) (zU_z (by decide) (zU_z (by decide) (hz0 39 (by decide)))))))) ?_
  refine sx_putR g_X6_init rfl rfl (by decide) (fun _ => rfl) ?_
  refine sx_go (pc1 := 86) (l1 := [some (zr 32), some (zi v0), some (zl v1), none, some (zl v2), none]) (st1 := [zi 40, zr 32]) g_X6_init 2 _ _ _ rfl ?_
  refine sx_nI (m := 40) g_X6_init rfl rfl (by decide) rfl rfl (zU_z (by decide) (zU_z (by decide) (zU_z (by decide) (zU_z (by decide) (zU_z (by decide) (zU_z (by decide) (hz0 40 (by decide)))))))) ?_
  refine sx_putR g_X6_init rfl rfl (by decide) (fun _ => rfl) ?_
  refine sx_go (pc1 := 94) (l1 := [some (zr 32), some (zi v0), some (zl v1), none, some (zl v2), none]) (st1 := [zi 40, zr 32]) g_X6_init 2 _ _ _ rfl ?_
  refine sx_nI (m := 40) g_X6_init rfl rfl (by decide) rfl rfl (zU_z (by decide) (zU_z (by decide) (zU_z (by decide) (zU_z (by decide) (zU_z (by decide) (zU_z (by decide) (hz0 41 (by decide)))))))) ?_
  refine sx_putR g_X6_init rfl rfl (by decide) (fun _ => rfl) ?_
  refine sx_go (pc1 := 102) (l1 := [some (zr 32), some (zi v0), some (zl v1), none, some (zl v2), none]) (st1 := [zi 16, zr 32]) g_X6_init 2 _ _ _ rfl ?_
  refine sx_nB (m := 16) g_X6_init rfl rfl (by decide) rfl rfl (zU_z (by decide) (zU_z (by decide) (zU_z (by decide) (zU_z (by decide) (zU_z (by decide) (zU_z (by decide) (hz0 42 (by decide)))))))) ?_
  refine sx_putR g_X6_init rfl rfl (by decide) (fun _ => rfl) ?_
  refine sx_go (pc1 := 110) (l1 := [some (zr 32), some (zi v0), some (zl v1), none, some (zl v2), none]) (st1 := [zi 16, zr 32]) g_X6_init 2 _ _ _ rfl ?_
  refine sx_nB (m := 16) g_X6_init rfl rfl (by decide) rfl rfl (zU_z (by decide) (zU_z (by decide) (zU_z (by decide) (zU_z (by decide) (zU_z (by decide) (zU_z (by decide) (hz0 43 (by decide)))))))) ?_
  refine sx_putR g_X6_init rfl rfl (by decide) (fun _ => rfl) ?_
  refine sx_go (pc1 := 118) (l1 := [some (zr 32), some (zi v0), some (zl v1), none, some (zl v2), none]) (st1 := [zi 16, zr 32]) g_X6_init 2 _ _ _ rfl ?_
  refine sx_nI (m := 16) g_X6_init rfl rfl (by decide) rfl rfl (zU_z (by decide) (zU_z (by decide) (zU_z (by decide) (zU_z (by decide) (zU_z (by decide) (zU_z (by decide) (hz0 44 (by decide)))))))) ?_
  refine sx_putR g_X6_init rfl rfl (by decide) (fun _ => rfl) ?_
  refine sx_go (pc1 := 127) (l1 := [some (zr 32), some (zi v0), some (zl v1), none, some (zl v2), none]) (st1 := [zi 1728, zr 32]) g_X6_init 2 _ _ _ rfl ?_
  refine sx_nI (m := 1728) g_X6_init rfl rfl (by decide) rfl rfl (zU_z (by decide) (zU_z (by decide) (zU_z (by decide) (zU_z (by decide) (zU_z (by decide) (zU_z (by decide) (hz0 45 (by decide)))))))) ?_
  refine sx_putR g_X6_init rfl rfl (by decide) (fun _ => rfl) ?_
  refine sx_go (pc1 := 136) (l1 := [some (zr 32), some (zi v0), some (zl v1), none, some (zl v2), none]) (st1 := [zi 27648, zr 32]) g_X6_init 2 _ _ _ rfl ?_
  refine sx_nB (m := 27648) g_X6_init rfl rfl (by decide) rfl rfl (zU_z (by decide) (zU_z (by decide) (zU_z (by decide) (zU_z (by decide) (zU_z (by decide) (zU_z (by decide) (hz0 46 (by decide)))))))) ?_
  refine sx_putR g_X6_init rfl rfl (by decide) (fun _ => rfl) ?_
  refine sx_go (pc1 := 145) (l1 := [some (zr 32), some (zi v0), some (zl v1), none, some (zl v2), none]) (st1 := [zi 27648, zr 32]) g_X6_init 2 _ _ _ rfl ?_
  refine sx_nB (m := 27648) g_X6_init rfl rfl (by decide) rfl rfl (zU_z (by decide) (zU_z (by decide) (zU_z (by decide) (zU_z (by decide) (zU_z (by decide) (zU_z (by decide) (hz0 47 (by decide)))))))) ?_
  refine sx_putR g_X6_init rfl rfl (by decide) (fun _ => rfl) ?_
  refine sx_go (pc1 := 154) (l1 := [some (zr 32), some (zi v0), some (zl v1), none, some (zl v2), none]) (st1 := [zi 1728, zr 32]) g_X6_init 2 _ _ _ rfl ?_
  refine sx_nB (m := 1728) g_X6_init rfl rfl (by decide) rfl rfl (zU_z (by decide) (zU_z (by decide) (zU_z (by decide) (zU_z (by decide) (zU_z (by decide) (zU_z (by decide) (hz0 48 (by decide)))))))) ?_
  refine sx_putR g_X6_init rfl rfl (by decide) (fun _ => rfl) ?_
  refine sx_go (pc1 := 163) (l1 := [some (zr 32), some (zi v0), some (zl v1), none, some (zl v2), none]) (st1 := [zi 1728, zr 32]) g_X6_init 2 _ _ _ rfl ?_
  refine sx_nB (m := 1728) g_X6_init rfl rfl (by decide) rfl rfl (zU_z (by decide) (zU_z (by decide) (zU_z (by decide) (zU_z (by decide) (zU_z (by decide) (zU_z (by decide) (hz0 49 (by decide)))))))) ?_
  refine sx_putR g_X6_init rfl rfl (by decide) (fun _ => rfl) ?_
  refine sx_go (pc1 := 172) (l1 := [some (zr 32), some (zi v0), some (zl v1), none, some (zl v2), none]) (st1 := [zi 1728, zr 32]) g_X6_init 2 _ _ _ rfl ?_
  refine sx_nB (m := 1728) g_X6_init rfl rfl (by decide) rfl rfl (zU_z (by decide) (zU_z (by decide) (zU_z (by decide) (zU_z (by decide) (zU_z (by decide) (zU_z (by decide) (hz0 50 (by decide)))))))) ?_
  refine sx_putR g_X6_init rfl rfl (by decide) (fun _ => rfl) ?_
  refine sx_go (pc1 := 181) (l1 := [some (zr 32), some (zi v0), some (zl v1), none, some (zl v2), none]) (st1 := [zi 1728, zr 32]) g_X6_init 2 _ _ _ rfl ?_
  refine sx_nB (m := 1728) g_X6_init rfl rfl (by decide) rfl rfl (zU_z (by decide) (zU_z (by decide) (zU_z (by decide) (zU_z (by decide) (zU_z (by decide) (zU_z (by decide) (hz0 51 (by decide)))))))) ?_
  refine sx_putR g_X6_init rfl rfl (by decide) (fun _ => rfl) ?_
  refine sx_go (pc1 := 190) (l1 := [some (zr 32), some (zi v0), some (zl v1), none, some (zl v2), none]) (st1 := [zi 1728, zr 32]) g_X6_init 2 _ _ _ rfl ?_
  refine sx_nI (m := 1728) g_X6_init rfl rfl (by decide) rfl rfl (zU_z (by decide) (zU_z (by decide) (zU_z (by decide) (zU_z (by decide) (zU_z (by decide) (zU_z (by decide) (hz0 52 (by decide)))))))) ?_
  refine sx_putR g_X6_init rfl rfl (by decide) (fun _ => rfl) ?_
  refine sx_go (pc1 := 198) (l1 := [some (zr 32), some (zi v0), some (zl v1), none, some (zl v2), none]) (st1 := [zi 16, zr 32]) g_X6_init 2 _ _ _ rfl ?_
  refine sx_nB (m := 16) g_X6_init rfl rfl (by decide) rfl rfl (zU_z (by decide) (zU_z (by decide) (zU_z (by decide) (zU_z (by decide) (zU_z (by decide) (zU_z (by decide) (hz0 53 (by decide)))))))) ?_
  refine sx_putR g_X6_init rfl rfl (by decide) (fun _ => rfl) ?_
  refine sx_go (pc1 := 207) (l1 := [some (zr 32), some (zi v0), some (zl v1), none, some (zl v2), none]) (st1 := [zi 27648, zr 32]) g_X6_init 2 _ _ _ rfl ?_
  refine sx_nB (m := 27648) g_X6_init rfl rfl (by decide) rfl rfl (zU_z (by decide) (zU_z (by decide) (zU_z (by decide) (zU_z (by decide) (zU_z (by decide) (zU_z (by decide) (hz0 54 (by decide)))))))) ?_
  refine sx_putR g_X6_init rfl rfl (by decide) (fun _ => rfl) ?_
  refine sx_go (pc1 := 214) (l1 := [some (zr 32), some (zi v0), some (zl v1), none, some (zl v2), none]) (st1 := [zi v0, zr 32]) g_X6_init 2 _ _ _ rfl ?_
  refine sx_i2l g_X6_init rfl (by omega) ?_
  refine sx_go (pc1 := 216) (l1 := [some (zr 32), some (zi v0), some (zl v1), none, some (zl v2), none]) (st1 := [zi 3, zl v0, zr 32]) g_X6_init 1 _ _ _ rfl ?_
  refine sx_csF (As := [zl v0, zi 3]) (rest := [zr 32]) g_X6_init rfl g_X6_clip rfl rfl (Nat.le_of_ble_eq_true rfl) (Nat.le_of_ble_eq_true rfl) (i_clipE (by omega) (by decide) fLa) ?_
  refine sx_putI g_X6_init rfl rfl (by decide) (put_i rfl) (.inr rfl) ?_
  refine sx_go (pc1 := 226) (l1 := [some (zr 32), some (zi v0), some (zl v1), none, some (zl v2), none]) (st1 := [zi 24, zl v1, zr 32]) g_X6_init 3 _ _ _ rfl ?_
  refine sx_csF (As := [zl v1, zi 24]) (rest := [zr 32]) g_X6_init rfl g_X6_clip rfl rfl (Nat.le_of_ble_eq_true rfl) (Nat.le_of_ble_eq_true rfl) (i_clipE (by omega) (by decide) fW) ?_
  refine sx_putI g_X6_init rfl rfl (by decide) (put_i rfl) (.inr rfl) ?_
  refine sx_go (pc1 := 237) (l1 := [some (zr 32), some (zi v0), some (zl v1), none, some (zl v2), none]) (st1 := [zi 24, zl v2, zr 32]) g_X6_init 3 _ _ _ rfl ?_
  refine sx_csF (As := [zl v2, zi 24]) (rest := [zr 32]) g_X6_init rfl g_X6_clip rfl rfl (Nat.le_of_ble_eq_true rfl) (Nat.le_of_ble_eq_true rfl) (i_clipE (by omega) (by decide) fH) ?_
  refine sx_putI g_X6_init rfl rfl (by decide) (put_i rfl) (.inr rfl) ?_
  refine sx_vret g_X6_init rfl ?_
  exact ⟨rfl, rfl⟩

set_option maxHeartbeats 1000000 in
theorem law_pre {L : Nat} {c : zC} {Z : zI} {Q : pmO → pmW → Prop} (hL : L ≤ 643) (hg : Geo c) {v0 v1 v2 : Int} (r0 : inR v0) (r1 : inR v1) (r2 : inR v2) (eLa : max 1 (min 3 v0) = cLa c) (eW : max 1 (min 24 v1) = cW c) (eH : max 1 (min 24 v2) = cH c) (fLa : clp v0 3 = cLa c) (fW : clp v1 24 = cW c) (fH : clp v2 24 = cH c) (hv0 : (if (0 : Int) < L then Z 0 0 else 0) = v0) (hv1 : (if (1 : Int) < L then Z 0 1 else 0) = v1) (hv2 : (if (2 : Int) < L then Z 0 2 else 0) = v2) (hz0 : ∀ a : Nat, 0 < a → ∀ j, Z a j = 0) (K : SX L (cS c) m_L_law 57 [some (zr 0), some (zr 1), some (zr 32), some (zr 55), some (zi 3), none, none] [] (55, 0 + 1 + 1 + 1 + 1 + 1 + 1 + 1 + 1 + 1 + 1 + 1 + 1 + 1 + 1 + 1 + 1 + 1 + 1 + 1 + 1 + 1 + 1 + 1 + 1 + 1 + 1 + 1 + 1 + 1 + 1 + 1 + 1 + 1 + 1 + 1 + 1 + 1 + 1 + 1 + 1 + 1 + 1 + 1 + 1 + 1 + 1 + 1 + 1 + 1 + 1 + 1 + 1 + 1 + 1 + 1, 0 + 4 + 13 + 3 + 3 + 3 + cS c + cS c + cS c + cS c + 7 + 40 + 16 + 40 + 160 + 16 + 40 + 4 + cS c + cS c + cS c + 4 + cS c + cS c + cS c + 4 + cS c + cS c + cS c + cS c + cS c + cS c + 32 + 3 + 3 + 3 + 1728 + 16 + 40 + 160 + 40 + 40 + 16 + 16 + 16 + 1728 + 27648 + 27648 + 1728 + 1728 + 1728 + 1728 + 1728 + 16 + 27648 + 1, rl [(32, 31, 54), (32, 30, 53), (32, 29, 52), (32, 28, 51), (32, 27, 50), (32, 26, 49), (32, 25, 48), (32, 21, 47), (32, 20, 46), (32, 19, 45), (32, 18, 44), (32, 17, 43), (32, 16, 42), (32, 15, 41), (32, 13, 40), (32, 12, 39), (32, 11, 38), (32, 9, 37), (32, 7, 36), (32, 6, 35), (32, 5, 34), (32, 4, 33), (1, 2, 15), (15, 8, 31), (15, 7, 30), (15, 6, 29), (15, 4, 25), (25, 2, 28), (25, 1, 27), (25, 0, 26), (15, 3, 21), (21, 3, 24), (21, 2, 23), (21, 1, 22), (21, 0, 2), (15, 2, 17), (17, 3, 20), (17, 2, 19), (17, 1, 18), (17, 0, 2), (15, 1, 10), (15, 0, 2), (15, 5, 16), (1, 1, 10), (10, 6, 14), (10, 5, 13), (10, 4, 12), (10, 3, 11), (1, 0, 2), (2, 11, 9), (2, 7, 8), (2, 6, 7), (2, 5, 6), (2, 10, 5), (2, 9, 4), (2, 8, 3)], zU (zU (zU (zU (zU (zU (zU (zU (zU (zU ((npZ c (zU (zU (zU (zU (zU (zU (zU (zU (zU (zU (zU Z 2 0 (cLa c)) 2 1 (cW c)) 2 2 (cH c)) 2 3 ((cW c) * (cH c))) 2 4 ((cLa c) * ((cW c) * (cH c)))) 4 0 3) 4 1 3) 4 2 3) 5 0 5) 5 1 5) 5 2 5) (cS c : Int))) 1 3 0) 34 0 3) 34 1 3) 34 2 3) 35 0 5) 35 1 5) 35 2 5) 32 1 (cLa c)) 32 2 (cW c)) 32 3 (cH c)) Q) : SX L (cS c) m_L_law 0 [some (zr 0), none, none, none, none, none, none] [] (0, 0, 0, rl [], Z) Q := by
  refine sx_new (nf := 4) g_L_law rfl rfl rfl (hz0 1 (by decide)) rfl ?_
  refine sx_go (pc1 := 6) (l1 := [some (zr 0), none, none, none, none, none, none]) (st1 := [zi 0, zr 0, zr 1, zr 1]) g_L_law 3 _ _ _ rfl ?_
  refine sx_csF (As := [zr 0, zi 0]) (rest := [zr 1, zr 1]) g_L_law rfl g_L_cell rfl rfl (Nat.le_of_ble_eq_true rfl) (Nat.le_of_ble_eq_true rfl) (i_cellE (u0 := Z 0 0) hL (by decide) (by decide) (show Z 0 0 = Z 0 0 from rfl) hv0) ?_
  refine sx_go (pc1 := 11) (l1 := [some (zr 0), none, none, none, none, none, none]) (st1 := [zi 1, zr 0, zi v0, zr 1, zr 1]) g_L_law 2 _ _ _ rfl ?_
  refine sx_csF (As := [zr 0, zi 1]) (rest := [zi v0, zr 1, zr 1]) g_L_law rfl g_L_cell rfl rfl (Nat.le_of_ble_eq_true rfl) (Nat.le_of_ble_eq_true rfl) (i_cellE (u0 := Z 0 1) hL (by decide) (by decide) (show Z 0 1 = Z 0 1 from rfl) hv1) ?_
  refine sx_i2l g_L_law rfl (by omega) ?_
  refine sx_go (pc1 := 17) (l1 := [some (zr 0), none, none, none, none, none, none]) (st1 := [zi 2, zr 0, zl v1, zi v0, zr 1, zr 1]) g_L_law 2 _ _ _ rfl ?_
  refine sx_csF (As := [zr 0, zi 2]) (rest := [zl v1, zi v0, zr 1, zr 1]) g_L_law rfl g_L_cell rfl rfl (Nat.le_of_ble_eq_true rfl) (Nat.le_of_ble_eq_true rfl) (i_cellE (u0 := Z 0 2) hL (by decide) (by decide) (show Z 0 2 = Z 0 2 from rfl) hv2) ?_
  refine sx_i2l g_L_law rfl (by omega) ?_
  refine sx_ciU (As := [zi v0, zl v1, zl v2]) (rest := [zr 1]) g_L_law rfl g_X5_init rfl rfl (Nat.le_of_ble_eq_true rfl) (Nat.le_of_ble_eq_true rfl) (i_X5 hg r0 r1 r2 eLa eW eH (fun a h_v => (hz0 a (by omega)))) ?_
  refine sx_go (pc1 := 25) (l1 := [some (zr 0), some (zr 1), none, none, none, none, none]) (st1 := []) g_L_law 1 _ _ _ rfl ?_
  refine sx_new (nf := 32) g_L_law rfl rfl rfl (zU_z (by decide) (fun j => (npZ_o (by decide) (by decide) (by decide)).trans ((zU_z (by decide) (zU_z (by decide) (zU_z (by decide) (zU_z (by decide) (zU_z (by decide) (zU_z (by decide) (zU_z (by decide) (zU_z (by decide) (zU_z (by decide) (zU_z (by decide) (zU_z (by decide) (hz0 32 (by decide))))))))))))) j))) rfl ?_
  refine sx_go (pc1 := 31) (l1 := [some (zr 0), some (zr 1), none, none, none, none, none]) (st1 := [zi 0, zr 0, zr 32, zr 32]) g_L_law 3 _ _ _ rfl ?_
  refine sx_csF (As := [zr 0, zi 0]) (rest := [zr 32, zr 32]) g_L_law rfl g_L_cell rfl rfl (Nat.le_of_ble_eq_true rfl) (Nat.le_of_ble_eq_true rfl) (i_cellE (u0 := Z 0 0) hL (by decide) (by decide) (show (zU ((npZ c (zU (zU (zU (zU (zU (zU (zU (zU (zU (zU (zU Z 2 0 (cLa c)) 2 1 (cW c)) 2 2 (cH c)) 2 3 ((cW c) * (cH c))) 2 4 ((cLa c) * ((cW c) * (cH c)))) 4 0 3) 4 1 3) 4 2 3) 5 0 5) 5 1 5) 5 2 5) (cS c : Int))) 1 3 0) 0 0 = Z 0 0 from (zU_o (by decide) ((npZ_o (by decide) (by decide) (by decide)).trans (zU_o (by decide) (zU_o (by decide) (zU_o (by decide) (zU_o (by decide) (zU_o (by decide) (zU_o (by decide) (zU_o (by decide) (zU_o (by decide) (zU_o (by decide) (zU_o (by decide) (zU_o (by decide) rfl)))))))))))))) hv0) ?_
  refine sx_go (pc1 := 36) (l1 := [some (zr 0), some (zr 1), none, none, none, none, none]) (st1 := [zi 1, zr 0, zi v0, zr 32, zr 32]) g_L_law 2 _ _ _ rfl ?_
  refine sx_csF (As := [zr 0, zi 1]) (rest := [zi v0, zr 32, zr 32]) g_L_law rfl g_L_cell rfl rfl (Nat.le_of_ble_eq_true rfl) (Nat.le_of_ble_eq_true rfl) (i_cellE (u0 := Z 0 1) hL (by decide) (by decide) (show (zU ((npZ c (zU (zU (zU (zU (zU (zU (zU (zU (zU (zU (zU Z 2 0 (cLa c)) 2 1 (cW c)) 2 2 (cH c)) 2 3 ((cW c) * (cH c))) 2 4 ((cLa c) * ((cW c) * (cH c)))) 4 0 3) 4 1 3) 4 2 3) 5 0 5) 5 1 5) 5 2 5) (cS c : Int))) 1 3 0) 0 1 = Z 0 1 from (zU_o (by decide) ((npZ_o (by decide) (by decide) (by decide)).trans (zU_o (by decide) (zU_o (by decide) (zU_o (by decide) (zU_o (by decide) (zU_o (by decide) (zU_o (by decide) (zU_o (by decide) (zU_o (by decide) (zU_o (by decide) (zU_o (by decide) (zU_o (by decide) rfl)))))))))))))) hv1) ?_
  refine sx_i2l g_L_law rfl (by omega) ?_
  refine sx_go (pc1 := 42) (l1 := [some (zr 0), some (zr 1), none, none, none, none, none]) (st1 := [zi 2, zr 0, zl v1, zi v0, zr 32, zr 32]) g_L_law 2 _ _ _ rfl ?_
  refine sx_csF (As := [zr 0, zi 2]) (rest := [zl v1, zi v0, zr 32, zr 32]) g_L_law rfl g_L_cell rfl rfl (Nat.le_of_ble_eq_true rfl) (Nat.le_of_ble_eq_true rfl) (i_cellE (u0 := Z 0 2) hL (by decide) (by decide) (show (zU ((npZ c (zU (zU (zU (zU (zU (zU (zU (zU (zU (zU (zU Z 2 0 (cLa c)) 2 1 (cW c)) 2 2 (cH c)) 2 3 ((cW c) * (cH c))) 2 4 ((cLa c) * ((cW c) * (cH c)))) 4 0 3) 4 1 3) 4 2 3) 5 0 5) 5 1 5) 5 2 5) (cS c : Int))) 1 3 0) 0 2 = Z 0 2 from (zU_o (by decide) ((npZ_o (by decide) (by decide) (by decide)).trans (zU_o (by decide) (zU_o (by decide) (zU_o (by decide) (zU_o (by decide) (zU_o (by decide) (zU_o (by decide) (zU_o (by decide) (zU_o (by decide) (zU_o (by decide) (zU_o (by decide) (zU_o (by decide) rfl)))))))))))))) hv2) ?_
  refine sx_i2l g_L_law rfl (by omega) ?_
  refine sx_ciU (As := [zi v0, zl v1, zl v2]) (rest := [zr 32]) g_L_law rfl g_X6_init rfl rfl (Nat.le_of_ble_eq_true rfl) (Nat.le_of_ble_eq_true rfl) (i_X6 r0 r1 r2 fLa fW fH (fun a h_v => (zU_z (by omega) (fun j => (npZ_o (by omega) (by omega) (by omega)).trans ((zU_z (by omega) (zU_z (by omega) (zU_z (by omega) (zU_z (by omega) (zU_z (by omega) (zU_z (by omega) (zU_z (by omega) (zU_z (by omega) (zU_z (by omega) (zU_z (by omega) (zU_z (by omega) (hz0 a (by omega))))))))))))) j))))) ?_
  refine sx_go (pc1 := 51) (l1 := [some (zr 0), some (zr 1), some (zr 32), none, none, none, none]) (st1 := [zi 1]) g_L_law 2 _ _ _ rfl ?_
  refine sx_nL (m := 1) g_L_law rfl rfl (by decide) rfl rfl (zU_z (by decide) (zU_z (by decide) (zU_z (by decide) (zU_z (by decide) (zU_z (by decide) (zU_z (by decide) (zU_z (by decide) (zU_z (by decide) (zU_z (by decide) (zU_z (by decide) (fun j => (npZ_o (by decide) (by decide) (by decide)).trans ((zU_z (by decide) (zU_z (by decide) (zU_z (by decide) (zU_z (by decide) (zU_z (by decide) (zU_z (by decide) (zU_z (by decide) (zU_z (by decide) (zU_z (by decide) (zU_z (by decide) (zU_z (by decide) (hz0 55 (by decide))))))))))))) j)))))))))))) ?_
  refine sx_go (pc1 := 57) (l1 := [some (zr 0), some (zr 1), some (zr 32), some (zr 55), some (zi 3), none, none]) (st1 := []) g_L_law 3 _ _ _ rfl ?_
  exact K

