/-! ===== contracts (10): a net is routed, the method ===== -/
theorem hPF : (0 : Int) ≠ 0 ↔ False := ⟨fun z => z rfl, False.elim⟩
theorem hPT : (1 : Int) ≠ 0 ↔ True := ⟨fun _ => trivial, fun _ => by decide⟩
set_option maxHeartbeats 1000000 in
theorem s_route {c : zC} {R : zI} {D : zI} {n B : Int} {s : aS} (hD : DOK c D) (hA : AI c D s B) (hB : B ≤ 5080) (n0 : 0 ≤ n) (n1 : n < D 10 0) (nc : ¬ clo c D n) (nj : ¬ aJ s n) (hc : CE c D s R) : MZ m_X3_route [zr 15, zi n] (wr c R) (gU (fun R2 => RF R R2 ∧ CE c D (aRt c D n s) R2) c) := by
  refine MZ.of g_X3_route ?_
  show ZX m_X3_route 0 [some (zr 15), some (zi n), none, none, none, none] [] (wr c R) _
  have hg := hD.1
  have g3_v := hg.S
  have n16 := hD.2.1
  have sst := ce_strt hD hA n0 n1 nc nj hc
  have spl := (pin_R hD sst.2).2.2.1
  rw [← sst.1] at spl
  obtain ⟨sp0, sp1⟩ := spl
  have spl : pls c (outp R n (kth (outs R n) (R 10 2).toNat 0 0)) := ⟨sp0, sp1⟩
  have gsp := place_geo hg sp0 sp1
  have g2 := hg
  unfold Geo at g2
  have rsp := hD.2.2.2.2.1 (lay c (outp R n (kth (outs R n) (R 10 2).toNat 0 0))) (by omega) (by omega)
  refine zx_go (pc1 := 2) (l1 := [some (zr 15), some (zi n), none, none, none, none]) (st1 := [zi n, zr 15]) (w1 := wr c R) g_X3_route 2 _ _ _ _ rfl ?_
  refine zx_cvF (As := [zi n]) (rest := []) g_X3_route rfl g_X3_placeOutside rfl rfl (Nat.le_of_ble_eq_true rfl) (Nat.le_of_ble_eq_true rfl) rfl (by decide) (t_out hD (by omega) hc) ?_
  refine zx_go (pc1 := 8) (l1 := [some (zr 15), some (zi n), some (zi (outp R n (kth (outs R n) (R 10 2).toNat 0 0))), none, none, none]) (st1 := [zi (-1), zi (outp R n (kth (outs R n) (R 10 2).toNat 0 0))]) (w1 := wr c R) g_X3_route 3 _ _ _ _ rfl ?_
  refine zx_cmp g_X3_route rfl (by omega) (by omega) (fun (h8 : (outp R n (kth (outs R n) (R 10 2).toNat 0 0)) = (-1)) => ?_) (fun (h8 : ¬ ((outp R n (kth (outs R n) (R 10 2).toNat 0 0)) = (-1))) => ?_)
  · omega
  · refine zx_go (pc1 := 17) (l1 := [some (zr 15), some (zi n), some (zi (outp R n (kth (outs R n) (R 10 2).toNat 0 0))), none, none, none]) (st1 := [zi (outp R n (kth (outs R n) (R 10 2).toNat 0 0)), zi n, zr 21]) (w1 := wr c R) g_X3_route 4 _ _ _ _ rfl ?_
    refine gx_cvU (As := [zi n, zi (outp R n (kth (outs R n) (R 10 2).toNat 0 0))]) (rest := []) g_X3_route rfl g_X4_add rfl rfl (Nat.le_of_ble_eq_true rfl) (Nat.le_of_ble_eq_true rfl) rfl (by decide) (t_add21 (D := D) hg spl n0 (by omega) (by omega) (by omega) hc.1.1) (fun R17 hR17 => ?_)
    refine zx_go (pc1 := 22) (l1 := [some (zr 15), some (zi n), some (zi (outp R n (kth (outs R n) (R 10 2).toNat 0 0))), some (zi 0), none, none]) (st1 := []) (w1 := wr c R17) g_X3_route 2 _ _ _ _ rfl ?_
    have lp22 : ∀ (it : Nat) (k : Int) (R1 : zI) (o4_v : Option zV) (o5_v : Option zV), (it : Int) = 40 - k → (0 ≤ k ∧ k ≤ 40 ∧ RF R R1 ∧ ∃ x : aX, CE c D (mixs n x) R1 ∧ RI c D n x (B + k) ∧ aL c D n (40 - k).toNat x = aRt c D n s) → ZX m_X3_route 22 [some (zr 15), some (zi n), some (zi (outp R n (kth (outs R n) (R 10 2).toNat 0 0))), some (zi k), o4_v, o5_v] [] (wr c R1) (gU (fun R2 => RF R R2 ∧ CE c D (aRt c D n s) R2) c) := by
      refine fun it => Nat.strongRecOn it (fun it ih22 => ?_)
      intro k R1 o4_v o5_v hn22 hi22
      obtain ⟨k0_v, k1_v, rf1, x, ce1, ri1, al1⟩ := hi22
      refine zx_go (pc1 := 25) (l1 := [some (zr 15), some (zi n), some (zi (outp R n (kth (outs R n) (R 10 2).toNat 0 0))), some (zi k), o4_v, o5_v]) (st1 := [zi 40, zi k]) (w1 := wr c R1) g_X3_route 2 _ _ _ _ rfl ?_
      refine zx_cmp g_X3_route rfl (by omega) (by decide) (fun (h25 : 40 ≤ k) => ?_) (fun (h25 : ¬ (40 ≤ k)) => ?_)
      · refine zx_go (pc1 := 138) (l1 := [some (zr 15), some (zi n), some (zi (outp R n (kth (outs R n) (R 10 2).toNat 0 0))), some (zi k), o4_v, o5_v]) (st1 := [zi n, zi 1, zi (R1 15 12), zr 15]) (w1 := wr c R1) g_X3_route 5 _ _ _ _ rfl ?_
        refine zx_go (pc1 := 139) (l1 := [some (zr 15), some (zi n), some (zi (outp R n (kth (outs R n) (R 10 2).toNat 0 0))), some (zi k), o4_v, o5_v]) (st1 := [zi (zshl 1 n), zi (R1 15 12), zr 15]) (w1 := wr c R1) g_X3_route 1 _ _ _ _ rfl ?_
        refine zx_go (pc1 := 140) (l1 := [some (zr 15), some (zi n), some (zi (outp R n (kth (outs R n) (R 10 2).toNat 0 0))), some (zi k), o4_v, o5_v]) (st1 := [zi (-1), zi (zshl 1 n), zi (R1 15 12), zr 15]) (w1 := wr c R1) g_X3_route 1 _ _ _ _ rfl ?_
        refine zx_go (pc1 := 141) (l1 := [some (zr 15), some (zi n), some (zi (outp R n (kth (outs R n) (R 10 2).toNat 0 0))), some (zi k), o4_v, o5_v]) (st1 := [zi (zxor (zshl 1 n) (-1)), zi (R1 15 12), zr 15]) (w1 := wr c R1) g_X3_route 1 _ _ _ _ rfl ?_
        refine zx_go (pc1 := 142) (l1 := [some (zr 15), some (zi n), some (zi (outp R n (kth (outs R n) (R 10 2).toNat 0 0))), some (zi k), o4_v, o5_v]) (st1 := [zi (zand (R1 15 12) (zxor (zshl 1 n) (-1))), zr 15]) (w1 := wr c R1) g_X3_route 1 _ _ _ _ rfl ?_
        refine gz_put 12 g_X3_route rfl rfl rfl (by decide) rfl (by refine ⟨?_, ?_, ?_, ?_, ?_⟩ <;> simp) ?_
        refine zx_go (pc1 := 152) (l1 := [some (zr 15), some (zi n), some (zi (outp R n (kth (outs R n) (R 10 2).toNat 0 0))), some (zi k), o4_v, o5_v]) (st1 := [zi n, zi 1, zi ((zU R1 15 12 (zand (R1 15 12) (zxor (zshl 1 n) (-1)))) 15 11), zr 15]) (w1 := wr c (zU R1 15 12 (zand (R1 15 12) (zxor (zshl 1 n) (-1))))) g_X3_route 5 _ _ _ _ rfl ?_
        refine zx_go (pc1 := 153) (l1 := [some (zr 15), some (zi n), some (zi (outp R n (kth (outs R n) (R 10 2).toNat 0 0))), some (zi k), o4_v, o5_v]) (st1 := [zi (zshl 1 n), zi ((zU R1 15 12 (zand (R1 15 12) (zxor (zshl 1 n) (-1)))) 15 11), zr 15]) (w1 := wr c (zU R1 15 12 (zand (R1 15 12) (zxor (zshl 1 n) (-1))))) g_X3_route 1 _ _ _ _ rfl ?_
        refine zx_go (pc1 := 154) (l1 := [some (zr 15), some (zi n), some (zi (outp R n (kth (outs R n) (R 10 2).toNat 0 0))), some (zi k), o4_v, o5_v]) (st1 := [zi (zor ((zU R1 15 12 (zand (R1 15 12) (zxor (zshl 1 n) (-1)))) 15 11) (zshl 1 n)), zr 15]) (w1 := wr c (zU R1 15 12 (zand (R1 15 12) (zxor (zshl 1 n) (-1))))) g_X3_route 1 _ _ _ _ rfl ?_
        refine gz_put 11 g_X3_route rfl rfl rfl (by decide) rfl (by refine ⟨?_, ?_, ?_, ?_, ?_⟩ <;> simp) ?_
        refine zx_vret g_X3_route rfl ?_
        have cf_v := ce_fin n0 (by omega) ce1 rfl
        refine gU_i ⟨rf1.trans cf_v.1, ?_⟩
        rw [← al1]
        rw [show (40 - k).toNat = 0 by omega]
        exact cf_v.2
      · have oR := ce_outR (n := n) hD ce1
        have oD_v := ce_out hD ri1 ce1
        have aG := aL_go (c := c) (D := D) (n := n) (x := x) k0_v (by omega)
        refine zx_go (pc1 := 30) (l1 := [some (zr 15), some (zi n), some (zi (outp R n (kth (outs R n) (R 10 2).toNat 0 0))), some (zi k), o4_v, o5_v]) (st1 := [zi n, zr 15]) (w1 := wr c R1) g_X3_route 2 _ _ _ _ rfl ?_
        refine zx_cvF (As := [zi n]) (rest := []) g_X3_route rfl g_X3_placeOutside rfl rfl (Nat.le_of_ble_eq_true rfl) (Nat.le_of_ble_eq_true rfl) rfl (by decide) (t_out hD (by omega) ce1) ?_
        refine zx_go (pc1 := 34) (l1 := [some (zr 15), some (zi n), some (zi (outp R n (kth (outs R n) (R 10 2).toNat 0 0))), some (zi k), o4_v, o5_v]) (st1 := [zi (-1), zi (outp R1 n (kth (outs R1 n) (R1 10 2).toNat 0 0))]) (w1 := wr c R1) g_X3_route 1 _ _ _ _ rfl ?_
        refine zx_cmp g_X3_route rfl (by omega) (by omega) (fun (h34 : (outp R1 n (kth (outs R1 n) (R1 10 2).toNat 0 0)) = (-1)) => ?_) (fun (h34 : ¬ ((outp R1 n (kth (outs R1 n) (R1 10 2).toNat 0 0)) = (-1))) => ?_)
        · refine zx_go (pc1 := 138) (l1 := [some (zr 15), some (zi n), some (zi (outp R n (kth (outs R n) (R 10 2).toNat 0 0))), some (zi k), o4_v, o5_v]) (st1 := [zi n, zi 1, zi (R1 15 12), zr 15]) (w1 := wr c R1) g_X3_route 5 _ _ _ _ rfl ?_
          refine zx_go (pc1 := 139) (l1 := [some (zr 15), some (zi n), some (zi (outp R n (kth (outs R n) (R 10 2).toNat 0 0))), some (zi k), o4_v, o5_v]) (st1 := [zi (zshl 1 n), zi (R1 15 12), zr 15]) (w1 := wr c R1) g_X3_route 1 _ _ _ _ rfl ?_
          refine zx_go (pc1 := 140) (l1 := [some (zr 15), some (zi n), some (zi (outp R n (kth (outs R n) (R 10 2).toNat 0 0))), some (zi k), o4_v, o5_v]) (st1 := [zi (-1), zi (zshl 1 n), zi (R1 15 12), zr 15]) (w1 := wr c R1) g_X3_route 1 _ _ _ _ rfl ?_
          refine zx_go (pc1 := 141) (l1 := [some (zr 15), some (zi n), some (zi (outp R n (kth (outs R n) (R 10 2).toNat 0 0))), some (zi k), o4_v, o5_v]) (st1 := [zi (zxor (zshl 1 n) (-1)), zi (R1 15 12), zr 15]) (w1 := wr c R1) g_X3_route 1 _ _ _ _ rfl ?_
          refine zx_go (pc1 := 142) (l1 := [some (zr 15), some (zi n), some (zi (outp R n (kth (outs R n) (R 10 2).toNat 0 0))), some (zi k), o4_v, o5_v]) (st1 := [zi (zand (R1 15 12) (zxor (zshl 1 n) (-1))), zr 15]) (w1 := wr c R1) g_X3_route 1 _ _ _ _ rfl ?_
          refine gz_put 12 g_X3_route rfl rfl rfl (by decide) rfl (by refine ⟨?_, ?_, ?_, ?_, ?_⟩ <;> simp) ?_
          refine zx_go (pc1 := 152) (l1 := [some (zr 15), some (zi n), some (zi (outp R n (kth (outs R n) (R 10 2).toNat 0 0))), some (zi k), o4_v, o5_v]) (st1 := [zi n, zi 1, zi ((zU R1 15 12 (zand (R1 15 12) (zxor (zshl 1 n) (-1)))) 15 11), zr 15]) (w1 := wr c (zU R1 15 12 (zand (R1 15 12) (zxor (zshl 1 n) (-1))))) g_X3_route 5 _ _ _ _ rfl ?_
          refine zx_go (pc1 := 153) (l1 := [some (zr 15), some (zi n), some (zi (outp R n (kth (outs R n) (R 10 2).toNat 0 0))), some (zi k), o4_v, o5_v]) (st1 := [zi (zshl 1 n), zi ((zU R1 15 12 (zand (R1 15 12) (zxor (zshl 1 n) (-1)))) 15 11), zr 15]) (w1 := wr c (zU R1 15 12 (zand (R1 15 12) (zxor (zshl 1 n) (-1))))) g_X3_route 1 _ _ _ _ rfl ?_
          refine zx_go (pc1 := 154) (l1 := [some (zr 15), some (zi n), some (zi (outp R n (kth (outs R n) (R 10 2).toNat 0 0))), some (zi k), o4_v, o5_v]) (st1 := [zi (zor ((zU R1 15 12 (zand (R1 15 12) (zxor (zshl 1 n) (-1)))) 15 11) (zshl 1 n)), zr 15]) (w1 := wr c (zU R1 15 12 (zand (R1 15 12) (zxor (zshl 1 n) (-1))))) g_X3_route 1 _ _ _ _ rfl ?_
          refine gz_put 11 g_X3_route rfl rfl rfl (by decide) rfl (by refine ⟨?_, ?_, ?_, ?_, ?_⟩ <;> simp) ?_
          refine zx_vret g_X3_route rfl ?_
          have cf_v := ce_fin n0 (by omega) ce1 rfl
          refine gU_i ⟨rf1.trans cf_v.1, ?_⟩
          rw [← al1]
          rw [aG, cI_t (oD_v.mp h34)]
          exact cf_v.2
        · have nd_v : ¬ dne c D n x.1 := fun z => h34 (oD_v.mpr z)
          rw [cI_f nd_v] at aG
          refine zx_go (pc1 := 40) (l1 := [some (zr 15), some (zi n), some (zi (outp R n (kth (outs R n) (R 10 2).toNat 0 0))), some (zi k), o4_v, o5_v]) (st1 := [zi 0, zi n, zr 15]) (w1 := wr c R1) g_X3_route 3 _ _ _ _ rfl ?_
          refine gx_cvR (As := [zi n, zi 0]) (rest := []) g_X3_route rfl g_X3_findEnd rfl rfl (Nat.le_of_ble_eq_true rfl) (Nat.le_of_ble_eq_true rfl) rfl (by decide) (t_find hD hPF (.inl rfl) ri1 (by omega) ce1) (fun r40 Rr40 hr40 => ?_)
          have ce2 := ce1.front hr40.1
          have gR40 := gE_R (n := n) (P := False) hD ri1.1
          rw [← hr40.2.1] at gR40
          refine zx_go (pc1 := 48) (l1 := [some (zr 15), some (zi n), some (zi (outp R n (kth (outs R n) (R 10 2).toNat 0 0))), some (zi k), some (zi r40), o5_v]) (st1 := [zi (-1), zi r40]) (w1 := wr c Rr40) g_X3_route 3 _ _ _ _ rfl ?_
          refine zx_cmp g_X3_route rfl (by omega) (by omega) (fun (h48 : r40 ≠ (-1)) => ?_) (fun (h48 : ¬ (r40 ≠ (-1))) => ?_)
          · refine zx_go (pc1 := 60) (l1 := [some (zr 15), some (zi n), some (zi (outp R n (kth (outs R n) (R 10 2).toNat 0 0))), some (zi k), some (zi r40), some (zi 0)]) (st1 := [zi 0]) (w1 := wr c Rr40) g_X3_route 3 _ _ _ _ rfl ?_
            refine zx_ifT g_X3_route rfl (by decide) (show ((0 : Int) = 0) by decide) ?_
            refine zx_go (pc1 := 74) (l1 := [some (zr 15), some (zi n), some (zi (outp R n (kth (outs R n) (R 10 2).toNat 0 0))), some (zi k), some (zi r40), some (zi 0)]) (st1 := [zi (-1), zi r40]) (w1 := wr c Rr40) g_X3_route 2 _ _ _ _ rfl ?_
            refine zx_cmp g_X3_route rfl (by omega) (by omega) (fun (h74 : r40 ≠ (-1)) => ?_) (fun (h74 : ¬ (r40 ≠ (-1))) => ?_)
            · have gne : r40 ≠ -1 := h48
              have hgE : gE c D x.2.2 n False x.1 ≠ -1 := by rw [← hr40.2.1]; exact h48
              rw [cI_t hgE] at aG
              refine zx_go (pc1 := 101) (l1 := [some (zr 15), some (zi n), some (zi (outp R n (kth (outs R n) (R 10 2).toNat 0 0))), some (zi k), some (zi r40), some (zi 0)]) (st1 := [zi 0, zi r40, zi n, zr 15]) (w1 := wr c Rr40) g_X3_route 4 _ _ _ _ rfl ?_
              refine gx_cvU (As := [zi n, zi r40, zi 0]) (rest := []) g_X3_route rfl g_X3_traceBack rfl rfl (Nat.le_of_ble_eq_true rfl) (Nat.le_of_ble_eq_true rfl) rfl (by decide) (t_trace hD hPF (.inl rfl) ri1 (by omega) ce2.1 hr40.2.1 gne (hr40.2.2 gne).1 (hr40.2.2 gne).2) (fun R101 hR101 => ?_)
              obtain ⟨m, wf⟩ := hR101.2.2
              refine zx_go (pc1 := 106) (l1 := [some (zr 15), some (zi n), some (zi (outp R n (kth (outs R n) (R 10 2).toNat 0 0))), some (zi k), some (zi r40), some (zi 0)]) (st1 := [zi 0]) (w1 := wr c R101) g_X3_route 1 _ _ _ _ rfl ?_
              refine zx_ifT g_X3_route rfl (by decide) (show ((0 : Int) = 0) by decide) ?_
              refine zx_go (pc1 := 116) (l1 := [some (zr 15), some (zi n), some (zi (outp R n (kth (outs R n) (R 10 2).toNat 0 0))), some (zi k), some (zi r40), some (zi 0)]) (st1 := [zi n, zr 15]) (w1 := wr c R101) g_X3_route 2 _ _ _ _ rfl ?_
              refine gx_cvU (As := [zi n]) (rest := []) g_X3_route rfl g_X3_layWay rfl rfl (Nat.le_of_ble_eq_true rfl) (Nat.le_of_ble_eq_true rfl) rfl (by decide) (t_layw (P := False) hD ri1 (by rw [tS_no hD ri1 hgE]; exact hR101.2.1) hgE wf) (fun R116 hR116 => ?_)
              refine zx_go (pc1 := 122) (l1 := [some (zr 15), some (zi n), some (zi (outp R n (kth (outs R n) (R 10 2).toNat 0 0))), some (zi k), some (zi r40), some (zi 0)]) (st1 := [zi 0, zr 15]) (w1 := wr c R116) g_X3_route 2 _ _ _ _ rfl ?_
              refine gx_cvU (As := [zi 0]) (rest := []) g_X3_route rfl g_X3_countWay rfl rfl (Nat.le_of_ble_eq_true rfl) (Nat.le_of_ble_eq_true rfl) rfl (by decide) (s_countWay (.inl rfl)) (fun R122 hR122 => ?_)
              refine zx_go (pc1 := 22) (l1 := [some (zr 15), some (zi n), some (zi (outp R n (kth (outs R n) (R 10 2).toNat 0 0))), some (zi (k + 1)), some (zi r40), some (zi 0)]) (st1 := []) (w1 := wr c R122) g_X3_route 2 _ _ _ _ rfl ?_
              refine ih22 (Int.toNat (40 - (k + 1))) (by omega) (k + 1) R122 (some (zi r40)) (some (zi 0)) (by omega) ?_
              have cc := ce_cnt hR116.2 hPF hR122
              refine ⟨by omega, by omega, ((((rf1.trans ce2.2).trans hR101.1).trans hR116.1).trans cc.1), aW c D n False x, cc.2, ?_, ?_⟩
              · rw [show B + (k + 1) = B + k + 1 by omega]; exact RI_step hD ri1 hgE
              · rw [← al1, aG]
            · exact absurd h48 h74
          · refine zx_go (pc1 := 60) (l1 := [some (zr 15), some (zi n), some (zi (outp R n (kth (outs R n) (R 10 2).toNat 0 0))), some (zi k), some (zi r40), some (zi 1)]) (st1 := [zi 1]) (w1 := wr c Rr40) g_X3_route 4 _ _ _ _ rfl ?_
            refine zx_ifF g_X3_route rfl (by decide) (show ¬ ((1 : Int) = 0) by decide) ?_
            refine zx_go (pc1 := 66) (l1 := [some (zr 15), some (zi n), some (zi (outp R n (kth (outs R n) (R 10 2).toNat 0 0))), some (zi k), some (zi r40), some (zi 1)]) (st1 := [zi 1, zi n, zr 15]) (w1 := wr c Rr40) g_X3_route 3 _ _ _ _ rfl ?_
            refine gx_cvR (As := [zi n, zi 1]) (rest := []) g_X3_route rfl g_X3_findEnd rfl rfl (Nat.le_of_ble_eq_true rfl) (Nat.le_of_ble_eq_true rfl) rfl (by decide) (t_find hD hPT (.inr rfl) ri1 (by omega) ce2.1) (fun r66 Rr66 hr66 => ?_)
            have ce3 := ce2.1.front hr66.1
            have gR66 := gE_R (n := n) (P := True) hD ri1.1
            rw [← hr66.2.1] at gR66
            have ng40 : ¬ gE c D x.2.2 n False x.1 ≠ -1 := by rw [← hr40.2.1]; exact h48
            rw [cI_f ng40] at aG
            refine zx_go (pc1 := 74) (l1 := [some (zr 15), some (zi n), some (zi (outp R n (kth (outs R n) (R 10 2).toNat 0 0))), some (zi k), some (zi r66), some (zi 1)]) (st1 := [zi (-1), zi r66]) (w1 := wr c Rr66) g_X3_route 3 _ _ _ _ rfl ?_
            refine zx_cmp g_X3_route rfl (by omega) (by omega) (fun (h74 : r66 ≠ (-1)) => ?_) (fun (h74 : ¬ (r66 ≠ (-1))) => ?_)
            · have gne : r66 ≠ -1 := h74
              have hgE : gE c D x.2.2 n True x.1 ≠ -1 := by rw [← hr66.2.1]; exact h74
              rw [cI_t hgE] at aG
              refine zx_go (pc1 := 101) (l1 := [some (zr 15), some (zi n), some (zi (outp R n (kth (outs R n) (R 10 2).toNat 0 0))), some (zi k), some (zi r66), some (zi 1)]) (st1 := [zi 1, zi r66, zi n, zr 15]) (w1 := wr c Rr66) g_X3_route 4 _ _ _ _ rfl ?_
              refine gx_cvU (As := [zi n, zi r66, zi 1]) (rest := []) g_X3_route rfl g_X3_traceBack rfl rfl (Nat.le_of_ble_eq_true rfl) (Nat.le_of_ble_eq_true rfl) rfl (by decide) (t_trace hD hPT (.inr rfl) ri1 (by omega) ce3.1 hr66.2.1 gne (hr66.2.2 gne).1 (hr66.2.2 gne).2) (fun R101 hR101 => ?_)
              obtain ⟨m, wf⟩ := hR101.2.2
              refine zx_go (pc1 := 106) (l1 := [some (zr 15), some (zi n), some (zi (outp R n (kth (outs R n) (R 10 2).toNat 0 0))), some (zi k), some (zi r66), some (zi 1)]) (st1 := [zi 1]) (w1 := wr c R101) g_X3_route 1 _ _ _ _ rfl ?_
              refine zx_ifF g_X3_route rfl (by decide) (show ¬ ((1 : Int) = 0) by decide) ?_
              refine zx_go (pc1 := 111) (l1 := [some (zr 15), some (zi n), some (zi (outp R n (kth (outs R n) (R 10 2).toNat 0 0))), some (zi k), some (zi r66), some (zi 1)]) (st1 := [zi n, zr 15]) (w1 := wr c R101) g_X3_route 2 _ _ _ _ rfl ?_
              refine gx_cvU (As := [zi n]) (rest := []) g_X3_route rfl g_X3_tearUp rfl rfl (Nat.le_of_ble_eq_true rfl) (Nat.le_of_ble_eq_true rfl) rfl (by decide) (t_tear (P := True) hD ri1 (by omega) hR101.2.1 hgE wf) (fun R111 hR111 => ?_)
              refine zx_go (pc1 := 116) (l1 := [some (zr 15), some (zi n), some (zi (outp R n (kth (outs R n) (R 10 2).toNat 0 0))), some (zi k), some (zi r66), some (zi 1)]) (st1 := [zi n, zr 15]) (w1 := wr c R111) g_X3_route 2 _ _ _ _ rfl ?_
              refine gx_cvU (As := [zi n]) (rest := []) g_X3_route rfl g_X3_layWay rfl rfl (Nat.le_of_ble_eq_true rfl) (Nat.le_of_ble_eq_true rfl) rfl (by decide) (t_layw (P := True) hD ri1 hR111.2.1 hgE hR111.2.2) (fun R116 hR116 => ?_)
              refine zx_go (pc1 := 122) (l1 := [some (zr 15), some (zi n), some (zi (outp R n (kth (outs R n) (R 10 2).toNat 0 0))), some (zi k), some (zi r66), some (zi 1)]) (st1 := [zi 1, zr 15]) (w1 := wr c R116) g_X3_route 2 _ _ _ _ rfl ?_
              refine gx_cvU (As := [zi 1]) (rest := []) g_X3_route rfl g_X3_countWay rfl rfl (Nat.le_of_ble_eq_true rfl) (Nat.le_of_ble_eq_true rfl) rfl (by decide) (s_countWay (.inr rfl)) (fun R122 hR122 => ?_)
              refine zx_go (pc1 := 22) (l1 := [some (zr 15), some (zi n), some (zi (outp R n (kth (outs R n) (R 10 2).toNat 0 0))), some (zi (k + 1)), some (zi r66), some (zi 1)]) (st1 := []) (w1 := wr c R122) g_X3_route 2 _ _ _ _ rfl ?_
              refine ih22 (Int.toNat (40 - (k + 1))) (by omega) (k + 1) R122 (some (zi r66)) (some (zi 1)) (by omega) ?_
              have cc := ce_cnt hR116.2 hPT hR122
              refine ⟨by omega, by omega, ((((((rf1.trans ce2.2).trans ce3.2).trans hR101.1).trans hR111.1).trans hR116.1).trans cc.1), aW c D n True x, cc.2, ?_, ?_⟩
              · rw [show B + (k + 1) = B + k + 1 by omega]; exact RI_step hD ri1 hgE
              · rw [← al1, aG]
            · refine zx_go (pc1 := 79) (l1 := [some (zr 15), some (zi n), some (zi (outp R n (kth (outs R n) (R 10 2).toNat 0 0))), some (zi k), some (zi r66), some (zi 1)]) (st1 := [zi n, zr 15]) (w1 := wr c Rr66) g_X3_route 2 _ _ _ _ rfl ?_
              refine gx_cvU (As := [zi n]) (rest := []) g_X3_route rfl g_X3_dropRoute rfl rfl (Nat.le_of_ble_eq_true rfl) (Nat.le_of_ble_eq_true rfl) rfl (by decide) (t_drop (D := D) hg n0 (by omega)) (fun R79 hR79 => ?_)
              refine zx_go (pc1 := 89) (l1 := [some (zr 15), some (zi n), some (zi (outp R n (kth (outs R n) (R 10 2).toNat 0 0))), some (zi k), some (zi r66), some (zi 1)]) (st1 := [zi n, zi 1, zi (R79 15 12), zr 15]) (w1 := wr c R79) g_X3_route 5 _ _ _ _ rfl ?_
              refine zx_go (pc1 := 90) (l1 := [some (zr 15), some (zi n), some (zi (outp R n (kth (outs R n) (R 10 2).toNat 0 0))), some (zi k), some (zi r66), some (zi 1)]) (st1 := [zi (zshl 1 n), zi (R79 15 12), zr 15]) (w1 := wr c R79) g_X3_route 1 _ _ _ _ rfl ?_
              refine zx_go (pc1 := 91) (l1 := [some (zr 15), some (zi n), some (zi (outp R n (kth (outs R n) (R 10 2).toNat 0 0))), some (zi k), some (zi r66), some (zi 1)]) (st1 := [zi (zor (R79 15 12) (zshl 1 n)), zr 15]) (w1 := wr c R79) g_X3_route 1 _ _ _ _ rfl ?_
              refine gz_put 12 g_X3_route rfl rfl rfl (by decide) rfl (by refine ⟨?_, ?_, ?_, ?_, ?_⟩ <;> simp) ?_
              refine zx_vret g_X3_route rfl ?_
              have cf_v := ce_fail ri1 (by omega) ce3.1 hR79.1 hR79.2.1 hR79.2.2 (fun q hq z => ri1.2.2.2.2.1 (ri1.1.2.2.2.2.2.2.2.2.2 n q z)) rfl
              have ng66 : ¬ gE c D x.2.2 n True x.1 ≠ -1 := by rw [← hr66.2.1]; exact h74
              rw [cI_f ng66] at aG
              refine gU_i ⟨((rf1.trans ce2.2).trans ce3.2).trans cf_v.1, ?_⟩
              rw [← al1, aG]
              exact cf_v.2
    refine lp22 (Int.toNat (40 - 0)) 0 R17 none none (by omega) ?_
    have st0 := ce_start hA nj hc hR17.1 hR17.2
    refine ⟨by omega, by omega, st0.1, (fun q => q = strt c D n, fun _ => False, s), ?_, ?_, rfl⟩
    · rw [← sst.1]; exact st0.2
    · rw [Int.add_zero]; exact RI_0 hD hA n0 n1 nc nj

