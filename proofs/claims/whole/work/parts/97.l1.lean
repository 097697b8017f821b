/-! ===== longs, throws that are caught: the law's own methods ===== -/
def zDel : Nat → zL → zL
  | _, [] => []
  | 0, _ :: r => none :: r
  | i + 1, o :: r => o :: zDel i r
theorem zDel_c : ∀ (i : Nat) (l : zL), pmDel i (zcl l) = zcl (zDel i l)
  | 0, [] => rfl
  | i + 1, [] => rfl
  | 0, _ :: _ => rfl
  | i + 1, o :: r => by
    show o.map zc :: pmDel i (zcl r) = o.map zc :: zcl (zDel i r)
    rw [zDel_c i r]
def zlshl (a b : Int) : Int := (Int64.ofInt a <<< ((Int32.ofInt b).toInt64 &&& 63)).toInt
def zland (a b : Int) : Int := (Int64.ofInt a &&& Int64.ofInt b).toInt
def zlor (a b : Int) : Int := (Int64.ofInt a ||| Int64.ofInt b).toInt
theorem z64_R (x : Int64) : inR64 x.toInt := by
  have h1 := Int64.le_toInt x
  have h2 := Int64.toInt_lt x
  exact ⟨by omega, by omega⟩
theorem zlor_R (a b : Int) : inR64 (zlor a b) := z64_R _
theorem i64_of (k : Int64) : Int64.ofInt k.toInt = k := Int64.ofInt_toInt k
theorem zUJ_c (I : zI) (a k : Nat) (v : Int) : (fun b j => Int64.ofInt (zU I a (k : Int) v b ((j : Nat) : Int))) = pmUJ (fun b j => Int64.ofInt (I b ((j : Nat) : Int))) a k (Int64.ofInt v) := by
  funext b j
  unfold zU pmUJ
  by_cases hb_v : b = a
  · subst hb_v
    rw [if_pos rfl]
    by_cases hj : j = k
    · subst hj
      rw [if_pos ⟨rfl, rfl⟩]
      simp [vp_updL]
    · rw [if_neg (fun h_v => hj (by have := h_v.2; omega))]
      simp [vp_updL, hj]
  · rw [if_neg (fun h_v => hb_v h_v.1), if_neg hb_v]
section ZXL
variable {mid pc x y : Nat} {k : Int32} {M M2 : pmM} {l : zL} {st r rest As : List zV} {w : zW} {c : zC} {R : zI} {Q Q1 : zO → zW → Prop} {idx a : Nat}
theorem zx_lshl {u v : Int} (hG : pgG mid = some M) (hc : pmCode M pc = some (.lshl, x, y, k)) (K : ZX mid (pc + 1) l (.inr (.inl (zlshl u v)) :: r) w Q) : ZX mid pc l (.inl v :: .inr (.inl u) :: r) w Q := by
  refine PX.step (fun n => pmX_A hG hc (pc1 := pc + 1) (l1 := zcl l) (st1 := zc (.inr (.inl (zlshl u v))) :: r.map zc) ?_) K
  simp only [pmA, List.map_cons, zc, zlshl, i64_of]
theorem zx_land {u v : Int} (hG : pgG mid = some M) (hc : pmCode M pc = some (.land, x, y, k)) (K : ZX mid (pc + 1) l (.inr (.inl (zland u v)) :: r) w Q) : ZX mid pc l (.inr (.inl v) :: .inr (.inl u) :: r) w Q := by
  refine PX.step (fun n => pmX_A hG hc (pc1 := pc + 1) (l1 := zcl l) (st1 := zc (.inr (.inl (zland u v))) :: r.map zc) ?_) K
  simp only [pmA, List.map_cons, zc, zland, i64_of]
theorem zx_lor {u v : Int} (hG : pgG mid = some M) (hc : pmCode M pc = some (.lor, x, y, k)) (K : ZX mid (pc + 1) l (.inr (.inl (zlor u v)) :: r) w Q) : ZX mid pc l (.inr (.inl v) :: .inr (.inl u) :: r) w Q := by
  refine PX.step (fun n => pmX_A hG hc (pc1 := pc + 1) (l1 := zcl l) (st1 := zc (.inr (.inl (zlor u v))) :: r.map zc) ?_) K
  simp only [pmA, List.map_cons, zc, zlor, i64_of]
theorem zw_setJ {nc ns L S : Nat} {I J : zI} {a : Nat} {v : Int} : zw (nc, ns, L, S, I, zU J a 0 v) = (55, nc, ns, hd0 L S, R0, fun a k => Int32.ofInt (I a ((k : Nat) : Int)), pmUJ (fun a k => Int64.ofInt (J a ((k : Nat) : Int))) a 0 (Int64.ofInt v)) := by
  have h_v := zUJ_c J a 0 v
  rw [← h_v]
  rfl
abbrev cOut (c : zC) (v : Int) : zC := cw c c.1 c.2.1 (zU c.2.2.2.2.2.2.2 55 0 v)
/-- the answer is put into the law's row of one long -/
theorem gz_last {v : Int} (hG : pgG mid = some M) (hc : pmCode M pc = some (.lastore, x, y, k)) (K : ZX mid (pc + 1) l r (wr (cOut c v) R) Q) : ZX mid pc l (.inr (.inl v) :: .inl 0 :: .inr (.inr 55) :: r) (wr c R) Q := by
  have K2 : PX mid (pc + 1) (zcl l) (r.map zc) (zw (c.1, c.2.1, c.2.2.1, c.2.2.2.1, gI c R, zU c.2.2.2.2.2.2.2 55 0 v)) (zQ Q) := K
  rw [zw_setJ] at K2
  refine PX.step (fun n => pmX_B hG hc (pc1 := pc + 1) (l1 := zcl l) (st1 := r.map zc) (w1 := _) rfl ?_) K2
  simp only [pmB, List.map_cons, zc]
  rw [show pmh (zw (wr c R)) 55 = .inl (.long, 1) from rfl]
  dsimp only
  rw [if_pos (show 1 ≤ 55 ∧ 55 ≤ pmn (zw (wr c R)) from ⟨by decide, Nat.le_refl 55⟩), if_neg (by decide)]
  rfl
theorem gz_lald {v : Int} {a b : Nat} {J : zI} (hG : pgG mid = some M) (hc : pmCode M pc = some (.laload, x, y, k)) (K : ZX mid (pc + 1) l (.inr (.inl v) :: r) (wr (cw c a b (zU J 55 0 v)) R) Q) : ZX mid pc l (.inl 0 :: .inr (.inr 55) :: r) (wr (cw c a b (zU J 55 0 v)) R) Q := by
  refine PX.step (fun n => pmX_B hG hc (pc1 := pc + 1) (l1 := zcl l) (st1 := zc (.inr (.inl v)) :: r.map zc) (w1 := zw (wr (cw c a b (zU J 55 0 v)) R)) rfl ?_) K
  simp only [pmB, List.map_cons, zc]
  rw [show pmh (zw (wr (cw c a b (zU J 55 0 v)) R)) 55 = .inl (.long, 1) from rfl]
  dsimp only
  rw [if_pos (show 1 ≤ 55 ∧ 55 ≤ pmn (zw (wr (cw c a b (zU J 55 0 v)) R)) from ⟨by decide, Nat.le_refl 55⟩), if_neg (by decide)]
  have e : pmj (zw (wr (cw c a b (zU J 55 0 v)) R)) 55 (Int32.ofInt 0).toNatClampNeg = Int64.ofInt v := by
    show Int64.ofInt (zU J 55 0 v 55 (((Int32.ofInt 0).toNatClampNeg : Nat) : Int)) = _
    rw [show (((Int32.ofInt 0).toNatClampNeg : Nat) : Int) = 0 from rfl, zU_same]
  rw [e]
theorem zx_ch (hG : pgG mid = some M) (hc : pmCode M pc = some (.invokevirtual idx, x, y, k)) (hG2 : pgG x = some M2) (hst : st = As.reverse ++ .inr (.inr a) :: rest) (hy : As.length + 1 = y) (hs : pmSum (rest.map zc) ≤ 8) (he : (zEnt (.inr (.inr a) :: As)).length ≤ M2.2.1) (hh : hd0 w.2.2.1 w.2.2.2.1 a = .inr M2.2.2.2) (ha : 1 ≤ a ∧ a ≤ 55) (hM : MZ x (.inr (.inr a) :: As) w Q1) (hne : M.2.2.1 ≠ [])
    (kr : ∀ o w1, Q1 o w1 → (∃ v, o = .inl v ∧ ZX mid (pc + 3) l (v.toList ++ rest) w1 Q) ∨ (∃ ex_v h_v z, o = .inr ex_v ∧ pmHand M.2.2.1 pc ex_v = some h_v ∧ ((∃ j u c, pmCode M h_v = some (.astore_n j, z, u, c) ∧ ZX mid (h_v + 1) (zDel z (zSet (.inl 0) z l)) [] w1 Q) ∨ (∃ j u c, pmCode M h_v = some (.astore j, z, u, c) ∧ ZX mid (h_v + 2) (zDel z (zSet (.inl 0) z l)) [] w1 Q)))) : ZX mid pc l st w Q := by
  refine px_callH (As := As.map zc) (rest := rest.map zc) (a := a) hG hc hG2 (by rw [hst]; simp [zc]) (by simp [hy]) hs ?_ (show pmh (zw w) a = .inr M2.2.2.2 from hh) ha hM hne ?_
  · have := zEnt_len (.inr (.inr a) :: As)
    simp only [List.map_cons, zc] at this
    rw [this]
    exact he
  · rintro o w1 ⟨zo, z1, rfl, rfl, hq⟩
    have ed : ∀ z, pmDel z (pmSet (.int 0) z (zcl l)) = zcl (zDel z (zSet (.inl 0) z l)) := fun z => by
      rw [← zDel_c, ← zSet_c]
      rfl
    rcases kr zo z1 hq with ⟨v, rfl, K⟩ | ⟨ex_v, h_v, z, rfl, h1, h2⟩
    · refine .inl ⟨v.map zc, rfl, ?_⟩
      have e : (v.map zc).toList ++ rest.map zc = (v.toList ++ rest).map zc := by cases v <;> rfl
      rw [e]
      exact K
    · refine .inr ⟨ex_v, h_v, z, rfl, h1, ?_⟩
      rw [ed z]
      exact h2
/-- a call of the class, as the law's own method has it -/
def lP (code val : Int) (V : zI → Prop) (c : zC) (R : zI) : zO → zW → Prop := fun o w1 => (code = 0 ∧ o = .inl (some (.inl 0)) ∧ ∃ R1, w1 = wr (cOut c val) R1 ∧ V R1) ∨ (code ≠ 0 ∧ o = .inl (some (.inl code)) ∧ w1 = wr (cBmp c) R)
abbrev cBm (c : zC) : zC := cw c (c.1 + 1) (c.2.1 + 6) c.2.2.2.2.2.2.2
theorem lw_cs {code val : Int} {V : zI → Prop} (hG : pgG mid = some M) (hc : pmCode M pc = some (.invokestatic idx, x, y, k)) (hG2 : pgG x = some M2) (hst : st = As.reverse ++ rest) (hy : As.length = y) (hs : pmSum (rest.map zc) ≤ 8) (he : (zEnt As).length ≤ M2.2.1) (hM : MZ x As (wr c R) (lP code val V c R)) (k0 : code = 0 → ∀ R1, V R1 → ZX mid (pc + 3) l (.inl 0 :: rest) (wr (cOut c val) R1) Q) (k1 : code ≠ 0 → ZX mid (pc + 3) l (.inl code :: rest) (wr (cBm c) R) Q) : ZX mid pc l st (wr c R) Q :=
  zx_cs hG hc hG2 hst hy hs he hM (fun o w1 h_v => by
    rcases h_v with ⟨h1, h2, R1, h3, h4⟩ | ⟨h1, h2, h3⟩
    · exact ⟨some (.inl 0), h2, by rw [h3]; exact k0 h1 R1 h4⟩
    · exact ⟨some (.inl code), h2, by rw [h3]; exact k1 h1⟩)
theorem gz_sld {j : Int} {n : Nat} {R1 : zI} (h0 : R1 0 = R 0) (hG : pgG mid = some M) (hc : pmCode M pc = some (.iaload, x, y, k)) (hh : hd0 c.2.2.1 c.2.2.2.1 0 = .inl (.int, n)) (hn : n < 2 ^ 31) (j0 : 0 ≤ j) (hj : j < n) (K : ZX mid (pc + 1) l (.inl (R 0 j) :: r) (wr c R1) Q) : ZX mid pc l (.inl j :: .inr (.inr 0) :: r) (wr c R1) Q := by
  refine gz_iald hG hc hh (by decide) rfl hn j0 hj ?_
  rw [h0]
  exact K
end ZXL

set_option maxHeartbeats 1000000 in
theorem t_L_rule {c : zC} {R : zI} {code val : Int} {V : zI → Prop} {p0 : Int} {p1 : Int} {p2 : Int} (hcd : code = 0 ∨ code = 1 ∨ code = 2) (hv : code = 0 → pb val) (hM : MZ m_X5_rule [zr 1, zi p0, zi p1, zl p2] (wr c R) (cP code exA (fun v R1 => v = val ∧ V R1) c R)) : MZ m_L_rule [zr 1, zi p0, zi p1, zl p2, zr 55] (wr c R) (lP code val V c R) := by
  refine MZ.of g_L_rule ?_
  show ZX m_L_rule 0 [some (zr 1), some (zi p0), some (zi p1), some (zl p2), none, some (zr 55), none] [] (wr c R) _
  refine zx_go (pc1 := 7) (l1 := [some (zr 1), some (zi p0), some (zi p1), some (zl p2), none, some (zr 55), none]) (st1 := [zl p2, zi p1, zi p0, zr 1, zi 0, zr 55]) (w1 := wr c R) g_L_rule 6 _ _ _ _ rfl ?_
  refine zx_ch (As := [zi p0, zi p1, zl p2]) (rest := [zi 0, zr 55]) g_L_rule rfl g_X5_rule rfl rfl (Nat.le_of_ble_eq_true rfl) (Nat.le_of_ble_eq_true rfl) rfl (by decide) hM (by decide) ?_
  rintro o w1 (⟨h1, v, R1, rfl, rfl, rfl, h4⟩ | ⟨h1, rfl, rfl⟩)
  · refine .inl ⟨some (.inl v), rfl, ?_⟩
    show ZX m_L_rule 10 [some (zr 1), some (zi p0), some (zi p1), some (zl p2), none, some (zr 55), none] [zi v, zi 0, zr 55] (wr c R1) _
    have hv1 := hv h1
    refine zx_if g_L_rule rfl (by omega) (fun (hz : v = 0) => ?_) (fun (hz : ¬ v = 0) => ?_)
    · subst hz
      refine zx_go (pc1 := 18) (l1 := [some (zr 1), some (zi p0), some (zi p1), some (zl p2), none, some (zr 55), none]) (st1 := [zl 0, zi 0, zr 55]) (w1 := wr c R1) g_L_rule 1 _ _ _ _ rfl ?_
      refine gz_last g_L_rule rfl ?_
      refine zx_go (pc1 := 31) (l1 := [some (zr 1), some (zi p0), some (zi p1), some (zl p2), none, some (zr 55), none]) (st1 := [zi 0]) (w1 := wr (cOut c 0) R1) g_L_rule 2 _ _ _ _ rfl ?_
      refine zx_iret g_L_rule rfl (.inl rfl) ?_
      exact .inl ⟨h1, rfl, R1, rfl, h4⟩
    · have hz : v = 1 := by omega
      subst hz
      refine zx_go (pc1 := 18) (l1 := [some (zr 1), some (zi p0), some (zi p1), some (zl p2), none, some (zr 55), none]) (st1 := [zl 1, zi 0, zr 55]) (w1 := wr c R1) g_L_rule 2 _ _ _ _ rfl ?_
      refine gz_last g_L_rule rfl ?_
      refine zx_go (pc1 := 31) (l1 := [some (zr 1), some (zi p0), some (zi p1), some (zl p2), none, some (zr 55), none]) (st1 := [zi 0]) (w1 := wr (cOut c 1) R1) g_L_rule 2 _ _ _ _ rfl ?_
      refine zx_iret g_L_rule rfl (.inl rfl) ?_
      exact .inl ⟨h1, rfl, R1, rfl, h4⟩
  · rcases hcd with hk | hk | hk
    · exact absurd hk h1
    · skip
      subst hk
      refine .inr ⟨0, 22, 6, rfl, rfl, .inr ⟨_, _, _, rfl, ?_⟩⟩
      refine zx_go (pc1 := 25) (l1 := zDel 6 (zSet (.inl 0) 6 [some (zr 1), some (zi p0), some (zi p1), some (zl p2), none, some (zr 55), none])) (st1 := [zi 1]) (w1 := wr (cBmp c) R) g_L_rule 1 _ _ _ _ rfl ?_
      refine zx_iret g_L_rule rfl (.inl rfl) ?_
      exact .inr ⟨by decide, rfl, rfl⟩
    · skip
      subst hk
      refine .inr ⟨1, 26, 6, rfl, rfl, .inr ⟨_, _, _, rfl, ?_⟩⟩
      refine zx_go (pc1 := 29) (l1 := zDel 6 (zSet (.inl 0) 6 [some (zr 1), some (zi p0), some (zi p1), some (zl p2), none, some (zr 55), none])) (st1 := [zi 2]) (w1 := wr (cBmp c) R) g_L_rule 1 _ _ _ _ rfl ?_
      refine zx_iret g_L_rule rfl (.inl rfl) ?_
      exact .inr ⟨by decide, rfl, rfl⟩

set_option maxHeartbeats 1000000 in
theorem t_L_net {c : zC} {R : zI} {code val : Int} {V : zI → Prop}  (hcd : code = 0 ∨ code = 1 ∨ code = 1) (hv : code = 0 → pz val) (hM : MZ m_X5_net [zr 1] (wr c R) (cP code exC (fun v R1 => v = val ∧ V R1) c R)) : MZ m_L_net [zr 1, zr 55] (wr c R) (lP code val V c R) := by
  refine MZ.of g_L_net ?_
  show ZX m_L_net 0 [some (zr 1), some (zr 55), none] [] (wr c R) _
  refine zx_go (pc1 := 3) (l1 := [some (zr 1), some (zr 55), none]) (st1 := [zr 1, zi 0, zr 55]) (w1 := wr c R) g_L_net 3 _ _ _ _ rfl ?_
  refine zx_ch (As := []) (rest := [zi 0, zr 55]) g_L_net rfl g_X5_net rfl rfl (Nat.le_of_ble_eq_true rfl) (Nat.le_of_ble_eq_true rfl) rfl (by decide) hM (by decide) ?_
  rintro o w1 (⟨h1, v, R1, rfl, rfl, rfl, h4⟩ | ⟨h1, rfl, rfl⟩)
  · refine .inl ⟨some (.inl v), rfl, ?_⟩
    show ZX m_L_net 6 [some (zr 1), some (zr 55), none] [zi v, zi 0, zr 55] (wr c R1) _
    have hv1 := hv h1
    refine zx_i2l g_L_net rfl hv1 ?_
    refine gz_last g_L_net rfl ?_
    refine zx_go (pc1 := 15) (l1 := [some (zr 1), some (zr 55), none]) (st1 := [zi 0]) (w1 := wr (cOut c v) R1) g_L_net 2 _ _ _ _ rfl ?_
    refine zx_iret g_L_net rfl (.inl rfl) ?_
    exact .inl ⟨h1, rfl, R1, rfl, h4⟩
  · have hcd : code = 0 ∨ code = 1 := by omega
    rcases hcd with hk | hk
    · exact absurd hk h1
    · skip
      subst hk
      refine .inr ⟨2, 11, 2, rfl, rfl, .inl ⟨_, _, _, rfl, ?_⟩⟩
      refine zx_go (pc1 := 13) (l1 := zDel 2 (zSet (.inl 0) 2 [some (zr 1), some (zr 55), none])) (st1 := [zi 1]) (w1 := wr (cBmp c) R) g_L_net 1 _ _ _ _ rfl ?_
      refine zx_iret g_L_net rfl (.inl rfl) ?_
      exact .inr ⟨by decide, rfl, rfl⟩

set_option maxHeartbeats 1000000 in
theorem t_L_pin {c : zC} {R : zI} {code val : Int} {V : zI → Prop} {p0 : Int} (hcd : code = 0 ∨ code = 1 ∨ code = 2) (hv : code = 0 → pz val) (hM : MZ m_X5_pin [zr 1, zi p0] (wr c R) (cP code exB (fun v R1 => v = val ∧ V R1) c R)) : MZ m_L_pin [zr 1, zi p0, zr 55] (wr c R) (lP code val V c R) := by
  refine MZ.of g_L_pin ?_
  show ZX m_L_pin 0 [some (zr 1), some (zi p0), some (zr 55), none] [] (wr c R) _
  refine zx_go (pc1 := 4) (l1 := [some (zr 1), some (zi p0), some (zr 55), none]) (st1 := [zi p0, zr 1, zi 0, zr 55]) (w1 := wr c R) g_L_pin 4 _ _ _ _ rfl ?_
  refine zx_ch (As := [zi p0]) (rest := [zi 0, zr 55]) g_L_pin rfl g_X5_pin rfl rfl (Nat.le_of_ble_eq_true rfl) (Nat.le_of_ble_eq_true rfl) rfl (by decide) hM (by decide) ?_
  rintro o w1 (⟨h1, v, R1, rfl, rfl, rfl, h4⟩ | ⟨h1, rfl, rfl⟩)
  · refine .inl ⟨some (.inl v), rfl, ?_⟩
    show ZX m_L_pin 7 [some (zr 1), some (zi p0), some (zr 55), none] [zi v, zi 0, zr 55] (wr c R1) _
    have hv1 := hv h1
    refine zx_i2l g_L_pin rfl hv1 ?_
    refine gz_last g_L_pin rfl ?_
    refine zx_go (pc1 := 19) (l1 := [some (zr 1), some (zi p0), some (zr 55), none]) (st1 := [zi 0]) (w1 := wr (cOut c v) R1) g_L_pin 2 _ _ _ _ rfl ?_
    refine zx_iret g_L_pin rfl (.inl rfl) ?_
    exact .inl ⟨h1, rfl, R1, rfl, h4⟩
  · rcases hcd with hk | hk | hk
    · exact absurd hk h1
    · skip
      subst hk
      refine .inr ⟨0, 12, 3, rfl, rfl, .inl ⟨_, _, _, rfl, ?_⟩⟩
      refine zx_go (pc1 := 14) (l1 := zDel 3 (zSet (.inl 0) 3 [some (zr 1), some (zi p0), some (zr 55), none])) (st1 := [zi 1]) (w1 := wr (cBmp c) R) g_L_pin 1 _ _ _ _ rfl ?_
      refine zx_iret g_L_pin rfl (.inl rfl) ?_
      exact .inr ⟨by decide, rfl, rfl⟩
    · skip
      subst hk
      refine .inr ⟨2, 15, 3, rfl, rfl, .inl ⟨_, _, _, rfl, ?_⟩⟩
      refine zx_go (pc1 := 17) (l1 := zDel 3 (zSet (.inl 0) 3 [some (zr 1), some (zi p0), some (zr 55), none])) (st1 := [zi 2]) (w1 := wr (cBmp c) R) g_L_pin 1 _ _ _ _ rfl ?_
      refine zx_iret g_L_pin rfl (.inl rfl) ?_
      exact .inr ⟨by decide, rfl, rfl⟩

set_option maxHeartbeats 1000000 in
theorem t_L_access {c : zC} {R : zI} {code val : Int} {V : zI → Prop} {p0 : Int} {p1 : Int} {p2 : Int} {p3 : Int} (hcd : code = 0 ∨ code = 1 ∨ code = 2) (hv : code = 0 → pb val) (hM : MZ m_X5_access [zr 1, zi p0, zi p1, zl p2, zl p3] (wr c R) (cP code exB (fun v R1 => v = val ∧ V R1) c R)) : MZ m_L_access [zr 1, zi p0, zi p1, zl p2, zl p3, zr 55] (wr c R) (lP code val V c R) := by
  refine MZ.of g_L_access ?_
  show ZX m_L_access 0 [some (zr 1), some (zi p0), some (zi p1), some (zl p2), none, some (zl p3), none, some (zr 55), none] [] (wr c R) _
  refine zx_go (pc1 := 9) (l1 := [some (zr 1), some (zi p0), some (zi p1), some (zl p2), none, some (zl p3), none, some (zr 55), none]) (st1 := [zl p3, zl p2, zi p1, zi p0, zr 1, zi 0, zr 55]) (w1 := wr c R) g_L_access 7 _ _ _ _ rfl ?_
  refine zx_ch (As := [zi p0, zi p1, zl p2, zl p3]) (rest := [zi 0, zr 55]) g_L_access rfl g_X5_access rfl rfl (Nat.le_of_ble_eq_true rfl) (Nat.le_of_ble_eq_true rfl) rfl (by decide) hM (by decide) ?_
  rintro o w1 (⟨h1, v, R1, rfl, rfl, rfl, h4⟩ | ⟨h1, rfl, rfl⟩)
  · refine .inl ⟨some (.inl v), rfl, ?_⟩
    show ZX m_L_access 12 [some (zr 1), some (zi p0), some (zi p1), some (zl p2), none, some (zl p3), none, some (zr 55), none] [zi v, zi 0, zr 55] (wr c R1) _
    have hv1 := hv h1
    refine zx_if g_L_access rfl (by omega) (fun (hz : v = 0) => ?_) (fun (hz : ¬ v = 0) => ?_)
    · subst hz
      refine zx_go (pc1 := 20) (l1 := [some (zr 1), some (zi p0), some (zi p1), some (zl p2), none, some (zl p3), none, some (zr 55), none]) (st1 := [zl 0, zi 0, zr 55]) (w1 := wr c R1) g_L_access 1 _ _ _ _ rfl ?_
      refine gz_last g_L_access rfl ?_
      refine zx_go (pc1 := 33) (l1 := [some (zr 1), some (zi p0), some (zi p1), some (zl p2), none, some (zl p3), none, some (zr 55), none]) (st1 := [zi 0]) (w1 := wr (cOut c 0) R1) g_L_access 2 _ _ _ _ rfl ?_
      refine zx_iret g_L_access rfl (.inl rfl) ?_
      exact .inl ⟨h1, rfl, R1, rfl, h4⟩
    · have hz : v = 1 := by omega
      subst hz
      refine zx_go (pc1 := 20) (l1 := [some (zr 1), some (zi p0), some (zi p1), some (zl p2), none, some (zl p3), none, some (zr 55), none]) (st1 := [zl 1, zi 0, zr 55]) (w1 := wr c R1) g_L_access 2 _ _ _ _ rfl ?_
      refine gz_last g_L_access rfl ?_
      refine zx_go (pc1 := 33) (l1 := [some (zr 1), some (zi p0), some (zi p1), some (zl p2), none, some (zl p3), none, some (zr 55), none]) (st1 := [zi 0]) (w1 := wr (cOut c 1) R1) g_L_access 2 _ _ _ _ rfl ?_
      refine zx_iret g_L_access rfl (.inl rfl) ?_
      exact .inl ⟨h1, rfl, R1, rfl, h4⟩
  · rcases hcd with hk | hk | hk
    · exact absurd hk h1
    · skip
      subst hk
      refine .inr ⟨0, 24, 8, rfl, rfl, .inr ⟨_, _, _, rfl, ?_⟩⟩
      refine zx_go (pc1 := 27) (l1 := zDel 8 (zSet (.inl 0) 8 [some (zr 1), some (zi p0), some (zi p1), some (zl p2), none, some (zl p3), none, some (zr 55), none])) (st1 := [zi 1]) (w1 := wr (cBmp c) R) g_L_access 1 _ _ _ _ rfl ?_
      refine zx_iret g_L_access rfl (.inl rfl) ?_
      exact .inr ⟨by decide, rfl, rfl⟩
    · skip
      subst hk
      refine .inr ⟨2, 28, 8, rfl, rfl, .inr ⟨_, _, _, rfl, ?_⟩⟩
      refine zx_go (pc1 := 31) (l1 := zDel 8 (zSet (.inl 0) 8 [some (zr 1), some (zi p0), some (zi p1), some (zl p2), none, some (zl p3), none, some (zr 55), none])) (st1 := [zi 2]) (w1 := wr (cBmp c) R) g_L_access 1 _ _ _ _ rfl ?_
      refine zx_iret g_L_access rfl (.inl rfl) ?_
      exact .inr ⟨by decide, rfl, rfl⟩

set_option maxHeartbeats 1000000 in
theorem t_L_bar {c : zC} {R : zI} {code val : Int} {V : zI → Prop} {p0 : Int} {p1 : Int} {p2 : Int} {p3 : Int} {p4 : Int} (hcd : code = 0 ∨ code = 1 ∨ code = 2) (hv : code = 0 → pb val) (hM : MZ m_X5_bar [zr 1, zi p0, zl p1, zl p2, zl p3, zl p4] (wr c R) (cP code exA (fun v R1 => v = val ∧ V R1) c R)) : MZ m_L_bar [zr 1, zi p0, zl p1, zl p2, zl p3, zl p4, zr 55] (wr c R) (lP code val V c R) := by
  refine MZ.of g_L_bar ?_
  show ZX m_L_bar 0 [some (zr 1), some (zi p0), some (zl p1), none, some (zl p2), none, some (zl p3), none, some (zl p4), none, some (zr 55), none] [] (wr c R) _
  refine zx_go (pc1 := 12) (l1 := [some (zr 1), some (zi p0), some (zl p1), none, some (zl p2), none, some (zl p3), none, some (zl p4), none, some (zr 55), none]) (st1 := [zl p4, zl p3, zl p2, zl p1, zi p0, zr 1, zi 0, zr 55]) (w1 := wr c R) g_L_bar 8 _ _ _ _ rfl ?_
  refine zx_ch (As := [zi p0, zl p1, zl p2, zl p3, zl p4]) (rest := [zi 0, zr 55]) g_L_bar rfl g_X5_bar rfl rfl (Nat.le_of_ble_eq_true rfl) (Nat.le_of_ble_eq_true rfl) rfl (by decide) hM (by decide) ?_
  rintro o w1 (⟨h1, v, R1, rfl, rfl, rfl, h4⟩ | ⟨h1, rfl, rfl⟩)
  · refine .inl ⟨some (.inl v), rfl, ?_⟩
    show ZX m_L_bar 15 [some (zr 1), some (zi p0), some (zl p1), none, some (zl p2), none, some (zl p3), none, some (zl p4), none, some (zr 55), none] [zi v, zi 0, zr 55] (wr c R1) _
    have hv1 := hv h1
    refine zx_if g_L_bar rfl (by omega) (fun (hz : v = 0) => ?_) (fun (hz : ¬ v = 0) => ?_)
    · subst hz
      refine zx_go (pc1 := 23) (l1 := [some (zr 1), some (zi p0), some (zl p1), none, some (zl p2), none, some (zl p3), none, some (zl p4), none, some (zr 55), none]) (st1 := [zl 0, zi 0, zr 55]) (w1 := wr c R1) g_L_bar 1 _ _ _ _ rfl ?_
      refine gz_last g_L_bar rfl ?_
      refine zx_go (pc1 := 36) (l1 := [some (zr 1), some (zi p0), some (zl p1), none, some (zl p2), none, some (zl p3), none, some (zl p4), none, some (zr 55), none]) (st1 := [zi 0]) (w1 := wr (cOut c 0) R1) g_L_bar 2 _ _ _ _ rfl ?_
      refine zx_iret g_L_bar rfl (.inl rfl) ?_
      exact .inl ⟨h1, rfl, R1, rfl, h4⟩
    · have hz : v = 1 := by omega
      subst hz
      refine zx_go (pc1 := 23) (l1 := [some (zr 1), some (zi p0), some (zl p1), none, some (zl p2), none, some (zl p3), none, some (zl p4), none, some (zr 55), none]) (st1 := [zl 1, zi 0, zr 55]) (w1 := wr c R1) g_L_bar 2 _ _ _ _ rfl ?_
      refine gz_last g_L_bar rfl ?_
      refine zx_go (pc1 := 36) (l1 := [some (zr 1), some (zi p0), some (zl p1), none, some (zl p2), none, some (zl p3), none, some (zl p4), none, some (zr 55), none]) (st1 := [zi 0]) (w1 := wr (cOut c 1) R1) g_L_bar 2 _ _ _ _ rfl ?_
      refine zx_iret g_L_bar rfl (.inl rfl) ?_
      exact .inl ⟨h1, rfl, R1, rfl, h4⟩
  · rcases hcd with hk | hk | hk
    · exact absurd hk h1
    · skip
      subst hk
      refine .inr ⟨0, 27, 11, rfl, rfl, .inr ⟨_, _, _, rfl, ?_⟩⟩
      refine zx_go (pc1 := 30) (l1 := zDel 11 (zSet (.inl 0) 11 [some (zr 1), some (zi p0), some (zl p1), none, some (zl p2), none, some (zl p3), none, some (zl p4), none, some (zr 55), none])) (st1 := [zi 1]) (w1 := wr (cBmp c) R) g_L_bar 1 _ _ _ _ rfl ?_
      refine zx_iret g_L_bar rfl (.inl rfl) ?_
      exact .inr ⟨by decide, rfl, rfl⟩
    · skip
      subst hk
      refine .inr ⟨1, 31, 11, rfl, rfl, .inr ⟨_, _, _, rfl, ?_⟩⟩
      refine zx_go (pc1 := 34) (l1 := zDel 11 (zSet (.inl 0) 11 [some (zr 1), some (zi p0), some (zl p1), none, some (zl p2), none, some (zl p3), none, some (zl p4), none, some (zr 55), none])) (st1 := [zi 2]) (w1 := wr (cBmp c) R) g_L_bar 1 _ _ _ _ rfl ?_
      refine zx_iret g_L_bar rfl (.inl rfl) ?_
      exact .inr ⟨by decide, rfl, rfl⟩

set_option maxHeartbeats 1000000 in
theorem t_L_shield {c : zC} {R : zI} {code val : Int} {V : zI → Prop} {p0 : Int} (hcd : code = 0 ∨ code = 1 ∨ code = 1) (hv : code = 0 → pb val) (hM : MZ m_X5_shield [zr 1, zi p0] (wr c R) (cP code exB (fun v R1 => v = val ∧ V R1) c R)) : MZ m_L_shield [zr 1, zi p0, zr 55] (wr c R) (lP code val V c R) := by
  refine MZ.of g_L_shield ?_
  show ZX m_L_shield 0 [some (zr 1), some (zi p0), some (zr 55), none] [] (wr c R) _
  refine zx_go (pc1 := 4) (l1 := [some (zr 1), some (zi p0), some (zr 55), none]) (st1 := [zi p0, zr 1, zi 0, zr 55]) (w1 := wr c R) g_L_shield 4 _ _ _ _ rfl ?_
  refine zx_ch (As := [zi p0]) (rest := [zi 0, zr 55]) g_L_shield rfl g_X5_shield rfl rfl (Nat.le_of_ble_eq_true rfl) (Nat.le_of_ble_eq_true rfl) rfl (by decide) hM (by decide) ?_
  rintro o w1 (⟨h1, v, R1, rfl, rfl, rfl, h4⟩ | ⟨h1, rfl, rfl⟩)
  · refine .inl ⟨some (.inl v), rfl, ?_⟩
    show ZX m_L_shield 7 [some (zr 1), some (zi p0), some (zr 55), none] [zi v, zi 0, zr 55] (wr c R1) _
    have hv1 := hv h1
    refine zx_if g_L_shield rfl (by omega) (fun (hz : v = 0) => ?_) (fun (hz : ¬ v = 0) => ?_)
    · subst hz
      refine zx_go (pc1 := 15) (l1 := [some (zr 1), some (zi p0), some (zr 55), none]) (st1 := [zl 0, zi 0, zr 55]) (w1 := wr c R1) g_L_shield 1 _ _ _ _ rfl ?_
      refine gz_last g_L_shield rfl ?_
      refine zx_go (pc1 := 23) (l1 := [some (zr 1), some (zi p0), some (zr 55), none]) (st1 := [zi 0]) (w1 := wr (cOut c 0) R1) g_L_shield 2 _ _ _ _ rfl ?_
      refine zx_iret g_L_shield rfl (.inl rfl) ?_
      exact .inl ⟨h1, rfl, R1, rfl, h4⟩
    · have hz : v = 1 := by omega
      subst hz
      refine zx_go (pc1 := 15) (l1 := [some (zr 1), some (zi p0), some (zr 55), none]) (st1 := [zl 1, zi 0, zr 55]) (w1 := wr c R1) g_L_shield 2 _ _ _ _ rfl ?_
      refine gz_last g_L_shield rfl ?_
      refine zx_go (pc1 := 23) (l1 := [some (zr 1), some (zi p0), some (zr 55), none]) (st1 := [zi 0]) (w1 := wr (cOut c 1) R1) g_L_shield 2 _ _ _ _ rfl ?_
      refine zx_iret g_L_shield rfl (.inl rfl) ?_
      exact .inl ⟨h1, rfl, R1, rfl, h4⟩
  · have hcd : code = 0 ∨ code = 1 := by omega
    rcases hcd with hk | hk
    · exact absurd hk h1
    · skip
      subst hk
      refine .inr ⟨0, 19, 3, rfl, rfl, .inl ⟨_, _, _, rfl, ?_⟩⟩
      refine zx_go (pc1 := 21) (l1 := zDel 3 (zSet (.inl 0) 3 [some (zr 1), some (zi p0), some (zr 55), none])) (st1 := [zi 1]) (w1 := wr (cBmp c) R) g_L_shield 1 _ _ _ _ rfl ?_
      refine zx_iret g_L_shield rfl (.inl rfl) ?_
      exact .inr ⟨by decide, rfl, rfl⟩

set_option maxHeartbeats 1000000 in
theorem t_L_run {c : zC} {R : zI} {code val : Int} {V : zI → Prop} {p0 : Int} (hcd : code = 0 ∨ code = 1 ∨ code = 1) (hv : code = 0 → pz val) (hM : MZ m_X5_run [zr 1, zi p0] (wr c R) (cP code exD (fun v R1 => v = val ∧ V R1) c R)) : MZ m_L_run [zr 1, zi p0, zr 55] (wr c R) (lP code val V c R) := by
  refine MZ.of g_L_run ?_
  show ZX m_L_run 0 [some (zr 1), some (zi p0), some (zr 55), none] [] (wr c R) _
  refine zx_go (pc1 := 4) (l1 := [some (zr 1), some (zi p0), some (zr 55), none]) (st1 := [zi p0, zr 1, zi 0, zr 55]) (w1 := wr c R) g_L_run 4 _ _ _ _ rfl ?_
  refine zx_ch (As := [zi p0]) (rest := [zi 0, zr 55]) g_L_run rfl g_X5_run rfl rfl (Nat.le_of_ble_eq_true rfl) (Nat.le_of_ble_eq_true rfl) rfl (by decide) hM (by decide) ?_
  rintro o w1 (⟨h1, v, R1, rfl, rfl, rfl, h4⟩ | ⟨h1, rfl, rfl⟩)
  · refine .inl ⟨some (.inl v), rfl, ?_⟩
    show ZX m_L_run 7 [some (zr 1), some (zi p0), some (zr 55), none] [zi v, zi 0, zr 55] (wr c R1) _
    have hv1 := hv h1
    refine zx_i2l g_L_run rfl hv1 ?_
    refine gz_last g_L_run rfl ?_
    refine zx_go (pc1 := 16) (l1 := [some (zr 1), some (zi p0), some (zr 55), none]) (st1 := [zi 0]) (w1 := wr (cOut c v) R1) g_L_run 2 _ _ _ _ rfl ?_
    refine zx_iret g_L_run rfl (.inl rfl) ?_
    exact .inl ⟨h1, rfl, R1, rfl, h4⟩
  · have hcd : code = 0 ∨ code = 1 := by omega
    rcases hcd with hk | hk
    · exact absurd hk h1
    · skip
      subst hk
      refine .inr ⟨1, 12, 3, rfl, rfl, .inl ⟨_, _, _, rfl, ?_⟩⟩
      refine zx_go (pc1 := 14) (l1 := zDel 3 (zSet (.inl 0) 3 [some (zr 1), some (zi p0), some (zr 55), none])) (st1 := [zi 1]) (w1 := wr (cBmp c) R) g_L_run 1 _ _ _ _ rfl ?_
      refine zx_iret g_L_run rfl (.inl rfl) ?_
      exact .inr ⟨by decide, rfl, rfl⟩

set_option maxHeartbeats 1000000 in
theorem t_L_piece {c : zC} {R : zI} {code val : Int} {V : zI → Prop} {p0 : Int} {p1 : Int} {p2 : Int} (hcd : code = 0 ∨ code = 1 ∨ code = 2) (hv : code = 0 → pz val) (hM : MZ m_X5_piece [zr 1, zi p0, zi p1, zi p2] (wr c R) (cP code exB (fun v R1 => v = val ∧ V R1) c R)) : MZ m_L_piece [zr 1, zi p0, zi p1, zi p2, zr 55] (wr c R) (lP code val V c R) := by
  refine MZ.of g_L_piece ?_
  show ZX m_L_piece 0 [some (zr 1), some (zi p0), some (zi p1), some (zi p2), some (zr 55), none] [] (wr c R) _
  refine zx_go (pc1 := 7) (l1 := [some (zr 1), some (zi p0), some (zi p1), some (zi p2), some (zr 55), none]) (st1 := [zi p2, zi p1, zi p0, zr 1, zi 0, zr 55]) (w1 := wr c R) g_L_piece 6 _ _ _ _ rfl ?_
  refine zx_ch (As := [zi p0, zi p1, zi p2]) (rest := [zi 0, zr 55]) g_L_piece rfl g_X5_piece rfl rfl (Nat.le_of_ble_eq_true rfl) (Nat.le_of_ble_eq_true rfl) rfl (by decide) hM (by decide) ?_
  rintro o w1 (⟨h1, v, R1, rfl, rfl, rfl, h4⟩ | ⟨h1, rfl, rfl⟩)
  · refine .inl ⟨some (.inl v), rfl, ?_⟩
    show ZX m_L_piece 10 [some (zr 1), some (zi p0), some (zi p1), some (zi p2), some (zr 55), none] [zi v, zi 0, zr 55] (wr c R1) _
    have hv1 := hv h1
    refine zx_i2l g_L_piece rfl hv1 ?_
    refine gz_last g_L_piece rfl ?_
    refine zx_go (pc1 := 24) (l1 := [some (zr 1), some (zi p0), some (zi p1), some (zi p2), some (zr 55), none]) (st1 := [zi 0]) (w1 := wr (cOut c v) R1) g_L_piece 2 _ _ _ _ rfl ?_
    refine zx_iret g_L_piece rfl (.inl rfl) ?_
    exact .inl ⟨h1, rfl, R1, rfl, h4⟩
  · rcases hcd with hk | hk | hk
    · exact absurd hk h1
    · skip
      subst hk
      refine .inr ⟨0, 15, 5, rfl, rfl, .inr ⟨_, _, _, rfl, ?_⟩⟩
      refine zx_go (pc1 := 18) (l1 := zDel 5 (zSet (.inl 0) 5 [some (zr 1), some (zi p0), some (zi p1), some (zi p2), some (zr 55), none])) (st1 := [zi 1]) (w1 := wr (cBmp c) R) g_L_piece 1 _ _ _ _ rfl ?_
      refine zx_iret g_L_piece rfl (.inl rfl) ?_
      exact .inr ⟨by decide, rfl, rfl⟩
    · skip
      subst hk
      refine .inr ⟨2, 19, 5, rfl, rfl, .inr ⟨_, _, _, rfl, ?_⟩⟩
      refine zx_go (pc1 := 22) (l1 := zDel 5 (zSet (.inl 0) 5 [some (zr 1), some (zi p0), some (zi p1), some (zi p2), some (zr 55), none])) (st1 := [zi 2]) (w1 := wr (cBmp c) R) g_L_piece 1 _ _ _ _ rfl ?_
      refine zx_iret g_L_piece rfl (.inl rfl) ?_
      exact .inr ⟨by decide, rfl, rfl⟩

set_option maxHeartbeats 1000000 in
theorem t_L_chosen {c : zC} {R : zI} {code val : Int} {V : zI → Prop} {p0 : Int} (hcd : code = 0 ∨ code = 1 ∨ code = 2) (hv : code = 0 → pz val) (hM : MZ m_X5_chosen [zr 1, zi p0] (wr c R) (cP code exB (fun v R1 => v = val ∧ V R1) c R)) : MZ m_L_chosen [zr 1, zi p0, zr 55] (wr c R) (lP code val V c R) := by
  refine MZ.of g_L_chosen ?_
  show ZX m_L_chosen 0 [some (zr 1), some (zi p0), some (zr 55), none] [] (wr c R) _
  refine zx_go (pc1 := 4) (l1 := [some (zr 1), some (zi p0), some (zr 55), none]) (st1 := [zi p0, zr 1, zi 0, zr 55]) (w1 := wr c R) g_L_chosen 4 _ _ _ _ rfl ?_
  refine zx_ch (As := [zi p0]) (rest := [zi 0, zr 55]) g_L_chosen rfl g_X5_chosen rfl rfl (Nat.le_of_ble_eq_true rfl) (Nat.le_of_ble_eq_true rfl) rfl (by decide) hM (by decide) ?_
  rintro o w1 (⟨h1, v, R1, rfl, rfl, rfl, h4⟩ | ⟨h1, rfl, rfl⟩)
  · refine .inl ⟨some (.inl v), rfl, ?_⟩
    show ZX m_L_chosen 7 [some (zr 1), some (zi p0), some (zr 55), none] [zi v, zi 0, zr 55] (wr c R1) _
    have hv1 := hv h1
    refine zx_i2l g_L_chosen rfl hv1 ?_
    refine gz_last g_L_chosen rfl ?_
    refine zx_go (pc1 := 19) (l1 := [some (zr 1), some (zi p0), some (zr 55), none]) (st1 := [zi 0]) (w1 := wr (cOut c v) R1) g_L_chosen 2 _ _ _ _ rfl ?_
    refine zx_iret g_L_chosen rfl (.inl rfl) ?_
    exact .inl ⟨h1, rfl, R1, rfl, h4⟩
  · rcases hcd with hk | hk | hk
    · exact absurd hk h1
    · skip
      subst hk
      refine .inr ⟨0, 12, 3, rfl, rfl, .inl ⟨_, _, _, rfl, ?_⟩⟩
      refine zx_go (pc1 := 14) (l1 := zDel 3 (zSet (.inl 0) 3 [some (zr 1), some (zi p0), some (zr 55), none])) (st1 := [zi 1]) (w1 := wr (cBmp c) R) g_L_chosen 1 _ _ _ _ rfl ?_
      refine zx_iret g_L_chosen rfl (.inl rfl) ?_
      exact .inr ⟨by decide, rfl, rfl⟩
    · skip
      subst hk
      refine .inr ⟨2, 15, 3, rfl, rfl, .inl ⟨_, _, _, rfl, ?_⟩⟩
      refine zx_go (pc1 := 17) (l1 := zDel 3 (zSet (.inl 0) 3 [some (zr 1), some (zi p0), some (zr 55), none])) (st1 := [zi 2]) (w1 := wr (cBmp c) R) g_L_chosen 1 _ _ _ _ rfl ?_
      refine zx_iret g_L_chosen rfl (.inl rfl) ?_
      exact .inr ⟨by decide, rfl, rfl⟩

set_option maxHeartbeats 1000000 in
theorem t_L_open {c : zC} {R : zI} {code val : Int} {V : zI → Prop} {p0 : Int} {p1 : Int} (hcd : code = 0 ∨ code = 1 ∨ code = 2) (hv : code = 0 → pz val) (hM : MZ m_X5_open [zr 1, zi p0, zi p1] (wr c R) (cP code exB (fun v R1 => v = val ∧ V R1) c R)) : MZ m_L_open [zr 1, zi p0, zi p1, zr 55] (wr c R) (lP code val V c R) := by
  refine MZ.of g_L_open ?_
  show ZX m_L_open 0 [some (zr 1), some (zi p0), some (zi p1), some (zr 55), none] [] (wr c R) _
  refine zx_go (pc1 := 5) (l1 := [some (zr 1), some (zi p0), some (zi p1), some (zr 55), none]) (st1 := [zi p1, zi p0, zr 1, zi 0, zr 55]) (w1 := wr c R) g_L_open 5 _ _ _ _ rfl ?_
  refine zx_ch (As := [zi p0, zi p1]) (rest := [zi 0, zr 55]) g_L_open rfl g_X5_open rfl rfl (Nat.le_of_ble_eq_true rfl) (Nat.le_of_ble_eq_true rfl) rfl (by decide) hM (by decide) ?_
  rintro o w1 (⟨h1, v, R1, rfl, rfl, rfl, h4⟩ | ⟨h1, rfl, rfl⟩)
  · refine .inl ⟨some (.inl v), rfl, ?_⟩
    show ZX m_L_open 8 [some (zr 1), some (zi p0), some (zi p1), some (zr 55), none] [zi v, zi 0, zr 55] (wr c R1) _
    have hv1 := hv h1
    refine zx_i2l g_L_open rfl hv1 ?_
    refine gz_last g_L_open rfl ?_
    refine zx_go (pc1 := 22) (l1 := [some (zr 1), some (zi p0), some (zi p1), some (zr 55), none]) (st1 := [zi 0]) (w1 := wr (cOut c v) R1) g_L_open 2 _ _ _ _ rfl ?_
    refine zx_iret g_L_open rfl (.inl rfl) ?_
    exact .inl ⟨h1, rfl, R1, rfl, h4⟩
  · rcases hcd with hk | hk | hk
    · exact absurd hk h1
    · skip
      subst hk
      refine .inr ⟨0, 13, 4, rfl, rfl, .inr ⟨_, _, _, rfl, ?_⟩⟩
      refine zx_go (pc1 := 16) (l1 := zDel 4 (zSet (.inl 0) 4 [some (zr 1), some (zi p0), some (zi p1), some (zr 55), none])) (st1 := [zi 1]) (w1 := wr (cBmp c) R) g_L_open 1 _ _ _ _ rfl ?_
      refine zx_iret g_L_open rfl (.inl rfl) ?_
      exact .inr ⟨by decide, rfl, rfl⟩
    · skip
      subst hk
      refine .inr ⟨2, 17, 4, rfl, rfl, .inr ⟨_, _, _, rfl, ?_⟩⟩
      refine zx_go (pc1 := 20) (l1 := zDel 4 (zSet (.inl 0) 4 [some (zr 1), some (zi p0), some (zi p1), some (zr 55), none])) (st1 := [zi 2]) (w1 := wr (cBmp c) R) g_L_open 1 _ _ _ _ rfl ?_
      refine zx_iret g_L_open rfl (.inl rfl) ?_
      exact .inr ⟨by decide, rfl, rfl⟩

set_option maxHeartbeats 1000000 in
theorem t_L_joined {c : zC} {R : zI} {code val : Int} {V : zI → Prop} {p0 : Int} (hcd : code = 0 ∨ code = 1 ∨ code = 2) (hv : code = 0 → pb val) (hM : MZ m_X5_joined [zr 1, zi p0] (wr c R) (cP code exB (fun v R1 => v = val ∧ V R1) c R)) : MZ m_L_joined [zr 1, zi p0, zr 55] (wr c R) (lP code val V c R) := by
  refine MZ.of g_L_joined ?_
  show ZX m_L_joined 0 [some (zr 1), some (zi p0), some (zr 55), none] [] (wr c R) _
  refine zx_go (pc1 := 4) (l1 := [some (zr 1), some (zi p0), some (zr 55), none]) (st1 := [zi p0, zr 1, zi 0, zr 55]) (w1 := wr c R) g_L_joined 4 _ _ _ _ rfl ?_
  refine zx_ch (As := [zi p0]) (rest := [zi 0, zr 55]) g_L_joined rfl g_X5_joined rfl rfl (Nat.le_of_ble_eq_true rfl) (Nat.le_of_ble_eq_true rfl) rfl (by decide) hM (by decide) ?_
  rintro o w1 (⟨h1, v, R1, rfl, rfl, rfl, h4⟩ | ⟨h1, rfl, rfl⟩)
  · refine .inl ⟨some (.inl v), rfl, ?_⟩
    show ZX m_L_joined 7 [some (zr 1), some (zi p0), some (zr 55), none] [zi v, zi 0, zr 55] (wr c R1) _
    have hv1 := hv h1
    refine zx_if g_L_joined rfl (by omega) (fun (hz : v = 0) => ?_) (fun (hz : ¬ v = 0) => ?_)
    · subst hz
      refine zx_go (pc1 := 15) (l1 := [some (zr 1), some (zi p0), some (zr 55), none]) (st1 := [zl 0, zi 0, zr 55]) (w1 := wr c R1) g_L_joined 1 _ _ _ _ rfl ?_
      refine gz_last g_L_joined rfl ?_
      refine zx_go (pc1 := 26) (l1 := [some (zr 1), some (zi p0), some (zr 55), none]) (st1 := [zi 0]) (w1 := wr (cOut c 0) R1) g_L_joined 2 _ _ _ _ rfl ?_
      refine zx_iret g_L_joined rfl (.inl rfl) ?_
      exact .inl ⟨h1, rfl, R1, rfl, h4⟩
    · have hz : v = 1 := by omega
      subst hz
      refine zx_go (pc1 := 15) (l1 := [some (zr 1), some (zi p0), some (zr 55), none]) (st1 := [zl 1, zi 0, zr 55]) (w1 := wr c R1) g_L_joined 2 _ _ _ _ rfl ?_
      refine gz_last g_L_joined rfl ?_
      refine zx_go (pc1 := 26) (l1 := [some (zr 1), some (zi p0), some (zr 55), none]) (st1 := [zi 0]) (w1 := wr (cOut c 1) R1) g_L_joined 2 _ _ _ _ rfl ?_
      refine zx_iret g_L_joined rfl (.inl rfl) ?_
      exact .inl ⟨h1, rfl, R1, rfl, h4⟩
  · rcases hcd with hk | hk | hk
    · exact absurd hk h1
    · skip
      subst hk
      refine .inr ⟨0, 19, 3, rfl, rfl, .inl ⟨_, _, _, rfl, ?_⟩⟩
      refine zx_go (pc1 := 21) (l1 := zDel 3 (zSet (.inl 0) 3 [some (zr 1), some (zi p0), some (zr 55), none])) (st1 := [zi 1]) (w1 := wr (cBmp c) R) g_L_joined 1 _ _ _ _ rfl ?_
      refine zx_iret g_L_joined rfl (.inl rfl) ?_
      exact .inr ⟨by decide, rfl, rfl⟩
    · skip
      subst hk
      refine .inr ⟨2, 22, 3, rfl, rfl, .inl ⟨_, _, _, rfl, ?_⟩⟩
      refine zx_go (pc1 := 24) (l1 := zDel 3 (zSet (.inl 0) 3 [some (zr 1), some (zi p0), some (zr 55), none])) (st1 := [zi 2]) (w1 := wr (cBmp c) R) g_L_joined 1 _ _ _ _ rfl ?_
      refine zx_iret g_L_joined rfl (.inl rfl) ?_
      exact .inr ⟨by decide, rfl, rfl⟩

set_option maxHeartbeats 1000000 in
theorem t_L_broken {c : zC} {R : zI} {code val : Int} {V : zI → Prop} {p0 : Int} (hcd : code = 0 ∨ code = 1 ∨ code = 2) (hv : code = 0 → pz val) (hM : MZ m_X5_broken [zr 1, zi p0] (wr c R) (cP code exB (fun v R1 => v = val ∧ V R1) c R)) : MZ m_L_broken [zr 1, zi p0, zr 55] (wr c R) (lP code val V c R) := by
  refine MZ.of g_L_broken ?_
  show ZX m_L_broken 0 [some (zr 1), some (zi p0), some (zr 55), none] [] (wr c R) _
  refine zx_go (pc1 := 4) (l1 := [some (zr 1), some (zi p0), some (zr 55), none]) (st1 := [zi p0, zr 1, zi 0, zr 55]) (w1 := wr c R) g_L_broken 4 _ _ _ _ rfl ?_
  refine zx_ch (As := [zi p0]) (rest := [zi 0, zr 55]) g_L_broken rfl g_X5_broken rfl rfl (Nat.le_of_ble_eq_true rfl) (Nat.le_of_ble_eq_true rfl) rfl (by decide) hM (by decide) ?_
  rintro o w1 (⟨h1, v, R1, rfl, rfl, rfl, h4⟩ | ⟨h1, rfl, rfl⟩)
  · refine .inl ⟨some (.inl v), rfl, ?_⟩
    show ZX m_L_broken 7 [some (zr 1), some (zi p0), some (zr 55), none] [zi v, zi 0, zr 55] (wr c R1) _
    have hv1 := hv h1
    refine zx_i2l g_L_broken rfl hv1 ?_
    refine gz_last g_L_broken rfl ?_
    refine zx_go (pc1 := 19) (l1 := [some (zr 1), some (zi p0), some (zr 55), none]) (st1 := [zi 0]) (w1 := wr (cOut c v) R1) g_L_broken 2 _ _ _ _ rfl ?_
    refine zx_iret g_L_broken rfl (.inl rfl) ?_
    exact .inl ⟨h1, rfl, R1, rfl, h4⟩
  · rcases hcd with hk | hk | hk
    · exact absurd hk h1
    · skip
      subst hk
      refine .inr ⟨0, 12, 3, rfl, rfl, .inl ⟨_, _, _, rfl, ?_⟩⟩
      refine zx_go (pc1 := 14) (l1 := zDel 3 (zSet (.inl 0) 3 [some (zr 1), some (zi p0), some (zr 55), none])) (st1 := [zi 1]) (w1 := wr (cBmp c) R) g_L_broken 1 _ _ _ _ rfl ?_
      refine zx_iret g_L_broken rfl (.inl rfl) ?_
      exact .inr ⟨by decide, rfl, rfl⟩
    · skip
      subst hk
      refine .inr ⟨2, 15, 3, rfl, rfl, .inl ⟨_, _, _, rfl, ?_⟩⟩
      refine zx_go (pc1 := 17) (l1 := zDel 3 (zSet (.inl 0) 3 [some (zr 1), some (zi p0), some (zr 55), none])) (st1 := [zi 2]) (w1 := wr (cBmp c) R) g_L_broken 1 _ _ _ _ rfl ?_
      refine zx_iret g_L_broken rfl (.inl rfl) ?_
      exact .inr ⟨by decide, rfl, rfl⟩

set_option maxHeartbeats 1000000 in
theorem t_L_history {c : zC} {R : zI} {code val : Int} {V : zI → Prop} {p0 : Int} {p1 : Int} {p2 : Int} (hcd : code = 0 ∨ code = 1 ∨ code = 2) (hv : code = 0 → pz val) (hM : MZ m_X5_history [zr 1, zi p0, zl p1, zl p2] (wr c R) (cP code exB (fun v R1 => v = val ∧ V R1) c R)) : MZ m_L_history [zr 1, zi p0, zl p1, zl p2, zr 55] (wr c R) (lP code val V c R) := by
  refine MZ.of g_L_history ?_
  show ZX m_L_history 0 [some (zr 1), some (zi p0), some (zl p1), none, some (zl p2), none, some (zr 55), none] [] (wr c R) _
  refine zx_go (pc1 := 8) (l1 := [some (zr 1), some (zi p0), some (zl p1), none, some (zl p2), none, some (zr 55), none]) (st1 := [zl p2, zl p1, zi p0, zr 1, zi 0, zr 55]) (w1 := wr c R) g_L_history 6 _ _ _ _ rfl ?_
  refine zx_ch (As := [zi p0, zl p1, zl p2]) (rest := [zi 0, zr 55]) g_L_history rfl g_X5_history rfl rfl (Nat.le_of_ble_eq_true rfl) (Nat.le_of_ble_eq_true rfl) rfl (by decide) hM (by decide) ?_
  rintro o w1 (⟨h1, v, R1, rfl, rfl, rfl, h4⟩ | ⟨h1, rfl, rfl⟩)
  · refine .inl ⟨some (.inl v), rfl, ?_⟩
    show ZX m_L_history 11 [some (zr 1), some (zi p0), some (zl p1), none, some (zl p2), none, some (zr 55), none] [zi v, zi 0, zr 55] (wr c R1) _
    have hv1 := hv h1
    refine zx_i2l g_L_history rfl hv1 ?_
    refine gz_last g_L_history rfl ?_
    refine zx_go (pc1 := 25) (l1 := [some (zr 1), some (zi p0), some (zl p1), none, some (zl p2), none, some (zr 55), none]) (st1 := [zi 0]) (w1 := wr (cOut c v) R1) g_L_history 2 _ _ _ _ rfl ?_
    refine zx_iret g_L_history rfl (.inl rfl) ?_
    exact .inl ⟨h1, rfl, R1, rfl, h4⟩
  · rcases hcd with hk | hk | hk
    · exact absurd hk h1
    · skip
      subst hk
      refine .inr ⟨0, 16, 7, rfl, rfl, .inr ⟨_, _, _, rfl, ?_⟩⟩
      refine zx_go (pc1 := 19) (l1 := zDel 7 (zSet (.inl 0) 7 [some (zr 1), some (zi p0), some (zl p1), none, some (zl p2), none, some (zr 55), none])) (st1 := [zi 1]) (w1 := wr (cBmp c) R) g_L_history 1 _ _ _ _ rfl ?_
      refine zx_iret g_L_history rfl (.inl rfl) ?_
      exact .inr ⟨by decide, rfl, rfl⟩
    · skip
      subst hk
      refine .inr ⟨2, 20, 7, rfl, rfl, .inr ⟨_, _, _, rfl, ?_⟩⟩
      refine zx_go (pc1 := 23) (l1 := zDel 7 (zSet (.inl 0) 7 [some (zr 1), some (zi p0), some (zl p1), none, some (zl p2), none, some (zr 55), none])) (st1 := [zi 2]) (w1 := wr (cBmp c) R) g_L_history 1 _ _ _ _ rfl ?_
      refine zx_iret g_L_history rfl (.inl rfl) ?_
      exact .inr ⟨by decide, rfl, rfl⟩

set_option maxHeartbeats 1000000 in
theorem t_L_count {c : zC} {R : zI} {code val : Int} {V : zI → Prop} {p0 : Int} (hcd : code = 0 ∨ code = 1 ∨ code = 1) (hv : code = 0 → pz val) (hM : MZ m_X5_count [zr 1, zi p0] (wr c R) (cP code exB (fun v R1 => v = val ∧ V R1) c R)) : MZ m_L_count [zr 1, zi p0, zr 55] (wr c R) (lP code val V c R) := by
  refine MZ.of g_L_count ?_
  show ZX m_L_count 0 [some (zr 1), some (zi p0), some (zr 55), none] [] (wr c R) _
  refine zx_go (pc1 := 4) (l1 := [some (zr 1), some (zi p0), some (zr 55), none]) (st1 := [zi p0, zr 1, zi 0, zr 55]) (w1 := wr c R) g_L_count 4 _ _ _ _ rfl ?_
  refine zx_ch (As := [zi p0]) (rest := [zi 0, zr 55]) g_L_count rfl g_X5_count rfl rfl (Nat.le_of_ble_eq_true rfl) (Nat.le_of_ble_eq_true rfl) rfl (by decide) hM (by decide) ?_
  rintro o w1 (⟨h1, v, R1, rfl, rfl, rfl, h4⟩ | ⟨h1, rfl, rfl⟩)
  · refine .inl ⟨some (.inl v), rfl, ?_⟩
    show ZX m_L_count 7 [some (zr 1), some (zi p0), some (zr 55), none] [zi v, zi 0, zr 55] (wr c R1) _
    have hv1 := hv h1
    refine zx_i2l g_L_count rfl hv1 ?_
    refine gz_last g_L_count rfl ?_
    refine zx_go (pc1 := 16) (l1 := [some (zr 1), some (zi p0), some (zr 55), none]) (st1 := [zi 0]) (w1 := wr (cOut c v) R1) g_L_count 2 _ _ _ _ rfl ?_
    refine zx_iret g_L_count rfl (.inl rfl) ?_
    exact .inl ⟨h1, rfl, R1, rfl, h4⟩
  · have hcd : code = 0 ∨ code = 1 := by omega
    rcases hcd with hk | hk
    · exact absurd hk h1
    · skip
      subst hk
      refine .inr ⟨0, 12, 3, rfl, rfl, .inl ⟨_, _, _, rfl, ?_⟩⟩
      refine zx_go (pc1 := 14) (l1 := zDel 3 (zSet (.inl 0) 3 [some (zr 1), some (zi p0), some (zr 55), none])) (st1 := [zi 1]) (w1 := wr (cBmp c) R) g_L_count 1 _ _ _ _ rfl ?_
      refine zx_iret g_L_count rfl (.inl rfl) ?_
      exact .inr ⟨by decide, rfl, rfl⟩

