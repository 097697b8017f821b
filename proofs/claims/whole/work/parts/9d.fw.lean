/-! ===== the world behind the constructors ===== -/
def zx0 (xs : Nat → Int32) : zI := fun a k => if a = 0 then (xs k.toNat).toInt else 0
def Rini (xs : Nat → Int32) : zI := fun a k => if a = 0 then (xs k.toNat).toInt else if a = 4 ∨ a = 34 then (if 0 ≤ k ∧ k < 3 then 3 else 0) else if a = 5 ∨ a = 35 then (if 0 ≤ k ∧ k < 3 then 5 else 0) else 0
theorem zx0_0 {xs : Nat → Int32} {a : Nat} {k : Int} (h : a ≠ 0) : zx0 xs a k = 0 := if_neg h
theorem Rini_0 {xs : Nat → Int32} {a : Nat} {k : Int} (h : a ≠ 0) (h4 : a ≠ 4) (h5 : a ≠ 5) (h34 : a ≠ 34) (h35 : a ≠ 35) : Rini xs a k = 0 := by
  unfold Rini
  rw [if_neg h, if_neg (by omega), if_neg (by omega)]
set_option maxHeartbeats 2000000 in
theorem ZF_eq {L nc ns : Nat} {c : zC} (hg : Geo c) (xs : Nat → Int32) (a : Nat) (j : Nat) : (zU (zU (zU (zU (zU (zU (zU (zU (zU (zU ((npZ c (zU (zU (zU (zU (zU (zU (zU (zU (zU (zU (zU (zx0 xs) 2 0 (cLa c)) 2 1 (cW c)) 2 2 (cH c)) 2 3 ((cW c) * (cH c))) 2 4 ((cLa c) * ((cW c) * (cH c)))) 4 0 3) 4 1 3) 4 2 3) 5 0 5) 5 1 5) 5 2 5) (cS c : Int))) 1 3 0) 34 0 3) 34 1 3) 34 2 3) 35 0 5) 35 1 5) 35 2 5) 32 1 (cLa c)) 32 2 (cW c)) 32 3 (cH c)) a (j : Int) = gI (nc, ns, L, cS c, cLa c, cW c, cH c, fun _ _ => (0 : Int)) (Rini xs) a (j : Int) := by
  by_cases h6 : a = 6
  · subst h6
    refine (show _ = npZ c (zU (zU (zU (zU (zU (zU (zU (zU (zU (zU (zU (zx0 xs) 2 0 (cLa c)) 2 1 (cW c)) 2 2 (cH c)) 2 3 ((cW c) * (cH c))) 2 4 ((cLa c) * ((cW c) * (cH c)))) 4 0 3) 4 1 3) 4 2 3) 5 0 5) 5 1 5) 5 2 5) (cS c : Int) 6 (j : Int) from (zU_o (by omega) (zU_o (by omega) (zU_o (by omega) (zU_o (by omega) (zU_o (by omega) (zU_o (by omega) (zU_o (by omega) (zU_o (by omega) (zU_o (by omega) (zU_o (by omega) rfl))))))))))).trans ?_
    unfold npZ
    have e0 : (zU (zU (zU (zU (zU (zU (zU (zU (zU (zU (zU (zx0 xs) 2 0 (cLa c)) 2 1 (cW c)) 2 2 (cH c)) 2 3 ((cW c) * (cH c))) 2 4 ((cLa c) * ((cW c) * (cH c)))) 4 0 3) 4 1 3) 4 2 3) 5 0 5) 5 1 5) 5 2 5) 6 (j : Int) = 0 := (show _ = zx0 xs 6 (j : Int) from (zU_o (by omega) (zU_o (by omega) (zU_o (by omega) (zU_o (by omega) (zU_o (by omega) (zU_o (by omega) (zU_o (by omega) (zU_o (by omega) (zU_o (by omega) (zU_o (by omega) (zU_o (by omega) rfl)))))))))))).trans (zx0_0 (by decide))
    rw [e0]
    rfl
  by_cases h7 : a = 7
  · subst h7
    refine (show _ = npZ c (zU (zU (zU (zU (zU (zU (zU (zU (zU (zU (zU (zx0 xs) 2 0 (cLa c)) 2 1 (cW c)) 2 2 (cH c)) 2 3 ((cW c) * (cH c))) 2 4 ((cLa c) * ((cW c) * (cH c)))) 4 0 3) 4 1 3) 4 2 3) 5 0 5) 5 1 5) 5 2 5) (cS c : Int) 7 (j : Int) from (zU_o (by omega) (zU_o (by omega) (zU_o (by omega) (zU_o (by omega) (zU_o (by omega) (zU_o (by omega) (zU_o (by omega) (zU_o (by omega) (zU_o (by omega) (zU_o (by omega) rfl))))))))))).trans ?_
    unfold npZ
    have e0 : (zU (zU (zU (zU (zU (zU (zU (zU (zU (zU (zU (zx0 xs) 2 0 (cLa c)) 2 1 (cW c)) 2 2 (cH c)) 2 3 ((cW c) * (cH c))) 2 4 ((cLa c) * ((cW c) * (cH c)))) 4 0 3) 4 1 3) 4 2 3) 5 0 5) 5 1 5) 5 2 5) 7 (j : Int) = 0 := (show _ = zx0 xs 7 (j : Int) from (zU_o (by omega) (zU_o (by omega) (zU_o (by omega) (zU_o (by omega) (zU_o (by omega) (zU_o (by omega) (zU_o (by omega) (zU_o (by omega) (zU_o (by omega) (zU_o (by omega) (zU_o (by omega) rfl)))))))))))).trans (zx0_0 (by decide))
    rw [e0]
    rfl
  by_cases h8 : a = 8
  · subst h8
    refine (show _ = npZ c (zU (zU (zU (zU (zU (zU (zU (zU (zU (zU (zU (zx0 xs) 2 0 (cLa c)) 2 1 (cW c)) 2 2 (cH c)) 2 3 ((cW c) * (cH c))) 2 4 ((cLa c) * ((cW c) * (cH c)))) 4 0 3) 4 1 3) 4 2 3) 5 0 5) 5 1 5) 5 2 5) (cS c : Int) 8 (j : Int) from (zU_o (by omega) (zU_o (by omega) (zU_o (by omega) (zU_o (by omega) (zU_o (by omega) (zU_o (by omega) (zU_o (by omega) (zU_o (by omega) (zU_o (by omega) (zU_o (by omega) rfl))))))))))).trans ?_
    unfold npZ
    have e0 : (zU (zU (zU (zU (zU (zU (zU (zU (zU (zU (zU (zx0 xs) 2 0 (cLa c)) 2 1 (cW c)) 2 2 (cH c)) 2 3 ((cW c) * (cH c))) 2 4 ((cLa c) * ((cW c) * (cH c)))) 4 0 3) 4 1 3) 4 2 3) 5 0 5) 5 1 5) 5 2 5) 8 (j : Int) = 0 := (show _ = zx0 xs 8 (j : Int) from (zU_o (by omega) (zU_o (by omega) (zU_o (by omega) (zU_o (by omega) (zU_o (by omega) (zU_o (by omega) (zU_o (by omega) (zU_o (by omega) (zU_o (by omega) (zU_o (by omega) (zU_o (by omega) rfl)))))))))))).trans (zx0_0 (by decide))
    rw [e0]
    rfl
  have miss_v : (a = 34 ∨ a = 35 → 3 ≤ j) → (a = 4 ∨ a = 5 → 3 ≤ j) → (a = 2 → 5 ≤ j) → (a = 32 → j = 0 ∨ 4 ≤ j) → (a = 1 → j ≠ 3) → (zU (zU (zU (zU (zU (zU (zU (zU (zU (zU ((npZ c (zU (zU (zU (zU (zU (zU (zU (zU (zU (zU (zU (zx0 xs) 2 0 (cLa c)) 2 1 (cW c)) 2 2 (cH c)) 2 3 ((cW c) * (cH c))) 2 4 ((cLa c) * ((cW c) * (cH c)))) 4 0 3) 4 1 3) 4 2 3) 5 0 5) 5 1 5) 5 2 5) (cS c : Int))) 1 3 0) 34 0 3) 34 1 3) 34 2 3) 35 0 5) 35 1 5) 35 2 5) 32 1 (cLa c)) 32 2 (cW c)) 32 3 (cH c)) a (j : Int) = zx0 xs a (j : Int) := fun q1_v q2_v q3_v q4_v q5_v => (zU_o (by omega) (zU_o (by omega) (zU_o (by omega) (zU_o (by omega) (zU_o (by omega) (zU_o (by omega) (zU_o (by omega) (zU_o (by omega) (zU_o (by omega) (zU_o (by omega) ((npZ_o (by omega) (by omega) (by omega)).trans (zU_o (by omega) (zU_o (by omega) (zU_o (by omega) (zU_o (by omega) (zU_o (by omega) (zU_o (by omega) (zU_o (by omega) (zU_o (by omega) (zU_o (by omega) (zU_o (by omega) (zU_o (by omega) rfl))))))))))))))))))))))
  by_cases h2 : a = 2
  · subst h2
    match j, miss_v with
    | 0, _ => exact (show (zU (zU (zU (zU (zU (zU (zU (zU (zU (zU ((npZ c (zU (zU (zU (zU (zU (zU (zU (zU (zU (zU (zU (zx0 xs) 2 0 (cLa c)) 2 1 (cW c)) 2 2 (cH c)) 2 3 ((cW c) * (cH c))) 2 4 ((cLa c) * ((cW c) * (cH c)))) 4 0 3) 4 1 3) 4 2 3) 5 0 5) 5 1 5) 5 2 5) (cS c : Int))) 1 3 0) 34 0 3) 34 1 3) 34 2 3) 35 0 5) 35 1 5) 35 2 5) 32 1 (cLa c)) 32 2 (cW c)) 32 3 (cH c)) 2 0 = cLa c from (zU_o (by decide) (zU_o (by decide) (zU_o (by decide) (zU_o (by decide) (zU_o (by decide) (zU_o (by decide) (zU_o (by decide) (zU_o (by decide) (zU_o (by decide) (zU_o (by decide) ((npZ_o (by decide) (by decide) (by decide)).trans (zU_o (by decide) (zU_o (by decide) (zU_o (by decide) (zU_o (by decide) (zU_o (by decide) (zU_o (by decide) (zU_o (by decide) (zU_o (by decide) (zU_o (by decide) (zU_o (by decide) (zU_same _ _ _ _)))))))))))))))))))))))
    | 1, _ => exact (show (zU (zU (zU (zU (zU (zU (zU (zU (zU (zU ((npZ c (zU (zU (zU (zU (zU (zU (zU (zU (zU (zU (zU (zx0 xs) 2 0 (cLa c)) 2 1 (cW c)) 2 2 (cH c)) 2 3 ((cW c) * (cH c))) 2 4 ((cLa c) * ((cW c) * (cH c)))) 4 0 3) 4 1 3) 4 2 3) 5 0 5) 5 1 5) 5 2 5) (cS c : Int))) 1 3 0) 34 0 3) 34 1 3) 34 2 3) 35 0 5) 35 1 5) 35 2 5) 32 1 (cLa c)) 32 2 (cW c)) 32 3 (cH c)) 2 1 = cW c from (zU_o (by decide) (zU_o (by decide) (zU_o (by decide) (zU_o (by decide) (zU_o (by decide) (zU_o (by decide) (zU_o (by decide) (zU_o (by decide) (zU_o (by decide) (zU_o (by decide) ((npZ_o (by decide) (by decide) (by decide)).trans (zU_o (by decide) (zU_o (by decide) (zU_o (by decide) (zU_o (by decide) (zU_o (by decide) (zU_o (by decide) (zU_o (by decide) (zU_o (by decide) (zU_o (by decide) (zU_same _ _ _ _))))))))))))))))))))))
    | 2, _ => exact (show (zU (zU (zU (zU (zU (zU (zU (zU (zU (zU ((npZ c (zU (zU (zU (zU (zU (zU (zU (zU (zU (zU (zU (zx0 xs) 2 0 (cLa c)) 2 1 (cW c)) 2 2 (cH c)) 2 3 ((cW c) * (cH c))) 2 4 ((cLa c) * ((cW c) * (cH c)))) 4 0 3) 4 1 3) 4 2 3) 5 0 5) 5 1 5) 5 2 5) (cS c : Int))) 1 3 0) 34 0 3) 34 1 3) 34 2 3) 35 0 5) 35 1 5) 35 2 5) 32 1 (cLa c)) 32 2 (cW c)) 32 3 (cH c)) 2 2 = cH c from (zU_o (by decide) (zU_o (by decide) (zU_o (by decide) (zU_o (by decide) (zU_o (by decide) (zU_o (by decide) (zU_o (by decide) (zU_o (by decide) (zU_o (by decide) (zU_o (by decide) ((npZ_o (by decide) (by decide) (by decide)).trans (zU_o (by decide) (zU_o (by decide) (zU_o (by decide) (zU_o (by decide) (zU_o (by decide) (zU_o (by decide) (zU_o (by decide) (zU_o (by decide) (zU_same _ _ _ _)))))))))))))))))))))
    | 3, _ => exact (show (zU (zU (zU (zU (zU (zU (zU (zU (zU (zU ((npZ c (zU (zU (zU (zU (zU (zU (zU (zU (zU (zU (zU (zx0 xs) 2 0 (cLa c)) 2 1 (cW c)) 2 2 (cH c)) 2 3 ((cW c) * (cH c))) 2 4 ((cLa c) * ((cW c) * (cH c)))) 4 0 3) 4 1 3) 4 2 3) 5 0 5) 5 1 5) 5 2 5) (cS c : Int))) 1 3 0) 34 0 3) 34 1 3) 34 2 3) 35 0 5) 35 1 5) 35 2 5) 32 1 (cLa c)) 32 2 (cW c)) 32 3 (cH c)) 2 3 = cW c * cH c from (zU_o (by decide) (zU_o (by decide) (zU_o (by decide) (zU_o (by decide) (zU_o (by decide) (zU_o (by decide) (zU_o (by decide) (zU_o (by decide) (zU_o (by decide) (zU_o (by decide) ((npZ_o (by decide) (by decide) (by decide)).trans (zU_o (by decide) (zU_o (by decide) (zU_o (by decide) (zU_o (by decide) (zU_o (by decide) (zU_o (by decide) (zU_o (by decide) (zU_same _ _ _ _))))))))))))))))))))
    | 4, _ => exact (show (zU (zU (zU (zU (zU (zU (zU (zU (zU (zU ((npZ c (zU (zU (zU (zU (zU (zU (zU (zU (zU (zU (zU (zx0 xs) 2 0 (cLa c)) 2 1 (cW c)) 2 2 (cH c)) 2 3 ((cW c) * (cH c))) 2 4 ((cLa c) * ((cW c) * (cH c)))) 4 0 3) 4 1 3) 4 2 3) 5 0 5) 5 1 5) 5 2 5) (cS c : Int))) 1 3 0) 34 0 3) 34 1 3) 34 2 3) 35 0 5) 35 1 5) 35 2 5) 32 1 (cLa c)) 32 2 (cW c)) 32 3 (cH c)) 2 4 = cLa c * (cW c * cH c) from (zU_o (by decide) (zU_o (by decide) (zU_o (by decide) (zU_o (by decide) (zU_o (by decide) (zU_o (by decide) (zU_o (by decide) (zU_o (by decide) (zU_o (by decide) (zU_o (by decide) ((npZ_o (by decide) (by decide) (by decide)).trans (zU_o (by decide) (zU_o (by decide) (zU_o (by decide) (zU_o (by decide) (zU_o (by decide) (zU_o (by decide) (zU_same _ _ _ _))))))))))))))))))).trans hg.2.2.2.2.2.2.symm
    | n + 5, m => exact (m (by omega) (by omega) (by omega) (by omega) (by omega)).trans (zx0_0 (by decide))
  by_cases h32 : a = 32
  · subst h32
    match j, miss_v with
    | 0, m => exact (m (by omega) (by omega) (by omega) (by omega) (by omega)).trans (zx0_0 (by decide))
    | 1, _ => rfl
    | 2, _ => rfl
    | 3, _ => rfl
    | n + 4, m => exact (m (by omega) (by omega) (by omega) (by omega) (by omega)).trans (zx0_0 (by decide))
  rw [gI_free h2 h6 h7 h8 h32]
  by_cases h4 : a = 4
  · subst h4
    match j, miss_v with
    | 0, _ => exact (show (zU (zU (zU (zU (zU (zU (zU (zU (zU (zU ((npZ c (zU (zU (zU (zU (zU (zU (zU (zU (zU (zU (zU (zx0 xs) 2 0 (cLa c)) 2 1 (cW c)) 2 2 (cH c)) 2 3 ((cW c) * (cH c))) 2 4 ((cLa c) * ((cW c) * (cH c)))) 4 0 3) 4 1 3) 4 2 3) 5 0 5) 5 1 5) 5 2 5) (cS c : Int))) 1 3 0) 34 0 3) 34 1 3) 34 2 3) 35 0 5) 35 1 5) 35 2 5) 32 1 (cLa c)) 32 2 (cW c)) 32 3 (cH c)) 4 0 = 3 from (zU_o (by decide) (zU_o (by decide) (zU_o (by decide) (zU_o (by decide) (zU_o (by decide) (zU_o (by decide) (zU_o (by decide) (zU_o (by decide) (zU_o (by decide) (zU_o (by decide) ((npZ_o (by decide) (by decide) (by decide)).trans (zU_o (by decide) (zU_o (by decide) (zU_o (by decide) (zU_o (by decide) (zU_o (by decide) (zU_same _ _ _ _))))))))))))))))))
    | 1, _ => exact (show (zU (zU (zU (zU (zU (zU (zU (zU (zU (zU ((npZ c (zU (zU (zU (zU (zU (zU (zU (zU (zU (zU (zU (zx0 xs) 2 0 (cLa c)) 2 1 (cW c)) 2 2 (cH c)) 2 3 ((cW c) * (cH c))) 2 4 ((cLa c) * ((cW c) * (cH c)))) 4 0 3) 4 1 3) 4 2 3) 5 0 5) 5 1 5) 5 2 5) (cS c : Int))) 1 3 0) 34 0 3) 34 1 3) 34 2 3) 35 0 5) 35 1 5) 35 2 5) 32 1 (cLa c)) 32 2 (cW c)) 32 3 (cH c)) 4 1 = 3 from (zU_o (by decide) (zU_o (by decide) (zU_o (by decide) (zU_o (by decide) (zU_o (by decide) (zU_o (by decide) (zU_o (by decide) (zU_o (by decide) (zU_o (by decide) (zU_o (by decide) ((npZ_o (by decide) (by decide) (by decide)).trans (zU_o (by decide) (zU_o (by decide) (zU_o (by decide) (zU_o (by decide) (zU_same _ _ _ _)))))))))))))))))
    | 2, _ => exact (show (zU (zU (zU (zU (zU (zU (zU (zU (zU (zU ((npZ c (zU (zU (zU (zU (zU (zU (zU (zU (zU (zU (zU (zx0 xs) 2 0 (cLa c)) 2 1 (cW c)) 2 2 (cH c)) 2 3 ((cW c) * (cH c))) 2 4 ((cLa c) * ((cW c) * (cH c)))) 4 0 3) 4 1 3) 4 2 3) 5 0 5) 5 1 5) 5 2 5) (cS c : Int))) 1 3 0) 34 0 3) 34 1 3) 34 2 3) 35 0 5) 35 1 5) 35 2 5) 32 1 (cLa c)) 32 2 (cW c)) 32 3 (cH c)) 4 2 = 3 from (zU_o (by decide) (zU_o (by decide) (zU_o (by decide) (zU_o (by decide) (zU_o (by decide) (zU_o (by decide) (zU_o (by decide) (zU_o (by decide) (zU_o (by decide) (zU_o (by decide) ((npZ_o (by decide) (by decide) (by decide)).trans (zU_o (by decide) (zU_o (by decide) (zU_o (by decide) (zU_same _ _ _ _))))))))))))))))
    | n + 3, m =>
      refine (m (by omega) (by omega) (by omega) (by omega) (by omega)).trans ((zx0_0 (by decide)).trans ?_)
      unfold Rini
      rw [if_neg (by decide), if_pos (by decide), if_neg (by omega)]
  by_cases h5 : a = 5
  · subst h5
    match j, miss_v with
    | 0, _ => exact (show (zU (zU (zU (zU (zU (zU (zU (zU (zU (zU ((npZ c (zU (zU (zU (zU (zU (zU (zU (zU (zU (zU (zU (zx0 xs) 2 0 (cLa c)) 2 1 (cW c)) 2 2 (cH c)) 2 3 ((cW c) * (cH c))) 2 4 ((cLa c) * ((cW c) * (cH c)))) 4 0 3) 4 1 3) 4 2 3) 5 0 5) 5 1 5) 5 2 5) (cS c : Int))) 1 3 0) 34 0 3) 34 1 3) 34 2 3) 35 0 5) 35 1 5) 35 2 5) 32 1 (cLa c)) 32 2 (cW c)) 32 3 (cH c)) 5 0 = 5 from (zU_o (by decide) (zU_o (by decide) (zU_o (by decide) (zU_o (by decide) (zU_o (by decide) (zU_o (by decide) (zU_o (by decide) (zU_o (by decide) (zU_o (by decide) (zU_o (by decide) ((npZ_o (by decide) (by decide) (by decide)).trans (zU_o (by decide) (zU_o (by decide) (zU_same _ _ _ _)))))))))))))))
    | 1, _ => exact (show (zU (zU (zU (zU (zU (zU (zU (zU (zU (zU ((npZ c (zU (zU (zU (zU (zU (zU (zU (zU (zU (zU (zU (zx0 xs) 2 0 (cLa c)) 2 1 (cW c)) 2 2 (cH c)) 2 3 ((cW c) * (cH c))) 2 4 ((cLa c) * ((cW c) * (cH c)))) 4 0 3) 4 1 3) 4 2 3) 5 0 5) 5 1 5) 5 2 5) (cS c : Int))) 1 3 0) 34 0 3) 34 1 3) 34 2 3) 35 0 5) 35 1 5) 35 2 5) 32 1 (cLa c)) 32 2 (cW c)) 32 3 (cH c)) 5 1 = 5 from (zU_o (by decide) (zU_o (by decide) (zU_o (by decide) (zU_o (by decide) (zU_o (by decide) (zU_o (by decide) (zU_o (by decide) (zU_o (by decide) (zU_o (by decide) (zU_o (by decide) ((npZ_o (by decide) (by decide) (by decide)).trans (zU_o (by decide) (zU_same _ _ _ _))))))))))))))
    | 2, _ => exact (show (zU (zU (zU (zU (zU (zU (zU (zU (zU (zU ((npZ c (zU (zU (zU (zU (zU (zU (zU (zU (zU (zU (zU (zx0 xs) 2 0 (cLa c)) 2 1 (cW c)) 2 2 (cH c)) 2 3 ((cW c) * (cH c))) 2 4 ((cLa c) * ((cW c) * (cH c)))) 4 0 3) 4 1 3) 4 2 3) 5 0 5) 5 1 5) 5 2 5) (cS c : Int))) 1 3 0) 34 0 3) 34 1 3) 34 2 3) 35 0 5) 35 1 5) 35 2 5) 32 1 (cLa c)) 32 2 (cW c)) 32 3 (cH c)) 5 2 = 5 from (zU_o (by decide) (zU_o (by decide) (zU_o (by decide) (zU_o (by decide) (zU_o (by decide) (zU_o (by decide) (zU_o (by decide) (zU_o (by decide) (zU_o (by decide) (zU_o (by decide) ((npZ_o (by decide) (by decide) (by decide)).trans (zU_same _ _ _ _)))))))))))))
    | n + 3, m =>
      refine (m (by omega) (by omega) (by omega) (by omega) (by omega)).trans ((zx0_0 (by decide)).trans ?_)
      unfold Rini
      rw [if_neg (by decide), if_neg (by decide), if_pos (by decide), if_neg (by omega)]
  by_cases h34 : a = 34
  · subst h34
    match j, miss_v with
    | 0, _ => rfl
    | 1, _ => rfl
    | 2, _ => rfl
    | n + 3, m =>
      refine (m (by omega) (by omega) (by omega) (by omega) (by omega)).trans ((zx0_0 (by decide)).trans ?_)
      unfold Rini
      rw [if_neg (by decide), if_pos (by decide), if_neg (by omega)]
  by_cases h35 : a = 35
  · subst h35
    match j, miss_v with
    | 0, _ => rfl
    | 1, _ => rfl
    | 2, _ => rfl
    | n + 3, m =>
      refine (m (by omega) (by omega) (by omega) (by omega) (by omega)).trans ((zx0_0 (by decide)).trans ?_)
      unfold Rini
      rw [if_neg (by decide), if_neg (by decide), if_pos (by decide), if_neg (by omega)]
  by_cases h1 : a = 1
  · subst h1
    by_cases j3_v : j = 3
    · subst j3_v
      rfl
    · exact (miss_v (by omega) (by omega) (by omega) (by omega) (by omega)).trans ((zx0_0 (by decide)).trans (Rini_0 (by decide) (by decide) (by decide) (by decide) (by decide)).symm)
  refine (miss_v (by omega) (by omega) (by omega) (by omega) (by omega)).trans ?_
  by_cases h0 : a = 0
  · subst h0
    rfl
  · rw [zx0_0 h0, Rini_0 h0 h4 h5 h34 h35]
theorem rl_out {l : List (Nat × Nat × Nat)} {a k : Nat} (h : ∀ q ∈ l, ¬ (a = q.1 ∧ k = q.2.1)) : rl l a k = none := by
  induction l with
  | nil => rfl
  | cons q r ih =>
    show (if a = q.1 ∧ k = q.2.1 then some q.2.2 else rl r a k) = none
    rw [if_neg (h q List.mem_cons_self)]
    exact ih (fun p hp => h p (List.mem_cons_of_mem _ hp))
set_option maxHeartbeats 4000000 in
theorem rl_R0 : rl [(32, 31, 54), (32, 30, 53), (32, 29, 52), (32, 28, 51), (32, 27, 50), (32, 26, 49), (32, 25, 48), (32, 21, 47), (32, 20, 46), (32, 19, 45), (32, 18, 44), (32, 17, 43), (32, 16, 42), (32, 15, 41), (32, 13, 40), (32, 12, 39), (32, 11, 38), (32, 9, 37), (32, 7, 36), (32, 6, 35), (32, 5, 34), (32, 4, 33), (1, 2, 15), (15, 8, 31), (15, 7, 30), (15, 6, 29), (15, 4, 25), (25, 2, 28), (25, 1, 27), (25, 0, 26), (15, 3, 21), (21, 3, 24), (21, 2, 23), (21, 1, 22), (21, 0, 2), (15, 2, 17), (17, 3, 20), (17, 2, 19), (17, 1, 18), (17, 0, 2), (15, 1, 10), (15, 0, 2), (15, 5, 16), (1, 1, 10), (10, 6, 14), (10, 5, 13), (10, 4, 12), (10, 3, 11), (1, 0, 2), (2, 11, 9), (2, 7, 8), (2, 6, 7), (2, 5, 6), (2, 10, 5), (2, 9, 4), (2, 8, 3)] = R0 := by
  funext a k
  unfold R0
  split
  all_goals first
    | rfl
    | (refine rl_out (fun q hq z => ?_)
       simp only [List.mem_cons, List.not_mem_nil, or_false] at hq
       obtain ⟨z1, z2⟩ := z
       rcases hq with rfl | rfl | rfl | rfl | rfl | rfl | rfl | rfl | rfl | rfl | rfl | rfl | rfl | rfl | rfl | rfl | rfl | rfl | rfl | rfl | rfl | rfl | rfl | rfl | rfl | rfl | rfl | rfl | rfl | rfl | rfl | rfl | rfl | rfl | rfl | rfl | rfl | rfl | rfl | rfl | rfl | rfl | rfl | rfl | rfl | rfl | rfl | rfl | rfl | rfl | rfl | rfl | rfl | rfl | rfl | rfl <;> simp_all)
theorem hS_55 {L S : Nat} : hS L S 55 = hd0 L S := by
  funext a
  unfold hS
  by_cases h : a ≤ 55
  · rw [Nat.ble_eq_true_of_le h]
  · have e1 : Nat.ble a 55 = false := by
      cases hb : Nat.ble a 55 with
      | false => rfl
      | true => exact absurd (Nat.le_of_ble_eq_true hb) h
    rw [e1]
    obtain ⟨n, rfl⟩ : ∃ n, a = n + 56 := ⟨a - 56, by omega⟩
    rfl
theorem fin_world {L nc ns : Nat} {c : zC} (hg : Geo c) (xs : Nat → Int32) : zs L (cS c) (55, nc, ns, rl [(32, 31, 54), (32, 30, 53), (32, 29, 52), (32, 28, 51), (32, 27, 50), (32, 26, 49), (32, 25, 48), (32, 21, 47), (32, 20, 46), (32, 19, 45), (32, 18, 44), (32, 17, 43), (32, 16, 42), (32, 15, 41), (32, 13, 40), (32, 12, 39), (32, 11, 38), (32, 9, 37), (32, 7, 36), (32, 6, 35), (32, 5, 34), (32, 4, 33), (1, 2, 15), (15, 8, 31), (15, 7, 30), (15, 6, 29), (15, 4, 25), (25, 2, 28), (25, 1, 27), (25, 0, 26), (15, 3, 21), (21, 3, 24), (21, 2, 23), (21, 1, 22), (21, 0, 2), (15, 2, 17), (17, 3, 20), (17, 2, 19), (17, 1, 18), (17, 0, 2), (15, 1, 10), (15, 0, 2), (15, 5, 16), (1, 1, 10), (10, 6, 14), (10, 5, 13), (10, 4, 12), (10, 3, 11), (1, 0, 2), (2, 11, 9), (2, 7, 8), (2, 6, 7), (2, 5, 6), (2, 10, 5), (2, 9, 4), (2, 8, 3)], zU (zU (zU (zU (zU (zU (zU (zU (zU (zU ((npZ c (zU (zU (zU (zU (zU (zU (zU (zU (zU (zU (zU (zx0 xs) 2 0 (cLa c)) 2 1 (cW c)) 2 2 (cH c)) 2 3 ((cW c) * (cH c))) 2 4 ((cLa c) * ((cW c) * (cH c)))) 4 0 3) 4 1 3) 4 2 3) 5 0 5) 5 1 5) 5 2 5) (cS c : Int))) 1 3 0) 34 0 3) 34 1 3) 34 2 3) 35 0 5) 35 1 5) 35 2 5) 32 1 (cLa c)) 32 2 (cW c)) 32 3 (cH c)) = zw (wr (nc, ns, L, cS c, cLa c, cW c, cH c, fun _ _ => (0 : Int)) (Rini xs)) := by
  unfold zs zw
  dsimp only
  rw [rl_R0, hS_55]
  have e : (fun (a j : Nat) => Int32.ofInt ((zU (zU (zU (zU (zU (zU (zU (zU (zU (zU ((npZ c (zU (zU (zU (zU (zU (zU (zU (zU (zU (zU (zU (zx0 xs) 2 0 (cLa c)) 2 1 (cW c)) 2 2 (cH c)) 2 3 ((cW c) * (cH c))) 2 4 ((cLa c) * ((cW c) * (cH c)))) 4 0 3) 4 1 3) 4 2 3) 5 0 5) 5 1 5) 5 2 5) (cS c : Int))) 1 3 0) 34 0 3) 34 1 3) 34 2 3) 35 0 5) 35 1 5) 35 2 5) 32 1 (cLa c)) 32 2 (cW c)) 32 3 (cH c)) a (j : Int))) = fun (a j : Nat) => Int32.ofInt (gI (nc, ns, L, cS c, cLa c, cW c, cH c, fun _ _ => (0 : Int)) (Rini xs) a (j : Int)) := by
    funext a j
    rw [ZF_eq (L := L) (nc := nc) (ns := ns) hg xs a j]
  rw [e]
  rfl

theorem geo_ini {v0 v1 v2 : Int} {c : zC} (e0 : cLa c = max 1 (min 3 v0)) (e1 : cW c = max 1 (min 24 v1)) (e2 : cH c = max 1 (min 24 v2)) (e3 : cS c = (cLa c * (cW c * cH c)).toNat) : Geo c := by
  have a0_v : 1 ≤ cLa c ∧ cLa c ≤ 3 := by omega
  have a1_v : 1 ≤ cW c ∧ cW c ≤ 24 := by omega
  have a2 : 1 ≤ cH c ∧ cH c ≤ 24 := by omega
  have p : 0 ≤ cLa c * (cW c * cH c) := Int.mul_nonneg (by omega) (Int.mul_nonneg (by omega) (by omega))
  exact ⟨a0_v.1, a0_v.2, a1_v.1, a1_v.2, a2.1, a2.2, by rw [e3]; omega⟩
theorem inv_ini {c : zC} (hg : Geo c) (xs : Nat → Int32) : INV c (Rini xs) := by
  have z : ∀ a : Nat, a ≠ 0 → a ≠ 4 → a ≠ 5 → a ≠ 34 → a ≠ 35 → ∀ k, Rini xs a k = 0 := fun a h0 h4 h5 h34 h35 k => Rini_0 h0 h4 h5 h34 h35
  have z3 : ∀ k, dz (Rini xs) 3 k = 0 := fun k => z 3 (by decide) (by decide) (by decide) (by decide) (by decide) k
  have z9 : ∀ k, dz (Rini xs) 9 k = 0 := fun k => z 9 (by decide) (by decide) (by decide) (by decide) (by decide) k
  have z10 : ∀ k, dz (Rini xs) 10 k = 0 := fun k => z 10 (by decide) (by decide) (by decide) (by decide) (by decide) k
  have z11 : ∀ k, dz (Rini xs) 11 k = 0 := fun k => z 11 (by decide) (by decide) (by decide) (by decide) (by decide) k
  have z13_v : ∀ k, dz (Rini xs) 13 k = 0 := fun k => z 13 (by decide) (by decide) (by decide) (by decide) (by decide) k
  have z14_v : ∀ k, dz (Rini xs) 14 k = 0 := fun k => z 14 (by decide) (by decide) (by decide) (by decide) (by decide) k
  have f4_v : ∀ k, 0 ≤ k → k < 3 → dz (Rini xs) 4 k = 3 := fun k a b => by
    show Rini xs 4 k = 3
    unfold Rini
    rw [if_neg (by decide), if_pos (by decide), if_pos ⟨a, b⟩]
  have f5_v : ∀ k, 0 ≤ k → k < 3 → dz (Rini xs) 5 k = 5 := fun k a b => by
    show Rini xs 5 k = 5
    unfold Rini
    rw [if_neg (by decide), if_neg (by decide), if_pos (by decide), if_pos ⟨a, b⟩]
  have f34 : ∀ k, 0 ≤ k → k < 3 → Rini xs 34 k = 3 := fun k a b => by
    unfold Rini
    rw [if_neg (by decide), if_pos (by decide), if_pos ⟨a, b⟩]
  have f35 : ∀ k, 0 ≤ k → k < 3 → Rini xs 35 k = 5 := fun k a b => by
    unfold Rini
    rw [if_neg (by decide), if_neg (by decide), if_pos (by decide), if_pos ⟨a, b⟩]
  refine ⟨⟨hg, ?_, ?_, ?_, fun k a b => ?_, fun p => .inl (z9 p), fun k a b => ?_, fun k a b => ?_⟩, ⟨fun k a b => ⟨?_, ?_, ?_⟩, fun p hp => ?_, fun n a b => ?_, fun k a b => ⟨?_, ?_⟩, fun i a b => ?_, ?_, ?_⟩, fun n a b => ?_, ?_, .inl ?_, ?_, fun j => ?_, s0 c (dz (Rini xs)), fun q => ?_⟩
  · rw [z10]; omega
  · rw [z10]; omega
  · rw [z10]; exact M16_0
  · rw [z3, f4_v k a b, f5_v k a b]; omega
  · rw [z10] at b; omega
  · rw [z13_v]
    exact ⟨by omega, by omega, fun i i0_v i1_v => by omega⟩
  · rw [z3]; exact z 33 (by decide) (by decide) (by decide) (by decide) (by decide) k
  · rw [f4_v k a b, f34 k a b]
  · rw [f5_v k a b, f35 k a b]
  · rw [z9]; exact z 36 (by decide) (by decide) (by decide) (by decide) (by decide) p
  · rw [z 37 (by decide) (by decide) (by decide) (by decide) (by decide) n, bI_f]
    unfold shd
    rw [z10]
    exact tb_zero a (by omega)
  · rw [z11]; exact z 38 (by decide) (by decide) (by decide) (by decide) (by decide) k
  · rw [z13_v]; exact z 40 (by decide) (by decide) (by decide) (by decide) (by decide) k
  · rw [z14_v]; exact z 39 (by decide) (by decide) (by decide) (by decide) (by decide) i
  · rw [z10]; exact z 32 (by decide) (by decide) (by decide) (by decide) (by decide) 8
  · rw [z10]; exact z 32 (by decide) (by decide) (by decide) (by decide) (by decide) 10
  · rw [z 12 (by decide) (by decide) (by decide) (by decide) (by decide) n, z 10 (by decide) (by decide) (by decide) (by decide) (by decide) 2]
    rfl
  · rw [z 2 (by decide) (by decide) (by decide) (by decide) (by decide) 12, cnt_none _ (fun i _ _ w => w (z 9 (by decide) (by decide) (by decide) (by decide) (by decide) i))]
  · exact z 1 (by decide) (by decide) (by decide) (by decide) (by decide) 3
  · rw [z 32 (by decide) (by decide) (by decide) (by decide) (by decide) 14, z 1 (by decide) (by decide) (by decide) (by decide) (by decide) 3]
  · exact z32_R _
  · exact absurd (z 1 (by decide) (by decide) (by decide) (by decide) (by decide) 3) q
theorem clp_m {v : Int} {m : Int} (hm : 1 ≤ m) : clp v m = max 1 (min m v) := by
  unfold clp
  by_cases a : v < 1
  · rw [if_pos a]; omega
  · rw [if_neg a]
    by_cases b : m < v
    · rw [if_pos b]; omega
    · rw [if_neg b]; omega
/-- the law in the pure machine -/
theorem pure_law0 : ∀ (L : Nat) (xs : Nat → Int32), L ≤ 643 → PX m_L_law 0 (pmPad 7 (pmEnt [.ref 0])) [] ((0 : Nat), (0 : Nat), (0 : Nat), (fun _ => .inl (.int, L) : pmH), (fun _ _ => none : Nat → Nat → Option Nat), (fun a => if a = 0 then xs else fun _ => 0 : Nat → Nat → Int32), (fun _ _ => 0 : Nat → Nat → Int64)) (fun o w => o = .inl (some (.int 1)) ∧ pmnc w ≤ 600128 ∧ pmns w ≤ 7301063) := by
  intro L xs hL
  have r : ∀ j : Int, inR (if j < (L : Int) then zx0 xs 0 j else 0) := fun j => by
    by_cases h : j < (L : Int)
    · rw [if_pos h]; exact z32_R _
    · rw [if_neg h]; decide
  obtain ⟨v0, hv0⟩ : ∃ v, (if (0 : Int) < (L : Int) then zx0 xs 0 0 else 0) = v := ⟨_, rfl⟩
  obtain ⟨v1, hv1⟩ : ∃ v, (if (1 : Int) < (L : Int) then zx0 xs 0 1 else 0) = v := ⟨_, rfl⟩
  obtain ⟨v2, hv2⟩ : ∃ v, (if (2 : Int) < (L : Int) then zx0 xs 0 2 else 0) = v := ⟨_, rfl⟩
  have r0 : inR v0 := by rw [← hv0]; exact r 0
  have r1_v : inR v1 := by rw [← hv1]; exact r 1
  have r2 : inR v2 := by rw [← hv2]; exact r 2
  obtain ⟨c, e0, e1, e2, e3⟩ : ∃ c : zC, cLa c = max 1 (min 3 v0) ∧ cW c = max 1 (min 24 v1) ∧ cH c = max 1 (min 24 v2) ∧ cS c = (cLa c * (cW c * cH c)).toNat := ⟨(0, 0, L, (max 1 (min 3 v0) * (max 1 (min 24 v1) * max 1 (min 24 v2))).toNat, max 1 (min 3 v0), max 1 (min 24 v1), max 1 (min 24 v2), fun _ _ => 0), rfl, rfl, rfl, rfl⟩
  have hg : Geo c := geo_ini e0 e1 e2 e3
  have g3_v := hg.S
  have h0 : ((0 : Nat), (0 : Nat), (0 : Nat), (fun _ => .inl (.int, L) : pmH), (fun _ _ => none : Nat → Nat → Option Nat), (fun a => if a = 0 then xs else fun _ => 0 : Nat → Nat → Int32), (fun _ _ => 0 : Nat → Nat → Int64)) = zs L (cS c) (0, 0, 0, rl [], zx0 xs) := by
    have q1_v : (fun _ => .inl (.int, L) : pmH) = hS L (cS c) 0 := by
      funext a
      cases a with
      | zero => rfl
      | succ n => rfl
    have q2_v : (fun _ _ => none : Nat → Nat → Option Nat) = rl [] := by
      funext a k
      rfl
    have q3_v : (fun a => if a = 0 then xs else fun _ => 0 : Nat → Nat → Int32) = fun a j => Int32.ofInt (zx0 xs a ((j : Nat) : Int)) := by
      funext a j
      unfold zx0
      by_cases h : a = 0
      · rw [if_pos h, if_pos h, Int.toNat_natCast, i32_of]
      · rw [if_neg h, if_neg h]
        rfl
    rw [q1_v, q2_v, q3_v]
    rfl
  rw [h0]
  refine law_pre hL hg r0 r1_v r2 e0.symm e1.symm e2.symm ((clp_m (by decide)).trans e0.symm) ((clp_m (by decide)).trans e1.symm) ((clp_m (by decide)).trans e2.symm) hv0 hv1 hv2 (fun a h j => zx0_0 (by omega)) ?_
  unfold SX
  rw [fin_world hg xs]
  have hI := inv_ini (c := (0 + 1 + 1 + 1 + 1 + 1 + 1 + 1 + 1 + 1 + 1 + 1 + 1 + 1 + 1 + 1 + 1 + 1 + 1 + 1 + 1 + 1 + 1 + 1 + 1 + 1 + 1 + 1 + 1 + 1 + 1 + 1 + 1 + 1 + 1 + 1 + 1 + 1 + 1 + 1 + 1 + 1 + 1 + 1 + 1 + 1 + 1 + 1 + 1 + 1 + 1 + 1 + 1 + 1 + 1 + 1, 0 + 4 + 13 + 3 + 3 + 3 + cS c + cS c + cS c + cS c + 7 + 40 + 16 + 40 + 160 + 16 + 40 + 4 + cS c + cS c + cS c + 4 + cS c + cS c + cS c + 4 + cS c + cS c + cS c + cS c + cS c + cS c + 32 + 3 + 3 + 3 + 1728 + 16 + 40 + 160 + 40 + 40 + 16 + 16 + 16 + 1728 + 27648 + 27648 + 1728 + 1728 + 1728 + 1728 + 1728 + 16 + 27648 + 1, L, cS c, cLa c, cW c, cH c, fun _ _ => (0 : Int))) hg xs
  have K_v := law_loop (N := 55) (S := ((0 + 4 + 13 + 3 + 3 + 3 + cS c + cS c + cS c + cS c + 7 + 40 + 16 + 40 + 160 + 16 + 40 + 4 + cS c + cS c + cS c + 4 + cS c + cS c + cS c + 4 + cS c + cS c + cS c + cS c + cS c + cS c + 32 + 3 + 3 + 3 + 1728 + 16 + 40 + 160 + 40 + 40 + 16 + 16 + 16 + 1728 + 27648 + 27648 + 1728 + 1728 + 1728 + 1728 + 1728 + 16 + 27648 + 1 : Nat) : Int)) _ 3 (0 + 1 + 1 + 1 + 1 + 1 + 1 + 1 + 1 + 1 + 1 + 1 + 1 + 1 + 1 + 1 + 1 + 1 + 1 + 1 + 1 + 1 + 1 + 1 + 1 + 1 + 1 + 1 + 1 + 1 + 1 + 1 + 1 + 1 + 1 + 1 + 1 + 1 + 1 + 1 + 1 + 1 + 1 + 1 + 1 + 1 + 1 + 1 + 1 + 1 + 1 + 1 + 1 + 1 + 1 + 1, 0 + 4 + 13 + 3 + 3 + 3 + cS c + cS c + cS c + cS c + 7 + 40 + 16 + 40 + 160 + 16 + 40 + 4 + cS c + cS c + cS c + 4 + cS c + cS c + cS c + 4 + cS c + cS c + cS c + cS c + cS c + cS c + 32 + 3 + 3 + 3 + 1728 + 16 + 40 + 160 + 40 + 40 + 16 + 16 + 16 + 1728 + 27648 + 27648 + 1728 + 1728 + 1728 + 1728 + 1728 + 16 + 27648 + 1, L, cS c, cLa c, cW c, cH c, fun _ _ => (0 : Int)) (Rini xs) none none rfl (by decide) (by decide) hL hI (show ((0 + 1 + 1 + 1 + 1 + 1 + 1 + 1 + 1 + 1 + 1 + 1 + 1 + 1 + 1 + 1 + 1 + 1 + 1 + 1 + 1 + 1 + 1 + 1 + 1 + 1 + 1 + 1 + 1 + 1 + 1 + 1 + 1 + 1 + 1 + 1 + 1 + 1 + 1 + 1 + 1 + 1 + 1 + 1 + 1 + 1 + 1 + 1 + 1 + 1 + 1 + 1 + 1 + 1 + 1 + 1 : Nat) : Int) ≤ 55 + 3 by decide) (show ((0 + 4 + 13 + 3 + 3 + 3 + cS c + cS c + cS c + cS c + 7 + 40 + 16 + 40 + 160 + 16 + 40 + 4 + cS c + cS c + cS c + 4 + cS c + cS c + cS c + 4 + cS c + cS c + cS c + cS c + cS c + cS c + 32 + 3 + 3 + 3 + 1728 + 16 + 40 + 160 + 40 + 40 + 16 + 16 + 16 + 1728 + 27648 + 27648 + 1728 + 1728 + 1728 + 1728 + 1728 + 16 + 27648 + 1 : Nat) : Int) ≤ ((0 + 4 + 13 + 3 + 3 + 3 + cS c + cS c + cS c + cS c + 7 + 40 + 16 + 40 + 160 + 16 + 40 + 4 + cS c + cS c + cS c + 4 + cS c + cS c + cS c + 4 + cS c + cS c + cS c + cS c + cS c + cS c + 32 + 3 + 3 + 3 + 1728 + 16 + 40 + 160 + 40 + 40 + 16 + 16 + 16 + 1728 + 27648 + 27648 + 1728 + 1728 + 1728 + 1728 + 1728 + 16 + 27648 + 1 : Nat) : Int) + 6 * 3 by omega)
  refine PX.mono K_v ?_
  rintro o w ⟨zo, z1, rfl, rfl, rfl, k1_v, k2_v⟩
  refine ⟨rfl, ?_, ?_⟩
  · show z1.1 ≤ 600128
    omega
  · show z1.2.1 ≤ 7301063
    omega

