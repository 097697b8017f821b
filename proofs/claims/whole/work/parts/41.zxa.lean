/-- steps that look at the world -/
def zB (i : Instr) (x y pc : Nat) (l : zL) (st : List zV) (w : zW) : Option (Nat × zL × List zV × zW) :=
  match i with
  | .getfield _ => (match st with
    | .inr (.inr a) :: r => (match hd0 w.2.2.1 w.2.2.2.1 a with
      | .inr c => (match decide (c = x ∧ 1 ≤ a ∧ a ≤ 55) with
        | true => (match pgTy x y with
          | .int => some (pc + 3, l, .inl (w.2.2.2.2.1 a (y : Int)) :: r, w)
          | .boolean => some (pc + 3, l, .inl (w.2.2.2.2.1 a (y : Int)) :: r, w)
          | .object _ => (match R0 a y with
            | some b => some (pc + 3, l, .inr (.inr b) :: r, w)
            | none => none)
          | .array _ => (match R0 a y with
            | some b => some (pc + 3, l, .inr (.inr b) :: r, w)
            | none => none)
          | _ => none)
        | false => none)
      | .inl _ => none)
    | _ => none)
  | .putfield _ => (match st with
    | .inl v :: .inr (.inr a) :: r => (match hd0 w.2.2.1 w.2.2.2.1 a with
      | .inr c => (match decide (c = x ∧ 1 ≤ a ∧ a ≤ 55) with
        | true => (match pgTy x y with
          | .int => some (pc + 3, l, r, w.1, w.2.1, w.2.2.1, w.2.2.2.1, zU w.2.2.2.2.1 a (y : Int) v, w.2.2.2.2.2)
          | _ => none)
        | false => none)
      | .inl _ => none)
    | _ => none)
  | .arraylength => (match st with
    | .inr (.inr a) :: r => (match hd0 w.2.2.1 w.2.2.2.1 a with
      | .inl q => (match decide (a ≤ 55) with
        | true => some (pc + 1, l, .inl (q.2 : Int) :: r, w)
        | false => none)
      | .inr _ => none)
    | _ => none)
  | _ => none
theorem zU_c (I : zI) (a k : Nat) (v : Int) : (fun b j => Int32.ofInt (zU I a (k : Int) v b ((j : Nat) : Int))) = pmUI (fun b j => Int32.ofInt (I b ((j : Nat) : Int))) a k (Int32.ofInt v) := by
  funext b j
  unfold zU pmUI
  by_cases hb : b = a
  · subst hb
    rw [if_pos rfl]
    by_cases hj : j = k
    · subst hj
      rw [if_pos ⟨rfl, rfl⟩]
      simp [upd]
    · rw [if_neg (fun h => hj (by have := h.2; omega))]
      simp [upd, hj]
  · rw [if_neg (fun h => hb h.1), if_neg hb]
set_option maxHeartbeats 4000000 in
theorem zB_c {i : Instr} {x y pc pc1 : Nat} {l l1 : zL} {st st1 : List zV} {w w1 : zW} (h : zB i x y pc l st w = some (pc1, l1, st1, w1)) : pmB pgTy (pmN vwCl) i x y pc (zcl l) (st.map zc) (zw w) = some (pc1, zcl l1, st1.map zc, zw w1) := by
  unfold zB at h
  split at h
  · split at h
    · rename_i a r
      split at h
      · rename_i c hc
        split at h
        · rename_i hd
          have hd := of_decide_eq_true hd
          simp only [pmB, List.map_cons, zc]
          rw [show pmh (zw w) a = .inr c from hc]
          dsimp only
          rw [if_pos (show c = x ∧ 1 ≤ a ∧ a ≤ pmn (zw w) from hd)]
          split at h
          · rename_i ht; cases h; rw [ht]; rfl
          · rename_i ht; cases h; rw [ht]; rfl
          · rename_i ht
            split at h
            · rename_i b hb
              cases h
              rw [ht]
              simp only [pmRd]
              rw [show pmr (zw w) a y = some b from hb]
              rfl
            · cases h
          · rename_i ht
            split at h
            · rename_i b hb
              cases h
              rw [ht]
              simp only [pmRd]
              rw [show pmr (zw w) a y = some b from hb]
              rfl
            · cases h
          · cases h
        · cases h
      · cases h
    · cases h
  · split at h
    · rename_i v a r
      split at h
      · rename_i c hc
        split at h
        · rename_i hd
          have hd := of_decide_eq_true hd
          simp only [pmB, List.map_cons, zc]
          rw [show pmh (zw w) a = .inr c from hc]
          dsimp only
          rw [if_pos (show c = x ∧ 1 ≤ a ∧ a ≤ pmn (zw w) from hd)]
          split at h
          · rename_i ht
            cases h
            rw [ht]
            simp only [pmWr]
            refine congrArg (fun q => some (pc + 3, zcl l, List.map zc _, 55, w.1, w.2.1, hd0 w.2.2.1 w.2.2.2.1, R0, q, fun a k => Int64.ofInt (w.2.2.2.2.2 a ((k : Nat) : Int)))) ?_
            exact (zU_c w.2.2.2.2.1 a y v).symm
          · cases h
        · cases h
      · cases h
    · cases h
  · split at h
    · rename_i a r
      split at h
      · rename_i q hc
        obtain ⟨t, n⟩ := q
        split at h
        · rename_i hd
          have hd := of_decide_eq_true hd
          cases h
          simp only [pmB, List.map_cons, zc]
          rw [show pmh (zw w) a = .inl (t, n) from hc]
          dsimp only
          rw [if_pos (show a ≤ pmn (zw w) from hd)]
          rfl
        · cases h
      · cases h
    · cases h
  · cases h
def zGo (M : pmM) : Nat → Nat → zL → List zV → zW → Option (Nat × zL × List zV × zW)
  | 0, pc, l, st, w => some (pc, l, st, w)
  | n + 1, pc, l, st, w => match pmCode M pc with
    | none => none
    | some (i, x, y, k) => match zA i x k pc l st with
      | some (pc1, l1, st1) => zGo M n pc1 l1 st1 w
      | none => match zB i x y pc l st w with
        | some (pc1, l1, st1, w1) => zGo M n pc1 l1 st1 w1
        | none => none
theorem pmB_A {i : Instr} {x y pc : Nat} {k : Int32} {l : pmL} {st : List Value} {w : pmW} {r : Nat × pmL × List Value × pmW} (h : pmB pgTy (pmN vwCl) i x y pc l st w = some r) : pmA i x k pc l st = none := by
  cases hA : pmA i x k pc l st with
  | none => rfl
  | some q =>
    have h1 := pmKA_A hA
    have h2 := pmKA_B h
    rw [h1] at h2
    cases h2
theorem zx_go {mid : Nat} {M : pmM} (hG : pgG mid = some M) {Q : zO → zW → Prop} {pc1 : Nat} {l1 : zL} {st1 : List zV} {w1 : zW} : ∀ (k pc : Nat) (l : zL) (st : List zV) (w : zW), zGo M k pc l st w = some (pc1, l1, st1, w1) → ZX mid pc1 l1 st1 w1 Q → ZX mid pc l st w Q
  | 0, pc, l, st, w, h, K => by cases h; exact K
  | k + 1, pc, l, st, w, h, K => by
    unfold zGo at h
    split at h
    · cases h
    · rename_i i x y c hc
      split at h
      · rename_i pc2 l2 st2 hA
        exact PX.step (fun n => pmX_A hG hc (zA_c hA)) (zx_go hG k pc2 l2 st2 w h K)
      · split at h
        · rename_i pc2 l2 st2 w2 hB
          exact PX.step (fun n => pmX_B hG hc (pmB_A (zB_c hB)) (zB_c hB)) (zx_go hG k pc2 l2 st2 w2 h K)
        · cases h
