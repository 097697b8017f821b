/-! ===== worlds in the making: cells 0 .. k are there ===== -/
def hS (L S k : Nat) : pmH := fun a => match Nat.ble a k with
  | true => hd0 L S a
  | false => .inl (.int, L)
/-- how many cells; cells made, slots made; references; ints -/
abbrev sW : Type := Nat × Nat × Nat × (Nat → Nat → Option Nat) × zI
def zs (L S : Nat) (w : sW) : pmW := (w.1, w.2.1, w.2.2.1, hS L S w.1, w.2.2.2.1, fun a j => Int32.ofInt (w.2.2.2.2 a (j : Int)), fun _ _ => 0)
def SX (L S mid pc : Nat) (l : zL) (st : List zV) (w : sW) (Q : pmO → pmW → Prop) : Prop := PX mid pc (zcl l) (st.map zc) (zs L S w) Q
def sQ (L S : Nat) (Q : zO → sW → Prop) : pmO → pmW → Prop := fun o w1 => ∃ zo w2, o = zco zo ∧ w1 = zs L S w2 ∧ Q zo w2
def MS (L S mid : Nat) (args : List zV) (w : sW) (Q : zO → sW → Prop) : Prop := MX mid (args.map zc) (zs L S w) (sQ L S Q)
theorem MS.of {L S mid : Nat} {M : pmM} {args : List zV} {w : sW} {Q : zO → sW → Prop} (hG : pgG mid = some M) (h : SX L S mid 0 (zPad M.2.1 (zEnt args)) [] w (sQ L S Q)) : MS L S mid args w Q := by
  refine MX.of hG ?_
  rw [zEnt_c, zPad_c]
  exact h
/-- references by a list -/
def rl : List (Nat × Nat × Nat) → Nat → Nat → Option Nat
  | [], _, _ => none
  | q :: r, a, k => if a = q.1 ∧ k = q.2.1 then some q.2.2 else rl r a k
theorem rl_up (l : List (Nat × Nat × Nat)) (a k b : Nat) : pmUR (rl l) a k (some b) = rl ((a, k, b) :: l) := by
  funext a1_v k1
  unfold pmUR
  by_cases h : a1_v = a
  · rw [if_pos h]
    unfold va_up
    by_cases h1 : k1 = k
    · rw [if_pos h1]
      show _ = if a1_v = a ∧ k1 = k then some b else rl l a1_v k1
      rw [if_pos ⟨h, h1⟩]
    · rw [if_neg h1]
      show _ = if a1_v = a ∧ k1 = k then some b else rl l a1_v k1
      rw [if_neg (fun z => h1 z.2), h]
  · rw [if_neg h]
    show _ = if a1_v = a ∧ k1 = k then some b else rl l a1_v k1
    rw [if_neg (fun z => h z.1)]
theorem rl_no {l : List (Nat × Nat × Nat)} {a : Nat} (h : l.all (fun q => !(Nat.beq q.1 a)) = true) : ∀ k, rl l a k = none := by
  intro k
  induction l with
  | nil => rfl
  | cons q r ih =>
    rw [List.all_cons, Bool.and_eq_true] at h
    show (if a = q.1 ∧ k = q.2.1 then some q.2.2 else rl r a k) = none
    rw [if_neg (fun z => ?_)]
    · exact ih h.2
    · have h1 := h.1
      rw [← z.1, Nat.beq_refl] at h1
      cases h1
theorem hS_up {L S k : Nat} : va_up (hS L S k) (k + 1) (hd0 L S (k + 1)) = hS L S (k + 1) := by
  funext a
  unfold va_up
  by_cases h : a = k + 1
  · rw [if_pos h, h]
    unfold hS
    rw [Nat.ble_eq_true_of_le (Nat.le_refl (k + 1))]
  · rw [if_neg h]
    unfold hS
    by_cases h1 : a ≤ k
    · rw [Nat.ble_eq_true_of_le h1, Nat.ble_eq_true_of_le (show a ≤ k + 1 by omega)]
    · have e1_v : Nat.ble a k = false := by
        cases hb : Nat.ble a k with
        | false => rfl
        | true => exact absurd (Nat.le_of_ble_eq_true hb) h1
      have e2_v : Nat.ble a (k + 1) = false := by
        cases hb : Nat.ble a (k + 1) with
        | false => rfl
        | true => exact absurd (Nat.le_of_ble_eq_true hb) (by omega)
      rw [e1_v, e2_v]
theorem zs_new {L S k nc ns n : Nat} {l : List (Nat × Nat × Nat)} {Z : zI} {h : (FieldType × Nat) ⊕ Nat} (hh : hd0 L S (k + 1) = h) (hr : l.all (fun q => !(Nat.beq q.1 (k + 1))) = true) (hz : ∀ j, Z (k + 1) j = 0) : pmNew (zs L S (k, nc, ns, rl l, Z)) h n = zs L S (k + 1, nc + 1, ns + n, rl l, Z) := by
  subst hh
  have e1_v : va_up (rl l) (k + 1) (fun _ => none) = rl l := by
    funext a
    unfold va_up
    by_cases q : a = k + 1
    · rw [if_pos q, q]
      funext j
      exact (rl_no hr j).symm
    · rw [if_neg q]
  have e2_v : va_up (fun a j => Int32.ofInt (Z a ((j : Nat) : Int))) (k + 1) (fun _ => 0) = fun a j => Int32.ofInt (Z a ((j : Nat) : Int)) := by
    funext a
    unfold va_up
    by_cases q : a = k + 1
    · rw [if_pos q, q]
      funext j
      rw [hz]
      rfl
    · rw [if_neg q]
  have e3_v : va_up (fun (_ : Nat) (_ : Nat) => (0 : Int64)) (k + 1) (fun _ => 0) = fun _ _ => 0 := by
    funext a
    unfold va_up
    by_cases q : a = k + 1
    · rw [if_pos q]
    · rw [if_neg q]
  show (k + 1, nc + 1, ns + n, va_up (hS L S k) (k + 1) (hd0 L S (k + 1)), va_up (rl l) (k + 1) (fun _ => none), va_up (fun a j => Int32.ofInt (Z a ((j : Nat) : Int))) (k + 1) (fun _ => 0), va_up (fun (_ : Nat) (_ : Nat) => (0 : Int64)) (k + 1) (fun _ => 0)) = _
  rw [hS_up, e1_v, e2_v, e3_v]
  rfl
/-- steps that look at the world -/
def sB (L S : Nat) (i : Instr) (x y pc : Nat) (l : zL) (st : List zV) (w : sW) : Option (Nat × zL × List zV) :=
  match i with
  | .getfield _ => (match st with
    | .inr (.inr a) :: r => (match hS L S w.1 a with
      | .inr c => (match decide (c = x ∧ 1 ≤ a ∧ a ≤ w.1) with
        | true => (match pgTy x y with
          | .int => some (pc + 3, l, .inl (w.2.2.2.2 a (y : Int)) :: r)
          | .boolean => some (pc + 3, l, .inl (w.2.2.2.2 a (y : Int)) :: r)
          | .object _ => (match w.2.2.2.1 a y with
            | some b => some (pc + 3, l, .inr (.inr b) :: r)
            | none => none)
          | .array _ => (match w.2.2.2.1 a y with
            | some b => some (pc + 3, l, .inr (.inr b) :: r)
            | none => none)
          | _ => none)
        | false => none)
      | .inl _ => none)
    | _ => none)
  | .arraylength => (match st with
    | .inr (.inr a) :: r => (match hS L S w.1 a with
      | .inl q => (match decide (a ≤ w.1) with
        | true => some (pc + 1, l, .inl (q.2 : Int) :: r)
        | false => none)
      | .inr _ => none)
    | _ => none)
  | _ => none
set_option maxHeartbeats 4000000 in
theorem sB_c {L S : Nat} {i : Instr} {x y pc pc1 : Nat} {l l1 : zL} {st st1 : List zV} {w : sW} (h : sB L S i x y pc l st w = some (pc1, l1, st1)) : pmB pgTy (pmN vwCl) i x y pc (zcl l) (st.map zc) (zs L S w) = some (pc1, zcl l1, st1.map zc, zs L S w) := by
  unfold sB at h
  split at h
  · split at h
    · rename_i a r
      split at h
      · rename_i c hc
        split at h
        · rename_i hd_v
          have hd_v := of_decide_eq_true hd_v
          simp only [pmB, List.map_cons, zc]
          rw [show pmh (zs L S w) a = .inr c from hc]
          dsimp only
          rw [if_pos (show c = x ∧ 1 ≤ a ∧ a ≤ pmn (zs L S w) from hd_v)]
          split at h
          · rename_i ht; cases h; rw [ht]; rfl
          · rename_i ht; cases h; rw [ht]; rfl
          · rename_i ht
            split at h
            · rename_i b hb
              cases h
              rw [ht]
              simp only [pmRd]
              rw [show pmr (zs L S w) a y = some b from hb]
              rfl
            · cases h
          · rename_i ht
            split at h
            · rename_i b hb
              cases h
              rw [ht]
              simp only [pmRd]
              rw [show pmr (zs L S w) a y = some b from hb]
              rfl
            · cases h
          · cases h
        · cases h
      · cases h
    · cases h
  · split at h
    · rename_i a r
      split at h
      · rename_i q hc
        obtain ⟨t, n⟩ := q
        split at h
        · rename_i hd_v
          have hd_v := of_decide_eq_true hd_v
          cases h
          simp only [pmB, List.map_cons, zc]
          rw [show pmh (zs L S w) a = .inl (t, n) from hc]
          dsimp only
          rw [if_pos (show a ≤ pmn (zs L S w) from hd_v)]
          rfl
        · cases h
      · cases h
    · cases h
  · cases h
def sGo (L S : Nat) (M : pmM) : Nat → Nat → zL → List zV → sW → Option (Nat × zL × List zV)
  | 0, pc, l, st, _ => some (pc, l, st)
  | n + 1, pc, l, st, w => match pmCode M pc with
    | none => none
    | some (i, x, y, k) => match zA i x k pc l st with
      | some (pc1, l1, st1) => sGo L S M n pc1 l1 st1 w
      | none => match sB L S i x y pc l st w with
        | some (pc1, l1, st1) => sGo L S M n pc1 l1 st1 w
        | none => none
theorem sx_go {L S mid : Nat} {M : pmM} (hG : pgG mid = some M) {Q : pmO → pmW → Prop} {pc1 : Nat} {l1 : zL} {st1 : List zV} {w : sW} : ∀ (k pc : Nat) (l : zL) (st : List zV), sGo L S M k pc l st w = some (pc1, l1, st1) → SX L S mid pc1 l1 st1 w Q → SX L S mid pc l st w Q
  | 0, pc, l, st, h, K => by cases h; exact K
  | k + 1, pc, l, st, h, K => by
    unfold sGo at h
    split at h
    · cases h
    · rename_i i x y c hc
      split at h
      · rename_i pc2 l2 st2 hA
        exact PX.step (fun n => pmX_A hG hc (zA_c hA)) (sx_go hG k pc2 l2 st2 h K)
      · split at h
        · rename_i pc2 l2 st2 hB
          exact PX.step (fun n => pmX_B hG hc (pmB_A (sB_c hB)) (sB_c hB)) (sx_go hG k pc2 l2 st2 h K)
        · cases h
section SXR
variable {L S mid pc x y : Nat} {k : Int32} {M M2 : pmM} {l : zL} {st r rest As : List zV} {w : sW} {Q : pmO → pmW → Prop} {Q1 : zO → sW → Prop} {idx a n nc ns : Nat} {rr : List (Nat × Nat × Nat)} {Z : zI}
theorem sx_new {i nf : Nat} (hG : pgG mid = some M) (hc : pmCode M pc = some (.new i, x, y, k)) (hh : hd0 L S (n + 1) = .inr x) (hr : rr.all (fun q => !(Nat.beq q.1 (n + 1))) = true) (hz : ∀ j, Z (n + 1) j = 0) (hnf : pmN vwCl x = nf) (K : SX L S mid (pc + 3) l (.inr (.inr (n + 1)) :: st) (n + 1, nc + 1, ns + nf, rl rr, Z) Q) : SX L S mid pc l st (n, nc, ns, rl rr, Z) Q := by
  refine PX.step (fun m => pmX_B hG hc (pc1 := pc + 3) (l1 := zcl l) (st1 := zc (.inr (.inr (n + 1))) :: st.map zc) (w1 := zs L S (n + 1, nc + 1, ns + nf, rl rr, Z)) rfl ?_) K
  simp only [pmB, zc]
  rw [hnf, zs_new hh hr hz]
  rfl
theorem sx_newa {t : _root_.Jvm.ClassFile.ArrayType} {ty : FieldType} {m : Nat} {e : Int} (hG : pgG mid = some M) (hB : ∀ v : Int32, ¬ (v < 0 ∨ 65536 < v.toNatClampNeg) → pmB pgTy (pmN vwCl) (.newarray t) x y pc (zcl l) (.int v :: st.map zc) (zs L S (n, nc, ns, rl rr, Z)) = some (pc + 2, zcl l, .ref (n + 1) :: st.map zc, pmNew (zs L S (n, nc, ns, rl rr, Z)) (.inl (ty, v.toNatClampNeg)) v.toNatClampNeg)) (hA : ∀ v : Int32, pmA (.newarray t) x k pc (zcl l) (.int v :: st.map zc) = none) (hc : pmCode M pc = some (.newarray t, x, y, k)) (he : e = (m : Int)) (hm : m ≤ 65536) (hh : hd0 L S (n + 1) = .inl (ty, m)) (hr : rr.all (fun q => !(Nat.beq q.1 (n + 1))) = true) (hz : ∀ j, Z (n + 1) j = 0) (K : SX L S mid (pc + 2) l (.inr (.inr (n + 1)) :: st) (n + 1, nc + 1, ns + m, rl rr, Z) Q) : SX L S mid pc l (.inl e :: st) (n, nc, ns, rl rr, Z) Q := by
  have ev_v : (Int32.ofInt e) = nI m := by rw [he]; rfl
  have ec : (nI m).toNatClampNeg = m := nI_clamp (by omega)
  refine PX.step (fun m1_v => pmX_B hG hc (pc1 := pc + 2) (l1 := zcl l) (st1 := zc (.inr (.inr (n + 1))) :: st.map zc) (w1 := zs L S (n + 1, nc + 1, ns + m, rl rr, Z)) (hA _) ?_) K
  show pmB pgTy (pmN vwCl) (.newarray t) x y pc (zcl l) (.int (Int32.ofInt e) :: st.map zc) _ = _
  rw [ev_v, hB (nI m) (fun z => ?_), ec, zs_new hh hr hz]
  · rfl
  · rcases z with z | z
    · have q := (i32_lt (a := (m : Int)) (b := 0) (by omega) (by omega)).mp z
      omega
    · omega
theorem sx_nI {m : Nat} {e : Int} (hG : pgG mid = some M) (hc : pmCode M pc = some (.newarray .int, x, y, k)) (he : e = (m : Int)) (hm : m ≤ 65536) (hh : hd0 L S (n + 1) = .inl (.int, m)) (hr : rr.all (fun q => !(Nat.beq q.1 (n + 1))) = true) (hz : ∀ j, Z (n + 1) j = 0) (K : SX L S mid (pc + 2) l (.inr (.inr (n + 1)) :: st) (n + 1, nc + 1, ns + m, rl rr, Z) Q) : SX L S mid pc l (.inl e :: st) (n, nc, ns, rl rr, Z) Q :=
  sx_newa hG (fun v hv => by simp only [pmB]; rw [if_neg hv]; rfl) (fun v => rfl) hc he hm hh hr hz K
theorem sx_nB {m : Nat} {e : Int} (hG : pgG mid = some M) (hc : pmCode M pc = some (.newarray .boolean, x, y, k)) (he : e = (m : Int)) (hm : m ≤ 65536) (hh : hd0 L S (n + 1) = .inl (.boolean, m)) (hr : rr.all (fun q => !(Nat.beq q.1 (n + 1))) = true) (hz : ∀ j, Z (n + 1) j = 0) (K : SX L S mid (pc + 2) l (.inr (.inr (n + 1)) :: st) (n + 1, nc + 1, ns + m, rl rr, Z) Q) : SX L S mid pc l (.inl e :: st) (n, nc, ns, rl rr, Z) Q :=
  sx_newa hG (fun v hv => by simp only [pmB]; rw [if_neg hv]; rfl) (fun v => rfl) hc he hm hh hr hz K
theorem sx_nL {m : Nat} {e : Int} (hG : pgG mid = some M) (hc : pmCode M pc = some (.newarray .long, x, y, k)) (he : e = (m : Int)) (hm : m ≤ 65536) (hh : hd0 L S (n + 1) = .inl (.long, m)) (hr : rr.all (fun q => !(Nat.beq q.1 (n + 1))) = true) (hz : ∀ j, Z (n + 1) j = 0) (K : SX L S mid (pc + 2) l (.inr (.inr (n + 1)) :: st) (n + 1, nc + 1, ns + m, rl rr, Z) Q) : SX L S mid pc l (.inl e :: st) (n, nc, ns, rl rr, Z) Q :=
  sx_newa hG (fun v hv => by simp only [pmB]; rw [if_neg hv]; rfl) (fun v => rfl) hc he hm hh hr hz K
theorem sx_put {i : Nat} {v : zV} {w1 : pmW} (hG : pgG mid = some M) (hc : pmCode M pc = some (.putfield i, x, y, k)) (hh : hS L S w.1 a = .inr x) (ha : 1 ≤ a ∧ a ≤ w.1) (hw : pmWr (zs L S w) a y (pgTy x y) (zc v) = some w1) (K : PX mid (pc + 3) (zcl l) (r.map zc) w1 Q) : SX L S mid pc l (v :: .inr (.inr a) :: r) w Q := by
  refine PX.step (fun m => pmX_B hG hc (pc1 := pc + 3) (l1 := zcl l) (st1 := r.map zc) (w1 := w1) rfl ?_) K
  simp only [pmB, List.map_cons]
  show (match pmh (zs L S w) a with
      | .inr c => if c = x ∧ 1 ≤ a ∧ a ≤ pmn (zs L S w) then (match pmWr (zs L S w) a y (pgTy x y) (zc v) with
        | some w1 => some (pc + 3, zcl l, r.map zc, w1)
        | none => none) else none
      | .inl _ => none) = _
  rw [show pmh (zs L S w) a = .inr x from hh]
  dsimp only
  rw [if_pos (show x = x ∧ 1 ≤ a ∧ a ≤ pmn (zs L S w) from ⟨rfl, ha⟩), hw]
theorem sx_putR {i b : Nat} (hG : pgG mid = some M) (hc : pmCode M pc = some (.putfield i, x, y, k)) (hh : hS L S n a = .inr x) (ha : 1 ≤ a ∧ a ≤ n) (ht : ∀ (w : pmW), pmWr w a y (pgTy x y) (.ref b) = some (w.1, w.2.1, w.2.2.1, w.2.2.2.1, pmUR w.2.2.2.2.1 a y (some b), w.2.2.2.2.2.1, w.2.2.2.2.2.2)) (K : SX L S mid (pc + 3) l r (n, nc, ns, rl ((a, y, b) :: rr), Z) Q) : SX L S mid pc l (.inr (.inr b) :: .inr (.inr a) :: r) (n, nc, ns, rl rr, Z) Q := by
  refine sx_put (w := (n, nc, ns, rl rr, Z)) hG hc hh ha (ht _) ?_
  unfold SX at K
  unfold zs at K
  dsimp only at K
  rw [← rl_up] at K
  exact K
theorem sx_putI {i : Nat} {v : Int} (hG : pgG mid = some M) (hc : pmCode M pc = some (.putfield i, x, y, k)) (hh : hS L S n a = .inr x) (ha : 1 ≤ a ∧ a ≤ n) (ht : ∀ (w : pmW) (z : Int32), (z = 0 ∨ pgTy x y = .int) → pmWr w a y (pgTy x y) (.int z) = some (w.1, w.2.1, w.2.2.1, w.2.2.2.1, w.2.2.2.2.1, pmUI w.2.2.2.2.2.1 a y z, w.2.2.2.2.2.2)) (hv : v = 0 ∨ pgTy x y = .int) (K : SX L S mid (pc + 3) l r (n, nc, ns, rl rr, zU Z a (y : Int) v) Q) : SX L S mid pc l (.inl v :: .inr (.inr a) :: r) (n, nc, ns, rl rr, Z) Q := by
  refine sx_put (w := (n, nc, ns, rl rr, Z)) hG hc hh ha (ht _ (Int32.ofInt v) (hv.imp (fun z => by rw [z]; rfl) id)) ?_
  have h := zU_c Z a y v
  unfold SX zs at K
  dsimp only at K
  rw [h] at K
  exact K
theorem sx_iast {j v : Int} {m : Nat} (hG : pgG mid = some M) (hc : pmCode M pc = some (.iastore, x, y, k)) (hh : hS L S n a = .inl (.int, m)) (ha : 1 ≤ a ∧ a ≤ n) (hn : m < 2 ^ 31) (h0 : 0 ≤ j) (hj : j < m) (K : SX L S mid (pc + 1) l r (n, nc, ns, rl rr, zU Z a j v) Q) : SX L S mid pc l (.inl v :: .inl j :: .inr (.inr a) :: r) (n, nc, ns, rl rr, Z) Q := by
  refine px_iast hG hc (show pmh (zs L S (n, nc, ns, rl rr, Z)) a = .inl (.int, m) from hh) ha (i32_nat h0) (by omega) hn ?_
  have h := zU_c Z a j.toNat v
  rw [show ((j.toNat : Nat) : Int) = j by omega] at h
  unfold SX zs at K
  dsimp only at K
  rw [h] at K
  exact K
theorem sx_iald {j : Int} {m : Nat} (hG : pgG mid = some M) (hc : pmCode M pc = some (.iaload, x, y, k)) (hh : hS L S w.1 a = .inl (.int, m)) (ha : a ≤ w.1) (hn : m < 2 ^ 31) (h0 : 0 ≤ j) (hj : j < m) (K : SX L S mid (pc + 1) l (.inl (w.2.2.2.2 a j) :: r) w Q) : SX L S mid pc l (.inl j :: .inr (.inr a) :: r) w Q := by
  refine px_iald hG hc (show pmh (zs L S w) a = .inl (.int, m) from hh) ha (i32_nat h0) (by omega) hn ?_
  have e2_v : Value.int (pmi (zs L S w) a j.toNat) = zc (.inl (w.2.2.2.2 a j)) := by
    show Value.int (Int32.ofInt (w.2.2.2.2 a ((j.toNat : Nat) : Int))) = _
    rw [show ((j.toNat : Nat) : Int) = j by omega]; rfl
  rw [e2_v]
  exact K
theorem sx_cmp {cd : ClassFile.Cond} {off : Int} {u v : Int} (hG : pgG mid = some M) (hc : pmCode M pc = some (.if_icmp cd off, x, y, k)) (hu : inR u) (hv : inR v) (kt : zCnd2 cd u v → SX L S mid x l r w Q) (kf : ¬ zCnd2 cd u v → SX L S mid (pc + 3) l r w Q) : SX L S mid pc l (.inl v :: .inl u :: r) w Q :=
  px_cmp hG hc (fun h => kt ((zCnd2_c hu hv).mp h)) (fun h => kf (fun q => h ((zCnd2_c hu hv).mpr q)))
theorem sx_i2l {b : Int} (hG : pgG mid = some M) (hc : pmCode M pc = some (.i2l, x, y, k)) (hb : inR b) (K : SX L S mid (pc + 1) l (.inr (.inl b) :: r) w Q) : SX L S mid pc l (.inl b :: r) w Q := by
  refine PX.step (fun n => pmX_A hG hc (pc1 := pc + 1) (l1 := zcl l) (st1 := zc (.inr (.inl b)) :: r.map zc) ?_) K
  simp only [pmA, List.map_cons, zc]
  have e : (Int32.ofInt b).toInt64 = Int64.ofInt b := by
    refine Int64.toInt_inj.mp ?_
    rw [Int32.toInt_toInt64, i32_toInt hb, i64_toInt (by omega)]
  rw [e]
theorem lcmp_c {cd : ClassFile.Cond} {u v : Int} (hu : inR64 u) (hv : inR64 v) : pmCnd cd (lg_cmp (Int64.ofInt u) (Int64.ofInt v)) ↔ zCnd2 cd u v := by
  have h1 := i64_lt hv hu
  have h2 := i64_eq hu hv
  unfold lg_cmp
  by_cases a1_v : v < u
  · rw [if_pos (show Int64.ofInt u > Int64.ofInt v from h1.mpr a1_v)]
    cases cd <;> simp only [pmCnd, zCnd2] <;> first
      | (refine ⟨fun h => absurd h (by decide), fun h => ?_⟩; omega)
      | (refine ⟨fun h => ?_, fun h => by decide⟩; omega)
  · rw [if_neg (fun h => a1_v (h1.mp h))]
    by_cases a2 : u = v
    · rw [if_pos (h2.mpr a2)]
      cases cd <;> simp only [pmCnd, zCnd2] <;> first
        | (refine ⟨fun h => absurd h (by decide), fun h => ?_⟩; omega)
        | (refine ⟨fun h => ?_, fun h => by decide⟩; omega)
    · rw [if_neg (fun h => a2 (h2.mp h))]
      cases cd <;> simp only [pmCnd, zCnd2] <;> first
        | (refine ⟨fun h => absurd h (by decide), fun h => ?_⟩; omega)
        | (refine ⟨fun h => ?_, fun h => by decide⟩; omega)
theorem sx_lcif {cd : ClassFile.Cond} {off : Int} {u v : Int} {x2 y2 : Nat} {k2 : Int32} (hG : pgG mid = some M) (hc : pmCode M pc = some (.lcmp, x, y, k)) (hc2 : pmCode M (pc + 1) = some (.ifCond cd off, x2, y2, k2)) (hu : inR64 u) (hv : inR64 v) (kt : zCnd2 cd u v → SX L S mid x2 l r w Q) (kf : ¬ zCnd2 cd u v → SX L S mid (pc + 4) l r w Q) : SX L S mid pc l (.inr (.inl v) :: .inr (.inl u) :: r) w Q := by
  refine PX.step (fun n => pmX_A hG hc (pc1 := pc + 1) (l1 := zcl l) (st1 := .int (lg_cmp (Int64.ofInt u) (Int64.ofInt v)) :: r.map zc) rfl) ?_
  exact px_if hG hc2 (fun h => kt ((lcmp_c hu hv).mp h)) (fun h => kf (fun q => h ((lcmp_c hu hv).mpr q)))
theorem sx_imax {u v : Int} (hG : pgG mid = some M) (hc : pmCode M pc = some (.swap, x, y, k)) (hs : pmSum (r.map zc) ≤ 8) (ha : inR u) (hb : inR v) (K : SX L S mid (pc + 3) l (.inl (max u v) :: r) w Q) : SX L S mid pc l (.inl v :: .inl u :: r) w Q := by
  refine px_imax hG hc hs ?_
  have e : (if Int32.ofInt u < Int32.ofInt v then Int32.ofInt v else Int32.ofInt u) = Int32.ofInt (max u v) := by
    by_cases h : u < v
    · rw [if_pos ((i32_lt ha hb).mpr h), show max u v = v by omega]
    · rw [if_neg (fun q => h ((i32_lt ha hb).mp q)), show max u v = u by omega]
  rw [e]
  exact K
theorem sx_imin {u v : Int} (hG : pgG mid = some M) (hc : pmCode M pc = some (.dup_x1, x, y, k)) (hs : pmSum (r.map zc) ≤ 8) (ha : inR u) (hb : inR v) (K : SX L S mid (pc + 3) l (.inl (min u v) :: r) w Q) : SX L S mid pc l (.inl v :: .inl u :: r) w Q := by
  refine px_imin hG hc hs ?_
  have e : (if Int32.ofInt v < Int32.ofInt u then Int32.ofInt v else Int32.ofInt u) = Int32.ofInt (min u v) := by
    by_cases h : v < u
    · rw [if_pos ((i32_lt hb ha).mpr h), show min u v = v by omega]
    · rw [if_neg (fun q => h ((i32_lt hb ha).mp q)), show min u v = u by omega]
  rw [e]
  exact K
theorem sx_lmax {u v : Int} (hG : pgG mid = some M) (hc : pmCode M pc = some (.dup_x2, x, y, k)) (hs : pmSum (r.map zc) ≤ 8) (ha : inR64 u) (hb : inR64 v) (K : SX L S mid (pc + 3) l (.inr (.inl (max u v)) :: r) w Q) : SX L S mid pc l (.inr (.inl v) :: .inr (.inl u) :: r) w Q := by
  refine px_lmax hG hc hs ?_
  have e : (if Int64.ofInt v < Int64.ofInt u then Int64.ofInt u else Int64.ofInt v) = Int64.ofInt (max u v) := by
    by_cases h : v < u
    · rw [if_pos ((i64_lt hb ha).mpr h), show max u v = u by omega]
    · rw [if_neg (fun q => h ((i64_lt hb ha).mp q)), show max u v = v by omega]
  rw [e]
  exact K
theorem sx_lmin {u v : Int} (hG : pgG mid = some M) (hc : pmCode M pc = some (.dup2_x1, x, y, k)) (hs : pmSum (r.map zc) ≤ 8) (ha : inR64 u) (hb : inR64 v) (K : SX L S mid (pc + 3) l (.inr (.inl (min u v)) :: r) w Q) : SX L S mid pc l (.inr (.inl v) :: .inr (.inl u) :: r) w Q := by
  refine px_lmin hG hc hs ?_
  have e : (if Int64.ofInt v < Int64.ofInt u then Int64.ofInt v else Int64.ofInt u) = Int64.ofInt (min u v) := by
    by_cases h : v < u
    · rw [if_pos ((i64_lt hb ha).mpr h), show min u v = v by omega]
    · rw [if_neg (fun q => h ((i64_lt hb ha).mp q)), show min u v = u by omega]
  rw [e]
  exact K
theorem sx_obj {b : Nat} (hG : pgG mid = some M) (hc : pmCode M pc = some (.nop, x, y, k)) (hs : pmSum (r.map zc) ≤ 8) (K : SX L S mid (pc + 3) l r w Q) : SX L S mid pc l (.inr (.inr b) :: r) w Q := px_obj hG hc hs K
theorem sx_vret {Q : zO → sW → Prop} (hG : pgG mid = some M) (hc : pmCode M pc = some (.return_, x, y, k)) (hq : Q (.inl none) w) : SX L S mid pc l [] w (sQ L S Q) := px_vret hG hc ⟨.inl none, w, rfl, rfl, hq⟩
theorem sx_iret {Q : zO → sW → Prop} {v : Int} (hG : pgG mid = some M) (hc : pmCode M pc = some (.ireturn, x, y, k)) (hy : y = 0) (hq : Q (.inl (some (.inl v))) w) : SX L S mid pc l [.inl v] w (sQ L S Q) := px_iret hG hc (.inl hy) ⟨.inl (some (.inl v)), w, rfl, rfl, hq⟩
/-- calls: answers v and leaves the world; leaves a world -/
def wF (v : Int) (w : sW) : zO → sW → Prop := fun o w1 => o = .inl (some (.inl v)) ∧ w1 = w
def wU (w0 : sW) : zO → sW → Prop := fun o w1 => o = .inl none ∧ w1 = w0
theorem sx_csF {v : Int} (hG : pgG mid = some M) (hc : pmCode M pc = some (.invokestatic idx, x, y, k)) (hG2 : pgG x = some M2) (hst : st = As.reverse ++ rest) (hy : As.length = y) (hs : pmSum (rest.map zc) ≤ 8) (he : (zEnt As).length ≤ M2.2.1) (hM : MS L S x As w (wF v w)) (K : SX L S mid (pc + 3) l (.inl v :: rest) w Q) : SX L S mid pc l st w Q := by
  refine px_callS (As := As.map zc) (rest := rest.map zc) hG hc hG2 (by rw [hst]; simp) (by simp [hy]) hs ?_ hM ?_
  · rw [zEnt_len]
    exact he
  · rintro o w1 ⟨zo, z1, rfl, rfl, rfl, rfl⟩
    exact ⟨some (zc (.inl v)), rfl, K⟩
theorem sx_csU {w0 : sW} (hG : pgG mid = some M) (hc : pmCode M pc = some (.invokestatic idx, x, y, k)) (hG2 : pgG x = some M2) (hst : st = As.reverse ++ rest) (hy : As.length = y) (hs : pmSum (rest.map zc) ≤ 8) (he : (zEnt As).length ≤ M2.2.1) (hM : MS L S x As w (wU w0)) (K : SX L S mid (pc + 3) l rest w0 Q) : SX L S mid pc l st w Q := by
  refine px_callS (As := As.map zc) (rest := rest.map zc) hG hc hG2 (by rw [hst]; simp) (by simp [hy]) hs ?_ hM ?_
  · rw [zEnt_len]
    exact he
  · rintro o w1 ⟨zo, z1, rfl, rfl, rfl, rfl⟩
    exact ⟨none, rfl, K⟩
theorem sx_ciU {w0 : sW} {b : Nat} (hG : pgG mid = some M) (hc : pmCode M pc = some (.invokespecial idx, x, y, k)) (hG2 : pgG x = some M2) (hst : st = As.reverse ++ .inr (.inr b) :: rest) (hy : As.length + 1 = y) (hs : pmSum (rest.map zc) ≤ 8) (he : (zEnt (.inr (.inr b) :: As)).length ≤ M2.2.1) (hM : MS L S x (.inr (.inr b) :: As) w (wU w0)) (K : SX L S mid (pc + 3) l rest w0 Q) : SX L S mid pc l st w Q := by
  refine px_callI (As := As.map zc) (rest := rest.map zc) (a := b) hG hc hG2 (by rw [hst]; simp [zc]) (by simp [hy]) hs ?_ hM ?_
  · have := zEnt_len (.inr (.inr b) :: As)
    simp only [List.map_cons, zc] at this
    rw [this]
    exact he
  · rintro o w1 ⟨zo, z1, rfl, rfl, rfl, rfl⟩
    exact ⟨none, rfl, K⟩
theorem sx_cvU {w0 : sW} {b : Nat} (hG : pgG mid = some M) (hc : pmCode M pc = some (.invokevirtual idx, x, y, k)) (hG2 : pgG x = some M2) (hst : st = As.reverse ++ .inr (.inr b) :: rest) (hy : As.length + 1 = y) (hs : pmSum (rest.map zc) ≤ 8) (he : (zEnt (.inr (.inr b) :: As)).length ≤ M2.2.1) (hh : hS L S w.1 b = .inr M2.2.2.2) (ha : 1 ≤ b ∧ b ≤ w.1) (hM : MS L S x (.inr (.inr b) :: As) w (wU w0)) (K : SX L S mid (pc + 3) l rest w0 Q) : SX L S mid pc l st w Q := by
  refine px_callV (As := As.map zc) (rest := rest.map zc) (a := b) hG hc hG2 (by rw [hst]; simp [zc]) (by simp [hy]) hs ?_ (show pmh (zs L S w) b = .inr M2.2.2.2 from hh) ha hM ?_
  · have := zEnt_len (.inr (.inr b) :: As)
    simp only [List.map_cons, zc] at this
    rw [this]
    exact he
  · rintro o w1 ⟨zo, z1, rfl, rfl, rfl, rfl⟩
    exact .inl ⟨none, rfl, K⟩
end SXR

