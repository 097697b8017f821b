/-! ===== THE WHOLE NUMBERS' MACHINE: the pure machine over Int ===== -/
abbrev zV : Type := Int ⊕ (Int ⊕ Nat)
abbrev zL : Type := List (Option zV)
/-- by cell and place -/
abbrev zI : Type := Nat → Int → Int
/-- cells made, slots made, the script's length, the number of places, ints, longs -/
abbrev zW : Type := Nat × Nat × Nat × Nat × zI × zI
abbrev zO : Type := Option zV ⊕ Nat
abbrev zi (e : Int) : zV := .inl e
abbrev zl (e : Int) : zV := .inr (.inl e)
abbrev zr (a : Nat) : zV := .inr (.inr a)
def zc : zV → Value
  | .inl e => .int (Int32.ofInt e)
  | .inr (.inl e) => .long (Int64.ofInt e)
  | .inr (.inr a) => .ref a
def zcl (l : zL) : pmL := l.map (Option.map zc)
def zw (w : zW) : pmW := (55, w.1, w.2.1, hd0 w.2.2.1 w.2.2.2.1, R0, fun a k => Int32.ofInt (w.2.2.2.2.1 a (k : Int)), fun a k => Int64.ofInt (w.2.2.2.2.2 a (k : Int)))
def zco : zO → pmO
  | .inl v => .inl (v.map zc)
  | .inr x => .inr x
def zQ (Q : zO → zW → Prop) : pmO → pmW → Prop := fun o w1 => ∃ zo z1, o = zco zo ∧ w1 = zw z1 ∧ Q zo z1
def ZX (mid pc : Nat) (l : zL) (st : List zV) (w : zW) (Q : zO → zW → Prop) : Prop := PX mid pc (zcl l) (st.map zc) (zw w) (zQ Q)
def MZ (mid : Nat) (args : List zV) (w : zW) (Q : zO → zW → Prop) : Prop := MX mid (args.map zc) (zw w) (zQ Q)
theorem ZX.mono {mid pc : Nat} {l : zL} {st : List zV} {w : zW} {Q Q1 : zO → zW → Prop} (h : ZX mid pc l st w Q) (hq : ∀ o w1, Q o w1 → Q1 o w1) : ZX mid pc l st w Q1 := PX.mono h (fun o w1 ⟨zo, z1, a, b, c⟩ => ⟨zo, z1, a, b, hq _ _ c⟩)
theorem MZ.mono {mid : Nat} {args : List zV} {w : zW} {Q Q1 : zO → zW → Prop} (h : MZ mid args w Q) (hq : ∀ o w1, Q o w1 → Q1 o w1) : MZ mid args w Q1 := MX.mono h (fun o w1 ⟨zo, z1, a, b, c⟩ => ⟨zo, z1, a, b, hq _ _ c⟩)
def zU (I : zI) (a : Nat) (k v : Int) : zI := fun b j => if b = a ∧ j = k then v else I b j
def zGet : zL → Nat → Option zV
  | [], _ => none
  | o :: _, 0 => o
  | _ :: r, i + 1 => zGet r i
def zIs2 : Option zV → Bool
  | some (.inr (.inl _)) => true
  | _ => false
def zKl (o : Option zV) : Option zV := match zIs2 o with
  | true => none
  | false => o
def zSet (v : zV) : Nat → zL → zL
  | _, [] => []
  | 0, _ :: r => some v :: r
  | 1, o :: r => zKl o :: zSet v 0 r
  | i + 2, o :: r => o :: zSet v (i + 1) r
def zNx : zL → zL
  | [] => []
  | _ :: r => none :: r
def zSet2 (v : zV) : Nat → zL → zL
  | _, [] => []
  | 0, _ :: r => some v :: zNx r
  | 1, o :: r => zKl o :: zSet2 v 0 r
  | i + 2, o :: r => o :: zSet2 v (i + 1) r
def zEnt : List zV → zL
  | [] => []
  | v :: r => match zIs2 (some v) with
    | true => some v :: none :: zEnt r
    | false => some v :: zEnt r
def zPad : Nat → zL → zL
  | 0, l => l
  | n + 1, [] => none :: zPad n []
  | n + 1, o :: r => o :: zPad n r
theorem zGet_c : ∀ (l : zL) (i : Nat), pmGet (zcl l) i = (zGet l i).map zc
  | [], _ => rfl
  | _ :: _, 0 => rfl
  | _ :: r, i + 1 => zGet_c r i
theorem zIs2_c : ∀ o : Option zV, pmIs2 (o.map zc) = zIs2 o
  | none => rfl
  | some (.inl _) => rfl
  | some (.inr (.inl _)) => rfl
  | some (.inr (.inr _)) => rfl
theorem zKl_c (o : Option zV) : pmKl (o.map zc) = (zKl o).map zc := by
  unfold pmKl zKl
  rw [zIs2_c]
  cases zIs2 o <;> rfl
theorem zSet_c (v : zV) : ∀ (i : Nat) (l : zL), pmSet (zc v) i (zcl l) = zcl (zSet v i l)
  | 0, [] => rfl
  | 1, [] => rfl
  | i + 2, [] => rfl
  | 0, _ :: r => rfl
  | 1, o :: r => by
    show pmKl (o.map zc) :: pmSet (zc v) 0 (zcl r) = (zKl o).map zc :: zcl (zSet v 0 r)
    rw [zKl_c, zSet_c v 0 r]
  | i + 2, o :: r => by
    show o.map zc :: pmSet (zc v) (i + 1) (zcl r) = o.map zc :: zcl (zSet v (i + 1) r)
    rw [zSet_c v (i + 1) r]
theorem zNx_c : ∀ l : zL, pmNx (zcl l) = zcl (zNx l)
  | [] => rfl
  | _ :: _ => rfl
theorem zSet2_c (v : zV) : ∀ (i : Nat) (l : zL), pmSet2 (zc v) i (zcl l) = zcl (zSet2 v i l)
  | 0, [] => rfl
  | 1, [] => rfl
  | i + 2, [] => rfl
  | 0, _ :: r => by
    show some (zc v) :: pmNx (zcl r) = some (zc v) :: zcl (zNx r)
    rw [zNx_c]
  | 1, o :: r => by
    show pmKl (o.map zc) :: pmSet2 (zc v) 0 (zcl r) = (zKl o).map zc :: zcl (zSet2 v 0 r)
    rw [zKl_c, zSet2_c v 0 r]
  | i + 2, o :: r => by
    show o.map zc :: pmSet2 (zc v) (i + 1) (zcl r) = o.map zc :: zcl (zSet2 v (i + 1) r)
    rw [zSet2_c v (i + 1) r]
theorem zEnt_c : ∀ l : List zV, pmEnt (l.map zc) = zcl (zEnt l)
  | [] => rfl
  | v :: r => by
    have e : pmIs2 (some (zc v)) = zIs2 (some v) := zIs2_c (some v)
    show pmEnt (zc v :: r.map zc) = _
    unfold pmEnt zEnt
    rw [e, zEnt_c r]
    cases zIs2 (some v) <;> rfl
theorem zPad_c : ∀ (n : Nat) (l : zL), pmPad n (zcl l) = zcl (zPad n l)
  | 0, l => rfl
  | n + 1, [] => by
    show none :: pmPad n (zcl []) = none :: zcl (zPad n [])
    rw [zPad_c n []]
  | n + 1, o :: r => by
    show o.map zc :: pmPad n (zcl r) = o.map zc :: zcl (zPad n r)
    rw [zPad_c n r]
theorem MZ.of {mid : Nat} {M : pmM} {args : List zV} {w : zW} {Q : zO → zW → Prop} (hG : pgG mid = some M) (h : ZX mid 0 (zPad M.2.1 (zEnt args)) [] w Q) : MZ mid args w Q := by
  refine MX.of hG ?_
  rw [zEnt_c, zPad_c]
  exact h
def zand (a b : Int) : Int := (Int32.ofInt a &&& Int32.ofInt b).toInt
def zor (a b : Int) : Int := (Int32.ofInt a ||| Int32.ofInt b).toInt
def zxor (a b : Int) : Int := (Int32.ofInt a ^^^ Int32.ofInt b).toInt
def zshl (a b : Int) : Int := (Int32.ofInt a <<< (Int32.ofInt b &&& 31)).toInt
def zshr (a b : Int) : Int := (Int32.ofInt a >>> (Int32.ofInt b &&& 31)).toInt
def zushr (a b : Int) : Int := ((Int32.ofInt a).toUInt32 >>> ((Int32.ofInt b).toUInt32 &&& Int32.toUInt32 31)).toInt32.toInt
/-- steps that leave the world alone -/
def zA (i : Instr) (x : Nat) (k : Int32) (pc : Nat) (l : zL) (st : List zV) : Option (Nat × zL × List zV) :=
  match i with
  | .iconst _ => some (pc + 1, l, .inl k.toInt :: st)
  | .bipush _ => some (pc + 2, l, .inl k.toInt :: st)
  | .sipush _ => some (pc + 3, l, .inl k.toInt :: st)
  | .ldc _ => some (pc + 2, l, .inl k.toInt :: st)
  | .ldc_w _ => some (pc + 3, l, .inl k.toInt :: st)
  | .lconst _ => some (pc + 1, l, .inr (.inl (x : Int)) :: st)
  | .ldc2_w _ => some (pc + 3, l, .inr (.inl (x : Int)) :: st)
  | .iload _ => (match zGet l x with
    | some (.inl v) => some (pc + 2, l, .inl v :: st)
    | _ => none)
  | .iload_n _ => (match zGet l x with
    | some (.inl v) => some (pc + 1, l, .inl v :: st)
    | _ => none)
  | .lload _ => (match zGet l x with
    | some (.inr (.inl v)) => some (pc + 2, l, .inr (.inl v) :: st)
    | _ => none)
  | .lload_n _ => (match zGet l x with
    | some (.inr (.inl v)) => some (pc + 1, l, .inr (.inl v) :: st)
    | _ => none)
  | .aload _ => (match zGet l x with
    | some (.inr (.inr v)) => some (pc + 2, l, .inr (.inr v) :: st)
    | _ => none)
  | .aload_n _ => (match zGet l x with
    | some (.inr (.inr v)) => some (pc + 1, l, .inr (.inr v) :: st)
    | _ => none)
  | .istore _ => (match st with
    | .inl v :: r => some (pc + 2, zSet (.inl v) x l, r)
    | _ => none)
  | .istore_n _ => (match st with
    | .inl v :: r => some (pc + 1, zSet (.inl v) x l, r)
    | _ => none)
  | .astore _ => (match st with
    | .inr (.inr v) :: r => some (pc + 2, zSet (.inr (.inr v)) x l, r)
    | _ => none)
  | .astore_n _ => (match st with
    | .inr (.inr v) :: r => some (pc + 1, zSet (.inr (.inr v)) x l, r)
    | _ => none)
  | .lstore _ => (match st with
    | .inr (.inl v) :: r => some (pc + 2, zSet2 (.inr (.inl v)) x l, r)
    | _ => none)
  | .lstore_n _ => (match st with
    | .inr (.inl v) :: r => some (pc + 1, zSet2 (.inr (.inl v)) x l, r)
    | _ => none)
  | .iinc _ _ => (match zGet l x with
    | some (.inl v) => some (pc + 3, zSet (.inl (v + k.toInt)) x l, st)
    | _ => none)
  | .dup => (match st with
    | .inl v :: r => some (pc + 1, l, .inl v :: .inl v :: r)
    | .inr (.inr v) :: r => some (pc + 1, l, .inr (.inr v) :: .inr (.inr v) :: r)
    | _ => none)
  | .dup2 => (match st with
    | .inl u :: .inr (.inr v) :: r => some (pc + 1, l, .inl u :: .inr (.inr v) :: .inl u :: .inr (.inr v) :: r)
    | _ => none)
  | .pop => (match st with
    | .inl _ :: r => some (pc + 1, l, r)
    | _ => none)
  | .iadd => (match st with
    | .inl v :: .inl u :: r => some (pc + 1, l, .inl (u + v) :: r)
    | _ => none)
  | .isub => (match st with
    | .inl v :: .inl u :: r => some (pc + 1, l, .inl (u - v) :: r)
    | _ => none)
  | .imul => (match st with
    | .inl v :: .inl u :: r => some (pc + 1, l, .inl (u * v) :: r)
    | _ => none)
  | .iand => (match st with
    | .inl v :: .inl u :: r => some (pc + 1, l, .inl (zand u v) :: r)
    | _ => none)
  | .ior => (match st with
    | .inl v :: .inl u :: r => some (pc + 1, l, .inl (zor u v) :: r)
    | _ => none)
  | .ixor => (match st with
    | .inl v :: .inl u :: r => some (pc + 1, l, .inl (zxor u v) :: r)
    | _ => none)
  | .ishl => (match st with
    | .inl v :: .inl u :: r => some (pc + 1, l, .inl (zshl u v) :: r)
    | _ => none)
  | .ishr => (match st with
    | .inl v :: .inl u :: r => some (pc + 1, l, .inl (zshr u v) :: r)
    | _ => none)
  | .iushr => (match st with
    | .inl v :: .inl u :: r => some (pc + 1, l, .inl (zushr u v) :: r)
    | _ => none)
  | .ineg => (match st with
    | .inl u :: r => some (pc + 1, l, .inl (-u) :: r)
    | _ => none)
  | .l2i => (match st with
    | .inr (.inl u) :: r => some (pc + 1, l, .inl u :: r)
    | _ => none)
  | .goto _ => some (x, l, st)
  | _ => none
theorem i32_of (k : Int32) : Int32.ofInt k.toInt = k := Int32.ofInt_toInt k
theorem i64_nat (x : Nat) : Int64.ofInt (x : Int) = Int64.ofNat x := rfl
theorem l2i_of (u : Int) : (Int64.ofInt u).toInt32 = Int32.ofInt u := by
  first | exact Int64.toInt32_ofInt | exact Int64.toInt32_ofInt u | simp
set_option maxHeartbeats 4000000 in
theorem zA_c {i : Instr} {x pc pc1 : Nat} {k : Int32} {l l1 : zL} {st st1 : List zV} (h : zA i x k pc l st = some (pc1, l1, st1)) : pmA i x k pc (zcl l) (st.map zc) = some (pc1, zcl l1, st1.map zc) := by
  unfold zA at h
  split at h
  all_goals first
    | (cases h; done)
    | (cases h; simp only [pmA, List.map_cons, zc, i32_of]; done)
    | (cases h; simp only [pmA, List.map_cons, zc]; rfl)
    | (split at h
       · rename_i hg
         cases h
         simp only [pmA, zGet_c, hg, Option.map_some, zc, List.map_cons]
       · cases h)
    | (split at h
       · rename_i hg
         cases h
         simp only [pmA, zGet_c, hg, Option.map_some, zc, List.map_cons]
         rw [← zSet_c]
         simp only [zc, Int32.ofInt_add, i32_of]
       · cases h)
    | (split at h
       · cases h
         simp only [pmA, List.map_cons, zc, ← zSet_c, ← zSet2_c]
       · cases h)
    | (split at h
       · cases h
         simp only [pmA, List.map_cons, zc, Int32.ofInt_add, Int32.ofInt_sub, Int32.ofInt_mul, Int32.ofInt_neg, zand, zor, zxor, zshl, zshr, zushr, i32_of, l2i_of]
       · cases h)
    | (split at h
       · cases h
         simp only [pmA, List.map_cons, zc]
       · cases h
         simp only [pmA, List.map_cons, zc]
       · cases h)
