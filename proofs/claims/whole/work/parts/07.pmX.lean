/-! ===== THE PURE MACHINE (4): methods ===== -/
abbrev pmE : Type := Nat × Instr × Nat × Nat × Int32
/-- a method: its rows by the 32s of their places, how many locals, its handlers (from, to, at, of which exception), the number of its class -/
abbrev pmM : Type := List (List pmE) × Nat × List (Nat × Nat × Nat × Nat) × Nat
def pmFind : List pmE → Nat → Option (Instr × Nat × Nat × Int32)
  | [], _ => none
  | e :: r, pc => match Nat.beq e.1 pc with
    | true => some e.2
    | false => pmFind r pc
def pmNth : List (List pmE) → Nat → List pmE
  | [], _ => []
  | e :: _, 0 => e
  | _ :: r, i + 1 => pmNth r i
def pmCode (M : pmM) (pc : Nat) : Option (Instr × Nat × Nat × Int32) := pmFind (pmNth M.1 (pc / 32)) pc
theorem pmFind_mem : ∀ {l : List pmE} {pc : Nat} {q : Instr × Nat × Nat × Int32}, pmFind l pc = some q → (pc, q) ∈ l
  | [], _, _, h => by cases h
  | e :: r, pc, q, h => by
    unfold pmFind at h
    split at h
    · rename_i hq
      cases h
      have e1 : e.1 = pc := Nat.eq_of_beq_eq_true hq
      rw [← e1]
      exact List.mem_cons_self
    · exact List.mem_cons_of_mem _ (pmFind_mem h)
theorem pmNth_mem : ∀ {l : List (List pmE)} {i : Nat} {q : pmE}, q ∈ pmNth l i → ∃ c ∈ l, q ∈ c
  | [], _, _, h => by cases h
  | e :: _, 0, _, h => ⟨e, List.mem_cons_self, h⟩
  | _ :: r, i + 1, _, h => by
    obtain ⟨c, h1, h2⟩ := pmNth_mem (l := r) (i := i) h
    exact ⟨c, List.mem_cons_of_mem _ h1, h2⟩
theorem pmCode_mem {M : pmM} {pc : Nat} {q : Instr × Nat × Nat × Int32} (h : pmCode M pc = some q) : ∃ c ∈ M.1, (pc, q) ∈ c := pmNth_mem (pmFind_mem h)
abbrev pmO : Type := Option Value ⊕ Nat
/-- arguments as locals -/
def pmEnt : List Value → pmL
  | [] => []
  | v :: r => match pmIs2 (some v) with
    | true => some v :: none :: pmEnt r
    | false => some v :: pmEnt r
def pmPad : Nat → pmL → pmL
  | 0, l => l
  | n + 1, [] => none :: pmPad n []
  | n + 1, o :: r => o :: pmPad n r
def pmSum : List Value → Nat
  | [] => 0
  | v :: r => v.category + pmSum r
def pmHand : List (Nat × Nat × Nat × Nat) → Nat → Nat → Option Nat
  | [], _, _ => none
  | q :: r, pc, x => if q.1 ≤ pc ∧ pc < q.2.1 ∧ q.2.2.2 = x then some q.2.2.1 else pmHand r pc x
def pmBmp (w : pmW) : pmW := (w.1, w.2.1 + 1, w.2.2.1 + 6, w.2.2.2)
/-- what the receiver of a virtual call is -/
def pmRc (w : pmW) (k : Nat) (st : List Value) (y : Nat) : Bool := match st.drop (y - 1) with
  | .ref a :: _ => (match pmh w a with
    | .inr c => Nat.beq c k && (Nat.ble 1 a && Nat.ble a (pmn w))
    | .inl _ => false)
  | _ => false
def pmRf1 (st : List Value) (y : Nat) : Bool := match st.drop (y - 1) with
  | .ref _ :: _ => true
  | _ => false
def pmX (ty : Nat → Nat → FieldType) (nf : Nat → Nat) (G : Nat → Option pmM) : Nat → Nat → Nat → pmL → List Value → pmW → Option (pmO × pmW)
  | 0, _, _, _, _, _ => none
  | n + 1, mid, pc, l, st, w => match G mid with
    | none => none
    | some M => match pmCode M pc with
      | none => none
      | some (i, x, y, k) => match i with
        | .ireturn => (match st with
          | [.int v] => if y = 0 ∨ v = 0 ∨ v = 1 then some (.inl (some (.int v)), w) else none
          | _ => none)
        | .lreturn => (match st with
          | [.long v] => some (.inl (some (.long v)), w)
          | _ => none)
        | .areturn => (match st with
          | [.ref v] => some (.inl (some (.ref v)), w)
          | _ => none)
        | .return_ => (match st with
          | [] => some (.inl none, w)
          | _ => none)
        | .athrow => (match M.2.2.1 with
          | [] => if pmSum st ≤ 8 then some (.inr x, pmBmp w) else none
          | _ :: _ => none)
        | .nop => (match st with
          | .ref _ :: r => if pmSum r ≤ 8 then pmX ty nf G n mid (pc + 3) l r w else none
          | _ => none)
        | .swap => (match st with
          | .int b :: .int a :: r => if pmSum r ≤ 8 then pmX ty nf G n mid (pc + 3) l (.int (if a < b then b else a) :: r) w else none
          | _ => none)
        | .dup_x1 => (match st with
          | .int b :: .int a :: r => if pmSum r ≤ 8 then pmX ty nf G n mid (pc + 3) l (.int (if b < a then b else a) :: r) w else none
          | _ => none)
        | .dup_x2 => (match st with
          | .long b :: .long a :: r => if pmSum r ≤ 8 then pmX ty nf G n mid (pc + 3) l (.long (if b < a then a else b) :: r) w else none
          | _ => none)
        | .dup2_x1 => (match st with
          | .long b :: .long a :: r => if pmSum r ≤ 8 then pmX ty nf G n mid (pc + 3) l (.long (if b < a then b else a) :: r) w else none
          | _ => none)
        | .invokevirtual _ => (match G x with
          | none => none
          | some M2 => if y ≤ st.length ∧ 1 ≤ y ∧ pmSum (st.drop y) ≤ 8 ∧ pmRc w M2.2.2.2 st y = true ∧ (pmEnt (st.take y).reverse).length ≤ M2.2.1 then (match pmX ty nf G n x 0 (pmPad M2.2.1 (pmEnt (st.take y).reverse)) [] w with
            | none => none
            | some (.inl v, w1) => pmX ty nf G n mid (pc + 3) l (v.toList ++ st.drop y) w1
            | some (.inr ex, w1) => (match M.2.2.1 with
              | [] => some (.inr ex, w1)
              | _ :: _ => (match pmHand M.2.2.1 pc ex with
                | none => none
                | some h => (match pmCode M h with
                  | some (.astore_n _, z, _, _) => pmX ty nf G n mid (h + 1) (pmDel z (pmSet (.int 0) z l)) [] w1
                  | some (.astore _, z, _, _) => pmX ty nf G n mid (h + 2) (pmDel z (pmSet (.int 0) z l)) [] w1
                  | _ => none)))) else none)
        | .invokestatic _ => (match G x with
          | none => none
          | some M2 => if y ≤ st.length ∧ pmSum (st.drop y) ≤ 8 ∧ (pmEnt (st.take y).reverse).length ≤ M2.2.1 then (match pmX ty nf G n x 0 (pmPad M2.2.1 (pmEnt (st.take y).reverse)) [] w with
            | some (.inl v, w1) => pmX ty nf G n mid (pc + 3) l (v.toList ++ st.drop y) w1
            | _ => none) else none)
        | .invokespecial _ => (match G x with
          | none => none
          | some M2 => if y ≤ st.length ∧ 1 ≤ y ∧ pmSum (st.drop y) ≤ 8 ∧ pmRf1 st y = true ∧ (pmEnt (st.take y).reverse).length ≤ M2.2.1 then (match pmX ty nf G n x 0 (pmPad M2.2.1 (pmEnt (st.take y).reverse)) [] w with
            | some (.inl v, w1) => pmX ty nf G n mid (pc + 3) l (v.toList ++ st.drop y) w1
            | _ => none) else none)
        | i => (match pmA i x k pc l st with
          | some (pc1, l1, st1) => pmX ty nf G n mid pc1 l1 st1 w
          | none => (match pmB ty nf i x y pc l st w with
            | some (pc1, l1, st1, w1) => pmX ty nf G n mid pc1 l1 st1 w1
            | none => none))
/-- references within the world -/
def pmOkS (n : Nat) (l : pmL) (st : List Value) : Prop := (∀ i a, pmGet l i = some (.ref a) → a ≤ n) ∧ ∀ a, Value.ref a ∈ st → a ≤ n
theorem pmOkS.mono {n n1 : Nat} {l : pmL} {st : List Value} (h : pmOkS n l st) (hn : n ≤ n1) : pmOkS n1 l st := ⟨fun i a q => Nat.le_trans (h.1 i a q) hn, fun a q => Nat.le_trans (h.2 a q) hn⟩
theorem pmOkS_set {n i : Nat} {l : pmL} {st : List Value} {v : Value} (h : pmOkS n l (v :: st)) : pmOkS n (pmSet v i l) st := by
  refine ⟨fun j a q => ?_, fun a q => h.2 a (List.mem_cons_of_mem _ q)⟩
  rcases pmSet_get v _ i j l q with ⟨-, e⟩ | ⟨-, e, -⟩
  · exact h.2 a (by rw [e]; exact List.mem_cons_self)
  · exact h.1 j a e
theorem pmOkS_set2 {n i : Nat} {l : pmL} {st : List Value} {v : Value} (h : pmOkS n l (v :: st)) : pmOkS n (pmSet2 v i l) st := by
  refine ⟨fun j a q => ?_, fun a q => h.2 a (List.mem_cons_of_mem _ q)⟩
  rcases pmSet2_get v _ i j l q with ⟨-, e⟩ | ⟨-, -, e, -⟩
  · exact h.2 a (by rw [e]; exact List.mem_cons_self)
  · exact h.1 j a e
theorem pmOkS_seti {n i : Nat} {l : pmL} {st : List Value} {v : Int32} (h : pmOkS n l st) : pmOkS n (pmSet (.int v) i l) st := by
  refine ⟨fun j a q => ?_, h.2⟩
  rcases pmSet_get _ _ i j l q with ⟨-, e⟩ | ⟨-, e, -⟩
  · cases e
  · exact h.1 j a e
theorem pmOkS_sub {n : Nat} {l : pmL} {st st1 : List Value} (h : pmOkS n l st) (hs : ∀ a, Value.ref a ∈ st1 → Value.ref a ∈ st) : pmOkS n l st1 := ⟨h.1, fun a q => h.2 a (hs a q)⟩
theorem pmOkS_ld {n i a : Nat} {l : pmL} {st : List Value} (h : pmOkS n l st) (hg : pmGet l i = some (.ref a)) : pmOkS n l (.ref a :: st) := ⟨h.1, fun b q => by
  rcases List.mem_cons.mp q with e | e
  · cases e; exact h.1 i _ hg
  · exact h.2 b e⟩
set_option maxHeartbeats 4000000 in
theorem pmA_keep {i : Instr} {x pc pc1 n : Nat} {k : Int32} {l l1 : pmL} {st st1 : List Value} (h : pmA i x k pc l st = some (pc1, l1, st1)) : l1.length = l.length ∧ (pmOkS n l st → pmOkS n l1 st1) := by
  unfold pmA at h
  split at h <;> (try split at h) <;> (try split at h) <;> (try split at h) <;> first
    | (cases h; done)
    | (rename_i hg; cases h; exact ⟨rfl, fun q => pmOkS_ld q hg⟩)
    | (cases h; exact ⟨pmSet_len _ _ _, fun q => pmOkS_set q⟩)
    | (cases h; exact ⟨pmSet2_len _ _ _, fun q => pmOkS_set2 q⟩)
    | (cases h; exact ⟨pmSet_len _ _ _, fun q => pmOkS_seti q⟩)
    | (cases h; refine ⟨rfl, fun q => pmOkS_sub q ?_⟩; intro a hh; exact hh)
    | (cases h; refine ⟨rfl, fun q => pmOkS_sub q ?_⟩; intro a hh; simp at hh; done)
    | (cases h; refine ⟨rfl, fun q => pmOkS_sub q ?_⟩; intro a hh; simp at hh ⊢; exact hh)
theorem pmBmp_h (w : pmW) : pmh (pmBmp w) = pmh w ∧ pmr (pmBmp w) = pmr w ∧ pmi (pmBmp w) = pmi w ∧ pmj (pmBmp w) = pmj w ∧ pmn (pmBmp w) = pmn w := ⟨rfl, rfl, rfl, rfl, rfl⟩
set_option maxHeartbeats 4000000 in
theorem pmB_keep {ty : Nat → Nat → FieldType} {nf : Nat → Nat} {i : Instr} {x y pc pc1 : Nat} {l l1 : pmL} {st st1 : List Value} {w w1 : pmW} (h : pmB ty nf i x y pc l st w = some (pc1, l1, st1, w1)) :
    l1 = l ∧ (pmn w ≤ pmn w1 ∧ pmnc w ≤ pmnc w1 ∧ pmns w ≤ pmns w1) ∧ ((∀ a k b, pmr w a k = some b → b ≤ pmn w) → pmOkS (pmn w) l st → pmOkS (pmn w1) l1 st1) := by
  have new : ∀ (hd : (FieldType × Nat) ⊕ Nat) (m : Nat), pmn w ≤ pmn (pmNew w hd m) ∧ pmnc w ≤ pmnc (pmNew w hd m) ∧ pmns w ≤ pmns (pmNew w hd m) := fun hd m => ⟨Nat.le_succ _, Nat.le_succ _, Nat.le_add_right _ _⟩
  have newS : ∀ (hd : (FieldType × Nat) ⊕ Nat) (m : Nat) (r : List Value), pmOkS (pmn w) l r → pmOkS (pmn (pmNew w hd m)) l (.ref (w.1 + 1) :: r) := fun hd m r q => ⟨fun i a z => Nat.le_succ_of_le (q.1 i a z), fun a z => by
    rcases List.mem_cons.mp z with e | e
    · cases e; exact Nat.le_refl _
    · exact Nat.le_succ_of_le (q.2 a e)⟩
  unfold pmB at h
  split at h
  · split at h
    · split at h
      · split at h
        · cases h
          refine ⟨rfl, ⟨Nat.le_refl _, Nat.le_refl _, Nat.le_refl _⟩, fun hw q => ⟨q.1, fun a z => ?_⟩⟩
          rcases List.mem_cons.mp z with e | e
          · exact pmRd_ref hw e.symm
          · exact q.2 a (List.mem_cons_of_mem _ e)
        · cases h
      · cases h
    · cases h
  · split at h
    · split at h
      · split at h
        · split at h
          · rename_i hwr
            cases h
            obtain ⟨⟨g1, g1b, g1c, -⟩, -⟩ := pmWr_spec hwr
            exact ⟨rfl, ⟨Nat.le_of_eq g1.symm, Nat.le_of_eq g1b.symm, Nat.le_of_eq g1c.symm⟩, fun hw q => by rw [g1]; exact pmOkS_sub q (fun a z => List.mem_cons_of_mem _ (List.mem_cons_of_mem _ z))⟩
          · cases h
        · cases h
      · cases h
    · cases h
  all_goals first
    | (cases h; done)
    | (cases h; exact ⟨rfl, new _ _, fun _ q => newS _ _ _ q⟩)
    | (split at h
       · split at h
         · cases h
         · cases h
           refine ⟨rfl, new _ _, fun _ q => newS _ _ _ (pmOkS_sub q ?_)⟩
           intro a hh
           exact List.mem_cons_of_mem _ hh
       · cases h)
    | (split at h
       · split at h
         · split at h
           · cases h
             refine ⟨rfl, ⟨Nat.le_refl _, Nat.le_refl _, Nat.le_refl _⟩, fun _ q => pmOkS_sub q ?_⟩
             intro a hh
             simp at hh ⊢
             first | exact hh | exact Or.inr hh
           · cases h
         · cases h
       · cases h)
    | (split at h
       · split at h
         · split at h
           · split at h
             · cases h
             · cases h
               refine ⟨rfl, ⟨Nat.le_refl _, Nat.le_refl _, Nat.le_refl _⟩, fun _ q => pmOkS_sub q ?_⟩
               intro a hh
               simp at hh ⊢
               first | exact hh | exact Or.inr hh
           · cases h
         · cases h
       · cases h)
