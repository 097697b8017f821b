/-! ===== THE PURE MACHINE (1): locals, stack, steps that leave the world alone ===== -/
abbrev pmL : Type := List (Option Value)
def pmGet : pmL → Nat → Option Value
  | [], _ => none
  | o :: _, 0 => o
  | _ :: r, i + 1 => pmGet r i
def pmIs2 : Option Value → Bool
  | some (.long _) => true
  | some (.double _) => true
  | _ => false
def pmKl (o : Option Value) : Option Value := match pmIs2 o with
  | true => none
  | false => o
/-- a value of one word is stored at a place -/
def pmSet (v : Value) : Nat → pmL → pmL
  | _, [] => []
  | 0, _ :: r => some v :: r
  | 1, o :: r => pmKl o :: pmSet v 0 r
  | i + 2, o :: r => o :: pmSet v (i + 1) r
def pmNx : pmL → pmL
  | [] => []
  | _ :: r => none :: r
/-- a value of two words is stored at a place and the next -/
def pmSet2 (v : Value) : Nat → pmL → pmL
  | _, [] => []
  | 0, _ :: r => some v :: pmNx r
  | 1, o :: r => pmKl o :: pmSet2 v 0 r
  | i + 2, o :: r => o :: pmSet2 v (i + 1) r
def pmDel : Nat → pmL → pmL
  | _, [] => []
  | 0, _ :: r => none :: r
  | i + 1, o :: r => o :: pmDel i r
/-- references of the pure machine are numbers of its own; φ says where they lie -/
def pmV (φ : Nat → Nat) : Value → Value
  | .ref a => .ref (φ a)
  | v => v
theorem pmV_cat (φ : Nat → Nat) (v : Value) : (pmV φ v).category = v.category := by cases v <;> rfl
theorem pmGet_eq (l : pmL) (i : Nat) : pmGet l i = (l[i]?).getD none := by
  induction l generalizing i with
  | nil => simp [pmGet]
  | cons o r ih => cases i <;> simp [pmGet, ih]
theorem pmIs2_cat {o : Option Value} {v : Value} (h : o = some v) : pmIs2 o = (v.category == 2) := by subst h; cases v <;> rfl
theorem pmKl_some {o : Option Value} {v : Value} (h : pmKl o = some v) : o = some v ∧ ¬ v.category = 2 := by
  unfold pmKl at h
  split at h
  · cases h
  · rename_i h2
    subst h
    rw [pmIs2_cat rfl] at h2
    simpa using h2
theorem pmSet_len (v : Value) : ∀ (i : Nat) (l : pmL), (pmSet v i l).length = l.length
  | _, [] => by simp [pmSet]
  | 0, _ :: r => by simp [pmSet]
  | 1, o :: r => by simp [pmSet, pmSet_len v 0 r]
  | i + 2, o :: r => by simp [pmSet, pmSet_len v (i + 1) r]
theorem pmNx_len : ∀ l : pmL, (pmNx l).length = l.length
  | [] => rfl
  | _ :: _ => rfl
theorem pmSet2_len (v : Value) : ∀ (i : Nat) (l : pmL), (pmSet2 v i l).length = l.length
  | _, [] => by simp [pmSet2]
  | 0, _ :: r => by simp [pmSet2, pmNx_len]
  | 1, o :: r => by simp [pmSet2, pmSet2_len v 0 r]
  | i + 2, o :: r => by simp [pmSet2, pmSet2_len v (i + 1) r]
theorem pmDel_len : ∀ (i : Nat) (l : pmL), (pmDel i l).length = l.length
  | _, [] => by simp [pmDel]
  | 0, _ :: r => by simp [pmDel]
  | i + 1, o :: r => by simp [pmDel, pmDel_len i r]
theorem pmSet_get (v u : Value) : ∀ (i j : Nat) (l : pmL), pmGet (pmSet v i l) j = some u → (j = i ∧ u = v) ∨ (j ≠ i ∧ pmGet l j = some u ∧ ¬ (j + 1 = i ∧ u.category = 2))
  | _, _, [], h => by simp [pmSet, pmGet] at h
  | 0, 0, _ :: r, h => by simp [pmSet, pmGet] at h; exact Or.inl ⟨rfl, h.symm⟩
  | 0, j + 1, _ :: r, h => by simp [pmSet, pmGet] at h; exact Or.inr ⟨by omega, by simpa [pmGet] using h, by omega⟩
  | 1, 0, o :: r, h => by
    simp only [pmSet, pmGet] at h
    obtain ⟨h1, h2⟩ := pmKl_some h
    exact Or.inr ⟨by omega, by simpa [pmGet] using h1, fun q => h2 q.2⟩
  | 1, j + 1, o :: r, h => by
    simp only [pmSet, pmGet] at h
    rcases pmSet_get v u 0 j r h with ⟨a, b⟩ | ⟨a, b, d⟩
    · exact Or.inl ⟨by omega, b⟩
    · exact Or.inr ⟨by omega, by simpa [pmGet] using b, by omega⟩
  | i + 2, 0, o :: r, h => by
    simp only [pmSet, pmGet] at h
    exact Or.inr ⟨by omega, by simpa [pmGet] using h, by omega⟩
  | i + 2, j + 1, o :: r, h => by
    simp only [pmSet, pmGet] at h
    rcases pmSet_get v u (i + 1) j r h with ⟨a, b⟩ | ⟨a, b, d⟩
    · exact Or.inl ⟨by omega, b⟩
    · exact Or.inr ⟨by omega, by simpa [pmGet] using b, fun q => d ⟨by omega, q.2⟩⟩
theorem pmNx_get (u : Value) : ∀ (j : Nat) (l : pmL), pmGet (pmNx l) j = some u → j ≠ 0 ∧ pmGet l j = some u
  | _, [], h => by simp [pmNx, pmGet] at h
  | 0, _ :: r, h => by simp [pmNx, pmGet] at h
  | j + 1, _ :: r, h => by simp [pmNx, pmGet] at h; exact ⟨by omega, by simpa [pmGet] using h⟩
theorem pmSet2_get (v u : Value) : ∀ (i j : Nat) (l : pmL), pmGet (pmSet2 v i l) j = some u → (j = i ∧ u = v) ∨ (j ≠ i ∧ j ≠ i + 1 ∧ pmGet l j = some u ∧ ¬ (j + 1 = i ∧ u.category = 2))
  | _, _, [], h => by simp [pmSet2, pmGet] at h
  | 0, 0, _ :: r, h => by simp [pmSet2, pmGet] at h; exact Or.inl ⟨rfl, h.symm⟩
  | 0, j + 1, _ :: r, h => by
    simp only [pmSet2, pmGet] at h
    obtain ⟨h1, h2⟩ := pmNx_get u j r h
    exact Or.inr ⟨by omega, by omega, by simpa [pmGet] using h2, by omega⟩
  | 1, 0, o :: r, h => by
    simp only [pmSet2, pmGet] at h
    obtain ⟨h1, h2⟩ := pmKl_some h
    exact Or.inr ⟨by omega, by omega, by simpa [pmGet] using h1, fun q => h2 q.2⟩
  | 1, j + 1, o :: r, h => by
    simp only [pmSet2, pmGet] at h
    rcases pmSet2_get v u 0 j r h with ⟨a, b⟩ | ⟨a, a2, b, d⟩
    · exact Or.inl ⟨by omega, b⟩
    · exact Or.inr ⟨by omega, by omega, by simpa [pmGet] using b, by omega⟩
  | i + 2, 0, o :: r, h => by
    simp only [pmSet2, pmGet] at h
    exact Or.inr ⟨by omega, by omega, by simpa [pmGet] using h, by omega⟩
  | i + 2, j + 1, o :: r, h => by
    simp only [pmSet2, pmGet] at h
    rcases pmSet2_get v u (i + 1) j r h with ⟨a, b⟩ | ⟨a, a2, b, d⟩
    · exact Or.inl ⟨by omega, b⟩
    · exact Or.inr ⟨by omega, by omega, by simpa [pmGet] using b, fun q => d ⟨by omega, q.2⟩⟩
theorem pmDel_get (u : Value) : ∀ (i j : Nat) (l : pmL), pmGet (pmDel i l) j = some u → j ≠ i ∧ pmGet l j = some u
  | _, _, [], h => by simp [pmDel, pmGet] at h
  | 0, 0, _ :: r, h => by simp [pmDel, pmGet] at h
  | 0, j + 1, _ :: r, h => by simp [pmDel, pmGet] at h; exact ⟨by omega, by simpa [pmGet] using h⟩
  | i + 1, 0, o :: r, h => by simp [pmDel, pmGet] at h; exact ⟨by omega, by simpa [pmGet] using h⟩
  | i + 1, j + 1, o :: r, h => by
    simp only [pmDel, pmGet] at h
    obtain ⟨h1, h2⟩ := pmDel_get u i j r h
    exact ⟨by omega, by simpa [pmGet] using h2⟩
/-- the locals as the kit lists them -/
def pmLv (φ : Nat → Nat) (l : pmL) : List (Nat × Value) := (List.range l.length).filterMap (fun i => (pmGet l i).map (fun v => (i, pmV φ v)))
theorem pmGet_lt {l : pmL} {i : Nat} {v : Value} (h : pmGet l i = some v) : i < l.length := by
  rw [pmGet_eq] at h
  cases hq : l[i]? with
  | none => rw [hq] at h; cases h
  | some o => exact (List.getElem?_eq_some_iff.mp hq).1
theorem pmLv_mem {φ : Nat → Nat} {l : pmL} {q : Nat × Value} : q ∈ pmLv φ l ↔ ∃ v, pmGet l q.1 = some v ∧ q.2 = pmV φ v := by
  unfold pmLv
  rw [List.mem_filterMap]
  constructor
  · rintro ⟨i, -, h⟩
    cases hg : pmGet l i with
    | none => rw [hg] at h; cases h
    | some v =>
      rw [hg] at h
      cases h
      exact ⟨v, hg, rfl⟩
  · rintro ⟨v, h1, h2⟩
    refine ⟨q.1, List.mem_range.mpr (pmGet_lt h1), ?_⟩
    rw [h1]
    show some (q.1, pmV φ v) = some q
    rw [← h2]
theorem pmLv_at {φ : Nat → Nat} {l : pmL} {ls : Array Slot} {nL i : Nat} {v : Value} (h : lv_has ls nL (pmLv φ l)) (hg : pmGet l i = some v) : ls[i]? = some (.val (pmV φ v)) := h.2.2 (i, pmV φ v) (pmLv_mem.mpr ⟨v, hg, rfl⟩)
theorem pmLv_set {φ : Nat → Nat} {l : pmL} {ls : Array Slot} {nL i : Nat} {v : Value} (h : lv_has ls nL ((i, pmV φ v) :: (pmLv φ l).filter (fun q => !(q.1 == i) && !(q.1 + 1 == i && q.2.category == 2)))) : lv_has ls nL (pmLv φ (pmSet v i l)) := by
  refine ⟨h.1, h.2.1, fun q hq => ?_⟩
  obtain ⟨u, h1, h2⟩ := pmLv_mem.mp hq
  refine h.2.2 q ?_
  rcases pmSet_get v u i q.1 l h1 with ⟨a, b⟩ | ⟨a, b, d⟩
  · refine List.mem_cons.mpr (Or.inl ?_)
    rw [b] at h2
    exact Prod.ext a h2
  · refine List.mem_cons_of_mem _ (List.mem_filter.mpr ⟨pmLv_mem.mpr ⟨u, b, h2⟩, ?_⟩)
    have hc : q.2.category = u.category := by rw [h2]; exact pmV_cat φ u
    rw [hc]
    simp only [Bool.and_eq_true, Bool.not_eq_true', beq_eq_false_iff_ne, ne_eq, Bool.and_eq_false_iff]
    refine ⟨a, ?_⟩
    by_cases e : q.1 + 1 = i
    · exact Or.inr (fun z => d ⟨e, z⟩)
    · exact Or.inl e
theorem pmLv_set2 {φ : Nat → Nat} {l : pmL} {ls : Array Slot} {nL i : Nat} {v : Value} (h : lv_has ls nL ((i, pmV φ v) :: (pmLv φ l).filter (fun q => !(q.1 == i) && (!(q.1 == i + 1) && !(q.1 + 1 == i && q.2.category == 2))))) : lv_has ls nL (pmLv φ (pmSet2 v i l)) := by
  refine ⟨h.1, h.2.1, fun q hq => ?_⟩
  obtain ⟨u, h1, h2⟩ := pmLv_mem.mp hq
  refine h.2.2 q ?_
  rcases pmSet2_get v u i q.1 l h1 with ⟨a, b⟩ | ⟨a, a2, b, d⟩
  · refine List.mem_cons.mpr (Or.inl ?_)
    rw [b] at h2
    exact Prod.ext a h2
  · refine List.mem_cons_of_mem _ (List.mem_filter.mpr ⟨pmLv_mem.mpr ⟨u, b, h2⟩, ?_⟩)
    have hc : q.2.category = u.category := by rw [h2]; exact pmV_cat φ u
    rw [hc]
    simp only [Bool.and_eq_true, Bool.not_eq_true', beq_eq_false_iff_ne, ne_eq, Bool.and_eq_false_iff]
    refine ⟨a, a2, ?_⟩
    by_cases e : q.1 + 1 = i
    · exact Or.inr (fun z => d ⟨e, z⟩)
    · exact Or.inl e
theorem pmLv_del {φ : Nat → Nat} {l : pmL} {ls : Array Slot} {nL i : Nat} {x : Value} (h : lv_has ls nL ((i, x) :: (pmLv φ l).filter (fun q => !(q.1 == i) && !(q.1 + 1 == i && q.2.category == 2)))) (h2 : ∀ v, pmGet l (i - 1) = some v → 0 < i → ¬ v.category = 2) : lv_has ls nL (pmLv φ (pmDel i l)) := by
  refine ⟨h.1, h.2.1, fun q hq => ?_⟩
  obtain ⟨u, h1, h3⟩ := pmLv_mem.mp hq
  obtain ⟨a, b⟩ := pmDel_get u i q.1 l h1
  refine h.2.2 q (List.mem_cons_of_mem _ (List.mem_filter.mpr ⟨pmLv_mem.mpr ⟨u, b, h3⟩, ?_⟩))
  have hc : q.2.category = u.category := by rw [h3]; exact pmV_cat φ u
  rw [hc]
  simp only [Bool.and_eq_true, Bool.not_eq_true', beq_eq_false_iff_ne, ne_eq, Bool.and_eq_false_iff]
  refine ⟨a, ?_⟩
  by_cases e : q.1 + 1 = i
  · exact Or.inr (h2 u (by rw [← e]; simpa using b) (by omega))
  · exact Or.inl e
/-- a step that leaves the world alone: x, k are what the instruction names (a place, a target, a number) -/
def pmA (i : Instr) (x : Nat) (k : Int32) (pc : Nat) (l : pmL) (st : List Value) : Option (Nat × pmL × List Value) :=
  match i with
  | .iconst n => some (pc + 1, l, .int k :: st)
  | .bipush n => some (pc + 2, l, .int k :: st)
  | .sipush n => some (pc + 3, l, .int k :: st)
  | .lconst n => some (pc + 1, l, .long (Int64.ofNat x) :: st)
  | .ldc n => some (pc + 2, l, .int k :: st)
  | .ldc_w n => some (pc + 3, l, .int k :: st)
  | .ldc2_w n => some (pc + 3, l, .long (Int64.ofNat x) :: st)
  | .iload n => (match pmGet l x with
    | some (.int v) => some (pc + 2, l, .int v :: st)
    | _ => none)
  | .iload_n n => (match pmGet l x with
    | some (.int v) => some (pc + 1, l, .int v :: st)
    | _ => none)
  | .lload n => (match pmGet l x with
    | some (.long v) => some (pc + 2, l, .long v :: st)
    | _ => none)
  | .lload_n n => (match pmGet l x with
    | some (.long v) => some (pc + 1, l, .long v :: st)
    | _ => none)
  | .aload n => (match pmGet l x with
    | some (.ref v) => some (pc + 2, l, .ref v :: st)
    | _ => none)
  | .aload_n n => (match pmGet l x with
    | some (.ref v) => some (pc + 1, l, .ref v :: st)
    | _ => none)
  | .istore n => (match st with
    | .int v :: r => some (pc + 2, pmSet (.int v) x l, r)
    | _ => none)
  | .istore_n n => (match st with
    | .int v :: r => some (pc + 1, pmSet (.int v) x l, r)
    | _ => none)
  | .astore n => (match st with
    | .ref v :: r => some (pc + 2, pmSet (.ref v) x l, r)
    | _ => none)
  | .astore_n n => (match st with
    | .ref v :: r => some (pc + 1, pmSet (.ref v) x l, r)
    | _ => none)
  | .lstore n => (match st with
    | .long v :: r => some (pc + 2, pmSet2 (.long v) x l, r)
    | _ => none)
  | .lstore_n n => (match st with
    | .long v :: r => some (pc + 1, pmSet2 (.long v) x l, r)
    | _ => none)
  | .iinc n d => (match pmGet l x with
    | some (.int v) => some (pc + 3, pmSet (.int (v + k)) x l, st)
    | _ => none)
  | .dup => (match st with
    | .int v :: r => some (pc + 1, l, .int v :: .int v :: r)
    | .ref v :: r => some (pc + 1, l, .ref v :: .ref v :: r)
    | _ => none)
  | .dup2 => (match st with
    | .int u :: .ref v :: r => some (pc + 1, l, .int u :: .ref v :: .int u :: .ref v :: r)
    | _ => none)
  | .pop => (match st with
    | .int _ :: r => some (pc + 1, l, r)
    | _ => none)
  | .iadd => (match st with
    | .int v :: .int u :: r => some (pc + 1, l, .int (u + v) :: r)
    | _ => none)
  | .isub => (match st with
    | .int v :: .int u :: r => some (pc + 1, l, .int (u - v) :: r)
    | _ => none)
  | .imul => (match st with
    | .int v :: .int u :: r => some (pc + 1, l, .int (u * v) :: r)
    | _ => none)
  | .iand => (match st with
    | .int v :: .int u :: r => some (pc + 1, l, .int (u &&& v) :: r)
    | _ => none)
  | .ior => (match st with
    | .int v :: .int u :: r => some (pc + 1, l, .int (u ||| v) :: r)
    | _ => none)
  | .ixor => (match st with
    | .int v :: .int u :: r => some (pc + 1, l, .int (u ^^^ v) :: r)
    | _ => none)
  | .ishl => (match st with
    | .int v :: .int u :: r => some (pc + 1, l, .int (u <<< (v &&& 31)) :: r)
    | _ => none)
  | .ishr => (match st with
    | .int v :: .int u :: r => some (pc + 1, l, .int (u >>> (v &&& 31)) :: r)
    | _ => none)
  | .iushr => (match st with
    | .int v :: .int u :: r => some (pc + 1, l, .int ((u.toUInt32 >>> (v.toUInt32 &&& Int32.toUInt32 31)).toInt32) :: r)
    | _ => none)
  | .idiv => (match st with
    | .int v :: .int u :: r => if v = 0 then none else some (pc + 1, l, .int (u / v) :: r)
    | _ => none)
  | .irem => (match st with
    | .int v :: .int u :: r => if v = 0 then none else some (pc + 1, l, .int (u - u / v * v) :: r)
    | _ => none)
  | .ineg => (match st with
    | .int u :: r => some (pc + 1, l, .int (-u) :: r)
    | _ => none)
  | .i2l => (match st with
    | .int u :: r => some (pc + 1, l, .long u.toInt64 :: r)
    | _ => none)
  | .l2i => (match st with
    | .long u :: r => some (pc + 1, l, .int u.toInt32 :: r)
    | _ => none)
  | .ladd => (match st with
    | .long v :: .long u :: r => some (pc + 1, l, .long (u + v) :: r)
    | _ => none)
  | .lsub => (match st with
    | .long v :: .long u :: r => some (pc + 1, l, .long (u - v) :: r)
    | _ => none)
  | .land => (match st with
    | .long v :: .long u :: r => some (pc + 1, l, .long (u &&& v) :: r)
    | _ => none)
  | .lor => (match st with
    | .long v :: .long u :: r => some (pc + 1, l, .long (u ||| v) :: r)
    | _ => none)
  | .lshl => (match st with
    | .int v :: .long u :: r => some (pc + 1, l, .long (u <<< (v.toInt64 &&& 63)) :: r)
    | _ => none)
  | .lcmp => (match st with
    | .long v :: .long u :: r => some (pc + 1, l, .int (lg_cmp u v) :: r)
    | _ => none)
  | .ifCond .eq off => (match st with
    | .int v :: r => if v = 0 then some (x, l, r) else some (pc + 3, l, r)
    | _ => none)
  | .ifCond .ne off => (match st with
    | .int v :: r => if v ≠ 0 then some (x, l, r) else some (pc + 3, l, r)
    | _ => none)
  | .ifCond .lt off => (match st with
    | .int v :: r => if v < 0 then some (x, l, r) else some (pc + 3, l, r)
    | _ => none)
  | .ifCond .ge off => (match st with
    | .int v :: r => if 0 ≤ v then some (x, l, r) else some (pc + 3, l, r)
    | _ => none)
  | .ifCond .gt off => (match st with
    | .int v :: r => if 0 < v then some (x, l, r) else some (pc + 3, l, r)
    | _ => none)
  | .ifCond .le off => (match st with
    | .int v :: r => if v ≤ 0 then some (x, l, r) else some (pc + 3, l, r)
    | _ => none)
  | .if_icmp .eq off => (match st with
    | .int v :: .int u :: r => if u = v then some (x, l, r) else some (pc + 3, l, r)
    | _ => none)
  | .if_icmp .ne off => (match st with
    | .int v :: .int u :: r => if u ≠ v then some (x, l, r) else some (pc + 3, l, r)
    | _ => none)
  | .if_icmp .lt off => (match st with
    | .int v :: .int u :: r => if u < v then some (x, l, r) else some (pc + 3, l, r)
    | _ => none)
  | .if_icmp .ge off => (match st with
    | .int v :: .int u :: r => if v ≤ u then some (x, l, r) else some (pc + 3, l, r)
    | _ => none)
  | .if_icmp .gt off => (match st with
    | .int v :: .int u :: r => if v < u then some (x, l, r) else some (pc + 3, l, r)
    | _ => none)
  | .if_icmp .le off => (match st with
    | .int v :: .int u :: r => if u ≤ v then some (x, l, r) else some (pc + 3, l, r)
    | _ => none)
  | .goto off => some (x, l, st)
  | .tableswitch d lo hi offs => (match st with
    | .int v :: r => if v.toInt < lo ∨ hi < v.toInt then some (((pc : Int) + d).toNat, l, r) else (match offs[(v.toInt - lo).toNat]? with
      | some off => some (((pc : Int) + off).toNat, l, r)
      | none => none)
    | _ => none)
  | _ => none
/-- the row of the pure code is what the bytes say -/
def pmOkA (own : String) (mb : Cond → Bool) (cc : ByteArray) (nL pc : Nat) (i : Instr) (x : Nat) (k : Int32) : Bool :=
  match i with
  | .iconst n => decide (decode cc pc = .ok (.iconst n, 1)) && decide (Int32.ofInt n = k)
  | .bipush n => decide (decode cc pc = .ok (.bipush n, 2)) && decide ((Int8.ofInt n).toInt32 = k)
  | .sipush n => decide (decode cc pc = .ok (.sipush n, 3)) && decide ((Int16.ofInt n).toInt32 = k)
  | .lconst n => decide (decode cc pc = .ok (.lconst n, 1)) && decide ((n : Nat) = x)
  | .ldc n => decide (decode cc pc = .ok (.ldc n, 2)) && mb (Jvm.Cond.constant own n k)
  | .ldc_w n => decide (decode cc pc = .ok (.ldc_w n, 3)) && mb (Jvm.Cond.constant own n k)
  | .ldc2_w n => decide (decode cc pc = .ok (.ldc2_w n, 3)) && mb (Jvm.Cond.constantLong own n (Int64.ofNat x))
  | .iload n => decide (decode cc pc = .ok (.iload n, 2)) && decide (n = x)
  | .iload_n n => decide (decode cc pc = .ok (.iload_n n, 1)) && decide ((n : Nat) = x)
  | .lload n => decide (decode cc pc = .ok (.lload n, 2)) && decide (n = x)
  | .lload_n n => decide (decode cc pc = .ok (.lload_n n, 1)) && decide ((n : Nat) = x)
  | .aload n => decide (decode cc pc = .ok (.aload n, 2)) && decide (n = x)
  | .aload_n n => decide (decode cc pc = .ok (.aload_n n, 1)) && decide ((n : Nat) = x)
  | .istore n => decide (decode cc pc = .ok (.istore n, 2)) && (decide (n = x) && decide (x < nL))
  | .istore_n n => decide (decode cc pc = .ok (.istore_n n, 1)) && (decide ((n : Nat) = x) && decide (x < nL))
  | .astore n => decide (decode cc pc = .ok (.astore n, 2)) && (decide (n = x) && decide (x < nL))
  | .astore_n n => decide (decode cc pc = .ok (.astore_n n, 1)) && (decide ((n : Nat) = x) && decide (x < nL))
  | .lstore n => decide (decode cc pc = .ok (.lstore n, 2)) && (decide (n = x) && decide (x + 1 < nL))
  | .lstore_n n => decide (decode cc pc = .ok (.lstore_n n, 1)) && (decide ((n : Nat) = x) && decide (x + 1 < nL))
  | .iinc n d => decide (decode cc pc = .ok (.iinc n d, 3)) && (decide (n = x) && (decide (x < nL) && decide (Int32.ofInt d = k)))
  | .dup => decide (decode cc pc = .ok (.dup, 1))
  | .dup2 => decide (decode cc pc = .ok (.dup2, 1))
  | .pop => decide (decode cc pc = .ok (.pop, 1))
  | .iadd => decide (decode cc pc = .ok (.iadd, 1))
  | .isub => decide (decode cc pc = .ok (.isub, 1))
  | .imul => decide (decode cc pc = .ok (.imul, 1))
  | .iand => decide (decode cc pc = .ok (.iand, 1))
  | .ior => decide (decode cc pc = .ok (.ior, 1))
  | .ixor => decide (decode cc pc = .ok (.ixor, 1))
  | .ishl => decide (decode cc pc = .ok (.ishl, 1))
  | .ishr => decide (decode cc pc = .ok (.ishr, 1))
  | .iushr => decide (decode cc pc = .ok (.iushr, 1))
  | .idiv => decide (decode cc pc = .ok (.idiv, 1))
  | .irem => decide (decode cc pc = .ok (.irem, 1))
  | .ineg => decide (decode cc pc = .ok (.ineg, 1))
  | .i2l => decide (decode cc pc = .ok (.i2l, 1))
  | .l2i => decide (decode cc pc = .ok (.l2i, 1))
  | .ladd => decide (decode cc pc = .ok (.ladd, 1))
  | .lsub => decide (decode cc pc = .ok (.lsub, 1))
  | .land => decide (decode cc pc = .ok (.land, 1))
  | .lor => decide (decode cc pc = .ok (.lor, 1))
  | .lshl => decide (decode cc pc = .ok (.lshl, 1))
  | .lcmp => decide (decode cc pc = .ok (.lcmp, 1))
  | .ifCond .eq off => decide (decode cc pc = .ok (.ifCond .eq off, 3)) && decide ((pc : Int) + off = (x : Int))
  | .ifCond .ne off => decide (decode cc pc = .ok (.ifCond .ne off, 3)) && decide ((pc : Int) + off = (x : Int))
  | .ifCond .lt off => decide (decode cc pc = .ok (.ifCond .lt off, 3)) && decide ((pc : Int) + off = (x : Int))
  | .ifCond .ge off => decide (decode cc pc = .ok (.ifCond .ge off, 3)) && decide ((pc : Int) + off = (x : Int))
  | .ifCond .gt off => decide (decode cc pc = .ok (.ifCond .gt off, 3)) && decide ((pc : Int) + off = (x : Int))
  | .ifCond .le off => decide (decode cc pc = .ok (.ifCond .le off, 3)) && decide ((pc : Int) + off = (x : Int))
  | .if_icmp .eq off => decide (decode cc pc = .ok (.if_icmp .eq off, 3)) && decide ((pc : Int) + off = (x : Int))
  | .if_icmp .ne off => decide (decode cc pc = .ok (.if_icmp .ne off, 3)) && decide ((pc : Int) + off = (x : Int))
  | .if_icmp .lt off => decide (decode cc pc = .ok (.if_icmp .lt off, 3)) && decide ((pc : Int) + off = (x : Int))
  | .if_icmp .ge off => decide (decode cc pc = .ok (.if_icmp .ge off, 3)) && decide ((pc : Int) + off = (x : Int))
  | .if_icmp .gt off => decide (decode cc pc = .ok (.if_icmp .gt off, 3)) && decide ((pc : Int) + off = (x : Int))
  | .if_icmp .le off => decide (decode cc pc = .ok (.if_icmp .le off, 3)) && decide ((pc : Int) + off = (x : Int))
  | .goto off => decide (decode cc pc = .ok (.goto off, 3)) && decide ((pc : Int) + off = (x : Int))
  | .tableswitch d lo hi offs => decide (decode cc pc = .ok (.tableswitch d lo hi offs, x)) && (decide (0 ≤ (pc : Int) + d) && offs.all (fun off => decide (0 ≤ (pc : Int) + off)))
  | _ => false
section PMA
variable {p : Program} {l : Launch} {e : Env} {R : Room} {s : State} {m : MethodId} {args : Array Value} {below : List Frame} {meth : Method} {c : Code} {H : Heap} {locs : List Loc} {cells slots : Nat} {Q : State → Prop}
variable {cc : ByteArray} {nL pc pc1 x : Nat} {k : Int32} {lo lo1 : pmL} {st st1 : List Value} {φ : Nat → Nat} {own : String} {mb : Cond → Bool} {ls : Array Slot}
set_option maxHeartbeats 4000000 in
theorem pm_soundA (hx : p.tables.exec = Jvm.exec) (hb : c.code = cc) (hown : s.vm.findClass own = some m.cls) (hts : ∀ w, mb w = true → w.before args s = true) {i : Instr}
    (ok : pmOkA own mb cc nL pc i x k = true) (h : pmA i x k pc lo st = some (pc1, lo1, st1)) (hl : lv_has ls nL (pmLv φ lo))
    (kk : ∀ ls1, lv_has ls1 nL (pmLv φ lo1) → W p l e R s m args below meth c H locs cells slots Q (F0 m pc1 ls1 (st1.map (pmV φ)))) :
    W p l e R s m args below meth c H locs cells slots Q (F0 m pc ls (st.map (pmV φ))) := by
  unfold pmA at h
  split at h
  · -- .iconst n
    simp only [pmOkA, Bool.and_eq_true, decide_eq_true_eq] at ok
    cases h
    exact lv_iconst hx hb ok.1 ok.2 (kk ls hl)
  · -- .bipush n
    simp only [pmOkA, Bool.and_eq_true, decide_eq_true_eq] at ok
    cases h
    exact lv_bipush hx hb ok.1 ok.2 (kk ls hl)
  · -- .sipush n
    simp only [pmOkA, Bool.and_eq_true, decide_eq_true_eq] at ok
    cases h
    exact lv_sipush hx hb ok.1 ok.2 (kk ls hl)
  · -- .lconst n
    simp only [pmOkA, Bool.and_eq_true, decide_eq_true_eq] at ok
    cases h
    exact lv_lconst hx hb ok.1 (by rw [ok.2]) (kk ls hl)
  · -- .ldc n
    simp only [pmOkA, Bool.and_eq_true, decide_eq_true_eq] at ok
    cases h
    exact lv_ldc hx hb hown (hts _ ok.2) ok.1 (kk ls hl)
  · -- .ldc_w n
    simp only [pmOkA, Bool.and_eq_true, decide_eq_true_eq] at ok
    cases h
    exact lv_ldcw hx hb hown (hts _ ok.2) ok.1 (kk ls hl)
  · -- .ldc2_w n
    simp only [pmOkA, Bool.and_eq_true, decide_eq_true_eq] at ok
    cases h
    exact lv_ldc2 hx hb hown (hts _ ok.2) ok.1 (kk ls hl)
  · -- .iload n
    simp only [pmOkA, Bool.and_eq_true, decide_eq_true_eq] at ok
    split at h
    · rename_i v hg; cases h
      exact lv_iload hx hb ok.1 (by rw [ok.2]; exact pmLv_at hl hg) (kk ls hl)
    · cases h
  · -- .iload_n n
    simp only [pmOkA, Bool.and_eq_true, decide_eq_true_eq] at ok
    split at h
    · rename_i v hg; cases h
      exact lv_iload_n hx hb ok.1 ok.2 (pmLv_at hl hg) (kk ls hl)
    · cases h
  · -- .lload n
    simp only [pmOkA, Bool.and_eq_true, decide_eq_true_eq] at ok
    split at h
    · rename_i v hg; cases h
      exact lv_lload hx hb ok.1 (by rw [ok.2]; exact pmLv_at hl hg) (kk ls hl)
    · cases h
  · -- .lload_n n
    simp only [pmOkA, Bool.and_eq_true, decide_eq_true_eq] at ok
    split at h
    · rename_i v hg; cases h
      exact lv_lload_n hx hb ok.1 ok.2 (pmLv_at hl hg) (kk ls hl)
    · cases h
  · -- .aload n
    simp only [pmOkA, Bool.and_eq_true, decide_eq_true_eq] at ok
    split at h
    · rename_i v hg; cases h
      exact lv_aload hx hb ok.1 (by rw [ok.2]; exact pmLv_at hl hg) (kk ls hl)
    · cases h
  · -- .aload_n n
    simp only [pmOkA, Bool.and_eq_true, decide_eq_true_eq] at ok
    split at h
    · rename_i v hg; cases h
      exact lv_aload_n hx hb ok.1 ok.2 (pmLv_at hl hg) (kk ls hl)
    · cases h
  · -- .istore n
    simp only [pmOkA, Bool.and_eq_true, decide_eq_true_eq] at ok
    split at h
    · cases h
      obtain ⟨o1, o2, o3⟩ := ok
      subst o2
      exact lv_istore hx hb o1 hl o3 rfl (fun ls1 h1 => kk ls1 (pmLv_set h1))
    · cases h
  · -- .istore_n n
    simp only [pmOkA, Bool.and_eq_true, decide_eq_true_eq] at ok
    split at h
    · cases h
      exact lv_istore_n hx hb ok.1 ok.2.1 hl ok.2.2 rfl (fun ls1 h1 => kk ls1 (pmLv_set h1))
    · cases h
  · -- .astore n
    simp only [pmOkA, Bool.and_eq_true, decide_eq_true_eq] at ok
    split at h
    · cases h
      obtain ⟨o1, o2, o3⟩ := ok
      subst o2
      exact lv_astore hx hb o1 hl o3 rfl (fun ls1 h1 => kk ls1 (pmLv_set h1))
    · cases h
  · -- .astore_n n
    simp only [pmOkA, Bool.and_eq_true, decide_eq_true_eq] at ok
    split at h
    · cases h
      exact lv_astore_n hx hb ok.1 ok.2.1 hl ok.2.2 rfl (fun ls1 h1 => kk ls1 (pmLv_set h1))
    · cases h
  · -- .lstore n
    simp only [pmOkA, Bool.and_eq_true, decide_eq_true_eq] at ok
    split at h
    · cases h
      obtain ⟨o1, o2, o3⟩ := ok
      subst o2
      exact lv_lstore hx hb o1 hl o3 rfl (fun ls1 h1 => kk ls1 (pmLv_set2 h1))
    · cases h
  · -- .lstore_n n
    simp only [pmOkA, Bool.and_eq_true, decide_eq_true_eq] at ok
    split at h
    · cases h
      exact lv_lstore_n hx hb ok.1 ok.2.1 hl ok.2.2 rfl (fun ls1 h1 => kk ls1 (pmLv_set2 h1))
    · cases h
  · -- .iinc n d
    simp only [pmOkA, Bool.and_eq_true, decide_eq_true_eq] at ok
    split at h
    · rename_i v hg; cases h
      obtain ⟨o1, o2, o3, o4⟩ := ok
      subst o2
      obtain ⟨j, hj⟩ := List.getElem?_of_mem (pmLv_mem.mpr ⟨_, hg, rfl⟩ : (_, pmV φ (.int v)) ∈ pmLv φ lo)
      exact lv_iinc hx hb o1 hl hj (by rw [o4]) o3 rfl (fun ls1 h1 => kk ls1 (pmLv_set h1))
    · cases h
  · -- .dup
    simp only [pmOkA, Bool.and_eq_true, decide_eq_true_eq] at ok
    split at h
    · cases h
      exact lv_dup hx hb ok rfl (kk ls hl)
    · cases h
      exact lv_dup hx hb ok rfl (kk ls hl)
    · cases h
  · -- .dup2
    simp only [pmOkA, Bool.and_eq_true, decide_eq_true_eq] at ok
    split at h
    · cases h
      exact lv_dup2_11 hx hb ok rfl rfl (kk ls hl)
    · cases h
  · -- .pop
    simp only [pmOkA, Bool.and_eq_true, decide_eq_true_eq] at ok
    split at h
    · cases h
      exact lv_pop hx hb ok rfl (kk ls hl)
    · cases h
  · -- .iadd
    simp only [pmOkA, Bool.and_eq_true, decide_eq_true_eq] at ok
    split at h
    · cases h
      exact lv_iadd hx hb ok (kk ls hl)
    · cases h
  · -- .isub
    simp only [pmOkA, Bool.and_eq_true, decide_eq_true_eq] at ok
    split at h
    · cases h
      exact lv_isub hx hb ok (kk ls hl)
    · cases h
  · -- .imul
    simp only [pmOkA, Bool.and_eq_true, decide_eq_true_eq] at ok
    split at h
    · cases h
      exact lv_imul hx hb ok (kk ls hl)
    · cases h
  · -- .iand
    simp only [pmOkA, Bool.and_eq_true, decide_eq_true_eq] at ok
    split at h
    · cases h
      exact lv_iand hx hb ok (kk ls hl)
    · cases h
  · -- .ior
    simp only [pmOkA, Bool.and_eq_true, decide_eq_true_eq] at ok
    split at h
    · cases h
      exact lv_ior hx hb ok (kk ls hl)
    · cases h
  · -- .ixor
    simp only [pmOkA, Bool.and_eq_true, decide_eq_true_eq] at ok
    split at h
    · cases h
      exact lv_ixor hx hb ok (kk ls hl)
    · cases h
  · -- .ishl
    simp only [pmOkA, Bool.and_eq_true, decide_eq_true_eq] at ok
    split at h
    · cases h
      exact lv_ishl hx hb ok (kk ls hl)
    · cases h
  · -- .ishr
    simp only [pmOkA, Bool.and_eq_true, decide_eq_true_eq] at ok
    split at h
    · cases h
      exact lv_ishr hx hb ok (kk ls hl)
    · cases h
  · -- .iushr
    simp only [pmOkA, Bool.and_eq_true, decide_eq_true_eq] at ok
    split at h
    · cases h
      exact lv_iushr hx hb ok rfl (kk ls hl)
    · cases h
  · -- .idiv
    simp only [pmOkA, Bool.and_eq_true, decide_eq_true_eq] at ok
    split at h
    · split at h
      · cases h
      · rename_i hz; cases h
        exact lv_idiv hx hb ok hz (kk ls hl)
    · cases h
  · -- .irem
    simp only [pmOkA, Bool.and_eq_true, decide_eq_true_eq] at ok
    split at h
    · split at h
      · cases h
      · rename_i hz; cases h
        exact lv_irem hx hb ok hz (kk ls hl)
    · cases h
  · -- .ineg
    simp only [pmOkA, Bool.and_eq_true, decide_eq_true_eq] at ok
    split at h
    · cases h
      exact lv_ineg hx hb ok (kk ls hl)
    · cases h
  · -- .i2l
    simp only [pmOkA, Bool.and_eq_true, decide_eq_true_eq] at ok
    split at h
    · cases h
      exact lv_i2l hx hb ok rfl (kk ls hl)
    · cases h
  · -- .l2i
    simp only [pmOkA, Bool.and_eq_true, decide_eq_true_eq] at ok
    split at h
    · cases h
      exact lv_l2i hx hb ok rfl (kk ls hl)
    · cases h
  · -- .ladd
    simp only [pmOkA, Bool.and_eq_true, decide_eq_true_eq] at ok
    split at h
    · cases h
      exact lv_ladd hx hb ok (kk ls hl)
    · cases h
  · -- .lsub
    simp only [pmOkA, Bool.and_eq_true, decide_eq_true_eq] at ok
    split at h
    · cases h
      exact lv_lsub hx hb ok (kk ls hl)
    · cases h
  · -- .land
    simp only [pmOkA, Bool.and_eq_true, decide_eq_true_eq] at ok
    split at h
    · cases h
      exact lv_land hx hb ok (kk ls hl)
    · cases h
  · -- .lor
    simp only [pmOkA, Bool.and_eq_true, decide_eq_true_eq] at ok
    split at h
    · cases h
      exact lv_lor hx hb ok (kk ls hl)
    · cases h
  · -- .lshl
    simp only [pmOkA, Bool.and_eq_true, decide_eq_true_eq] at ok
    split at h
    · cases h
      exact lv_lshl hx hb ok rfl (kk ls hl)
    · cases h
  · -- .lcmp
    simp only [pmOkA, Bool.and_eq_true, decide_eq_true_eq] at ok
    split at h
    · cases h
      exact W.lcmp hx hb ok (kk ls hl)
    · cases h
  · -- .ifCond .eq off
    simp only [pmOkA, Bool.and_eq_true, decide_eq_true_eq] at ok
    split at h
    · split at h
      · rename_i hc; cases h
        exact lv_if_eq hx hb ok.1 ok.2 (fun _ => kk ls hl) (fun hn => absurd hc hn)
      · rename_i hc; cases h
        exact lv_if_eq hx hb ok.1 ok.2 (fun hn => absurd hn hc) (fun _ => kk ls hl)
    · cases h
  · -- .ifCond .ne off
    simp only [pmOkA, Bool.and_eq_true, decide_eq_true_eq] at ok
    split at h
    · split at h
      · rename_i hc; cases h
        exact lv_if_ne hx hb ok.1 ok.2 (fun _ => kk ls hl) (fun hn => absurd hn hc)
      · rename_i hc; cases h
        exact lv_if_ne hx hb ok.1 ok.2 (fun hn => absurd hn hc) (fun _ => kk ls hl)
    · cases h
  · -- .ifCond .lt off
    simp only [pmOkA, Bool.and_eq_true, decide_eq_true_eq] at ok
    split at h
    · split at h
      · rename_i hc; cases h
        exact lv_if_lt hx hb ok.1 ok.2 (fun _ => kk ls hl) (fun hn => absurd hc hn)
      · rename_i hc; cases h
        exact lv_if_lt hx hb ok.1 ok.2 (fun hn => absurd hn hc) (fun _ => kk ls hl)
    · cases h
  · -- .ifCond .ge off
    simp only [pmOkA, Bool.and_eq_true, decide_eq_true_eq] at ok
    split at h
    · split at h
      · rename_i hc; cases h
        exact lv_if_ge hx hb ok.1 ok.2 (fun _ => kk ls hl) (fun hn => absurd hc hn)
      · rename_i hc; cases h
        exact lv_if_ge hx hb ok.1 ok.2 (fun hn => absurd hn hc) (fun _ => kk ls hl)
    · cases h
  · -- .ifCond .gt off
    simp only [pmOkA, Bool.and_eq_true, decide_eq_true_eq] at ok
    split at h
    · split at h
      · rename_i hc; cases h
        exact lv_if_gt hx hb ok.1 ok.2 (fun _ => kk ls hl) (fun hn => absurd hc hn)
      · rename_i hc; cases h
        exact lv_if_gt hx hb ok.1 ok.2 (fun hn => absurd hn hc) (fun _ => kk ls hl)
    · cases h
  · -- .ifCond .le off
    simp only [pmOkA, Bool.and_eq_true, decide_eq_true_eq] at ok
    split at h
    · split at h
      · rename_i hc; cases h
        exact lv_if_le hx hb ok.1 ok.2 (fun _ => kk ls hl) (fun hn => absurd hc hn)
      · rename_i hc; cases h
        exact lv_if_le hx hb ok.1 ok.2 (fun hn => absurd hn hc) (fun _ => kk ls hl)
    · cases h
  · -- .if_icmp .eq off
    simp only [pmOkA, Bool.and_eq_true, decide_eq_true_eq] at ok
    split at h
    · split at h
      · rename_i hc; cases h
        exact lv_icmp_eq hx hb ok.1 ok.2 (fun _ => kk ls hl) (fun hn => absurd hc hn)
      · rename_i hc; cases h
        exact lv_icmp_eq hx hb ok.1 ok.2 (fun hn => absurd hn hc) (fun _ => kk ls hl)
    · cases h
  · -- .if_icmp .ne off
    simp only [pmOkA, Bool.and_eq_true, decide_eq_true_eq] at ok
    split at h
    · split at h
      · rename_i hc; cases h
        exact lv_icmp_ne hx hb ok.1 ok.2 (fun _ => kk ls hl) (fun hn => absurd hn hc)
      · rename_i hc; cases h
        exact lv_icmp_ne hx hb ok.1 ok.2 (fun hn => absurd hn hc) (fun _ => kk ls hl)
    · cases h
  · -- .if_icmp .lt off
    simp only [pmOkA, Bool.and_eq_true, decide_eq_true_eq] at ok
    split at h
    · split at h
      · rename_i hc; cases h
        exact lv_icmp_lt hx hb ok.1 ok.2 (fun _ => kk ls hl) (fun hn => absurd hc hn)
      · rename_i hc; cases h
        exact lv_icmp_lt hx hb ok.1 ok.2 (fun hn => absurd hn hc) (fun _ => kk ls hl)
    · cases h
  · -- .if_icmp .ge off
    simp only [pmOkA, Bool.and_eq_true, decide_eq_true_eq] at ok
    split at h
    · split at h
      · rename_i hc; cases h
        exact lv_icmp_ge hx hb ok.1 ok.2 (fun _ => kk ls hl) (fun hn => absurd hc hn)
      · rename_i hc; cases h
        exact lv_icmp_ge hx hb ok.1 ok.2 (fun hn => absurd hn hc) (fun _ => kk ls hl)
    · cases h
  · -- .if_icmp .gt off
    simp only [pmOkA, Bool.and_eq_true, decide_eq_true_eq] at ok
    split at h
    · split at h
      · rename_i hc; cases h
        exact lv_icmp_gt hx hb ok.1 ok.2 (fun _ => kk ls hl) (fun hn => absurd hc hn)
      · rename_i hc; cases h
        exact lv_icmp_gt hx hb ok.1 ok.2 (fun hn => absurd hn hc) (fun _ => kk ls hl)
    · cases h
  · -- .if_icmp .le off
    simp only [pmOkA, Bool.and_eq_true, decide_eq_true_eq] at ok
    split at h
    · split at h
      · rename_i hc; cases h
        exact lv_icmp_le hx hb ok.1 ok.2 (fun _ => kk ls hl) (fun hn => absurd hc hn)
      · rename_i hc; cases h
        exact lv_icmp_le hx hb ok.1 ok.2 (fun hn => absurd hn hc) (fun _ => kk ls hl)
    · cases h
  · -- .goto off
    simp only [pmOkA, Bool.and_eq_true, decide_eq_true_eq] at ok
    cases h
    exact lv_goto hx hb ok.1 ok.2 (kk ls hl)
  · -- .tableswitch d lo hi offs
    simp only [pmOkA, Bool.and_eq_true, decide_eq_true_eq] at ok
    split at h
    · split at h
      · rename_i hc; cases h
        exact lv_tableOut hx hb ok.1 hc (by omega) (kk ls hl)
      · rename_i hc
        split at h
        · rename_i off ho; cases h
          have hq := Array.all_eq_true_iff_forall_mem.mp ok.2.2 off (Array.mem_of_getElem? ho)
          simp only [decide_eq_true_eq] at hq
          exact lv_tableIn hx hb ok.1 (fun z => hc (Or.inl z)) (fun z => hc (Or.inr z)) ho (by omega) (kk ls hl)
        · cases h
    · cases h
  · cases h
end PMA
