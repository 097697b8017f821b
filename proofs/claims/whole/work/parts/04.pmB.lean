/-! ===== THE PURE MACHINE (2): its world ===== -/
abbrev pmH : Type := Nat → (FieldType × Nat) ⊕ Nat
/-- how many cells; cells and slots made so far; what each cell is; references; ints; longs, by cell and place -/
abbrev pmW : Type := Nat × Nat × Nat × pmH × (Nat → Nat → Option Nat) × (Nat → Nat → Int32) × (Nat → Nat → Int64)
abbrev pmn (w : pmW) : Nat := w.1
abbrev pmnc (w : pmW) : Nat := w.2.1
abbrev pmns (w : pmW) : Nat := w.2.2.1
abbrev pmh (w : pmW) : pmH := w.2.2.2.1
abbrev pmr (w : pmW) : Nat → Nat → Option Nat := w.2.2.2.2.1
abbrev pmi (w : pmW) : Nat → Nat → Int32 := w.2.2.2.2.2.1
abbrev pmj (w : pmW) : Nat → Nat → Int64 := w.2.2.2.2.2.2
def pmRf : Option Nat → Value
  | some b => .ref b
  | none => .null
def pmRd (w : pmW) (a k : Nat) (t : FieldType) : Value := match t with
  | .object _ => pmRf (pmr w a k)
  | .array _ => pmRf (pmr w a k)
  | .long => .long (pmj w a k)
  | _ => .int (pmi w a k)
def pmUI (f : Nat → Nat → Int32) (a k : Nat) (v : Int32) : Nat → Nat → Int32 := fun b => if b = a then upd (f a) k v else f b
def pmUJ (f : Nat → Nat → Int64) (a k : Nat) (v : Int64) : Nat → Nat → Int64 := fun b => if b = a then vp_updL (f a) k v else f b
def pmUR (f : Nat → Nat → Option Nat) (a k : Nat) (v : Option Nat) : Nat → Nat → Option Nat := fun b => if b = a then va_up (f a) k v else f b
def pmWr (w : pmW) (a k : Nat) (t : FieldType) (v : Value) : Option pmW := match t with
  | .int => (match v with
    | .int z => some (w.1, w.2.1, w.2.2.1, w.2.2.2.1, w.2.2.2.2.1, pmUI w.2.2.2.2.2.1 a k z, w.2.2.2.2.2.2)
    | _ => none)
  | .boolean => (match v with
    | .int z => if z = 0 ∨ z = 1 then some (w.1, w.2.1, w.2.2.1, w.2.2.2.1, w.2.2.2.2.1, pmUI w.2.2.2.2.2.1 a k z, w.2.2.2.2.2.2) else none
    | _ => none)
  | .object _ => (match v with
    | .ref b => some (w.1, w.2.1, w.2.2.1, w.2.2.2.1, pmUR w.2.2.2.2.1 a k (some b), w.2.2.2.2.2.1, w.2.2.2.2.2.2)
    | _ => none)
  | .array _ => (match v with
    | .ref b => some (w.1, w.2.1, w.2.2.1, w.2.2.2.1, pmUR w.2.2.2.2.1 a k (some b), w.2.2.2.2.2.1, w.2.2.2.2.2.2)
    | _ => none)
  | _ => none
/-- a new cell -/
def pmNew (w : pmW) (h : (FieldType × Nat) ⊕ Nat) (n : Nat) : pmW :=
  (w.1 + 1, w.2.1 + 1, w.2.2.1 + n, va_up w.2.2.2.1 (w.1 + 1) h, va_up w.2.2.2.2.1 (w.1 + 1) (fun _ => none), va_up w.2.2.2.2.2.1 (w.1 + 1) (fun _ => 0), va_up w.2.2.2.2.2.2 (w.1 + 1) (fun _ => 0))
/-- a step that looks at the world -/
def pmB (ty : Nat → Nat → FieldType) (nf : Nat → Nat) (i : Instr) (x y pc : Nat) (l : pmL) (st : List Value) (w : pmW) : Option (Nat × pmL × List Value × pmW) :=
  match i with
  | .getfield _ => (match st with
    | .ref a :: r => (match pmh w a with
      | .inr c => if c = x ∧ 1 ≤ a ∧ a ≤ pmn w then some (pc + 3, l, pmRd w a y (ty x y) :: r, w) else none
      | .inl _ => none)
    | _ => none)
  | .putfield _ => (match st with
    | v :: .ref a :: r => (match pmh w a with
      | .inr c => if c = x ∧ 1 ≤ a ∧ a ≤ pmn w then (match pmWr w a y (ty x y) v with
        | some w1 => some (pc + 3, l, r, w1)
        | none => none) else none
      | .inl _ => none)
    | _ => none)
  | .iaload => (match st with
    | .int j :: .ref a :: r => (match pmh w a with
      | .inl (.int, n) => if a ≤ pmn w then (if j < 0 ∨ n ≤ j.toNatClampNeg then none else some (pc + 1, l, .int (pmi w a j.toNatClampNeg) :: r, w)) else none
      | _ => none)
    | _ => none)
  | .baload => (match st with
    | .int j :: .ref a :: r => (match pmh w a with
      | .inl (.boolean, n) => if 1 ≤ a ∧ a ≤ pmn w then (if j < 0 ∨ n ≤ j.toNatClampNeg then none else some (pc + 1, l, .int (pmi w a j.toNatClampNeg) :: r, w)) else none
      | _ => none)
    | _ => none)
  | .laload => (match st with
    | .int j :: .ref a :: r => (match pmh w a with
      | .inl (.long, n) => if 1 ≤ a ∧ a ≤ pmn w then (if j < 0 ∨ n ≤ j.toNatClampNeg then none else some (pc + 1, l, .long (pmj w a j.toNatClampNeg) :: r, w)) else none
      | _ => none)
    | _ => none)
  | .iastore => (match st with
    | .int v :: .int j :: .ref a :: r => (match pmh w a with
      | .inl (.int, n) => if 1 ≤ a ∧ a ≤ pmn w then (if j < 0 ∨ n ≤ j.toNatClampNeg then none else some (pc + 1, l, r, w.1, w.2.1, w.2.2.1, w.2.2.2.1, w.2.2.2.2.1, pmUI w.2.2.2.2.2.1 a j.toNatClampNeg v, w.2.2.2.2.2.2)) else none
      | _ => none)
    | _ => none)
  | .bastore => (match st with
    | .int v :: .int j :: .ref a :: r => (match pmh w a with
      | .inl (.boolean, n) => if 1 ≤ a ∧ a ≤ pmn w then (if j < 0 ∨ n ≤ j.toNatClampNeg then none else some (pc + 1, l, r, w.1, w.2.1, w.2.2.1, w.2.2.2.1, w.2.2.2.2.1, pmUI w.2.2.2.2.2.1 a j.toNatClampNeg (vp_nar .boolean v), w.2.2.2.2.2.2)) else none
      | _ => none)
    | _ => none)
  | .lastore => (match st with
    | .long v :: .int j :: .ref a :: r => (match pmh w a with
      | .inl (.long, n) => if 1 ≤ a ∧ a ≤ pmn w then (if j < 0 ∨ n ≤ j.toNatClampNeg then none else some (pc + 1, l, r, w.1, w.2.1, w.2.2.1, w.2.2.2.1, w.2.2.2.2.1, w.2.2.2.2.2.1, pmUJ w.2.2.2.2.2.2 a j.toNatClampNeg v)) else none
      | _ => none)
    | _ => none)
  | .arraylength => (match st with
    | .ref a :: r => (match pmh w a with
      | .inl (_, n) => if a ≤ pmn w then some (pc + 1, l, .int (Int32.ofNat n) :: r, w) else none
      | .inr _ => none)
    | _ => none)
  | .newarray .int => (match st with
    | .int n :: r => if n < 0 ∨ 65536 < n.toNatClampNeg then none else some (pc + 2, l, .ref (w.1 + 1) :: r, pmNew w (.inl (.int, n.toNatClampNeg)) n.toNatClampNeg)
    | _ => none)
  | .newarray .boolean => (match st with
    | .int n :: r => if n < 0 ∨ 65536 < n.toNatClampNeg then none else some (pc + 2, l, .ref (w.1 + 1) :: r, pmNew w (.inl (.boolean, n.toNatClampNeg)) n.toNatClampNeg)
    | _ => none)
  | .newarray .long => (match st with
    | .int n :: r => if n < 0 ∨ 65536 < n.toNatClampNeg then none else some (pc + 2, l, .ref (w.1 + 1) :: r, pmNew w (.inl (.long, n.toNatClampNeg)) n.toNatClampNeg)
    | _ => none)
  | .new _ => some (pc + 3, l, .ref (w.1 + 1) :: st, pmNew w (.inr x) (nf x))
  | _ => none
/-- the rows that speak of fields, arrays and classes are what the tables say; ini: in a constructor -/
def pmOkB (cl : List vw_C) (own : String) (ini : Bool) (mb : Cond → Bool) (cc : ByteArray) (pc : Nat) (i : Instr) (x y : Nat) : Bool :=
  match i with
  | .getfield n => decide (decode cc pc = .ok (.getfield n, 3)) && (match cl[x]? with
    | some (_, T, N) => decide (y < N) && mb (Cond.fieldLink own n (T y).1 (T y).2.1 (T y).2.2.1)
    | none => false)
  | .putfield n => decide (decode cc pc = .ok (.putfield n, 3)) && (match cl[x]? with
    | some (_, T, N) => decide (y < N) && (mb (Cond.fieldLink own n (T y).1 (T y).2.1 (T y).2.2.1) && (decide ((T y).2.2.2 = false) || (ini && (decide ((T y).2.2.2 = true) && decide ((T y).1 = own)))))
    | none => false)
  | .newarray t => decide (decode cc pc = .ok (.newarray t, 2)) && mb (Cond.arrayClass (newarray.typeOf t))
  | .new n => decide (decode cc pc = .ok (.new n, 3)) && (match cl[x]? with
    | some (C, _, N) => mb (Cond.classLink own n C) && (mb (Cond.instantiable C N) && mb (Cond.initialized C))
    | none => false)
  | i => decide (decode cc pc = .ok (i, 1))
/-! the same world in the machine's heap: cell a lies at φ a; the script, cell 0, is not among them -/
def pmN (cl : List vw_C) (ci : Nat) : Nat := match cl[ci]? with
  | some q => q.2.2
  | none => 0
def pmCl (cl : List vw_C) (ty : Nat → Nat → FieldType) (cI cZ cJ : ClassId) (φ : Nat → Nat) (w : pmW) (a : Nat) : va_E := match pmh w a with
  | .inl (.long, n) => .inl (cJ, n, .inr (.inl (pmj w a)))
  | .inl (.boolean, n) => .inl (cZ, n, .inl (pmi w a))
  | .inl (_, n) => .inl (cI, n, .inl (pmi w a))
  | .inr ci => .inr (ci, (List.range (pmN cl ci)).map (fun k => pmV φ (pmRd w a k (ty ci k))))
def pmWd (cl : List vw_C) (ty : Nat → Nat → FieldType) (cI cZ cJ : ClassId) (φ : Nat → Nat) (w : pmW) : va_W := (List.range (pmn w)).map (fun j => (φ (j + 1), pmCl cl ty cI cZ cJ φ w (j + 1)))
section PMB
variable {cl : List vw_C} {ty : Nat → Nat → FieldType} {cI cZ cJ : ClassId} {φ φ1 : Nat → Nat} {w w1 : pmW}
theorem pmWd_at {a : Nat} (h1 : 1 ≤ a) (h2 : a ≤ pmn w) : (pmWd cl ty cI cZ cJ φ w)[a - 1]? = some (φ a, pmCl cl ty cI cZ cJ φ w a) := by
  have h3 : a - 1 < pmn w := by omega
  have h4 : a - 1 + 1 = a := by omega
  simp [pmWd, h3, h4]
theorem pmWd_set {a : Nat} (h1 : 1 ≤ a) (h2 : a ≤ pmn w) (hn : pmn w1 = pmn w) (h : ∀ b, b ≠ a → pmCl cl ty cI cZ cJ φ w1 b = pmCl cl ty cI cZ cJ φ w b) :
    pmWd cl ty cI cZ cJ φ w1 = (pmWd cl ty cI cZ cJ φ w).set (a - 1) (φ a, pmCl cl ty cI cZ cJ φ w1 a) := by
  refine List.ext_getElem? fun j => ?_
  rw [List.getElem?_set]
  by_cases hj : j < pmn w
  · by_cases e : a - 1 = j
    · rw [if_pos e, if_pos (by simp [pmWd]; omega)]
      subst e
      exact pmWd_at h1 (by omega)
    · rw [if_neg e]
      simp only [pmWd, hn, List.getElem?_map, List.getElem?_range hj, Option.map_some]
      rw [h (j + 1) (by omega)]
  · have e1 : (pmWd cl ty cI cZ cJ φ w1)[j]? = none := by simp [pmWd, hn]; omega
    have e2 : (pmWd cl ty cI cZ cJ φ w)[j]? = none := by simp [pmWd]; omega
    rw [e1, e2]
    split
    · rw [if_neg (by simp [pmWd]; omega)]
    · rfl
theorem pmV_agree {n : Nat} (hφ : ∀ a, a ≤ n → φ1 a = φ a) {v : Value} (hv : ∀ a, v = .ref a → a ≤ n) : pmV φ1 v = pmV φ v := by
  cases v with
  | ref a => simp only [pmV]; rw [hφ a (hv a rfl)]
  | _ => rfl
theorem pmLv_agree {n : Nat} (hφ : ∀ a, a ≤ n → φ1 a = φ a) {l : pmL} (hl : ∀ i a, pmGet l i = some (.ref a) → a ≤ n) : pmLv φ1 l = pmLv φ l := by
  unfold pmLv
  have e : (fun i => (pmGet l i).map (fun v => (i, pmV φ1 v))) = (fun i => (pmGet l i).map (fun v => (i, pmV φ v))) := by
    funext i
    cases hg : pmGet l i with
    | none => rfl
    | some v => simp only [Option.map_some]; rw [pmV_agree hφ (fun a e => hl i a (by rw [hg, e]))]
  rw [e]
theorem pmSt_agree {n : Nat} (hφ : ∀ a, a ≤ n → φ1 a = φ a) {st : List Value} (hl : ∀ a, Value.ref a ∈ st → a ≤ n) : st.map (pmV φ1) = st.map (pmV φ) :=
  List.map_congr_left fun v hv => pmV_agree hφ (fun a e => hl a (e ▸ hv))
theorem pmRd_ref {a k b n : Nat} {t : FieldType} (hw : ∀ a k b, pmr w a k = some b → b ≤ n) (h : pmRd w a k t = .ref b) : b ≤ n := by
  unfold pmRd at h
  split at h
  · cases hq : pmr w a k with
    | none => rw [hq] at h; cases h
    | some z => rw [hq] at h; cases h; exact hw _ _ _ hq
  · cases hq : pmr w a k with
    | none => rw [hq] at h; cases h
    | some z => rw [hq] at h; cases h; exact hw _ _ _ hq
  · cases h
  · cases h
/-- cells that don't change, seen with more cells -/
theorem pmCl_agree {n a : Nat} (hφ : ∀ a, a ≤ n → φ1 a = φ a) (hw : ∀ a k b, pmr w a k = some b → b ≤ n) (e1 : pmh w1 a = pmh w a) (e2 : pmr w1 a = pmr w a) (e3 : pmi w1 a = pmi w a) (e4 : pmj w1 a = pmj w a) :
    pmCl cl ty cI cZ cJ φ1 w1 a = pmCl cl ty cI cZ cJ φ w a := by
  have hr : ∀ k t, pmRd w1 a k t = pmRd w a k t := fun k t => by unfold pmRd; rw [e2, e3, e4]
  unfold pmCl
  rw [e1, e3, e4]
  split
  · rfl
  · rfl
  · rfl
  · congr 2
    exact List.map_congr_left fun k _ => by rw [hr]; exact pmV_agree hφ (fun b hb => pmRd_ref hw hb)
theorem pmWd_new {q : Nat} {h : (FieldType × Nat) ⊕ Nat} {n : Nat} (hw : ∀ a k b, pmr w a k = some b → b ≤ pmn w) :
    pmWd cl ty cI cZ cJ (va_up φ (pmn w + 1) q) (pmNew w h n) = pmWd cl ty cI cZ cJ φ w ++ [(q, pmCl cl ty cI cZ cJ (va_up φ (pmn w + 1) q) (pmNew w h n) (pmn w + 1))] := by
  unfold pmWd
  show (List.range (pmn w + 1)).map _ = _
  rw [List.range_succ, List.map_append]
  congr 1
  · refine List.map_congr_left fun j hj => ?_
    have hj := List.mem_range.mp hj
    have hne : ¬ j + 1 = pmn w + 1 := by omega
    have e : va_up φ (pmn w + 1) q (j + 1) = φ (j + 1) := by simp only [va_up]; rw [if_neg hne]
    rw [e]
    congr 1
    refine pmCl_agree (n := pmn w) (fun a ha => ?_) hw ?_ ?_ ?_ ?_
    · simp only [va_up]; rw [if_neg (by omega)]
    · show va_up _ _ _ _ = _; simp only [va_up]; rw [if_neg hne]
    · show va_up _ _ _ _ = _; simp only [va_up]; rw [if_neg hne]
    · show va_up _ _ _ _ = _; simp only [va_up]; rw [if_neg hne]
    · show va_up _ _ _ _ = _; simp only [va_up]; rw [if_neg hne]
  · simp [va_up]
end PMB
