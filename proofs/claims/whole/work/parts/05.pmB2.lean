/-! ===== THE PURE MACHINE (3): steps on the world are sound ===== -/
def pmInv (cl : List vw_C) (ty : Nat → Nat → FieldType) (dC : Nat → ClassId) (dI : Nat → Nat → Nat) (cI cZ cJ : ClassId) (A : Nat → Prop) (s : State) (b L : Nat) (xs : Nat → Int32) (φ : Nat → Nat) (w : pmW) (H : Heap) (locs : List Loc) : Prop :=
  va_P (dC, dI) cl (pmWd cl ty cI cZ cJ φ w) H ∧ va_D A (pmWd cl ty cI cZ cJ φ w) ∧ va_S A s.heap H locs ∧ (∀ a k b, pmr w a k = some b → b ≤ pmn w) ∧ φ 0 = b ∧ pmh w 0 = .inl (.int, L) ∧ pmi w 0 = xs
def pmFix (cl : List vw_C) (dC : Nat → ClassId) (dI : Nat → Nat → Nat) (cI cZ cJ : ClassId) (A : Nat → Prop) (s : State) (b L : Nat) (xs : Nat → Int32) : Prop :=
  va_K (dC, dI) cl [(cI, .int), (cZ, .boolean), (cJ, .long)] s ∧ (∀ q, s.heap.size ≤ q → A q) ∧ va_X b L xs s s.heap ∧ b < s.heap.size ∧ ¬ A b
def pmTok : FieldType → Bool
  | .int => true
  | .boolean => true
  | .object _ => true
  | .array _ => true
  | _ => false
def pmClOk (cl : List vw_C) (ty : Nat → Nat → FieldType) : Prop := ∀ (ci : Nat) (q : vw_C), cl[ci]? = some q → (∀ k, k < q.2.2 → parseFieldDescriptor (q.2.1 k).2.2.1 = some (ty ci k)) ∧ (∀ a, a < q.2.2 → ∀ b, b < q.2.2 → a ≠ b → (q.2.1 a).2.1 ≠ (q.2.1 b).2.1) ∧ ∀ k, k < q.2.2 → pmTok (ty ci k) = true
section PMC
variable {cl : List vw_C} {ty : Nat → Nat → FieldType} {cI cZ cJ : ClassId} {φ φ1 : Nat → Nat} {w w1 : pmW}
theorem pmCl_obj {a ci : Nat} (h : pmh w a = .inr ci) : pmCl cl ty cI cZ cJ φ w a = .inr (ci, (List.range (pmN cl ci)).map (fun k => pmV φ (pmRd w a k (ty ci k)))) := by unfold pmCl; rw [h]
theorem pmCl_int {a n : Nat} (h : pmh w a = .inl (.int, n)) : pmCl cl ty cI cZ cJ φ w a = .inl (cI, n, .inl (pmi w a)) := by unfold pmCl; rw [h]
theorem pmCl_bool {a n : Nat} (h : pmh w a = .inl (.boolean, n)) : pmCl cl ty cI cZ cJ φ w a = .inl (cZ, n, .inl (pmi w a)) := by unfold pmCl; rw [h]
theorem pmCl_long {a n : Nat} (h : pmh w a = .inl (.long, n)) : pmCl cl ty cI cZ cJ φ w a = .inl (cJ, n, .inr (.inl (pmj w a))) := by unfold pmCl; rw [h]
theorem pmCl_arr {a n : Nat} {t : FieldType} (h : pmh w a = .inl (t, n)) : ∃ (cA : ClassId) (x : vp_A) (t1 : FieldType) (j : Nat), pmCl cl ty cI cZ cJ φ w a = .inl (cA, x) ∧ x.1 = n ∧ [(cI, FieldType.int), (cZ, .boolean), (cJ, .long)][j]? = some (cA, t1) := by
  by_cases h1 : t = .long
  · subst h1; exact ⟨_, _, .long, 2, pmCl_long h, rfl, rfl⟩
  · by_cases h2 : t = .boolean
    · subst h2; exact ⟨_, _, .boolean, 1, pmCl_bool h, rfl, rfl⟩
    · refine ⟨cI, (n, .inl (pmi w a)), .int, 0, ?_, rfl, rfl⟩
      unfold pmCl
      rw [h]
      cases t <;> first | rfl | exact absurd rfl h1 | exact absurd rfl h2
theorem pmN_of {ci : Nat} {q : vw_C} (h : cl[ci]? = some q) : pmN cl ci = q.2.2 := by unfold pmN; rw [h]
theorem pmFs_at {ci a k : Nat} (hk : k < pmN cl ci) : ((List.range (pmN cl ci)).map (fun k => pmV φ (pmRd w a k (ty ci k))))[k]? = some (pmV φ (pmRd w a k (ty ci k))) := by
  rw [List.getElem?_map, List.getElem?_range hk]; rfl
theorem pmUI_eq (f : Nat → Nat → Int32) (a k : Nat) (v : Int32) : pmUI f a k v a = upd (f a) k v := by simp [pmUI]
theorem pmUI_ne (f : Nat → Nat → Int32) {a b : Nat} (k : Nat) (v : Int32) (h : b ≠ a) : pmUI f a k v b = f b := by simp [pmUI, h]
theorem pmUJ_eq (f : Nat → Nat → Int64) (a k : Nat) (v : Int64) : pmUJ f a k v a = vp_updL (f a) k v := by simp [pmUJ]
theorem pmUJ_ne (f : Nat → Nat → Int64) {a b : Nat} (k : Nat) (v : Int64) (h : b ≠ a) : pmUJ f a k v b = f b := by simp [pmUJ, h]
theorem pmUR_eq (f : Nat → Nat → Option Nat) (a k : Nat) (v : Option Nat) : pmUR f a k v a = va_up (f a) k v := by simp [pmUR]
theorem pmUR_ne (f : Nat → Nat → Option Nat) {a b : Nat} (k : Nat) (v : Option Nat) (h : b ≠ a) : pmUR f a k v b = f b := by simp [pmUR, h]
/-- what a store into a field does -/
theorem pmWr_spec {a k : Nat} {t : FieldType} {v : Value} (h : pmWr w a k t v = some w1) :
    (pmn w1 = pmn w ∧ pmnc w1 = pmnc w ∧ pmns w1 = pmns w ∧ pmh w1 = pmh w) ∧ (∀ b, b ≠ a → pmr w1 b = pmr w b ∧ pmi w1 b = pmi w b ∧ pmj w1 b = pmj w b) ∧ pmRd w1 a k t = v ∧ (∀ j t', j ≠ k → pmRd w1 a j t' = pmRd w a j t') ∧
    (∀ n, (∀ a k b, pmr w a k = some b → b ≤ n) → (∀ b, v = .ref b → b ≤ n) → ∀ a k b, pmr w1 a k = some b → b ≤ n) ∧ ∀ φ : Nat → Nat, narrow t (pmV φ v) = pmV φ v ∧ fits t (pmV φ v) = true := by
  have goI : ∀ z : Int32, w1 = (w.1, w.2.1, w.2.2.1, w.2.2.2.1, w.2.2.2.2.1, pmUI w.2.2.2.2.2.1 a k z, w.2.2.2.2.2.2) →
      (pmn w1 = pmn w ∧ pmnc w1 = pmnc w ∧ pmns w1 = pmns w ∧ pmh w1 = pmh w) ∧ (∀ b, b ≠ a → pmr w1 b = pmr w b ∧ pmi w1 b = pmi w b ∧ pmj w1 b = pmj w b) ∧ pmi w1 a k = z ∧ (∀ j t', j ≠ k → pmRd w1 a j t' = pmRd w a j t') ∧
      (∀ n, (∀ a k b, pmr w a k = some b → b ≤ n) → ∀ a k b, pmr w1 a k = some b → b ≤ n) := by
    intro z e
    subst e
    refine ⟨⟨rfl, rfl, rfl, rfl⟩, fun b hb => ⟨rfl, pmUI_ne _ _ _ hb, rfl⟩, ?_, fun j t' hj => ?_, fun n h => h⟩
    · show pmUI _ a k z a k = z
      rw [pmUI_eq]; simp [upd]
    · have e : pmUI (pmi w) a k z a j = pmi w a j := by rw [pmUI_eq]; simp [upd, hj]
      unfold pmRd
      split <;> first | rfl | exact congrArg Value.int e
  have goR : ∀ z : Nat, w1 = (w.1, w.2.1, w.2.2.1, w.2.2.2.1, pmUR w.2.2.2.2.1 a k (some z), w.2.2.2.2.2.1, w.2.2.2.2.2.2) →
      (pmn w1 = pmn w ∧ pmnc w1 = pmnc w ∧ pmns w1 = pmns w ∧ pmh w1 = pmh w) ∧ (∀ b, b ≠ a → pmr w1 b = pmr w b ∧ pmi w1 b = pmi w b ∧ pmj w1 b = pmj w b) ∧ pmr w1 a k = some z ∧ (∀ j t', j ≠ k → pmRd w1 a j t' = pmRd w a j t') ∧
      (∀ n, (∀ a k b, pmr w a k = some b → b ≤ n) → z ≤ n → ∀ a k b, pmr w1 a k = some b → b ≤ n) := by
    intro z e
    subst e
    refine ⟨⟨rfl, rfl, rfl, rfl⟩, fun b hb => ⟨pmUR_ne _ _ _ hb, rfl, rfl⟩, ?_, fun j t' hj => ?_, fun n hr hz a1 k1 b1 h1 => ?_⟩
    · show pmUR _ a k (some z) a k = some z
      rw [pmUR_eq]; simp [va_up]
    · have e : pmUR (pmr w) a k (some z) a j = pmr w a j := by rw [pmUR_eq]; simp [va_up, hj]
      unfold pmRd
      split <;> first | rfl | exact congrArg pmRf e
    · have h1 : pmUR (pmr w) a k (some z) a1 k1 = some b1 := h1
      by_cases ha : a1 = a
      · subst ha
        rw [pmUR_eq] at h1
        by_cases hk : k1 = k
        · subst hk
          simp [va_up] at h1
          omega
        · simp [va_up, hk] at h1
          exact hr _ _ _ h1
      · rw [pmUR_ne _ _ _ ha] at h1
        exact hr _ _ _ h1
  unfold pmWr at h
  split at h
  · split at h
    · rename_i z
      obtain ⟨g1, g2, g3, g4, g5⟩ := goI z (Option.some.inj h).symm
      exact ⟨g1, g2, congrArg Value.int g3, g4, fun n h1 _ => g5 n h1, fun φ => ⟨rfl, rfl⟩⟩
    · cases h
  · split at h
    · rename_i z
      split at h
      · rename_i hz
        obtain ⟨g1, g2, g3, g4, g5⟩ := goI z (Option.some.inj h).symm
        refine ⟨g1, g2, congrArg Value.int g3, g4, fun n h1 _ => g5 n h1, fun φ => ?_⟩
        rcases hz with rfl | rfl
        · show narrow .boolean (.int 0) = .int 0 ∧ fits .boolean (.int 0) = true
          decide
        · show narrow .boolean (.int 1) = .int 1 ∧ fits .boolean (.int 1) = true
          decide
      · cases h
    · cases h
  · split at h
    · rename_i z
      obtain ⟨g1, g2, g3, g4, g5⟩ := goR z (Option.some.inj h).symm
      exact ⟨g1, g2, congrArg pmRf g3, g4, fun n h1 h2 => g5 n h1 (h2 z rfl), fun φ => ⟨rfl, rfl⟩⟩
    · cases h
  · split at h
    · rename_i z
      obtain ⟨g1, g2, g3, g4, g5⟩ := goR z (Option.some.inj h).symm
      exact ⟨g1, g2, congrArg pmRf g3, g4, fun n h1 h2 => g5 n h1 (h2 z rfl), fun φ => ⟨rfl, rfl⟩⟩
    · cases h
  · cases h
/-- the object's cell behind a store into it -/
theorem pmCl_put {a ci k : Nat} {v : Value} (hh : pmh w a = .inr ci) (h1 : pmh w1 a = pmh w a) (h2 : pmRd w1 a k (ty ci k) = v) (h3 : ∀ j t', j ≠ k → pmRd w1 a j t' = pmRd w a j t') :
    pmCl cl ty cI cZ cJ φ w1 a = .inr (ci, ((List.range (pmN cl ci)).map (fun k => pmV φ (pmRd w a k (ty ci k)))).set k (pmV φ v)) := by
  rw [pmCl_obj (h1.trans hh)]
  congr 2
  refine List.ext_getElem? fun j => ?_
  rw [List.getElem?_set]
  by_cases hj : j < pmN cl ci
  · rw [pmFs_at hj]
    by_cases e : k = j
    · subst e
      rw [if_pos rfl, if_pos (by simpa using hj), h2]
    · rw [if_neg e, pmFs_at hj, h3 j _ (fun q => e q.symm)]
  · rw [List.getElem?_eq_none (by simpa using hj)]
    split
    · rw [if_neg (by simp; omega)]
    · rw [List.getElem?_eq_none (by simpa using hj)]
/-- the other cells behind a store -/
theorem pmCl_other {a : Nat} (hw : ∀ a k b, pmr w a k = some b → b ≤ pmn w) (h1 : pmh w1 = pmh w) (h2 : ∀ b, b ≠ a → pmr w1 b = pmr w b ∧ pmi w1 b = pmi w b ∧ pmj w1 b = pmj w b) : ∀ b, b ≠ a → pmCl cl ty cI cZ cJ φ w1 b = pmCl cl ty cI cZ cJ φ w b :=
  fun b hb => pmCl_agree (n := pmn w) (fun _ _ => rfl) hw (congrFun h1 b) (h2 b hb).1 (h2 b hb).2.1 (h2 b hb).2.2
end PMC
