/-! ===== THE PURE MACHINE (5): the program, what it must keep to, its contracts ===== -/
/-- classes; field types; methods; names; bytes; answers; words; room: frames, locals; handlers' rows; exceptions; words of the tables that aren't good ones; texts; classes that aren't castable -/
abbrev pmD : Type := List vw_C × (Nat → Nat → FieldType) × (Nat → Option pmM) × (Nat → MethodName) × (Nat → ByteArray) × (Nat → Option FieldType) × (Nat → List Cond) × (Nat → Nat) × (Nat → Nat) × (Nat → List (Nat × Nat × Nat × Nat)) × (Nat → String) × List Cond × List (String × Nat × String) × List (String × String) × (Cond → Bool)
abbrev dcl (D : pmD) : List vw_C := D.1
abbrev dty (D : pmD) : Nat → Nat → FieldType := D.2.1
abbrev dG (D : pmD) : Nat → Option pmM := D.2.2.1
abbrev dyy (D : pmD) : Nat → MethodName := D.2.2.2.1
abbrev dbc (D : pmD) : Nat → ByteArray := D.2.2.2.2.1
abbrev drt (D : pmD) : Nat → Option FieldType := D.2.2.2.2.2.1
abbrev dws (D : pmD) : Nat → List Cond := D.2.2.2.2.2.2.1
abbrev drf (D : pmD) : Nat → Nat := D.2.2.2.2.2.2.2.1
abbrev drl (D : pmD) : Nat → Nat := D.2.2.2.2.2.2.2.2.1
abbrev dhs (D : pmD) : Nat → List (Nat × Nat × Nat × Nat) := D.2.2.2.2.2.2.2.2.2.1
abbrev dex (D : pmD) : Nat → String := D.2.2.2.2.2.2.2.2.2.2.1
abbrev dEW (D : pmD) : List Cond := D.2.2.2.2.2.2.2.2.2.2.2.1
abbrev dSR (D : pmD) : List (String × Nat × String) := D.2.2.2.2.2.2.2.2.2.2.2.2.1
abbrev dNC (D : pmD) : List (String × String) := D.2.2.2.2.2.2.2.2.2.2.2.2.2.1
abbrev dmb (D : pmD) : Cond → Bool := D.2.2.2.2.2.2.2.2.2.2.2.2.2.2
abbrev pmRun (D : pmD) : Nat → Nat → Nat → pmL → List Value → pmW → Option (pmO × pmW) := pmX (dty D) (pmN (dcl D)) (dG D)
def pmEwOk : Cond → Bool
  | .methodLinkNest .. => true
  | .castable .. => true
  | .declares _ => true
  | _ => false
theorem pmEw_warm {w : Cond} (hk : pmEwOk w = true) {s U : State} (hW : s.WarmedH U.vm) (h : w.before #[] s = true) : w.before #[] U = true := by
  cases w <;> first
    | (cases hk; done)
    | exact va_Nw.warmM hW h
    | exact va_Nw.warmC hW h
    | exact va_Nw.warmD hW h
theorem pmEw_tabs {w : Cond} (hk : pmEwOk w = true) {u U : State} {a1 a2 : Array Value} (hv : u.vm = U.vm) (h : w.before a1 u = true) : w.before a2 U = true := by
  cases w <;> first
    | (cases hk; done)
    | exact va_tabs rfl hv h
/-- what a throw needs of the start, kept along -/
def pmG (D : pmD) (A : Nat → Prop) (U : State) : Prop :=
  vx_Zq Bundle.tN "UNASSIGNED_STACK" Bundle.steD A U U.heap ∧ vx_Zq Bundle.tN "SUPPRESSED_SENTINEL" Bundle.listD A U U.heap ∧ (∀ w ∈ dEW D, pmEwOk w = true ∧ w.before #[] U = true) ∧ (∀ q ∈ dSR D, ∃ sa, vk_R q.1 q.2.1 q.2.2 sa U) ∧ ∀ q ∈ dNC D, va_Nc q.1 q.2 U
theorem pmG.next {D : pmD} {A A1 : Nat → Prop} {s U : State} {H : Heap} {locs : List Loc} (h : pmG D A s) (hW : s.WarmedH U.vm) (hH : U.heap = H) (hS : va_S A s.heap H locs) (hA : ∀ q, A1 q → A q) : pmG D A1 U := by
  obtain ⟨h1, h2, h3, h4, h5⟩ := h
  subst hH
  exact ⟨((h1.moved hW.alike).kept hS.2.1).narrow hA, ((h2.moved hW.alike).kept hS.2.1).narrow hA, fun w hw => ⟨(h3 w hw).1, pmEw_warm (h3 w hw).1 hW (h3 w hw).2⟩, fun q hq => (h4 q hq).elim fun sa z => ⟨sa, z.warm hW⟩, fun q hq => (h5 q hq).moved hW.alike⟩
theorem pmG.calling {D : pmD} {A : Nat → Prop} {U : State} (h : pmG D A U) (g : JFrame) (mk : MethodId) (a : Array Value) : pmG D A (U.calling g mk a) := by
  obtain ⟨h1, h2, h3, h4, h5⟩ := h
  have hv : (U.calling g mk a).vm = U.vm := rfl
  have ha : U.vm.Alike (U.calling g mk a).vm := Vm.Alike.refl U.vm
  exact ⟨h1.moved ha, h2.moved ha, fun w hw => ⟨(h3 w hw).1, pmEw_tabs (h3 w hw).1 hv.symm (h3 w hw).2⟩, fun q hq => (h4 q hq).elim fun sa z => ⟨sa, z.same hv⟩, fun q hq => (h5 q hq).moved ha⟩
abbrev pmTys (cI cZ cJ : ClassId) : List (ClassId × FieldType) := [(cI, .int), (cZ, .boolean), (cJ, .long)]
/-- the start of a method, with the pure world w at φ, the arguments vs -/
def pmPc (D : pmD) (dC : Nat → ClassId) (dI : Nat → Nat → Nat) (cI cZ cJ : ClassId) (L : Nat) (φ : Nat → Nat) (w : pmW) (vs : List Value) (sz : Nat) : Array Value → State → Prop :=
  va_Pc (vs.map (pmV φ)) (fun U => U.heap.size = sz ∧ va_P (dC, dI) (dcl D) (pmWd (dcl D) (dty D) cI cZ cJ φ w) U.heap ∧ va_K (dC, dI) (dcl D) (pmTys cI cZ cJ) U ∧ va_D (fun _ => True) (pmWd (dcl D) (dty D) cI cZ cJ φ w) ∧
    va_X (φ 0) L (pmi w 0) U U.heap ∧ φ 0 < U.heap.size ∧ ¬ va_A (pmWd (dcl D) (dty D) cI cZ cJ φ w) sz (φ 0) ∧ pmG D (va_A (pmWd (dcl D) (dty D) cI cZ cJ φ w) sz) U)
/-- the world behind it -/
def pmPw (D : pmD) (dC : Nat → ClassId) (dI : Nat → Nat → Nat) (cI cZ cJ : ClassId) (φ : Nat → Nat) (w w1 : pmW) (sz : Nat) (st t : State) (φ1 : Nat → Nat) : Prop :=
  va_P (dC, dI) (dcl D) (pmWd (dcl D) (dty D) cI cZ cJ φ1 w1) t.heap ∧ va_D (va_A (pmWd (dcl D) (dty D) cI cZ cJ φ w) sz) (pmWd (dcl D) (dty D) cI cZ cJ φ1 w1) ∧ (∀ a, a ≤ pmn w → φ1 a = φ a) ∧ (∀ a k b, pmr w1 a k = some b → b ≤ pmn w1) ∧ pmh w1 0 = pmh w 0 ∧ pmi w1 0 = pmi w 0 ∧
    va_F (va_A (pmWd (dcl D) (dty D) cI cZ cJ φ w) sz) st t
def pmQc (D : pmD) (dC : Nat → ClassId) (dI : Nat → Nat → Nat) (cI cZ cJ : ClassId) (φ : Nat → Nat) (w w1 : pmW) (sz : Nat) (out : pmO) : Array Value → State → Outcome → State → Prop := fun _ st o t =>
  ∃ (v : Option Value) (φ1 : Nat → Nat), out = .inl v ∧ o = .returned (v.map (pmV φ1)) ∧ (∀ a, v = some (.ref a) → a ≤ pmn w1) ∧ pmPw D dC dI cI cZ cJ φ w w1 sz st t φ1
def pmXc (D : pmD) (dC : Nat → ClassId) (dI : Nat → Nat → Nat) (cI cZ cJ : ClassId) (φ : Nat → Nat) (w w1 : pmW) (sz : Nat) (out : pmO) : String → State → State → Prop := fun E st t =>
  ∃ (x : Nat) (φ1 : Nat → Nat), out = .inr x ∧ E = dex D x ∧ pmPw D dC dI cI cZ cJ φ w w1 sz st t φ1
abbrev pmRm (D : pmD) (mid : Nat) (w w1 : pmW) : Room := { frames := drf D mid, cells := pmnc w1 - pmnc w, slots := pmns w1 - pmns w, locals := drl D mid }
/-- a method's word on its own code -/
def pmHd (D : pmD) (mid : Nat) (M : pmM) : Prop := (M.2.2.1 = [] ∧ ∃ ws', dws D mid = .code (dyy D mid) (dbc D mid) M.2.1 (drt D mid) :: ws') ∨ (M.2.2.1 ≠ [] ∧ ∃ ws', dws D mid = .codeWith (dyy D mid) (dbc D mid) M.2.1 (drt D mid) (dhs D mid) :: ws')
def pmSig (y : MethodName) (n : Nat) : Prop := y.cls ≠ "java/lang/invoke/MethodHandle" ∧ y.cls ≠ "java/lang/invoke/VarHandle" ∧ (parseMethodDescriptor y.desc).map (fun d => d.parameters.length) = some n
def pmFit (D : pmD) (mid x : Nat) (M2 : pmM) : Prop := drf D x + 1 ≤ drf D mid ∧ 8 + (M2.2.1 + 11) + drl D x ≤ drl D mid ∧ plainName (dyy D x).cls = true ∧ pmHd D x M2
def pmCV (D : pmD) (mid x : Nat) (M2 : pmM) (idx y : Nat) : Prop := M2.2.2.1 = [] ∧ GoodIn (dws D mid) (wsV (dyy D mid).cls idx (dyy D x).cls (dyy D x) (dws D x)) ∧ pmSig (dyy D x) (y - 1) ∧ pmFit D mid x M2 ∧ ∃ T N, (dcl D)[M2.2.2.2]? = some ((dyy D x).cls, T, N)
def pmCS (D : pmD) (mid x : Nat) (M2 : pmM) (idx y : Nat) : Prop := pmSig (dyy D x) y ∧ pmFit D mid x M2 ∧ (GoodIn (dws D mid) (va_wsS (dyy D mid).cls idx (dyy D x) (dws D x)) ∨
  (M2.2.2.1 = [] ∧ GoodIn (dws D mid) (dws D x) ∧ (∃ host, Cond.methodLinkNest (dyy D mid).cls idx (dyy D x) host ∈ dEW D) ∧ Cond.initialized (dyy D x).cls ∈ dws D mid ∧ Cond.static (dyy D x) ∈ dws D mid))
def pmCI (D : pmD) (mid x : Nat) (M2 : pmM) (idx y : Nat) : Prop := M2.2.2.1 = [] ∧ drt D x = none ∧ (dyy D x).name = "<init>" ∧ pmSig (dyy D x) (y - 1) ∧ pmFit D mid x M2 ∧ GoodIn (dws D mid) (dws D x) ∧ Cond.initialized (dyy D x).cls ∈ dws D mid ∧ Cond.instanceMethod (dyy D x) ∈ dws D mid ∧
  (Cond.methodLink (dyy D mid).cls idx (dyy D x) ∈ dws D mid ∨ ∃ host, Cond.methodLinkNest (dyy D mid).cls idx (dyy D x) host ∈ dEW D)
abbrev pmNm : List String := ["java/lang/RuntimeException", "java/lang/Exception"]
/-- 'throw new E("text")' at pc -/
def pmTh (D : pmD) (mid pc x : Nat) : Prop := ∃ (ik is ic : Nat) (text : String), Bundle.fit (dex D x) = true ∧ Cond.classLink (dyy D mid).cls ik (dex D x) ∈ dws D mid ∧ Cond.initialized (dex D x) ∈ dws D mid ∧ ((dyy D mid).cls, is, text) ∈ dSR D ∧
  (∀ w ∈ (vx_atS (dyy D mid).cls ic (dex D x) pmNm).filter goodWord, w ∈ dws D mid) ∧ (∀ w ∈ (vx_atS (dyy D mid).cls ic (dex D x) pmNm).filter (fun w => !goodWord w), w ∈ dEW D) ∧ (∀ w ∈ Cond.classLink (dyy D mid).cls ik (dex D x) :: Cond.initialized (dex D x) :: vx_atS (dyy D mid).cls ic (dex D x) pmNm, vx_ot w = true) ∧
  decode (dbc D mid) pc = .ok (.new ik, 3) ∧ decode (dbc D mid) (pc + 3) = .ok (.dup, 1) ∧ decode (dbc D mid) (pc + 4) = .ok (.ldc is, 2) ∧ decode (dbc D mid) (pc + 6) = .ok (.invokespecial ic, 3) ∧ decode (dbc D mid) (pc + 9) = .ok (.athrow, 1) ∧ 5 < drf D mid ∧ 90 ≤ drl D mid
def pmKA : Instr → Bool
  | .getfield _ => false
  | .putfield _ => false
  | .iaload => false
  | .baload => false
  | .laload => false
  | .iastore => false
  | .bastore => false
  | .lastore => false
  | .arraylength => false
  | .newarray _ => false
  | .new _ => false
  | _ => true
theorem pmKA_A {i : Instr} {x pc : Nat} {k : Int32} {l : pmL} {st : List Value} {r : Nat × pmL × List Value} (h : pmA i x k pc l st = some r) : pmKA i = true := by
  unfold pmA at h
  split at h <;> first | rfl | cases h
theorem pmKA_B {ty : Nat → Nat → FieldType} {nf : Nat → Nat} {i : Instr} {x y pc : Nat} {l : pmL} {st : List Value} {w : pmW} {r : Nat × pmL × List Value × pmW} (h : pmB ty nf i x y pc l st w = some r) : pmKA i = false := by
  unfold pmB at h
  split at h <;> first | rfl | cases h
/-- a call of Math's own -/
def pmMth (D : pmD) (mid pc : Nat) (y : MethodName) (cc : ByteArray) (n : Nat) (t : FieldType) : Prop := ∃ idx, decode (dbc D mid) pc = .ok (.invokestatic idx, 3) ∧ Cond.methodLink (dyy D mid).cls idx y ∈ dws D mid ∧ Cond.static y ∈ dws D mid ∧ Cond.initialized "java/lang/Math" ∈ dws D mid ∧ Cond.code y cc n (some t) ∈ dws D mid ∧ 1 ≤ drf D mid ∧ 23 ≤ drl D mid
/-- a row of a method's pure code keeps to the bytes and the words -/
def pmEOk (D : pmD) (mid : Nat) (M : pmM) (pc : Nat) (q : Instr × Nat × Nat × Int32) : Prop := match q.1 with
  | .ireturn => decode (dbc D mid) pc = .ok (.ireturn, 1) ∧ ((drt D mid = some .int) ∨ (drt D mid = some .boolean ∧ q.2.2.1 = 1))
  | .lreturn => decode (dbc D mid) pc = .ok (.lreturn, 1) ∧ drt D mid = some .long
  | .areturn => decode (dbc D mid) pc = .ok (.areturn, 1) ∧ ∃ t, drt D mid = some (.array t)
  | .return_ => decode (dbc D mid) pc = .ok (.return_, 1) ∧ drt D mid = none
  | .athrow => pmTh D mid pc q.2.1
  | .nop => ∃ idx, decode (dbc D mid) pc = .ok (.invokespecial idx, 3) ∧ Cond.methodLink (dyy D mid).cls idx Lib.objectInit ∈ dws D mid ∧ Cond.instanceMethod Lib.objectInit ∈ dws D mid ∧ Cond.code Lib.objectInit ⟨#[0xb1]⟩ 1 none ∈ dws D mid ∧ 1 ≤ drf D mid ∧ 20 ≤ drl D mid
  | .swap => pmMth D mid pc Lib.Math.max.name Lib.Math.max.code 2 .int
  | .dup_x1 => pmMth D mid pc Lib.Math.min.name Lib.Math.min.code 2 .int
  | .dup_x2 => pmMth D mid pc Lib.MathLoose.max_long.x Lib.MathLoose.max_long.code 4 .long
  | .dup2_x1 => pmMth D mid pc Lib.MathLoose.min_long.x Lib.MathLoose.min_long.code 4 .long
  | .invokevirtual idx => decode (dbc D mid) pc = .ok (.invokevirtual idx, 3) ∧ ∀ M2, dG D q.2.1 = some M2 → pmCV D mid q.2.1 M2 idx q.2.2.1
  | .invokestatic idx => decode (dbc D mid) pc = .ok (.invokestatic idx, 3) ∧ ∀ M2, dG D q.2.1 = some M2 → pmCS D mid q.2.1 M2 idx q.2.2.1
  | .invokespecial idx => decode (dbc D mid) pc = .ok (.invokespecial idx, 3) ∧ ∀ M2, dG D q.2.1 = some M2 → pmCI D mid q.2.1 M2 idx q.2.2.1
  | i => (match pmKA i with
    | true => pmOkA (dyy D mid).cls (dmb D) (dbc D mid) M.2.1 pc i q.2.1 q.2.2.2
    | false => pmOkB (dcl D) (dyy D mid).cls (decide ((dyy D mid).name = "<init>")) (dmb D) (dbc D mid) pc i q.2.1 q.2.2.1) = true
/-- the handlers: pure rows beside the bytes' own -/
def pmHOk (D : pmD) (mid : Nat) (M : pmM) : Prop := ∀ pc x h, pmHand M.2.2.1 pc x = some h → ∃ (pre : List ExceptionTableEntry) (z : ExceptionTableEntry) (suf : List ExceptionTableEntry), tableOf (dhs D mid) = pre ++ z :: suf ∧ (∀ u ∈ pre, covers u pc = false ∨ (u.catchType ≠ 0 ∧ ∃ nm : String, Cond.classLink (dyy D mid).cls u.catchType nm ∈ dws D mid ∧ (dex D x, nm) ∈ dNC D)) ∧ covers z pc = true ∧ z.catchType ≠ 0 ∧ Cond.classLink (dyy D mid).cls z.catchType (dex D x) ∈ dws D mid ∧ Cond.castable (dex D x) (dex D x) ∈ dEW D ∧ z.handlerPc = h
def pmMOk (D : pmD) (mid : Nat) (M : pmM) : Prop := (∀ w, dmb D w = true → w ∈ dws D mid) ∧ (∀ (ci : Nat) (q : vw_C), (dcl D)[ci]? = some q → ∀ w ∈ u_ws q.1 q.2.1 q.2.2, w ∈ dws D mid) ∧ pmHOk D mid M ∧ ∀ pc q, pmCode M pc = some q → pmEOk D mid M pc q
def pmDOk (D : pmD) : Prop := pmClOk (dcl D) (dty D) ∧ ∀ mid M, dG D mid = some M → pmMOk D mid M
