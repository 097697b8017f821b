/-! ===== THE PURE MACHINE (6): it is sound ===== -/
def pmCtx (D : pmD) (mid : Nat) (M : pmM) (p : Program) (R : Room) (s : State) (m : MethodId) (args : Array Value) (meth : Method) (c : Code) : Prop :=
  p.tables.exec = Jvm.exec ∧ c.code = dbc D mid ∧ c.maxLocals = M.2.1 ∧ s.vm.findClass (dyy D mid).cls = some m.cls ∧ (∀ w ∈ dws D mid, w.before args s = true) ∧ ((dyy D mid).name = "<init>" → meth.name = "<init>") ∧ (M.2.2.1 ≠ [] → c.exceptionTable.toList = tableOf (dhs D mid)) ∧ R.frames = drf D mid ∧ R.locals = drl D mid
def pmRet (D : pmD) (mid pc : Nat) (v : Option Value) : Prop := (∃ z, v = some (.int z) ∧ decode (dbc D mid) pc = .ok (.ireturn, 1) ∧ (drt D mid = some .int ∨ (drt D mid = some .boolean ∧ (z = 0 ∨ z = 1)))) ∨ (∃ z, v = some (.long z) ∧ decode (dbc D mid) pc = .ok (.lreturn, 1) ∧ drt D mid = some .long) ∨
  (∃ a, v = some (.ref a) ∧ decode (dbc D mid) pc = .ok (.areturn, 1) ∧ ∃ t, drt D mid = some (.array t)) ∨ (v = none ∧ decode (dbc D mid) pc = .ok (.return_, 1) ∧ drt D mid = none)
section PMT
variable {D : pmD} {mid : Nat} {M : pmM} {p : Program} {l : Launch} {e : Env} {R : Room} {s : State} {m : MethodId} {args : Array Value} {below : List Frame} {meth : Method} {c : Code} {dC : Nat → ClassId} {dI : Nat → Nat → Nat} {cI cZ cJ : ClassId} {A : Nat → Prop} {b L : Nat} {xs : Nat → Int32} {Q : State → Prop} {out : pmO} {wF w w1 : pmW} {φ φ1 : Nat → Nat} {cells slots cells1 slots1 : Nat}
/-- what the body is followed by: a return, a throw of its own, a throw from below -/
def pmK (D : pmD) (mid : Nat) (M : pmM) (p : Program) (l : Launch) (e : Env) (R : Room) (s : State) (m : MethodId) (args : Array Value) (below : List Frame) (meth : Method) (c : Code) (dC : Nat → ClassId) (dI : Nat → Nat → Nat) (cI cZ cJ : ClassId) (A : Nat → Prop) (b L : Nat) (xs : Nat → Int32) (Q : State → Prop) (out : pmO) (wF : pmW) (w : pmW) (φ : Nat → Nat) (cells slots : Nat) : Prop :=
  (∀ (φ1 : Nat → Nat) (ls1 : Array Slot) (H1 : Heap) (locs1 : List Loc) (cells1 slots1 pc1 : Nat) (v : Option Value), out = .inl v → pmRet D mid pc1 v → (∀ a, v = some (.ref a) → a ≤ pmn wF) → (∀ a, a ≤ pmn w → φ1 a = φ a) → pmInv (dcl D) (dty D) dC dI cI cZ cJ A s b L xs φ1 wF H1 locs1 → cells1 + pmnc w = cells + pmnc wF → slots1 + pmns w = slots + pmns wF →
    W p l e R s m args below meth c H1 locs1 cells1 slots1 Q (F0 m pc1 ls1 ((v.map (pmV φ1)).toList))) ∧
  (∀ (φ1 : Nat → Nat) (ls1 : Array Slot) (H1 : Heap) (locs1 : List Loc) (cells1 slots1 pc1 x : Nat) (w1 : pmW) (st1 : List Value), out = .inr x → pmTh D mid pc1 x → M.2.2.1 = [] → wF = pmBmp w1 → ls1.size = M.2.1 → (st1.map fun v => v.category).sum ≤ 8 → (∀ a, a ≤ pmn w → φ1 a = φ a) → pmInv (dcl D) (dty D) dC dI cI cZ cJ A s b L xs φ1 w1 H1 locs1 → cells1 + pmnc w = cells + pmnc w1 → slots1 + pmns w = slots + pmns w1 →
    W p l e R s m args below meth c H1 locs1 cells1 slots1 Q (F0 m pc1 ls1 st1)) ∧
  (∀ (φ1 : Nat → Nat) (ls1 : Array Slot) (H1 : Heap) (locs1 : List Loc) (cells1 slots1 pc1 x : Nat) (q : Addr) (ce : Cell) (rest : List Value), out = .inr x → M.2.2.1 = [] → H1[q]? = some ce → ce.vm = .none → s.vm.findClass (dex D x) = some ce.cls → (∀ a, a ≤ pmn w → φ1 a = φ a) → pmInv (dcl D) (dty D) dC dI cI cZ cJ A s b L xs φ1 wF H1 locs1 → cells1 + pmnc w = cells + pmnc wF → slots1 + pmns w = slots + pmns wF →
    vx_W p l e R s m args below meth c H1 locs1 cells1 slots1 Q (F0 m pc1 ls1 rest) q)
theorem pmK.step (K : pmK D mid M p l e R s m args below meth c dC dI cI cZ cJ A b L xs Q out wF w φ cells slots) (hφ : ∀ a, a ≤ pmn w → φ1 a = φ a) (hn : pmn w ≤ pmn w1) (hc : cells1 + pmnc w = cells + pmnc w1) (hs : slots1 + pmns w = slots + pmns w1) :
    pmK D mid M p l e R s m args below meth c dC dI cI cZ cJ A b L xs Q out wF w1 φ1 cells1 slots1 := by
  obtain ⟨K1, K2, K3⟩ := K
  refine ⟨fun φ2 ls2 H2 locs2 c2 s2 pc2 v h1 h2 h3 h4 h5 h6 h7 => ?_, fun φ2 ls2 H2 locs2 c2 s2 pc2 x w2 st2 h1 h2 h3 h4 h5 h5b h6 h7 h8 h9 => ?_, fun φ2 ls2 H2 locs2 c2 s2 pc2 x q ce rest h1 h2 h3 h4 h5 h6 h7 h8 h9 => ?_⟩
  · exact K1 φ2 ls2 H2 locs2 c2 s2 pc2 v h1 h2 h3 (fun a ha => (h4 a (Nat.le_trans ha hn)).trans (hφ a ha)) h5 (by omega) (by omega)
  · exact K2 φ2 ls2 H2 locs2 c2 s2 pc2 x w2 st2 h1 h2 h3 h4 h5 h5b (fun a ha => (h6 a (Nat.le_trans ha hn)).trans (hφ a ha)) h7 (by omega) (by omega)
  · exact K3 φ2 ls2 H2 locs2 c2 s2 pc2 x q ce rest h1 h2 h3 h4 h5 (fun a ha => (h6 a (Nat.le_trans ha hn)).trans (hφ a ha)) h7 (by omega) (by omega)
end PMT
def pmBody (D : pmD) (l : Launch) (n : Nat) : Prop := ∀ (mid : Nat) (M : pmM), dG D mid = some M → ∀ (p : Program) (e : Env) (R : Room) (s : State) (m : MethodId) (args : Array Value) (below : List Frame) (meth : Method) (c : Code) (dC : Nat → ClassId) (dI : Nat → Nat → Nat) (cI cZ cJ : ClassId) (A : Nat → Prop) (b L : Nat) (xs : Nat → Int32),
  pmCtx D mid M p R s m args meth c → pmFix (dcl D) dC dI cI cZ cJ A s b L xs → pmG D A s → ∀ (Q : State → Prop) (pc : Nat) (lo : pmL) (st : List Value) (w : pmW) (out : pmO) (wF : pmW) (φ : Nat → Nat) (ls : Array Slot) (H : Heap) (locs : List Loc) (cells slots : Nat),
  pmRun D n mid pc lo st w = some (out, wF) → lo.length = M.2.1 → pmOkS (pmn w) lo st → lv_has ls M.2.1 (pmLv φ lo) → pmInv (dcl D) (dty D) dC dI cI cZ cJ A s b L xs φ w H locs → cells + pmnc wF ≤ R.cells + pmnc w → slots + pmns wF ≤ R.slots + pmns w →
  pmK D mid M p l e R s m args below meth c dC dI cI cZ cJ A b L xs Q out wF w φ cells slots → W p l e R s m args below meth c H locs cells slots Q (F0 m pc ls (st.map (pmV φ)))
def pmMet (D : pmD) (l : Launch) (n : Nat) : Prop := ∀ (mid : Nat) (M : pmM), dG D mid = some M → plainName (dyy D mid).cls = true → pmHd D mid M → ∀ (vs : List Value) (w : pmW) (out : pmO) (wF : pmW) (L : Nat), pmRun D n mid 0 (pmPad M.2.1 (pmEnt vs)) [] w = some (out, wF) → (pmEnt vs).length ≤ M.2.1 → (∀ a, Value.ref a ∈ vs → a ≤ pmn w) → (∀ a k b, pmr w a k = some b → b ≤ pmn w) → pmh w 0 = .inl (.int, L) →
  ∀ (dC : Nat → ClassId) (dI : Nat → Nat → Nat) (cI cZ cJ : ClassId) (φ : Nat → Nat) (sz : Nat), vx_Met l (dyy D mid) (dws D mid) (pmRm D mid w wF) (pmPc D dC dI cI cZ cJ L φ w vs sz) (pmQc D dC dI cI cZ cJ φ w wF sz out) (pmXc D dC dI cI cZ cJ φ w wF sz out) (pmnc wF - pmnc w) (pmns wF - pmns w) (va_A (pmWd (dcl D) (dty D) cI cZ cJ φ w) sz)
theorem pmPad_len : ∀ (n : Nat) (l : pmL), (pmPad n l).length = max n l.length
  | 0, l => by simp [pmPad]
  | n + 1, [] => by simp [pmPad, pmPad_len n []]
  | n + 1, o :: r => by simp [pmPad, pmPad_len n r, Nat.add_max_add_right]
theorem pmPad_get : ∀ (n : Nat) (l : pmL) (i : Nat) (v : Value), pmGet (pmPad n l) i = some v → pmGet l i = some v
  | 0, l, i, v, h => by simpa [pmPad] using h
  | n + 1, [], 0, v, h => by simp [pmPad, pmGet] at h
  | n + 1, [], i + 1, v, h => by
    have := pmPad_get n [] i v (by simpa [pmPad, pmGet] using h)
    simp [pmGet] at this
  | n + 1, o :: r, 0, v, h => by simpa [pmPad, pmGet] using h
  | n + 1, o :: r, i + 1, v, h => by
    have := pmPad_get n r i v (by simpa [pmPad, pmGet] using h)
    simpa [pmGet] using this
theorem pmEnt_get : ∀ (vs : List Value) (i k : Nat) (v : Value), pmGet (pmEnt vs) i = some v → (i + k, v) ∈ lv_args k vs
  | [], _, _, _, h => by simp [pmEnt, pmGet] at h
  | u :: r, i, k, v, h => by
    have hc : pmIs2 (some u) = (u.category == 2) := pmIs2_cat rfl
    unfold pmEnt at h
    rw [hc] at h
    unfold lv_args
    cases hu : (u.category == 2) with
    | true =>
      rw [hu] at h
      rw [if_pos (by simpa using hu)]
      match i, h with
      | 0, h => simp [pmGet] at h; subst h; simp
      | 1, h => simp [pmGet] at h
      | i + 2, h =>
        refine List.mem_cons_of_mem _ ?_
        have := pmEnt_get r i (k + 2) v (by simpa [pmGet] using h)
        rw [show i + 2 + k = i + (k + 2) by omega]
        exact this
    | false =>
      rw [hu] at h
      rw [if_neg (by simpa using hu)]
      match i, h with
      | 0, h => simp [pmGet] at h; subst h; simp
      | i + 1, h =>
        refine List.mem_cons_of_mem _ ?_
        have := pmEnt_get r i (k + 1) v (by simpa [pmGet] using h)
        rw [show i + 1 + k = i + (k + 1) by omega]
        exact this
theorem lv_args_map (φ : Nat → Nat) : ∀ (vs : List Value) (k : Nat), lv_args k (vs.map (pmV φ)) = (lv_args k vs).map (fun q => (q.1, pmV φ q.2))
  | [], _ => rfl
  | v :: r, k => by simp [lv_args, pmV_cat, lv_args_map φ r]
theorem lv_args_mem : ∀ (vs : List Value) (k : Nat) (q : Nat × Value), q ∈ lv_args k vs → q.2 ∈ vs
  | [], _, _, h => by simp [lv_args] at h
  | v :: r, k, q, h => by
    unfold lv_args at h
    rcases List.mem_cons.mp h with e | e
    · rw [e]; exact List.mem_cons_self
    · exact List.mem_cons_of_mem _ (lv_args_mem r _ q e)
theorem pmEnt_len (φ : Nat → Nat) : ∀ vs : List Value, (lg_sl (vs.map (pmV φ))).length = (pmEnt vs).length
  | [] => rfl
  | v :: r => by
    have ih := pmEnt_len φ r
    have hc : pmIs2 (some v) = (v.category == 2) := pmIs2_cat rfl
    unfold pmEnt
    rw [hc]
    cases v <;> simp_all [lg_sl, pmV, Value.category]
