/-! ===== a logic for the pure machine ===== -/
/-- from here it comes to an end with Q -/
def PX (mid pc : Nat) (l : pmL) (st : List Value) (w : pmW) (Q : pmO → pmW → Prop) : Prop := ∃ (o : pmO) (w1 : pmW), (∃ n, ∀ m, n ≤ m → pmRun pgD m mid pc l st w = some (o, w1)) ∧ Q o w1
/-- a method, called with these arguments in this world -/
def MX (mid : Nat) (args : List Value) (w : pmW) (Q : pmO → pmW → Prop) : Prop := ∀ M, pgG mid = some M → PX mid 0 (pmPad M.2.1 (pmEnt args)) [] w Q
theorem PX.mono {mid pc : Nat} {l : pmL} {st : List Value} {w : pmW} {Q Q1 : pmO → pmW → Prop} (h : PX mid pc l st w Q) (hq : ∀ o w1, Q o w1 → Q1 o w1) : PX mid pc l st w Q1 := by
  obtain ⟨o, w1, h1, h2⟩ := h
  exact ⟨o, w1, h1, hq o w1 h2⟩
theorem MX.mono {mid : Nat} {args : List Value} {w : pmW} {Q Q1 : pmO → pmW → Prop} (h : MX mid args w Q) (hq : ∀ o w1, Q o w1 → Q1 o w1) : MX mid args w Q1 := fun M hM => (h M hM).mono hq
section PXA
variable {mid pc pc1 x y n : Nat} {k : Int32} {i : Instr} {M : pmM} {l l1 : pmL} {st st1 : List Value} {w w1 : pmW} {Q : pmO → pmW → Prop}
set_option maxHeartbeats 2000000 in
theorem pmX_A (hG : pgG mid = some M) (hc : pmCode M pc = some (i, x, y, k)) (h : pmA i x k pc l st = some (pc1, l1, st1)) : pmRun pgD (n + 1) mid pc l st w = pmRun pgD n mid pc1 l1 st1 w := by
  generalize hZ : pmRun pgD n mid pc1 l1 st1 w = Z
  show pmX (dty pgD) (pmN (dcl pgD)) (dG pgD) (n + 1) mid pc l st w = Z
  unfold pmX
  rw [show dG pgD mid = some M from hG]
  dsimp only
  rw [hc]
  dsimp only
  split
  all_goals first
    | (simp only [pmA] at h; cases h; done)
    | (rw [h]; exact hZ)
set_option maxHeartbeats 2000000 in
theorem pmX_B (hG : pgG mid = some M) (hc : pmCode M pc = some (i, x, y, k)) (h0 : pmA i x k pc l st = none) (h : pmB pgTy (pmN vwCl) i x y pc l st w = some (pc1, l1, st1, w1)) : pmRun pgD (n + 1) mid pc l st w = pmRun pgD n mid pc1 l1 st1 w1 := by
  generalize hZ : pmRun pgD n mid pc1 l1 st1 w1 = Z
  show pmX (dty pgD) (pmN (dcl pgD)) (dG pgD) (n + 1) mid pc l st w = Z
  unfold pmX
  rw [show dG pgD mid = some M from hG]
  dsimp only
  rw [hc]
  dsimp only
  split
  all_goals first
    | (simp only [pmB] at h; cases h; done)
    | (rw [h0]; dsimp only; rw [show pmB (dty pgD) (pmN (dcl pgD)) _ x y pc l st w = some (pc1, l1, st1, w1) from h]; exact hZ)
theorem PX.step (h : ∀ n, pmRun pgD (n + 1) mid pc l st w = pmRun pgD n mid pc1 l1 st1 w1) (K : PX mid pc1 l1 st1 w1 Q) : PX mid pc l st w Q := by
  obtain ⟨o, w2, ⟨n, hn⟩, hq⟩ := K
  refine ⟨o, w2, ⟨n + 1, fun m hm => ?_⟩, hq⟩
  obtain ⟨m', rfl⟩ : ∃ m', m = m' + 1 := ⟨m - 1, by omega⟩
  rw [h m']
  exact hn m' (by omega)
end PXA
/-- k steps that are no calls and no ends -/
def pmGo (M : pmM) : Nat → Nat → pmL → List Value → pmW → Option (Nat × pmL × List Value × pmW)
  | 0, pc, l, st, w => some (pc, l, st, w)
  | n + 1, pc, l, st, w => match pmCode M pc with
    | none => none
    | some (i, x, y, k) => match pmA i x k pc l st with
      | some (pc1, l1, st1) => pmGo M n pc1 l1 st1 w
      | none => match pmB pgTy (pmN vwCl) i x y pc l st w with
        | some (pc1, l1, st1, w1) => pmGo M n pc1 l1 st1 w1
        | none => none
theorem px_go {mid : Nat} {M : pmM} (hG : pgG mid = some M) {Q : pmO → pmW → Prop} {pc1 : Nat} {l1 : pmL} {st1 : List Value} {w1 : pmW} : ∀ (k pc : Nat) (l : pmL) (st : List Value) (w : pmW), pmGo M k pc l st w = some (pc1, l1, st1, w1) → PX mid pc1 l1 st1 w1 Q → PX mid pc l st w Q
  | 0, pc, l, st, w, h, K => by cases h; exact K
  | k + 1, pc, l, st, w, h, K => by
    unfold pmGo at h
    split at h
    · cases h
    · rename_i i x y c hc
      split at h
      · rename_i pc2 l2 st2 hA
        exact PX.step (fun n => pmX_A hG hc hA) (px_go hG k pc2 l2 st2 w h K)
      · rename_i hA
        split at h
        · rename_i pc2 l2 st2 w2 hB
          exact PX.step (fun n => pmX_B hG hc hA hB) (px_go hG k pc2 l2 st2 w2 h K)
        · cases h
section PXB
variable {mid pc x y : Nat} {k : Int32} {M : pmM} {l : pmL} {st r : List Value} {w : pmW} {Q : pmO → pmW → Prop}
def pmCnd : ClassFile.Cond → Int32 → Prop
  | .eq, v => v = 0
  | .ne, v => v ≠ 0
  | .lt, v => v < 0
  | .ge, v => 0 ≤ v
  | .gt, v => 0 < v
  | .le, v => v ≤ 0
def pmCnd2 : ClassFile.Cond → Int32 → Int32 → Prop
  | .eq, u, v => u = v
  | .ne, u, v => u ≠ v
  | .lt, u, v => u < v
  | .ge, u, v => v ≤ u
  | .gt, u, v => v < u
  | .le, u, v => u ≤ v
theorem px_if {cd : ClassFile.Cond} {off : Int} {v : Int32} (hG : pgG mid = some M) (hc : pmCode M pc = some (.ifCond cd off, x, y, k)) (kt : pmCnd cd v → PX mid x l r w Q) (kf : ¬ pmCnd cd v → PX mid (pc + 3) l r w Q) : PX mid pc l (.int v :: r) w Q := by
  by_cases h : pmCnd cd v
  · refine PX.step (fun n => pmX_A hG hc (pc1 := x) (l1 := l) (st1 := r) ?_) (kt h)
    cases cd <;> simp only [pmA, pmCnd] at h ⊢ <;> rw [if_pos h]
  · refine PX.step (fun n => pmX_A hG hc (pc1 := pc + 3) (l1 := l) (st1 := r) ?_) (kf h)
    cases cd <;> simp only [pmA, pmCnd] at h ⊢ <;> rw [if_neg h]
theorem px_cmp {cd : ClassFile.Cond} {off : Int} {u v : Int32} (hG : pgG mid = some M) (hc : pmCode M pc = some (.if_icmp cd off, x, y, k)) (kt : pmCnd2 cd u v → PX mid x l r w Q) (kf : ¬ pmCnd2 cd u v → PX mid (pc + 3) l r w Q) : PX mid pc l (.int v :: .int u :: r) w Q := by
  by_cases h : pmCnd2 cd u v
  · refine PX.step (fun n => pmX_A hG hc (pc1 := x) (l1 := l) (st1 := r) ?_) (kt h)
    cases cd <;> simp only [pmA, pmCnd2] at h ⊢ <;> rw [if_pos h]
  · refine PX.step (fun n => pmX_A hG hc (pc1 := pc + 3) (l1 := l) (st1 := r) ?_) (kf h)
    cases cd <;> simp only [pmA, pmCnd2] at h ⊢ <;> rw [if_neg h]
theorem px_iald {j : Int32} {a n : Nat} (hG : pgG mid = some M) (hc : pmCode M pc = some (.iaload, x, y, k)) (hh : pmh w a = .inl (.int, n)) (ha : a ≤ pmn w) {i : Nat} (hj : j = nI i) (hi : i < n) (hn : n < 2 ^ 31) (K : PX mid (pc + 1) l (.int (pmi w a i) :: r) w Q) : PX mid pc l (.int j :: .ref a :: r) w Q := by
  subst hj
  have e : (nI i).toNatClampNeg = i := nI_clamp (by omega)
  refine PX.step (fun m => pmX_B hG hc (pc1 := pc + 1) (l1 := l) (st1 := .int (pmi w a i) :: r) (w1 := w) rfl ?_) K
  simp only [pmB]
  rw [hh]
  dsimp only
  rw [if_pos ha, if_neg (nI_in hi hn), e]
theorem px_bald {j : Int32} {a n : Nat} (hG : pgG mid = some M) (hc : pmCode M pc = some (.baload, x, y, k)) (hh : pmh w a = .inl (.boolean, n)) (ha : 1 ≤ a ∧ a ≤ pmn w) {i : Nat} (hj : j = nI i) (hi : i < n) (hn : n < 2 ^ 31) (K : PX mid (pc + 1) l (.int (pmi w a i) :: r) w Q) : PX mid pc l (.int j :: .ref a :: r) w Q := by
  subst hj
  have e : (nI i).toNatClampNeg = i := nI_clamp (by omega)
  refine PX.step (fun m => pmX_B hG hc (pc1 := pc + 1) (l1 := l) (st1 := .int (pmi w a i) :: r) (w1 := w) rfl ?_) K
  simp only [pmB]
  rw [hh]
  dsimp only
  rw [if_pos ha, if_neg (nI_in hi hn), e]
theorem px_iast {j v : Int32} {a n : Nat} (hG : pgG mid = some M) (hc : pmCode M pc = some (.iastore, x, y, k)) (hh : pmh w a = .inl (.int, n)) (ha : 1 ≤ a ∧ a ≤ pmn w) {i : Nat} (hj : j = nI i) (hi : i < n) (hn : n < 2 ^ 31)
    (K : PX mid (pc + 1) l r (w.1, w.2.1, w.2.2.1, w.2.2.2.1, w.2.2.2.2.1, pmUI w.2.2.2.2.2.1 a i v, w.2.2.2.2.2.2) Q) : PX mid pc l (.int v :: .int j :: .ref a :: r) w Q := by
  subst hj
  have e : (nI i).toNatClampNeg = i := nI_clamp (by omega)
  refine PX.step (fun m => pmX_B hG hc (pc1 := pc + 1) (l1 := l) (st1 := r) (w1 := (w.1, w.2.1, w.2.2.1, w.2.2.2.1, w.2.2.2.2.1, pmUI w.2.2.2.2.2.1 a i v, w.2.2.2.2.2.2)) rfl ?_) K
  simp only [pmB]
  rw [hh]
  dsimp only
  rw [if_pos ha, if_neg (nI_in hi hn), e]
theorem px_bast {j v : Int32} {a n : Nat} (hG : pgG mid = some M) (hc : pmCode M pc = some (.bastore, x, y, k)) (hh : pmh w a = .inl (.boolean, n)) (ha : 1 ≤ a ∧ a ≤ pmn w) {i : Nat} (hj : j = nI i) (hi : i < n) (hn : n < 2 ^ 31)
    (K : PX mid (pc + 1) l r (w.1, w.2.1, w.2.2.1, w.2.2.2.1, w.2.2.2.2.1, pmUI w.2.2.2.2.2.1 a i (vp_nar .boolean v), w.2.2.2.2.2.2) Q) : PX mid pc l (.int v :: .int j :: .ref a :: r) w Q := by
  subst hj
  have e : (nI i).toNatClampNeg = i := nI_clamp (by omega)
  refine PX.step (fun m => pmX_B hG hc (pc1 := pc + 1) (l1 := l) (st1 := r) (w1 := (w.1, w.2.1, w.2.2.1, w.2.2.2.1, w.2.2.2.2.1, pmUI w.2.2.2.2.2.1 a i (vp_nar .boolean v), w.2.2.2.2.2.2)) rfl ?_) K
  simp only [pmB]
  rw [hh]
  dsimp only
  rw [if_pos ha, if_neg (nI_in hi hn), e]
theorem PX.ends {o : pmO} {w1 : pmW} (h : ∀ n, pmRun pgD (n + 1) mid pc l st w = some (o, w1)) (hq : Q o w1) : PX mid pc l st w Q :=
  ⟨o, w1, ⟨1, fun m hm => by obtain ⟨m', rfl⟩ : ∃ m', m = m' + 1 := ⟨m - 1, by omega⟩; exact h m'⟩, hq⟩
theorem px_iret {v : Int32} (hG : pgG mid = some M) (hc : pmCode M pc = some (.ireturn, x, y, k)) (hy : y = 0 ∨ v = 0 ∨ v = 1) (hq : Q (.inl (some (.int v))) w) : PX mid pc l [.int v] w Q := by
  refine PX.ends (fun n => ?_) hq
  show pmX (dty pgD) (pmN (dcl pgD)) (dG pgD) (n + 1) mid pc l _ w = _
  unfold pmX
  rw [show dG pgD mid = some M from hG]
  dsimp only
  rw [hc]
  dsimp only
  rw [if_pos hy]
theorem px_vret (hG : pgG mid = some M) (hc : pmCode M pc = some (.return_, x, y, k)) (hq : Q (.inl none) w) : PX mid pc l [] w Q := by
  refine PX.ends (fun n => ?_) hq
  show pmX (dty pgD) (pmN (dcl pgD)) (dG pgD) (n + 1) mid pc l _ w = _
  unfold pmX
  rw [show dG pgD mid = some M from hG]
  dsimp only
  rw [hc]
theorem px_aret {a : Nat} (hG : pgG mid = some M) (hc : pmCode M pc = some (.areturn, x, y, k)) (hq : Q (.inl (some (.ref a))) w) : PX mid pc l [.ref a] w Q := by
  refine PX.ends (fun n => ?_) hq
  show pmX (dty pgD) (pmN (dcl pgD)) (dG pgD) (n + 1) mid pc l _ w = _
  unfold pmX
  rw [show dG pgD mid = some M from hG]
  dsimp only
  rw [hc]
theorem px_throw (hG : pgG mid = some M) (hc : pmCode M pc = some (.athrow, x, y, k)) (hM : M.2.2.1 = []) (hs : pmSum st ≤ 8) (hq : Q (.inr x) (pmBmp w)) : PX mid pc l st w Q := by
  refine PX.ends (fun n => ?_) hq
  show pmX (dty pgD) (pmN (dcl pgD)) (dG pgD) (n + 1) mid pc l _ w = _
  unfold pmX
  rw [show dG pgD mid = some M from hG]
  dsimp only
  rw [hc]
  dsimp only
  rw [hM]
  dsimp only
  rw [if_pos hs]
end PXB
section PXC
variable {mid pc x y : Nat} {k : Int32} {M M2 : pmM} {l : pmL} {st rest As : List Value} {w : pmW} {Q Q1 : pmO → pmW → Prop} {idx : Nat}
theorem pm_split (hst : st = As.reverse ++ rest) (hy : As.length = y) : y ≤ st.length ∧ st.drop y = rest ∧ (st.take y).reverse = As := by
  subst hst
  subst hy
  refine ⟨by simp, ?_, ?_⟩
  · rw [show As.length = As.reverse.length by simp, List.drop_left]
  · rw [show As.length = As.reverse.length by simp, List.take_left, List.reverse_reverse]
theorem px_callS (hG : pgG mid = some M) (hc : pmCode M pc = some (.invokestatic idx, x, y, k)) (hG2 : pgG x = some M2) (hst : st = As.reverse ++ rest) (hy : As.length = y) (hs : pmSum rest ≤ 8) (he : (pmEnt As).length ≤ M2.2.1) (hM : MX x As w Q1)
    (kr : ∀ o w1, Q1 o w1 → ∃ v, o = .inl v ∧ PX mid (pc + 3) l (v.toList ++ rest) w1 Q) : PX mid pc l st w Q := by
  obtain ⟨h1, h2, h3⟩ := pm_split hst hy
  obtain ⟨o, w1, ⟨n, hn⟩, hq⟩ := hM M2 hG2
  obtain ⟨v, rfl, o2, w2, ⟨n2, hn2⟩, hq2⟩ := kr o w1 hq
  refine ⟨o2, w2, ⟨max n n2 + 1, fun m hm => ?_⟩, hq2⟩
  obtain ⟨m', rfl⟩ : ∃ m', m = m' + 1 := ⟨m - 1, by omega⟩
  have e1 := hn m' (by omega)
  have e2 := hn2 m' (by omega)
  show pmX (dty pgD) (pmN (dcl pgD)) (dG pgD) (m' + 1) mid pc l _ w = _
  unfold pmX
  rw [show dG pgD mid = some M from hG]
  dsimp only
  rw [hc]
  dsimp only
  rw [show dG pgD x = some M2 from hG2]
  dsimp only
  rw [h2, h3, if_pos ⟨h1, hs, he⟩]
  rw [show pmX (dty pgD) (pmN (dcl pgD)) (dG pgD) m' x 0 (pmPad M2.2.1 (pmEnt As)) [] w = some (.inl v, w1) from e1]
  exact e2
theorem px_callI (hG : pgG mid = some M) (hc : pmCode M pc = some (.invokespecial idx, x, y, k)) (hG2 : pgG x = some M2) {a : Nat} (hst : st = As.reverse ++ .ref a :: rest) (hy : As.length + 1 = y) (hs : pmSum rest ≤ 8) (he : (pmEnt (.ref a :: As)).length ≤ M2.2.1) (hM : MX x (.ref a :: As) w Q1)
    (kr : ∀ o w1, Q1 o w1 → ∃ v, o = .inl v ∧ PX mid (pc + 3) l (v.toList ++ rest) w1 Q) : PX mid pc l st w Q := by
  have hst2 : st = (.ref a :: As).reverse ++ rest := by rw [hst]; simp
  obtain ⟨h1, h2, h3⟩ := pm_split hst2 hy
  have h4 : pmRf1 st y = true := by
    unfold pmRf1
    rw [show st.drop (y - 1) = .ref a :: rest by rw [hst, show y - 1 = As.reverse.length by simp; omega, List.drop_left]]
  obtain ⟨o, w1, ⟨n, hn⟩, hq⟩ := hM M2 hG2
  obtain ⟨v, rfl, o2, w2, ⟨n2, hn2⟩, hq2⟩ := kr o w1 hq
  refine ⟨o2, w2, ⟨max n n2 + 1, fun m hm => ?_⟩, hq2⟩
  obtain ⟨m', rfl⟩ : ∃ m', m = m' + 1 := ⟨m - 1, by omega⟩
  have e1 := hn m' (by omega)
  have e2 := hn2 m' (by omega)
  show pmX (dty pgD) (pmN (dcl pgD)) (dG pgD) (m' + 1) mid pc l _ w = _
  unfold pmX
  rw [show dG pgD mid = some M from hG]
  dsimp only
  rw [hc]
  dsimp only
  rw [show dG pgD x = some M2 from hG2]
  dsimp only
  rw [h2, h3, if_pos ⟨h1, by omega, hs, h4, he⟩]
  rw [show pmX (dty pgD) (pmN (dcl pgD)) (dG pgD) m' x 0 (pmPad M2.2.1 (pmEnt (.ref a :: As))) [] w = some (.inl v, w1) from e1]
  exact e2
theorem px_callV (hG : pgG mid = some M) (hc : pmCode M pc = some (.invokevirtual idx, x, y, k)) (hG2 : pgG x = some M2) {a : Nat} (hst : st = As.reverse ++ .ref a :: rest) (hy : As.length + 1 = y) (hs : pmSum rest ≤ 8) (he : (pmEnt (.ref a :: As)).length ≤ M2.2.1) (hh : pmh w a = .inr M2.2.2.2) (ha : 1 ≤ a ∧ a ≤ pmn w) (hM : MX x (.ref a :: As) w Q1)
    (kr : ∀ o w1, Q1 o w1 → (∃ v, o = .inl v ∧ PX mid (pc + 3) l (v.toList ++ rest) w1 Q) ∨ (∃ ex, o = .inr ex ∧ M.2.2.1 = [] ∧ Q (.inr ex) w1)) : PX mid pc l st w Q := by
  have hst2 : st = (.ref a :: As).reverse ++ rest := by rw [hst]; simp
  obtain ⟨h1, h2, h3⟩ := pm_split hst2 hy
  have h4 : pmRc w M2.2.2.2 st y = true := by
    unfold pmRc
    rw [show st.drop (y - 1) = .ref a :: rest by rw [hst, show y - 1 = As.reverse.length by simp; omega, List.drop_left]]
    dsimp only
    rw [hh]
    simp only [Bool.and_eq_true, Nat.beq_refl, Nat.ble_eq, true_and]
    exact ha
  obtain ⟨o, w1, ⟨n, hn⟩, hq⟩ := hM M2 hG2
  rcases kr o w1 hq with ⟨v, rfl, o2, w2, ⟨n2, hn2⟩, hq2⟩ | ⟨ex, rfl, hno, hq2⟩
  · refine ⟨o2, w2, ⟨max n n2 + 1, fun m hm => ?_⟩, hq2⟩
    obtain ⟨m', rfl⟩ : ∃ m', m = m' + 1 := ⟨m - 1, by omega⟩
    have e1 := hn m' (by omega)
    have e2 := hn2 m' (by omega)
    show pmX (dty pgD) (pmN (dcl pgD)) (dG pgD) (m' + 1) mid pc l _ w = _
    unfold pmX
    rw [show dG pgD mid = some M from hG]
    dsimp only
    rw [hc]
    dsimp only
    rw [show dG pgD x = some M2 from hG2]
    dsimp only
    rw [h2, h3, if_pos ⟨h1, by omega, hs, h4, he⟩]
    rw [show pmX (dty pgD) (pmN (dcl pgD)) (dG pgD) m' x 0 (pmPad M2.2.1 (pmEnt (.ref a :: As))) [] w = some (.inl v, w1) from e1]
    exact e2
  · refine ⟨.inr ex, w1, ⟨n + 1, fun m hm => ?_⟩, hq2⟩
    obtain ⟨m', rfl⟩ : ∃ m', m = m' + 1 := ⟨m - 1, by omega⟩
    have e1 := hn m' (by omega)
    show pmX (dty pgD) (pmN (dcl pgD)) (dG pgD) (m' + 1) mid pc l _ w = _
    unfold pmX
    rw [show dG pgD mid = some M from hG]
    dsimp only
    rw [hc]
    dsimp only
    rw [show dG pgD x = some M2 from hG2]
    dsimp only
    rw [h2, h3, if_pos ⟨h1, by omega, hs, h4, he⟩]
    rw [show pmX (dty pgD) (pmN (dcl pgD)) (dG pgD) m' x 0 (pmPad M2.2.1 (pmEnt (.ref a :: As))) [] w = some (.inr ex, w1) from e1]
    dsimp only
    rw [hno]
/-- Math's own and Object.<init> -/
theorem px_imax {a b : Int32} {r : List Value} (hG : pgG mid = some M) (hc : pmCode M pc = some (.swap, x, y, k)) (hs : pmSum r ≤ 8) (K : PX mid (pc + 3) l (.int (if a < b then b else a) :: r) w Q) : PX mid pc l (.int b :: .int a :: r) w Q := by
  refine PX.step (fun n => ?_) K
  generalize hZ : pmRun pgD n mid (pc + 3) l (.int (if a < b then b else a) :: r) w = Z
  show pmX (dty pgD) (pmN (dcl pgD)) (dG pgD) (n + 1) mid pc l _ w = Z
  unfold pmX
  rw [show dG pgD mid = some M from hG]
  dsimp only
  rw [hc]
  dsimp only
  rw [if_pos hs]
  exact hZ
theorem px_imin {a b : Int32} {r : List Value} (hG : pgG mid = some M) (hc : pmCode M pc = some (.dup_x1, x, y, k)) (hs : pmSum r ≤ 8) (K : PX mid (pc + 3) l (.int (if b < a then b else a) :: r) w Q) : PX mid pc l (.int b :: .int a :: r) w Q := by
  refine PX.step (fun n => ?_) K
  generalize hZ : pmRun pgD n mid (pc + 3) l (.int (if b < a then b else a) :: r) w = Z
  show pmX (dty pgD) (pmN (dcl pgD)) (dG pgD) (n + 1) mid pc l _ w = Z
  unfold pmX
  rw [show dG pgD mid = some M from hG]
  dsimp only
  rw [hc]
  dsimp only
  rw [if_pos hs]
  exact hZ
theorem px_lmax {a b : Int64} {r : List Value} (hG : pgG mid = some M) (hc : pmCode M pc = some (.dup_x2, x, y, k)) (hs : pmSum r ≤ 8) (K : PX mid (pc + 3) l (.long (if b < a then a else b) :: r) w Q) : PX mid pc l (.long b :: .long a :: r) w Q := by
  refine PX.step (fun n => ?_) K
  generalize hZ : pmRun pgD n mid (pc + 3) l (.long (if b < a then a else b) :: r) w = Z
  show pmX (dty pgD) (pmN (dcl pgD)) (dG pgD) (n + 1) mid pc l _ w = Z
  unfold pmX
  rw [show dG pgD mid = some M from hG]
  dsimp only
  rw [hc]
  dsimp only
  rw [if_pos hs]
  exact hZ
theorem px_lmin {a b : Int64} {r : List Value} (hG : pgG mid = some M) (hc : pmCode M pc = some (.dup2_x1, x, y, k)) (hs : pmSum r ≤ 8) (K : PX mid (pc + 3) l (.long (if b < a then b else a) :: r) w Q) : PX mid pc l (.long b :: .long a :: r) w Q := by
  refine PX.step (fun n => ?_) K
  generalize hZ : pmRun pgD n mid (pc + 3) l (.long (if b < a then b else a) :: r) w = Z
  show pmX (dty pgD) (pmN (dcl pgD)) (dG pgD) (n + 1) mid pc l _ w = Z
  unfold pmX
  rw [show dG pgD mid = some M from hG]
  dsimp only
  rw [hc]
  dsimp only
  rw [if_pos hs]
  exact hZ
theorem px_obj {a : Nat} {r : List Value} (hG : pgG mid = some M) (hc : pmCode M pc = some (.nop, x, y, k)) (hs : pmSum r ≤ 8) (K : PX mid (pc + 3) l r w Q) : PX mid pc l (.ref a :: r) w Q := by
  refine PX.step (fun n => ?_) K
  generalize hZ : pmRun pgD n mid (pc + 3) l r w = Z
  show pmX (dty pgD) (pmN (dcl pgD)) (dG pgD) (n + 1) mid pc l _ w = Z
  unfold pmX
  rw [show dG pgD mid = some M from hG]
  dsimp only
  rw [hc]
  dsimp only
  rw [if_pos hs]
  exact hZ
/-- a call whose throw is caught here -/
theorem px_callH (hG : pgG mid = some M) (hc : pmCode M pc = some (.invokevirtual idx, x, y, k)) (hG2 : pgG x = some M2) {a : Nat} (hst : st = As.reverse ++ .ref a :: rest) (hy : As.length + 1 = y) (hs : pmSum rest ≤ 8) (he : (pmEnt (.ref a :: As)).length ≤ M2.2.1) (hh : pmh w a = .inr M2.2.2.2) (ha : 1 ≤ a ∧ a ≤ pmn w) (hM : MX x (.ref a :: As) w Q1) (hne : M.2.2.1 ≠ [])
    (kr : ∀ o w1, Q1 o w1 → (∃ v, o = .inl v ∧ PX mid (pc + 3) l (v.toList ++ rest) w1 Q) ∨ (∃ ex h z, o = .inr ex ∧ pmHand M.2.2.1 pc ex = some h ∧ ((∃ j u c, pmCode M h = some (.astore_n j, z, u, c) ∧ PX mid (h + 1) (pmDel z (pmSet (.int 0) z l)) [] w1 Q) ∨ (∃ j u c, pmCode M h = some (.astore j, z, u, c) ∧ PX mid (h + 2) (pmDel z (pmSet (.int 0) z l)) [] w1 Q)))) : PX mid pc l st w Q := by
  have hst2 : st = (.ref a :: As).reverse ++ rest := by rw [hst]; simp
  obtain ⟨h1, h2, h3⟩ := pm_split hst2 hy
  have h4 : pmRc w M2.2.2.2 st y = true := by
    unfold pmRc
    rw [show st.drop (y - 1) = .ref a :: rest by rw [hst, show y - 1 = As.reverse.length by simp; omega, List.drop_left]]
    dsimp only
    rw [hh]
    simp only [Bool.and_eq_true, Nat.beq_refl, Nat.ble_eq, true_and]
    exact ha
  obtain ⟨o, w1, ⟨n, hn⟩, hq⟩ := hM M2 hG2
  have go : ∀ m', n ≤ m' → ∀ Fn : Nat → pmL → List Value → pmW → Option (pmO × pmW), (∀ a b c d, Fn a b c d = pmRun pgD m' mid a b c d) → pmRun pgD (m' + 1) mid pc l st w = (match (o, w1) with
      | (.inl v, w1) => Fn (pc + 3) l (v.toList ++ rest) w1
      | (.inr ex, w1) => (match M.2.2.1 with
        | [] => some (.inr ex, w1)
        | _ :: _ => (match pmHand M.2.2.1 pc ex with
          | none => none
          | some h => (match pmCode M h with
            | some (.astore_n _, z, _, _) => Fn (h + 1) (pmDel z (pmSet (.int 0) z l)) [] w1
            | some (.astore _, z, _, _) => Fn (h + 2) (pmDel z (pmSet (.int 0) z l)) [] w1
            | _ => none)))) := by
    intro m' hm' Fn hFn
    have e1 := hn m' hm'
    show pmX (dty pgD) (pmN (dcl pgD)) (dG pgD) (m' + 1) mid pc l _ w = _
    unfold pmX
    rw [show dG pgD mid = some M from hG]
    dsimp only
    rw [hc]
    dsimp only
    rw [show dG pgD x = some M2 from hG2]
    dsimp only
    rw [h2, h3, if_pos ⟨h1, by omega, hs, h4, he⟩]
    rw [show pmX (dty pgD) (pmN (dcl pgD)) (dG pgD) m' x 0 (pmPad M2.2.1 (pmEnt (.ref a :: As))) [] w = some (o, w1) from e1]
    have hF2 : Fn = fun a b c d => pmRun pgD m' mid a b c d := by funext a b c d; exact hFn a b c d
    rw [hF2]
    cases o <;> rfl
  have fin : ∀ {pc2 : Nat} {l2 : pmL} {st2 : List Value}, PX mid pc2 l2 st2 w1 Q → (∀ m', n ≤ m' → pmRun pgD (m' + 1) mid pc l st w = pmRun pgD m' mid pc2 l2 st2 w1) → PX mid pc l st w Q := by
    intro pc2 l2 st2 K hk
    obtain ⟨o2, w2, ⟨n2, hn2⟩, hq2⟩ := K
    refine ⟨o2, w2, ⟨max n n2 + 1, fun m hm => ?_⟩, hq2⟩
    obtain ⟨m', rfl⟩ : ∃ m', m = m' + 1 := ⟨m - 1, by omega⟩
    rw [hk m' (by omega)]
    exact hn2 m' (by omega)
  rcases kr o w1 hq with ⟨v, rfl, K⟩ | ⟨ex, h, z, rfl, hh1, hh2⟩
  · exact fin K (fun m' hm' => go m' hm' _ (fun _ _ _ _ => rfl))
  · have hcs : ∃ p q, M.2.2.1 = p :: q := by
      cases hq : M.2.2.1 with
      | nil => exact absurd hq hne
      | cons p q => exact ⟨p, q, rfl⟩
    obtain ⟨p, q, hpq⟩ := hcs
    rcases hh2 with ⟨j, u, c, hc2, K⟩ | ⟨j, u, c, hc2, K⟩
    · refine fin K (fun m' hm' => ?_)
      rw [go m' hm' _ (fun _ _ _ _ => rfl)]
      dsimp only
      rw [hh1]
      rw [hpq]
      dsimp only
      rw [hc2]
    · refine fin K (fun m' hm' => ?_)
      rw [go m' hm' _ (fun _ _ _ _ => rfl)]
      dsimp only
      rw [hh1]
      rw [hpq]
      dsimp only
      rw [hc2]
end PXC
