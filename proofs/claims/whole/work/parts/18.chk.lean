/-! ===== the check of the code ===== -/
def pgSig (y : MethodName) (n : Nat) : Bool := decide (y.cls ≠ "java/lang/invoke/MethodHandle") && (decide (y.cls ≠ "java/lang/invoke/VarHandle") && decide ((parseMethodDescriptor y.desc).map (fun d => d.parameters.length) = some n))
def pgNoH (r : pgR) : Bool := match r.2.2.2.1.2.2.1 with
  | [] => true
  | _ :: _ => false
def pgEwb (w : Cond) : Bool := decide (w ∈ lw_tbl) && pmEwOk w
def pgHost : String := "TrackRoutes"
/-- words by where they stand -/
def pgMh (hs : List Nat) (w : Cond) : Bool := hs.any (fun i => decide (lw_tbl[i]? = some w)) && goodWord w
def pgEh (hs : List Nat) (w : Cond) : Bool := hs.any (fun i => decide (lw_tbl[i]? = some w)) && pmEwOk w
def pgHint : List (Nat × List Nat) → Nat → List Nat
  | [], _ => []
  | q :: r, pc => match Nat.beq q.1 pc with
    | true => q.2
    | false => pgHint r pc
def pgFit (hs : List Nat) (mid x : Nat) : Bool := decide ((pgAt x).2.2.2.2.2.1 + 1 ≤ (pgAt mid).2.2.2.2.2.1) && (decide (8 + ((pgAt x).2.2.2.1.2.1 + 11) + (pgAt x).2.2.2.2.2.2 ≤ (pgAt mid).2.2.2.2.2.2) && (plainName (pgAt x).1.cls && pgMh hs (pgHw (pgAt x))))
def pgMth (hs : List Nat) (r : pgR) (pc : Nat) (y : MethodName) (cc : ByteArray) (n : Nat) (t : FieldType) : Bool := match decode r.2.1 pc with
  | .ok (.invokestatic idx, 3) => pgMh hs (.methodLink r.1.cls idx y) && (pgMh hs (.static y) && (pgMh hs (.initialized "java/lang/Math") && (pgMh hs (.code y cc n (some t)) && (decide (1 ≤ r.2.2.2.2.2.1) && decide (23 ≤ r.2.2.2.2.2.2)))))
  | _ => false
def pgChk (hs : List Nat) (mid : Nat) (r : pgR) (e : pmE) : Bool :=
  let cc := r.2.1
  let own := r.1.cls
  let pc := e.1
  let x := e.2.2.1
  let y := e.2.2.2.1
  match e.2.1 with
  | .ireturn => decide (decode cc pc = .ok (.ireturn, 1)) && (decide (r.2.2.1 = some .int) || (decide (r.2.2.1 = some .boolean) && decide (y = 1)))
  | .lreturn => decide (decode cc pc = .ok (.lreturn, 1)) && decide (r.2.2.1 = some .long)
  | .areturn => decide (decode cc pc = .ok (.areturn, 1)) && decide (r.2.2.1 = some (.array .int))
  | .return_ => decide (decode cc pc = .ok (.return_, 1)) && decide (r.2.2.1 = none)
  | .athrow => (match decode cc pc with
    | .ok (.new ik, 3) => (match decode cc (pc + 4) with
      | .ok (.ldc is, 2) => (match decode cc (pc + 6) with
        | .ok (.invokespecial ic, 3) => Bundle.fit (pgEx x) && (pgMh hs (.classLink own ik (pgEx x)) && (pgMh hs (.initialized (pgEx x)) && (pgSR.any (fun q => decide (q.1 = own) && decide (q.2.1 = is)) && (((vx_atS own ic (pgEx x) pmNm).filter goodWord).all (pgMh hs) && (((vx_atS own ic (pgEx x) pmNm).filter (fun w => !goodWord w)).all (pgEh hs) && ((Cond.classLink own ik (pgEx x) :: Cond.initialized (pgEx x) :: vx_atS own ic (pgEx x) pmNm).all vx_ot && (decide (decode cc (pc + 3) = .ok (.dup, 1)) && (decide (decode cc (pc + 9) = .ok (.athrow, 1)) && (decide (5 < r.2.2.2.2.2.1) && decide (90 ≤ r.2.2.2.2.2.2))))))))))
        | _ => false)
      | _ => false)
    | _ => false)
  | .nop => (match decode cc pc with
    | .ok (.invokespecial idx, 3) => pgMh hs (.methodLink own idx Lib.objectInit) && (pgMh hs (.instanceMethod Lib.objectInit) && (pgMh hs (.code Lib.objectInit ⟨#[0xb1]⟩ 1 none) && (decide (1 ≤ r.2.2.2.2.2.1) && decide (20 ≤ r.2.2.2.2.2.2))))
    | _ => false)
  | .swap => pgMth hs r pc Lib.Math.max.name Lib.Math.max.code 2 .int
  | .dup_x1 => pgMth hs r pc Lib.Math.min.name Lib.Math.min.code 2 .int
  | .dup_x2 => pgMth hs r pc Lib.MathLoose.max_long.x Lib.MathLoose.max_long.code 4 .long
  | .dup2_x1 => pgMth hs r pc Lib.MathLoose.min_long.x Lib.MathLoose.min_long.code 4 .long
  | .invokevirtual idx => decide (decode cc pc = .ok (.invokevirtual idx, 3)) && (decide (x < pgL.length) && (pgNoH (pgAt x) && (pgMh hs (.methodLink own idx (pgAt x).1) && (pgMh hs (.instanceMethod (pgAt x).1) && (pgMh hs (.selects (pgAt x).1.cls (pgAt x).1 (pgAt x).1) && (pgMh hs (.initialized (pgAt x).1.cls) && (pgSig (pgAt x).1 (y - 1) && (pgFit hs mid x && (match vwCl[(pgAt x).2.2.2.1.2.2.2]? with
    | some q => decide (q.1 = (pgAt x).1.cls)
    | none => false)))))))))
  | .invokestatic idx => decide (decode cc pc = .ok (.invokestatic idx, 3)) && (decide (x < pgL.length) && (pgSig (pgAt x).1 y && (pgFit hs mid x && (pgMh hs (.static (pgAt x).1) && (pgMh hs (.initialized (pgAt x).1.cls) && (pgMh hs (.methodLink own idx (pgAt x).1) || (pgNoH (pgAt x) && pgEh hs (.methodLinkNest own idx (pgAt x).1 pgHost))))))))
  | .invokespecial idx => decide (decode cc pc = .ok (.invokespecial idx, 3)) && (decide (x < pgL.length) && (pgNoH (pgAt x) && (decide ((pgAt x).2.2.1 = none) && (decide ((pgAt x).1.name = "<init>") && (pgSig (pgAt x).1 (y - 1) && (pgFit hs mid x && (pgMh hs (.initialized (pgAt x).1.cls) && (pgMh hs (.instanceMethod (pgAt x).1) && (pgMh hs (.methodLink own idx (pgAt x).1) || pgEh hs (.methodLinkNest own idx (pgAt x).1 pgHost))))))))))
  | i => (match pmKA i with
    | true => pmOkA own (pgMh hs) cc r.2.2.2.1.2.1 pc i x e.2.2.2.2
    | false => pmOkB vwCl own (decide (r.1.name = "<init>")) (pgMh hs) cc pc i x y)
def pgChkM (mid : Nat) (hl : List (Nat × List Nat)) : Bool := (pgAt mid).2.2.2.1.1.all (fun c => c.all (fun e => pgChk (pgHint hl e.1) mid (pgAt mid) e))
theorem pgMh_ok {hs : List Nat} {w : Cond} (h : pgMh hs w = true) : pgMb w = true := by
  simp only [pgMh, Bool.and_eq_true, List.any_eq_true, decide_eq_true_eq] at h
  obtain ⟨⟨i, -, hi⟩, hg⟩ := h
  simp only [pgMb, Bool.and_eq_true, decide_eq_true_eq]
  exact ⟨List.mem_of_getElem? hi, hg⟩
theorem pgEh_ok {hs : List Nat} {w : Cond} (h : pgEh hs w = true) : pgEwb w = true := by
  simp only [pgEh, Bool.and_eq_true, List.any_eq_true, decide_eq_true_eq] at h
  obtain ⟨⟨i, -, hi⟩, hg⟩ := h
  simp only [pgEwb, Bool.and_eq_true, decide_eq_true_eq]
  exact ⟨List.mem_of_getElem? hi, hg⟩
theorem pmOkA_mono {own : String} {mb mb1 : Cond → Bool} {cc : ByteArray} {nL pc x : Nat} {i : Instr} {k : Int32} (hm : ∀ w, mb w = true → mb1 w = true) (h : pmOkA own mb cc nL pc i x k = true) : pmOkA own mb1 cc nL pc i x k = true := by
  unfold pmOkA at h ⊢
  split at h <;> first
    | exact h
    | (simp only [Bool.and_eq_true] at h ⊢; exact ⟨h.1, hm _ h.2⟩)
theorem pmOkB_mono {cl : List vw_C} {own : String} {ini : Bool} {mb mb1 : Cond → Bool} {cc : ByteArray} {pc x y : Nat} {i : Instr} (hm : ∀ w, mb w = true → mb1 w = true) (h : pmOkB cl own ini mb cc pc i x y = true) : pmOkB cl own ini mb1 cc pc i x y = true := by
  unfold pmOkB at h ⊢
  split at h
  · cases hc : cl[x]? with
    | none => rw [hc] at h; simp at h
    | some q =>
      rw [hc] at h
      simp only [Bool.and_eq_true] at h ⊢
      exact ⟨h.1, h.2.1, hm _ h.2.2⟩
  · cases hc : cl[x]? with
    | none => rw [hc] at h; simp at h
    | some q =>
      rw [hc] at h
      simp only [Bool.and_eq_true] at h ⊢
      exact ⟨h.1, h.2.1, hm _ h.2.2.1, h.2.2.2⟩
  · simp only [Bool.and_eq_true] at h ⊢
    exact ⟨h.1, hm _ h.2⟩
  · cases hc : cl[x]? with
    | none => rw [hc] at h; simp at h
    | some q =>
      rw [hc] at h
      simp only [Bool.and_eq_true] at h ⊢
      exact ⟨h.1, hm _ h.2.1, hm _ h.2.2.1, hm _ h.2.2.2⟩
  · exact h
theorem pgMb_in {w : Cond} (h : pgMb w = true) (mid : Nat) : w ∈ dws pgD mid := by
  simp only [pgMb, Bool.and_eq_true, decide_eq_true_eq] at h
  exact List.mem_cons_of_mem _ (List.mem_filter.mpr ⟨h.1, h.2⟩)
set_option maxRecDepth 100000 in
theorem pgEw_in {w : Cond} (h : pgEwb w = true) : w ∈ dEW pgD := by
  simp only [pgEwb, Bool.and_eq_true, decide_eq_true_eq] at h
  have e : dEW pgD = List.filter pmEwOk lw_tbl := by unfold dEW pgD pgEW; rfl
  rw [e]
  exact List.mem_filter.mpr ⟨h.1, h.2⟩
theorem pgGood {x mid : Nat} (h : pgMb (pgHw (pgAt x)) = true) : GoodIn (dws pgD mid) (dws pgD x) := by
  intro w hw
  rcases List.mem_cons.mp hw with e | e
  · rw [e]
    simp only [pgMb, Bool.and_eq_true] at h
    exact ⟨pgMb_in (by simp only [pgMb, Bool.and_eq_true]; exact h) mid, good_of_word h.2⟩
  · exact ⟨List.mem_cons_of_mem _ e, good_of_word (List.mem_filter.mp e).2⟩
theorem pgGood1 {mid : Nat} {w : Cond} {ws : List Cond} (h : pgMb w = true) (h2 : GoodIn (dws pgD mid) ws) : GoodIn (dws pgD mid) (w :: ws) := by
  intro u hu
  rcases List.mem_cons.mp hu with e | e
  · rw [e]
    have h3 := h
    simp only [pgMb, Bool.and_eq_true] at h3
    exact ⟨pgMb_in h mid, good_of_word h3.2⟩
  · exact h2 u e
theorem pgG_at {x : Nat} {M : pmM} (h : pgG x = some M) : (pgAt x).2.2.2.1 = M ∧ x < pgL.length := by
  unfold pgG at h
  split at h
  · rename_i r hr
    cases h
    exact ⟨by simp [pgAt, hr], (List.getElem?_eq_some_iff.mp hr).1⟩
  · cases h
theorem pgHd {x : Nat} {M : pmM} (h : pgG x = some M) : pmHd pgD x M := by
  obtain ⟨h1, -⟩ := pgG_at h
  subst h1
  unfold pmHd
  cases hc : (pgAt x).2.2.2.1.2.2.1 with
  | nil =>
    refine Or.inl ⟨rfl, pgTb, ?_⟩
    show pgHw (pgAt x) :: pgTb = _
    unfold pgHw
    rw [hc]
    rfl
  | cons a b =>
    refine Or.inr ⟨by simp, pgTb, ?_⟩
    show pgHw (pgAt x) :: pgTb = _
    unfold pgHw
    rw [hc]
    rfl
theorem pgFit_ok {hs : List Nat} {mid x : Nat} {M : pmM} (hG : pgG x = some M) (h : pgFit hs mid x = true) : pmFit pgD mid x M ∧ pgMb (pgHw (pgAt x)) = true := by
  obtain ⟨h1, -⟩ := pgG_at hG
  have hd := pgHd hG
  subst h1
  simp only [pgFit, Bool.and_eq_true, decide_eq_true_eq] at h
  exact ⟨⟨h.1, h.2.1, h.2.2.1, hd⟩, pgMh_ok h.2.2.2⟩
theorem pgSig_ok {y : MethodName} {n : Nat} (h : pgSig y n = true) : pmSig y n := by
  simp only [pgSig, Bool.and_eq_true, decide_eq_true_eq] at h
  exact h
theorem pgNoH_ok {x : Nat} {M : pmM} (hG : pgG x = some M) (h : pgNoH (pgAt x) = true) : M.2.2.1 = [] := by
  obtain ⟨h1, -⟩ := pgG_at hG
  subst h1
  unfold pgNoH at h
  split at h
  · rename_i q; exact q
  · cases h
theorem pgMth_ok {hs : List Nat} {mid pc : Nat} {y : MethodName} {cc : ByteArray} {n : Nat} {t : FieldType} (h : pgMth hs (pgAt mid) pc y cc n t = true) : pmMth pgD mid pc y cc n t := by
  unfold pgMth at h
  split at h
  · rename_i idx d0
    simp only [Bool.and_eq_true, decide_eq_true_eq] at h
    obtain ⟨h1, h2, h3, h4, h5, h6⟩ := h
    exact ⟨idx, d0, pgMb_in (pgMh_ok h1) mid, pgMb_in (pgMh_ok h2) mid, pgMb_in (pgMh_ok h3) mid, pgMb_in (pgMh_ok h4) mid, h5, h6⟩
  · cases h
set_option maxHeartbeats 4000000 in
theorem pgChk_ok {hs : List Nat} {mid : Nat} {M : pmM} (hG : pgG mid = some M) {pc : Nat} {q : Instr × Nat × Nat × Int32} (h : pgChk hs mid (pgAt mid) (pc, q) = true) : pmEOk pgD mid M pc q := by
  obtain ⟨hM, -⟩ := pgG_at hG
  subst hM
  obtain ⟨i, x, y, k⟩ := q
  unfold pgChk at h
  unfold pmEOk
  dsimp only at h ⊢
  split at h
  · simp only [Bool.and_eq_true, decide_eq_true_eq, Bool.or_eq_true] at h; exact h
  · simp only [Bool.and_eq_true, decide_eq_true_eq] at h; exact h
  · simp only [Bool.and_eq_true, decide_eq_true_eq] at h; exact ⟨h.1, _, h.2⟩
  · simp only [Bool.and_eq_true, decide_eq_true_eq] at h; exact h
  · split at h
    · rename_i ik d0
      split at h
      · rename_i is d4
        split at h
        · rename_i ic d6
          simp only [Bool.and_eq_true, decide_eq_true_eq, List.any_eq_true, List.all_eq_true] at h
          obtain ⟨h1, h2, h3, ⟨⟨qa, qb, qc⟩, hq, hqa, hqb⟩, h5, h6, h7, h8, h9, h10, h11⟩ := h
          dsimp only at hqa hqb
          subst hqa
          subst hqb
          exact ⟨ik, _, ic, qc, h1, pgMb_in (pgMh_ok h2) mid, pgMb_in (pgMh_ok h3) mid, hq, fun w hw => pgMb_in (pgMh_ok (h5 w hw)) mid, fun w hw => pgEw_in (pgEh_ok (h6 w hw)), h7, d0, h8, d4, d6, h9, h10, h11⟩
        · cases h
      · cases h
    · cases h
  · split at h
    · rename_i idx d0
      simp only [Bool.and_eq_true, decide_eq_true_eq] at h
      obtain ⟨h1, h2, h3, h4, h5⟩ := h
      exact ⟨idx, d0, pgMb_in (pgMh_ok h1) mid, pgMb_in (pgMh_ok h2) mid, pgMb_in (pgMh_ok h3) mid, h4, h5⟩
    · cases h
  · exact pgMth_ok h
  · exact pgMth_ok h
  · exact pgMth_ok h
  · exact pgMth_ok h
  · rename_i idx
    simp only [Bool.and_eq_true, decide_eq_true_eq] at h
    obtain ⟨h0, h1, h2, h3, h4, h5, h6, h7, h8, h9⟩ := h
    refine ⟨h0, fun M2 hM2 => ?_⟩
    obtain ⟨f1, f2⟩ := pgFit_ok hM2 h8
    have e2 := (pgG_at hM2).1
    refine ⟨pgNoH_ok hM2 h2, pgGood1 (pgMh_ok h3) (pgGood1 (pgMh_ok h4) (pgGood1 (pgMh_ok h5) (pgGood1 (pgMh_ok h6) (pgGood f2)))), pgSig_ok h7, f1, ?_⟩
    split at h9
    · rename_i qq hqq
      simp only [decide_eq_true_eq] at h9
      obtain ⟨q1, q2, q3⟩ := qq
      dsimp only at h9
      subst h9
      rw [e2] at hqq
      exact ⟨q2, q3, hqq⟩
    · cases h9
  · rename_i idx
    simp only [Bool.and_eq_true, decide_eq_true_eq, Bool.or_eq_true] at h
    obtain ⟨h0, h1, h2, h3, h4, h5, h6⟩ := h
    refine ⟨h0, fun M2 hM2 => ?_⟩
    obtain ⟨f1, f2⟩ := pgFit_ok hM2 h3
    refine ⟨pgSig_ok h2, f1, ?_⟩
    rcases h6 with h6 | ⟨h6, h7⟩
    · exact Or.inl (pgGood1 (pgMh_ok h6) (pgGood1 (pgMh_ok h4) (pgGood1 (pgMh_ok h5) (pgGood f2))))
    · exact Or.inr ⟨pgNoH_ok hM2 h6, pgGood f2, ⟨pgHost, pgEw_in (pgEh_ok h7)⟩, pgMb_in (pgMh_ok h5) mid, pgMb_in (pgMh_ok h4) mid⟩
  · rename_i idx
    simp only [Bool.and_eq_true, decide_eq_true_eq, Bool.or_eq_true] at h
    obtain ⟨h0, h1, h2, h3, h4, h5, h6, h7, h8, h9⟩ := h
    refine ⟨h0, fun M2 hM2 => ?_⟩
    obtain ⟨f1, f2⟩ := pgFit_ok hM2 h6
    refine ⟨pgNoH_ok hM2 h2, h3, h4, pgSig_ok h5, f1, pgGood f2, pgMb_in (pgMh_ok h7) mid, pgMb_in (pgMh_ok h8) mid, ?_⟩
    rcases h9 with h9 | h9
    · exact Or.inl (pgMb_in (pgMh_ok h9) mid)
    · exact Or.inr ⟨pgHost, pgEw_in (pgEh_ok h9)⟩
  · have h2 : (match pmKA i with
        | true => pmOkA (pgAt mid).1.cls pgMb (pgAt mid).2.1 (pgAt mid).2.2.2.1.2.1 pc i x k
        | false => pmOkB vwCl (pgAt mid).1.cls (decide ((pgAt mid).1.name = "<init>")) pgMb (pgAt mid).2.1 pc i x y) = true := by
      cases hk : pmKA i with
      | true => rw [hk] at h; exact pmOkA_mono (fun w => pgMh_ok) h
      | false => rw [hk] at h; exact pmOkB_mono (fun w => pgMh_ok) h
    clear h
    split <;> first | exact h2 | (exfalso; simp_all; done)
