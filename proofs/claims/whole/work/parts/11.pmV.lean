section PMV
variable {D : pmD} {l : Launch}
theorem pm_mono : ∀ (n mid pc : Nat) (lo : pmL) (st : List Value) (w : pmW) (o : pmO) (w1 : pmW), pmRun D n mid pc lo st w = some (o, w1) → pmn w ≤ pmn w1 ∧ pmnc w ≤ pmnc w1 ∧ pmns w ≤ pmns w1 := by
  intro n
  induction n with
  | zero => intro mid pc lo st w o w1 h; cases h
  | succ n ih =>
    intro mid pc lo st w o w1 h
    have tr : ∀ {w2 : pmW}, (pmn w ≤ pmn w2 ∧ pmnc w ≤ pmnc w2 ∧ pmns w ≤ pmns w2) → (pmn w2 ≤ pmn w1 ∧ pmnc w2 ≤ pmnc w1 ∧ pmns w2 ≤ pmns w1) → pmn w ≤ pmn w1 ∧ pmnc w ≤ pmnc w1 ∧ pmns w ≤ pmns w1 := fun a b => ⟨Nat.le_trans a.1 b.1, Nat.le_trans a.2.1 b.2.1, Nat.le_trans a.2.2 b.2.2⟩
    unfold pmRun pmX at h
    split at h
    · cases h
    · split at h
      · cases h
      · split at h
        · split at h
          · split at h
            · cases h; exact ⟨Nat.le_refl _, Nat.le_refl _, Nat.le_refl _⟩
            · cases h
          · cases h
        · split at h
          · cases h; exact ⟨Nat.le_refl _, Nat.le_refl _, Nat.le_refl _⟩
          · cases h
        · split at h
          · cases h; exact ⟨Nat.le_refl _, Nat.le_refl _, Nat.le_refl _⟩
          · cases h
        · split at h
          · cases h; exact ⟨Nat.le_refl _, Nat.le_refl _, Nat.le_refl _⟩
          · cases h
        · split at h
          · split at h
            · cases h; exact ⟨Nat.le_refl _, Nat.le_succ _, Nat.le_add_right _ _⟩
            · cases h
          · cases h
        · split at h
          · split at h
            · exact ih _ _ _ _ _ _ _ h
            · cases h
          · cases h
        · split at h
          · split at h
            · exact ih _ _ _ _ _ _ _ h
            · cases h
          · cases h
        · split at h
          · split at h
            · exact ih _ _ _ _ _ _ _ h
            · cases h
          · cases h
        · split at h
          · split at h
            · exact ih _ _ _ _ _ _ _ h
            · cases h
          · cases h
        · split at h
          · split at h
            · exact ih _ _ _ _ _ _ _ h
            · cases h
          · cases h
        · split at h
          · cases h
          · split at h
            · split at h
              · cases h
              · rename_i hq; exact tr (ih _ _ _ _ _ _ _ hq) (ih _ _ _ _ _ _ _ h)
              · rename_i hq
                split at h
                · cases h; exact ih _ _ _ _ _ _ _ hq
                · split at h
                  · cases h
                  · split at h
                    · exact tr (ih _ _ _ _ _ _ _ hq) (ih _ _ _ _ _ _ _ h)
                    · exact tr (ih _ _ _ _ _ _ _ hq) (ih _ _ _ _ _ _ _ h)
                    · cases h
            · cases h
        · split at h
          · cases h
          · split at h
            · split at h
              · rename_i hq; exact tr (ih _ _ _ _ _ _ _ hq) (ih _ _ _ _ _ _ _ h)
              · cases h
            · cases h
        · split at h
          · cases h
          · split at h
            · split at h
              · rename_i hq; exact tr (ih _ _ _ _ _ _ _ hq) (ih _ _ _ _ _ _ _ h)
              · cases h
            · cases h
        · split at h
          · exact ih _ _ _ _ _ _ _ h
          · split at h
            · rename_i hq; exact tr (pmB_keep hq).2.1 (ih _ _ _ _ _ _ _ h)
            · cases h
theorem pmSum_eq (φ : Nat → Nat) : ∀ st : List Value, ((st.map (pmV φ)).map fun v => v.category).sum = pmSum st
  | [] => rfl
  | v :: r => by simp [pmSum, pmV_cat, ← pmSum_eq φ r]
theorem pmSum_eq0 : ∀ st : List Value, (st.map fun v => v.category).sum = pmSum st
  | [] => rfl
  | v :: r => by simp [pmSum, ← pmSum_eq0 r]
/-- a contract that can't throw -/
theorem pm_toMet {y : MethodName} {ws : List Cond} {rm : Room} {Pc : Array Value → State → Prop} {Qc : Array Value → State → Outcome → State → Prop} {XC : String → State → State → Prop} {mc ms : Nat} {free : Addr → Prop} (h : vx_Met l y ws rm Pc Qc XC mc ms free) (hx : ∀ E st t, ¬ XC E st t) : Met l y ws rm Pc Qc mc ms free := by
  intro p e h1 h2 h3 s m args below h4 h5 h6 h7
  obtain ⟨n, o, a1, a2, a3, a4⟩ := h p e h1 h2 h3 s m args below h4 h5 h6 h7
  refine ⟨n, o, a1, a2, a3, ?_⟩
  rcases a4 with q | ⟨q, -, E, ce, L, z, -⟩
  · exact q
  · exact absurd z (hx _ _ _)
/-- the frame of the contract is blind -/
theorem pmPc_blind {dC : Nat → ClassId} {dI : Nat → Nat → Nat} {cI cZ cJ : ClassId} {L : Nat} {φ : Nat → Nat} {w : pmW} {vs : List Value} {sz : Nat} : FrameBlind (pmPc D dC dI cI cZ cJ L φ w vs sz) := by
  intro a U g mk h
  obtain ⟨q0, q1, qP, qK, qD, qX, qX2, qX3, qG⟩ := h
  exact ⟨q0, q1, qP, va_K.moved (u := U) (U := U.calling g mk a) (Vm.Alike.refl U.vm) qK, qD, va_X.moved (u := U) (U := U.calling g mk a) (Vm.Alike.refl U.vm) qX, qX2, qX3, qG.calling g mk a⟩
/-- the contract's start at a call -/
theorem pmPc_at {dC : Nat → ClassId} {dI : Nat → Nat → Nat} {cI cZ cJ : ClassId} {A : Nat → Prop} {s : State} {b L : Nat} {xs : Nat → Int32} {φ : Nat → Nat} {w : pmW} {vs : List Value} {H : Heap} {locs : List Loc}
    (F : pmFix (dcl D) dC dI cI cZ cJ A s b L xs) (I : pmInv (dcl D) (dty D) dC dI cI cZ cJ A s b L xs φ w H locs) (G : pmG D A s) (hA : ∀ q, va_A (pmWd (dcl D) (dty D) cI cZ cJ φ w) H.size q → A q) : ∀ U : State, U.heap = H → s.WarmedH U.vm → pmPc D dC dI cI cZ cJ L φ w vs H.size (vs.map (pmV φ)).toArray U := by
  intro U hU hW
  obtain ⟨hK, hA0, hX, hbl, hbA⟩ := F
  obtain ⟨hP, hD, hS, hw, h0, hh0, hi0⟩ := I
  subst hU
  have hX1 : va_X b L xs U U.heap := (hX.moved hW.alike).kept (hS.2.1 b hbl hbA)
  refine ⟨rfl, rfl, hP, va_K.moved hW.alike hK, hD.weaken (fun _ _ _ _ => trivial), by rw [h0, hi0]; exact hX1, by rw [h0]; exact Nat.lt_of_lt_of_le hbl hS.1, ?_, G.next hW rfl hS hA⟩
  rw [h0]
  exact fun q => hbA (hA b q)
/-- the callee may change no more than the caller -/
theorem pmA_sub {dC : Nat → ClassId} {dI : Nat → Nat → Nat} {cI cZ cJ : ClassId} {A : Nat → Prop} {s : State} {b L : Nat} {xs : Nat → Int32} {φ : Nat → Nat} {w : pmW} {H : Heap} {locs : List Loc}
    (F : pmFix (dcl D) dC dI cI cZ cJ A s b L xs) (I : pmInv (dcl D) (dty D) dC dI cI cZ cJ A s b L xs φ w H locs) : ∀ q, va_A (pmWd (dcl D) (dty D) cI cZ cJ φ w) H.size q → A q := by
  intro q h
  rcases h with ⟨k, e, h⟩ | h
  · exact I.2.1.2 k (q, e) h
  · exact F.2.1 q (Nat.le_trans I.2.2.1.1 h)
/-- behind a call -/
theorem pmInv_back {dC : Nat → ClassId} {dI : Nat → Nat → Nat} {cI cZ cJ : ClassId} {A : Nat → Prop} {s st₀ t T' : State} {b L : Nat} {xs : Nat → Int32} {φ φ1 : Nat → Nat} {w w1 : pmW} {H : Heap} {locs L1 : List Loc}
    (F : pmFix (dcl D) dC dI cI cZ cJ A s b L xs) (I : pmInv (dcl D) (dty D) dC dI cI cZ cJ A s b L xs φ w H locs) (h0 : st₀.heap = H) (e1 : T'.heap = t.heap) (hL : ∀ q ∈ L1, va_A (pmWd (dcl D) (dty D) cI cZ cJ φ w) H.size q.base)
    (B : pmPw D dC dI cI cZ cJ φ w w1 H.size st₀ t φ1) : pmInv (dcl D) (dty D) dC dI cI cZ cJ A s b L xs φ1 w1 T'.heap (locs ++ L1) := by
  have hA := pmA_sub F I
  obtain ⟨hP, hD, hS, hw, g0, hh0, hi0⟩ := I
  obtain ⟨bP, bD, bφ, bw, bh, bi, bF⟩ := B
  obtain ⟨k1, k2, k3⟩ := vx_keep h0 e1 hS (fun q _ z => hA q z) hA hL bF
  exact ⟨by rw [e1]; exact bP, bD.weaken (fun k q _ z => hA q.1 z), k3, bw, (bφ 0 (Nat.zero_le _)).trans g0, bh.trans hh0, bi.trans hi0⟩
end PMV
