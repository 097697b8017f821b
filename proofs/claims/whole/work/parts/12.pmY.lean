section PMY
variable {D : pmD} {l : Launch}
theorem pmLv_del2 {φ : Nat → Nat} {lo : pmL} {ls : Array Slot} {nL i : Nat} {x : Value} (h : lv_has ls nL ((i, x) :: (pmLv φ lo).filter (fun q => !(q.1 == i) && !(q.1 + 1 == i && q.2.category == 2)))) : lv_has ls nL (pmLv φ (pmDel i (pmSet (.int 0) i lo))) := by
  refine ⟨h.1, h.2.1, fun q hq => ?_⟩
  obtain ⟨u, h1, h3⟩ := pmLv_mem.mp hq
  obtain ⟨a, b⟩ := pmDel_get u i q.1 _ h1
  rcases pmSet_get _ u i q.1 lo b with ⟨z, -⟩ | ⟨-, z, d⟩
  · exact absurd z a
  · refine h.2.2 q (List.mem_cons_of_mem _ (List.mem_filter.mpr ⟨pmLv_mem.mpr ⟨u, z, h3⟩, ?_⟩))
    have hc : q.2.category = u.category := by rw [h3]; exact pmV_cat φ u
    rw [hc]
    simp only [Bool.and_eq_true, Bool.not_eq_true', beq_eq_false_iff_ne, ne_eq, Bool.and_eq_false_iff]
    refine ⟨a, ?_⟩
    by_cases e : q.1 + 1 = i
    · exact Or.inr (fun y => d ⟨e, y⟩)
    · exact Or.inl e
theorem pmRc_spec {w : pmW} {k y : Nat} {st : List Value} (h : pmRc w k st y = true) : ∃ a r, st.drop (y - 1) = .ref a :: r ∧ pmh w a = .inr k ∧ 1 ≤ a ∧ a ≤ pmn w := by
  unfold pmRc at h
  split at h
  · rename_i a r hq
    split at h
    · rename_i c hc
      simp only [Bool.and_eq_true] at h
      obtain ⟨h1, h2, h3⟩ := h
      exact ⟨a, r, hq, by rw [hc, Nat.eq_of_beq_eq_true h1], Nat.le_of_ble_eq_true h2, Nat.le_of_ble_eq_true h3⟩
    · cases h
  · cases h
theorem pmArgs {st r : List Value} {v : Value} {y : Nat} (hy : 1 ≤ y) (h : st.drop (y - 1) = v :: r) : (st.take y).reverse = v :: (st.take (y - 1)).reverse ∧ r = st.drop y ∧ st = st.take (y - 1) ++ v :: st.drop y := by
  have hlt : y - 1 < st.length := by
    rcases Nat.lt_or_ge (y - 1) st.length with q | q
    · exact q
    · rw [List.drop_eq_nil_of_le q] at h; cases h
  have h1 : st[y - 1] = v := by
    have := List.drop_eq_getElem_cons hlt
    rw [h] at this
    exact (List.cons.inj this).1.symm
  have h2 : r = st.drop y := by
    have := List.drop_eq_getElem_cons hlt
    rw [h] at this
    have := (List.cons.inj this).2
    rw [this, Nat.sub_add_cancel hy]
  refine ⟨?_, h2, ?_⟩
  · have e : st.take y = st.take (y - 1) ++ [v] := by
      have := List.take_succ_eq_append_getElem hlt
      rw [Nat.sub_add_cancel hy, h1] at this
      exact this
    rw [e]
    simp
  · rw [← h2, ← h, List.take_append_drop]
variable {p : Program} {e : Env} {R : Room} {s : State} {m : MethodId} {args : Array Value} {below : List Frame} {meth : Method} {c : Code} {dC : Nat → ClassId} {dI : Nat → Nat → Nat} {cI cZ cJ : ClassId} {A : Nat → Prop} {b L : Nat} {xs : Nat → Int32} {Q : State → Prop} {w w1 : pmW} {φ : Nat → Nat} {cells slots mc ms : Nat} {H : Heap} {locs : List Loc} {ls : Array Slot} {pc : Nat} {stk rest : List Value} {v : Option Value} {a : Array Value}
theorem pm_after (F : pmFix (dcl D) dC dI cI cZ cJ A s b L xs) (I : pmInv (dcl D) (dty D) dC dI cI cZ cJ A s b L xs φ w H locs)
    (hr : vx_Run p l e R s m args below meth c H locs cells slots mc ms (F0 m pc ls stk) rest (pmQc D dC dI cI cZ cJ φ w w1 H.size (.inl v) a) (pmXc D dC dI cI cZ cJ φ w w1 H.size (.inl v)) (va_A (pmWd (dcl D) (dty D) cI cZ cJ φ w) H.size))
    (kk : ∀ (φ1 : Nat → Nat) (H1 : Heap) (locs1 : List Loc), (∀ a, a ≤ pmn w → φ1 a = φ a) → pmInv (dcl D) (dty D) dC dI cI cZ cJ A s b L xs φ1 w1 H1 locs1 → (∀ a, v = some (.ref a) → a ≤ pmn w1) → W p l e R s m args below meth c H1 locs1 (cells + mc) (slots + ms) Q (F0 m (pc + 3) ls ((v.map (pmV φ1)).toList ++ rest))) :
    W p l e R s m args below meth c H locs cells slots Q (F0 m pc ls stk) := by
  intro T hT X
  rcases hr T hT X with ⟨v', st₀, t, T', L1, h0, X', hL1, e1, e2, ⟨v2, φ1, hv2, ho, hvr, B⟩, stp⟩ | ⟨q, st₀, t, T', L1, E, ce, h0, X', hL1, e1, e2, ⟨x2, φ1, hx2, -⟩, -⟩
  · cases hv2
    cases ho
    obtain ⟨t2, a1, b1⟩ := kk φ1 T'.heap (locs ++ L1) B.2.2.1 (pmInv_back F I h0 e1 hL1 B) hvr T' rfl X'
    exact ⟨t2, stp t2 a1, b1⟩
  · cases hx2
theorem pm_afterX {x : Nat} (F : pmFix (dcl D) dC dI cI cZ cJ A s b L xs) (I : pmInv (dcl D) (dty D) dC dI cI cZ cJ A s b L xs φ w H locs)
    (hr : vx_Run p l e R s m args below meth c H locs cells slots mc ms (F0 m pc ls stk) rest (pmQc D dC dI cI cZ cJ φ w w1 H.size (.inr x) a) (pmXc D dC dI cI cZ cJ φ w w1 H.size (.inr x)) (va_A (pmWd (dcl D) (dty D) cI cZ cJ φ w) H.size))
    (kk : ∀ (φ1 : Nat → Nat) (H1 : Heap) (locs1 : List Loc) (q : Addr) (ce : Cell), (∀ a, a ≤ pmn w → φ1 a = φ a) → pmInv (dcl D) (dty D) dC dI cI cZ cJ A s b L xs φ1 w1 H1 locs1 → H1[q]? = some ce → ce.vm = .none → s.vm.findClass (dex D x) = some ce.cls → vx_W p l e R s m args below meth c H1 locs1 (cells + mc) (slots + ms) Q (F0 m pc ls rest) q) :
    W p l e R s m args below meth c H locs cells slots Q (F0 m pc ls stk) := by
  intro T hT X
  rcases hr T hT X with ⟨v', st₀, t, T', L1, h0, X', hL1, e1, e2, ⟨v2, φ1, hv2, -⟩, stp⟩ | ⟨q, st₀, t, T', L1, E, ce, h0, X', hL1, e1, e2, ⟨x2, φ1, hx2, hE, B⟩, hce, hcv, hcl, stp⟩
  · cases hv2
  · cases hx2
    subst hE
    obtain ⟨t2, a1, b1⟩ := kk φ1 T'.heap (locs ++ L1) q ce B.2.2.1 (pmInv_back F I h0 e1 hL1 B) (by rw [e1]; exact hce) hcv hcl T' rfl X'
    exact ⟨t2, stp.trans a1, b1⟩
theorem pm_vaRun {Qa : State → Outcome → State → Prop} {XC : String → State → State → Prop} {g : JFrame} {free : Addr → Prop} (h : va_Run p l e R s m args below meth c H locs cells slots mc ms g rest Qa free) : vx_Run p l e R s m args below meth c H locs cells slots mc ms g rest Qa XC free :=
  fun T hT X => Or.inl (h T hT X)
end PMY
