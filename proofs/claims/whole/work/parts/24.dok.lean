/-! ===== the program keeps to its bytes and words ===== -/
set_option maxRecDepth 100000 in
theorem pgClOk : pmClOk vwCl pgTy := by
  intro ci q h
  match ci, h with
  | 0, h => cases h; exact ⟨by decide +kernel, by decide +kernel, by decide +kernel⟩
  | 1, h => cases h; exact ⟨by decide +kernel, by decide +kernel, by decide +kernel⟩
  | 2, h => cases h; exact ⟨by decide +kernel, by decide +kernel, by decide +kernel⟩
  | 3, h => cases h; exact ⟨by decide +kernel, by decide +kernel, by decide +kernel⟩
  | 4, h => cases h; exact ⟨by decide +kernel, by decide +kernel, by decide +kernel⟩
  | 5, h => cases h; exact ⟨by decide +kernel, by decide +kernel, by decide +kernel⟩
  | 6, h => cases h; exact ⟨by decide +kernel, by decide +kernel, by decide +kernel⟩
  | n + 7, h => simp [vwCl] at h
set_option maxRecDepth 100000 in
theorem pgUws : ∀ q ∈ vwCl, (u_ws q.1 q.2.1 q.2.2).all pgMb = true := by
  intro q hq
  simp only [vwCl, List.mem_cons, List.not_mem_nil, or_false] at hq
  rcases hq with rfl | rfl | rfl | rfl | rfl | rfl | rfl <;> decide +kernel
def pgHk (r : pgR) : Bool := match r.2.2.2.1.2.2.1, r.2.2.2.2.1 with
  | [], _ => true
  | [(a, b, h, e)], [(a1, b1, h1, c)] => decide (a = a1) && (decide (b = b1) && (decide (h = h1) && (decide (c ≠ 0) && (pgMb (.classLink r.1.cls c (pgEx e)) && pgEwb (.castable (pgEx e) (pgEx e))))))
  | [(a, b, h, e), (a2, b2, h2, e2)], [(a1, b1, h1, c), (a3, b3, h3, c2)] => (decide (a = a1) && (decide (b = b1) && (decide (h = h1) && (decide (c ≠ 0) && (pgMb (.classLink r.1.cls c (pgEx e)) && pgEwb (.castable (pgEx e) (pgEx e))))))) && ((decide (a2 = a3) && (decide (b2 = b3) && (decide (h2 = h3) && (decide (c2 ≠ 0) && (pgMb (.classLink r.1.cls c2 (pgEx e2)) && pgEwb (.castable (pgEx e2) (pgEx e2))))))) && decide ((pgEx e2, pgEx e) ∈ pgNC))
  | _, _ => false
theorem pgHk_ok {mid : Nat} {M : pmM} (hG : pgG mid = some M) (h : pgHk (pgAt mid) = true) : pmHOk pgD mid M := by
  obtain ⟨hM, -⟩ := pgG_at hG
  subst hM
  intro pc x hp hh
  show ∃ (pre : List ExceptionTableEntry) (z : ExceptionTableEntry) (suf : List ExceptionTableEntry), tableOf (pgAt mid).2.2.2.2.1 = pre ++ z :: suf ∧ _
  unfold pgHk at h
  split at h
  · rename_i e1
    rw [e1] at hh
    cases hh
  · rename_i a b h0 ex a1 b1 h1 c e1 e2
    rw [e1] at hh
    rw [e2]
    simp only [Bool.and_eq_true, decide_eq_true_eq] at h
    obtain ⟨rfl, rfl, rfl, hc, hm, he⟩ := h
    unfold pmHand at hh
    split at hh
    · rename_i hq
      obtain ⟨q1, q2, q3⟩ := hq
      cases hh
      dsimp only at q1 q2 q3
      subst q3
      exact ⟨[], _, [], rfl, fun u hu => (by cases hu), (by simp [covers, q1, q2]), hc, pgMb_in hm mid, pgEw_in he, rfl⟩
    · cases hh
  · rename_i a b h0 ex a2 b2 h2 ex2 a1 b1 h1 c a3 b3 h3 c2 e1 e2
    rw [e1] at hh
    rw [e2]
    simp only [Bool.and_eq_true, decide_eq_true_eq] at h
    obtain ⟨⟨rfl, rfl, rfl, hc, hm, he⟩, ⟨rfl, rfl, rfl, hc2, hm2, he2⟩, hn⟩ := h
    unfold pmHand at hh
    split at hh
    · rename_i hq
      obtain ⟨q1, q2, q3⟩ := hq
      cases hh
      dsimp only at q1 q2 q3
      subst q3
      exact ⟨[], _, _, rfl, fun u hu => (by cases hu), (by simp [covers, q1, q2]), hc, pgMb_in hm mid, pgEw_in he, rfl⟩
    · rename_i hq
      unfold pmHand at hh
      split at hh
      · rename_i hr
        obtain ⟨q1, q2, q3⟩ := hr
        cases hh
        dsimp only at q1 q2 q3 hq
        subst q3
        refine ⟨[⟨a, b, h0, c⟩], _, [], rfl, fun u hu => ?_, (by simp [covers, q1, q2]), hc2, pgMb_in hm2 mid, pgEw_in he2, rfl⟩
        rw [List.mem_singleton] at hu
        subst hu
        exact Or.inr ⟨hc, pgEx ex, pgMb_in hm mid, hn⟩
      · cases hh
  · cases h
set_option maxRecDepth 100000 in
theorem pgHkAll : pgL.all pgHk = true := by decide +kernel
theorem pgDOk : pmDOk pgD := by
  refine ⟨pgClOk, fun mid M hM => ?_⟩
  have hM : pgG mid = some M := hM
  obtain ⟨hA, hlt⟩ := pgG_at hM
  refine ⟨fun w hw => pgMb_in hw mid, fun ci q hq w hw => pgMb_in (List.all_eq_true.mp (pgUws q (List.mem_of_getElem? hq)) w hw) mid, pgHk_ok hM ?_, fun pc q hc => ?_⟩
  · have h1 : pgL[mid]? = some (pgAt mid) := by
      rw [List.getElem?_eq_getElem hlt]
      simp [pgAt, List.getElem?_eq_getElem hlt]
    exact List.all_eq_true.mp pgHkAll _ (List.mem_of_getElem? h1)
  · obtain ⟨hl, hk⟩ := pgOk mid hlt
    obtain ⟨c, h1, h2⟩ := pmCode_mem hc
    subst hA
    have h3 := List.all_eq_true.mp (List.all_eq_true.mp hk c h1) (pc, q) h2
    exact pgChk_ok hM h3
