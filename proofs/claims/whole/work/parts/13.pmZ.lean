section PMZ
variable {D : pmD} {l : Launch}
theorem pmEOk_rest {mid : Nat} {M : pmM} {pc x y : Nat} {k : Int32} {i : Instr} (h : pmEOk D mid M pc (i, x, y, k)) (h1 : i ≠ .ireturn) (h2 : i ≠ .lreturn) (h3 : i ≠ .areturn) (h4 : i ≠ .return_) (h5 : i ≠ .athrow) (h6 : i ≠ .nop) (h7 : ∀ n, i ≠ .invokevirtual n) (h8 : ∀ n, i ≠ .invokestatic n) (h9 : ∀ n, i ≠ .invokespecial n) (h10 : i ≠ .swap) (h11 : i ≠ .dup_x1) (h12 : i ≠ .dup_x2) (h13 : i ≠ .dup2_x1) :
    (match pmKA i with
    | true => pmOkA (dyy D mid).cls (dmb D) (dbc D mid) M.2.1 pc i x k
    | false => pmOkB (dcl D) (dyy D mid).cls (decide ((dyy D mid).name = "<init>")) (dmb D) (dbc D mid) pc i x y) = true := by
  unfold pmEOk at h
  split at h <;> first
    | exact h
    | (rename_i heq; exact absurd heq h1)
    | (rename_i heq; exact absurd heq h2)
    | (rename_i heq; exact absurd heq h3)
    | (rename_i heq; exact absurd heq h4)
    | (rename_i heq; exact absurd heq h5)
    | (rename_i heq; exact absurd heq h6)
    | (rename_i heq; exact absurd heq (h7 _))
    | (rename_i heq; exact absurd heq (h8 _))
    | (rename_i heq; exact absurd heq (h9 _))
    | (rename_i heq; exact absurd heq h10)
    | (rename_i heq; exact absurd heq h11)
    | (rename_i heq; exact absurd heq h12)
    | (rename_i heq; exact absurd heq h13)
theorem pmRf1_spec {st : List Value} {y : Nat} (h : pmRf1 st y = true) : ∃ a r, st.drop (y - 1) = .ref a :: r := by
  unfold pmRf1 at h
  split at h
  · rename_i a r hq; exact ⟨a, r, hq⟩
  · cases h
theorem pmOkS_app {n : Nat} {lo : pmL} {st1 st2 : List Value} (h : pmOkS n lo st2) (h1 : ∀ a, Value.ref a ∈ st1 → a ≤ n) : pmOkS n lo (st1 ++ st2) := ⟨h.1, fun a q => (List.mem_append.mp q).elim (h1 a) (h.2 a)⟩
theorem pmV_opt {φ1 : Nat → Nat} {v : Option Value} {r : List Value} : (v.toList ++ r).map (pmV φ1) = (v.map (pmV φ1)).toList ++ r.map (pmV φ1) := by cases v <;> rfl
set_option maxHeartbeats 8000000 in
theorem pm_body (hD : pmDOk D) (hst : l.stackTraces = false) : ∀ n, pmBody D l n := by
  intro n
  induction n with
  | zero =>
    intro mid M hG p e R s m args below meth c dC dI cI cZ cJ A b L xs C F G0 Q pc lo st w out wF φ ls H locs cells slots h
    cases h
  | succ n ih =>
    have hMet : pmMet D l n := pm_met_of hst ih
    intro mid M hG p e R s m args below meth c dC dI cI cZ cJ A b L xs C F G0 Q pc lo st w out wF φ ls H locs cells slots h hlen okS hl I hc hs K
    obtain ⟨hx, hb, hml, hown, hts, hnm, htab, hRf, hRl⟩ := id C
    obtain ⟨hmb, hcw, hHk, hE⟩ := hD.2 mid M hG
    have hmb2 : ∀ w, dmb D w = true → w.before args s = true := fun w h => hts w (hmb w h)
    have hA := pmA_sub F I
    -- going on behind a call that returns
    have back : ∀ (v : Option Value) (w1 : pmW) (x : Nat) (lo2 : pmL), pmRun D n x 0 lo2 [] w = some (.inl v, w1) → ∀ y, pmRun D n mid (pc + 3) lo (v.toList ++ st.drop y) w1 = some (out, wF) → ∀ (φ1 : Nat → Nat) (H1 : Heap) (locs1 : List Loc), (∀ a, a ≤ pmn w → φ1 a = φ a) → pmInv (dcl D) (dty D) dC dI cI cZ cJ A s b L xs φ1 w1 H1 locs1 → (∀ a, v = some (.ref a) → a ≤ pmn w1) →
        W p l e R s m args below meth c H1 locs1 (cells + (pmnc w1 - pmnc w)) (slots + (pmns w1 - pmns w)) Q (F0 m (pc + 3) ls ((v.map (pmV φ1)).toList ++ (st.drop y).map (pmV φ))) := by
      intro v w1 x lo2 hq y h2 φ1 H1 locs1 g1 g2 g3
      have m1 := pm_mono n x 0 _ _ w _ w1 hq
      have m2 := pm_mono n mid (pc + 3) _ _ w1 _ wF h2
      have g4 : (st.drop y).map (pmV φ1) = (st.drop y).map (pmV φ) := pmSt_agree g1 (fun a ha => okS.2 a (List.mem_of_mem_drop ha))
      rw [← g4, ← pmV_opt]
      refine ih mid M hG p e R s m args below meth c dC dI cI cZ cJ A b L xs C F G0 Q (pc + 3) lo (v.toList ++ st.drop y) w1 out wF φ1 ls H1 locs1 _ _ h2 hlen ?_ (by rw [pmLv_agree g1 okS.1]; exact hl) g2 (by omega) (by omega) (K.step g1 m1.1 (by omega) (by omega))
      refine pmOkS_app ((pmOkS_sub okS (fun a ha => List.mem_of_mem_drop ha)).mono m1.1) (fun a ha => g3 a ?_)
      cases v with
      | none => simp at ha
      | some u => simp at ha; rw [ha]
    unfold pmRun pmX at h
    split at h
    · cases h
    · rename_i M' hG'
      have eM : M' = M := Option.some.inj (hG'.symm.trans hG)
      subst eM
      split at h
      · cases h
      · rename_i i x y k hcode
        have hek := hE pc _ hcode
        split at h
        · -- ireturn
          split at h
          · rename_i v
            split at h
            · rename_i hif
              cases h
              obtain ⟨q1, q2⟩ := hek
              refine K.1 φ ls H locs cells slots pc (some (.int v)) rfl (Or.inl ⟨v, rfl, q1, ?_⟩) (fun a ha => by cases ha) (fun _ _ => rfl) I rfl rfl
              rcases q2 with q2 | ⟨q2, q3⟩
              · exact Or.inl q2
              · refine Or.inr ⟨q2, ?_⟩
                rcases hif with z | z
                · have q3 : y = 1 := q3
                  omega
                · exact z
            · cases h
          · cases h
        · -- lreturn
          split at h
          · rename_i v
            cases h
            exact K.1 φ ls H locs cells slots pc (some (.long v)) rfl (Or.inr (Or.inl ⟨v, rfl, hek.1, hek.2⟩)) (fun a ha => by cases ha) (fun _ _ => rfl) I rfl rfl
          · cases h
        · -- areturn
          split at h
          · rename_i v
            cases h
            exact K.1 φ ls H locs cells slots pc (some (.ref v)) rfl (Or.inr (Or.inr (Or.inl ⟨v, rfl, hek.1, hek.2⟩))) (fun a ha => by cases ha; exact okS.2 _ (by simp)) (fun _ _ => rfl) I rfl rfl
          · cases h
        · -- return
          split at h
          · cases h
            exact K.1 φ ls H locs cells slots pc none rfl (Or.inr (Or.inr (Or.inr ⟨rfl, hek.1, hek.2⟩))) (fun a ha => by cases ha) (fun _ _ => rfl) I rfl rfl
          · cases h
        · -- athrow
          split at h
          · rename_i hno
            split at h
            · rename_i hsum
              cases h
              exact K.2.1 φ ls H locs cells slots pc x w (st.map (pmV φ)) rfl hek hno rfl hl.1 (by rw [pmSum_eq]; exact hsum) (fun _ _ => rfl) I rfl rfl
            · cases h
          · cases h
        · -- Object.<init>
          split at h
          · rename_i a r
            split at h
            · rename_i hsum
              obtain ⟨idx, o1, o2, o3, o4, o5, o6⟩ := hek
              have hroom := lv_room (m := m) (pc := pc) (ls := ls) (rest := (Value.ref a :: r).map (pmV φ)) (st := r.map (pmV φ)) (by rw [pmSum_eq]; exact hsum)
              refine W.objInit hx hb hown (hts _ o2) (hts _ o3) (hts _ o4) rfl (by rw [hml]; exact hl.1) rfl o1 (by rw [hRf]; exact o5) (by rw [hRl]; omega) ?_
              exact ih mid M' hG p e R s m args below meth c dC dI cI cZ cJ A b L xs C F G0 Q (pc + 3) lo r w out wF φ ls H locs cells slots h hlen (pmOkS_sub okS (fun a ha => List.mem_cons_of_mem _ ha)) hl I hc hs K
            · cases h
          · cases h
        · -- Math.max
          split at h
          · rename_i vb va r
            split at h
            · rename_i hsum
              obtain ⟨idx, o1, o2, o3, o4, o5, o6, o7⟩ := hek
              have hm2 := pm_mono n mid (pc + 3) _ _ w _ wF h
              refine va_mmax hx hb (by rw [hml]; exact hl.1.symm) hown (hts _ o2) (hts _ o3) (hts _ o4) (hts _ o5) (by rw [hRf]; exact o6) (by rw [pmSum_eq, hRl]; omega) (by omega) (by omega) o1 ?_
              exact ih mid M' hG p e R s m args below meth c dC dI cI cZ cJ A b L xs C F G0 Q (pc + 3) lo _ w out wF φ ls H locs cells slots h hlen ⟨okS.1, fun a ha => okS.2 a (by simp at ha ⊢; exact ha)⟩ hl I hc hs K
            · cases h
          · cases h
        · -- Math.min
          split at h
          · rename_i vb va r
            split at h
            · rename_i hsum
              obtain ⟨idx, o1, o2, o3, o4, o5, o6, o7⟩ := hek
              have hm2 := pm_mono n mid (pc + 3) _ _ w _ wF h
              refine va_mmin hx hb (by rw [hml]; exact hl.1.symm) hown (hts _ o2) (hts _ o3) (hts _ o4) (hts _ o5) (by rw [hRf]; exact o6) (by rw [pmSum_eq, hRl]; omega) (by omega) (by omega) o1 ?_
              exact ih mid M' hG p e R s m args below meth c dC dI cI cZ cJ A b L xs C F G0 Q (pc + 3) lo _ w out wF φ ls H locs cells slots h hlen ⟨okS.1, fun a ha => okS.2 a (by simp at ha ⊢; exact ha)⟩ hl I hc hs K
            · cases h
          · cases h
        · -- Math.max long
          split at h
          · rename_i vb va r
            split at h
            · rename_i hsum
              obtain ⟨idx, o1, o2, o3, o4, o5, o6, o7⟩ := hek
              have hm2 := pm_mono n mid (pc + 3) _ _ w _ wF h
              refine va_mmax_long hx hb (by rw [hml]; exact hl.1.symm) hown (hts _ o2) (hts _ o3) (hts _ o4) (hts _ o5) (by rw [hRf]; exact o6) (by rw [pmSum_eq, hRl]; omega) (by omega) (by omega) o1 ?_
              exact ih mid M' hG p e R s m args below meth c dC dI cI cZ cJ A b L xs C F G0 Q (pc + 3) lo _ w out wF φ ls H locs cells slots h hlen ⟨okS.1, fun a ha => okS.2 a (by simp at ha ⊢; exact ha)⟩ hl I hc hs K
            · cases h
          · cases h
        · -- Math.min long
          split at h
          · rename_i vb va r
            split at h
            · rename_i hsum
              obtain ⟨idx, o1, o2, o3, o4, o5, o6, o7⟩ := hek
              have hm2 := pm_mono n mid (pc + 3) _ _ w _ wF h
              refine va_mmin_long hx hb (by rw [hml]; exact hl.1.symm) hown (hts _ o2) (hts _ o3) (hts _ o4) (hts _ o5) (by rw [hRf]; exact o6) (by rw [pmSum_eq, hRl]; omega) (by omega) (by omega) o1 ?_
              exact ih mid M' hG p e R s m args below meth c dC dI cI cZ cJ A b L xs C F G0 Q (pc + 3) lo _ w out wF φ ls H locs cells slots h hlen ⟨okS.1, fun a ha => okS.2 a (by simp at ha ⊢; exact ha)⟩ hl I hc hs K
            · cases h
          · cases h
        · -- invokevirtual
          rename_i idx
          split at h
          · cases h
          · rename_i M2 hG2
            split at h
            · rename_i hcond
              obtain ⟨hy, hy1, hsum, hrc, hel⟩ := hcond
              obtain ⟨hdec, hcv⟩ := hek
              obtain ⟨c1, c2, c3, ⟨c4, c5, c6, c7⟩, T, N, c8⟩ := hcv M2 hG2
              obtain ⟨a, r, r1, r2, r3, r4⟩ := pmRc_spec hrc
              obtain ⟨l1, l2, l3⟩ := pmArgs hy1 r1
              rw [l1] at hel
              have hws : ∃ ws', dws D x = .code (dyy D x) (dbc D x) M2.2.1 (drt D x) :: ws' := by
                rcases c7 with ⟨-, z⟩ | ⟨z, -⟩
                · exact z
                · exact absurd c1 z
              obtain ⟨ws', hws⟩ := hws
              have hstack : st.map (pmV φ) = (((st.take (y - 1)).reverse).map (pmV φ)).reverse ++ .ref (φ a) :: (st.drop y).map (pmV φ) := by
                have e := congrArg (List.map (pmV φ)) l3
                rw [List.map_append, List.map_cons] at e
                rw [e]
                simp [pmV]
              have hcall : ∀ (o1 : pmO) (w1 : pmW), pmRun D n x 0 (pmPad M2.2.1 (pmEnt (st.take y).reverse)) [] w = some (o1, w1) → pmnc w1 ≤ pmnc wF → pmns w1 ≤ pmns wF →
                  vx_Run p l e R s m args below meth c H locs cells slots (pmnc w1 - pmnc w) (pmns w1 - pmns w) (F0 m pc ls (st.map (pmV φ))) ((st.drop y).map (pmV φ)) (pmQc D dC dI cI cZ cJ φ w w1 H.size o1 (Value.ref (φ a) :: ((st.take (y - 1)).reverse).map (pmV φ)).toArray) (pmXc D dC dI cI cZ cJ φ w w1 H.size o1) (va_A (pmWd (dcl D) (dty D) cI cZ cJ φ w) H.size) := by
                intro o1 w1 hrun k1 k2
                rw [l1] at hrun
                have mo := pm_mono n x 0 _ _ w _ w1 hrun
                have hM := hMet x M2 hG2 c6 c7 _ w o1 w1 L hrun hel (fun z hz => okS.2 z (by
                  rw [← l1] at hz
                  exact List.mem_of_mem_take (List.mem_reverse.mp hz))) I.2.2.2.1 I.2.2.2.2.2.1 dC dI cI cZ cJ φ H.size
                refine vx_runV (Ts := dws D mid) (own := (dyy D mid).cls) (nL := M'.2.1) (cc := dbc D mid) ⟨hx, hb, hml, hown, hts⟩ hM (cwV (y - 1) hts c2 hws rfl rfl ⟨rfl, c3.1, c3.2.1, c3.2.2⟩ ⟨by rw [hRf]; exact c4, by rw [hRl]; exact c5⟩)
                  ⟨pmPc_blind, va_recv (ci := M2.2.2.2) (q0 := a - 1) F.1 I.1 c8 (by rw [pmWd_at r3 r4, pmCl_obj r2]), pmPc_at F I G0 hA⟩ rfl ?_ hl.1 hstack (lv_room (by rw [pmSum_eq]; exact hsum)) hdec ⟨by omega, by omega⟩
                simp
                omega
              split at h
              · cases h
              · rename_i v w1 hrun
                have m2 := pm_mono n mid (pc + 3) _ _ w1 _ wF h
                exact pm_after F I (hcall _ w1 hrun m2.2.1 m2.2.2) (back v w1 x _ hrun y h)
              · rename_i ex w1 hrun
                have m1 := pm_mono n x 0 _ _ w _ w1 hrun
                split at h
                · rename_i hno
                  cases h
                  exact pm_afterX F I (hcall _ _ hrun (Nat.le_refl _) (Nat.le_refl _)) (fun φ1 H1 locs1 q ce g1 g2 g3 g4 g5 => K.2.2 φ1 ls H1 locs1 _ _ pc ex q ce _ rfl hno g3 g4 g5 g1 g2 (by omega) (by omega))
                · rename_i hd0 tl0 hyes
                  split at h
                  · cases h
                  · rename_i hp hhand
                    obtain ⟨pre, z, suf, z1, z2, z3, z4, z5, z6, z7⟩ := hHk pc ex hp hhand
                    have goH : ∀ (zz len : Nat) (i2 : Instr) (y2 : Nat) (k2 : Int32), pmCode M' hp = some (i2, zz, y2, k2) → (∃ j : Nat, i2 = .astore j ∧ len = 2) ∨ (∃ j : Fin 4, i2 = .astore_n j ∧ len = 1) → pmRun D n mid (hp + len) (pmDel zz (pmSet (.int 0) zz lo)) [] w1 = some (out, wF) → W p l e R s m args below meth c H locs cells slots Q (F0 m pc ls (st.map (pmV φ))) := by
                      intro zz len i2 y2 k2 hc2 hi2 h2
                      have m2 := pm_mono n mid (hp + len) _ _ w1 _ wF h2
                      have hne : M'.2.2.1 ≠ [] := by rw [hyes]; exact fun q => by cases q
                      refine pm_afterX F I (hcall _ w1 hrun m2.2.1 m2.2.2) (fun φ1 H1 locs1 q ce g1 g2 g3 g4 g5 => ?_)
                      refine vx_catch hown pre z suf (by rw [htab hne]; exact z1) (fun u hu => ?_) z3 z4 (hts _ z5) (pmEw_tabs (G0.2.2.1 _ z6).1 rfl (G0.2.2.1 _ z6).2) g3 g4 g5 ?_
                      · rcases z2 u hu with q1 | ⟨q1, nm, q2, q3⟩
                        · exact Or.inl q1
                        · exact Or.inr ⟨q1, nm, hts _ q2, G0.2.2.2.2 _ q3⟩
                      · rw [z7]
                        have hk2 := hE hp _ hc2
                        have hl1 : lv_has ls M'.2.1 (pmLv φ1 lo) := by rw [pmLv_agree g1 okS.1]; exact hl
                        have go : ∀ ls2, lv_has ls2 M'.2.1 ((zz, Value.ref q) :: (pmLv φ1 lo).filter (fun q => !(q.1 == zz) && !(q.1 + 1 == zz && q.2.category == 2))) → W p l e R s m args below meth c H1 locs1 (cells + (pmnc w1 - pmnc w)) (slots + (pmns w1 - pmns w)) Q (F0 m (hp + len) ls2 []) := by
                          intro ls2 hh2
                          refine ih mid M' hG p e R s m args below meth c dC dI cI cZ cJ A b L xs C F G0 Q (hp + len) _ [] w1 out wF φ1 ls2 H1 locs1 _ _ h2 (by rw [pmDel_len, pmSet_len]; exact hlen) ?_ (pmLv_del2 hh2) g2 (by omega) (by omega) (K.step g1 m1.1 (by omega) (by omega))
                          refine ⟨fun i a hg => ?_, fun a ha => by cases ha⟩
                          obtain ⟨-, hg⟩ := pmDel_get _ _ _ _ hg
                          rcases pmSet_get _ _ _ _ _ hg with ⟨-, q⟩ | ⟨-, q, -⟩
                          · cases q
                          · exact Nat.le_trans (okS.1 i a q) m1.1
                        rcases hi2 with ⟨j, rfl, rfl⟩ | ⟨j, rfl, rfl⟩
                        · have hk3 : pmOkA (dyy D mid).cls (dmb D) (dbc D mid) M'.2.1 hp (.astore j) zz k2 = true := hk2
                          simp only [pmOkA, Bool.and_eq_true, decide_eq_true_eq] at hk3
                          obtain ⟨p1, rfl, p3⟩ := hk3
                          exact lv_astore hx hb p1 hl1 p3 rfl go
                        · have hk3 : pmOkA (dyy D mid).cls (dmb D) (dbc D mid) M'.2.1 hp (.astore_n j) zz k2 = true := hk2
                          simp only [pmOkA, Bool.and_eq_true, decide_eq_true_eq] at hk3
                          exact lv_astore_n hx hb hk3.1 hk3.2.1 hl1 hk3.2.2 rfl go
                    split at h
                    · rename_i j z9 y9 k9 hc2
                      exact goH z9 1 _ y9 k9 hc2 (Or.inr ⟨j, rfl, rfl⟩) h
                    · rename_i j z9 y9 k9 hc2
                      exact goH z9 2 _ y9 k9 hc2 (Or.inl ⟨j, rfl, rfl⟩) h
                    · cases h
            · cases h
        · -- invokestatic
          rename_i idx
          split at h
          · cases h
          · rename_i M2 hG2
            split at h
            · rename_i hcond
              obtain ⟨hy, hsum, hel⟩ := hcond
              obtain ⟨hdec, hcv⟩ := hek
              obtain ⟨c3, ⟨c4, c5, c6, c7⟩, c8⟩ := hcv M2 hG2
              split at h
              · rename_i v w1 hrun
                have m1 := pm_mono n x 0 _ _ w _ w1 hrun
                have m2 := pm_mono n mid (pc + 3) _ _ w1 _ wF h
                have hM := hMet x M2 hG2 c6 c7 _ w _ w1 L hrun hel (fun z hz => okS.2 z (List.mem_of_mem_take (List.mem_reverse.mp hz))) I.2.2.2.1 I.2.2.2.2.2.1 dC dI cI cZ cJ φ H.size
                have hstack : st.map (pmV φ) = (((st.take y).reverse).map (pmV φ)).reverse ++ (st.drop y).map (pmV φ) := by
                  have e : st = st.take y ++ st.drop y := (List.take_append_drop y st).symm
                  have e := congrArg (List.map (pmV φ)) e
                  rw [List.map_append] at e
                  rw [e]
                  simp
                have hlen2 : (((st.take y).reverse).map (pmV φ)).length = y := by simp; omega
                refine pm_after (a := (((st.take y).reverse).map (pmV φ)).toArray) F I ?_ (back v w1 x _ hrun y h)
                have hR1 : drf D x + 1 ≤ R.frames ∧ 8 + (M2.2.1 + 11) + drl D x ≤ R.locals := ⟨by rw [hRf]; exact c4, by rw [hRl]; exact c5⟩
                have hp0 : PreS s H (pmPc D dC dI cI cZ cJ L φ w (st.take y).reverse H.size) (((st.take y).reverse).map (pmV φ)) := ⟨pmPc_blind, pmPc_at F I G0 hA⟩
                have hfit : cells + (pmnc w1 - pmnc w) ≤ R.cells ∧ slots + (pmns w1 - pmns w) ≤ R.slots := ⟨by omega, by omega⟩
                have hrm := lv_room (m := m) (pc := pc) (ls := ls) (rest := st.map (pmV φ)) (st := (st.drop y).map (pmV φ)) (by rw [pmSum_eq]; exact hsum)
                rcases c8 with c8 | ⟨n1, n2, ⟨host, n3⟩, n4, n5⟩
                · rcases c7 with ⟨-, ws', hws⟩ | ⟨-, ws', hws⟩
                  · exact vx_runS (Ts := dws D mid) (own := (dyy D mid).cls) (nL := M'.2.1) (cc := dbc D mid) ⟨hx, hb, hml, hown, hts⟩ hM (va_cwS y hts c8 hws rfl rfl c3 hR1) hp0 rfl hlen2 hl.1 hstack hrm hdec hfit
                  · exact vx_runSX (Ts := dws D mid) (own := (dyy D mid).cls) (nL := M'.2.1) (cc := dbc D mid) ⟨hx, hb, hml, hown, hts⟩ hM (vx_cwSW y hts c8 hws rfl rfl c3 hR1) hp0 rfl hlen2 hl.1 hstack hrm hdec hfit
                · have hws : ∃ ws', dws D x = .code (dyy D x) (dbc D x) M2.2.1 (drt D x) :: ws' := by
                    rcases c7 with ⟨-, z⟩ | ⟨z, -⟩
                    · exact z
                    · exact absurd n1 z
                  obtain ⟨ws', hws⟩ := hws
                  have hM2 := pm_toMet hM (fun E st t q => by obtain ⟨x2, φ2, q, -⟩ := q; cases q)
                  exact pm_vaRun (va_runSN (Ts := dws D mid) (own := (dyy D mid).cls) (nL := M'.2.1) (cc := dbc D mid) ⟨hx, hb, hml, hown, hts⟩ hM2 ⟨va_cnB (host := host) y hts n2 hws rfl rfl (G0.2.2.1 _ n3).2 (hts _ n4) c3 hR1, hts _ n5, trivial⟩ hp0 rfl hlen2 hl.1 hstack hrm hdec hfit)
              · cases h
            · cases h
        · -- invokespecial
          rename_i idx
          split at h
          · cases h
          · rename_i M2 hG2
            split at h
            · rename_i hcond
              obtain ⟨hy, hy1, hsum, hrf, hel⟩ := hcond
              obtain ⟨hdec, hcv⟩ := hek
              obtain ⟨c1, c2, c2b, c3, ⟨c4, c5, c6, c7⟩, n2, n3, n4, n5⟩ := hcv M2 hG2
              split at h
              · rename_i v w1 hrun
                obtain ⟨a, r, r1⟩ := pmRf1_spec hrf
                obtain ⟨l1, l2, l3⟩ := pmArgs hy1 r1
                rw [l1] at hrun hel
                have hws : ∃ ws', dws D x = .code (dyy D x) (dbc D x) M2.2.1 none :: ws' := by
                  rcases c7 with ⟨-, z⟩ | ⟨z, -⟩
                  · rw [c2] at z; exact z
                  · exact absurd c1 z
                obtain ⟨ws', hws⟩ := hws
                have m1 := pm_mono n x 0 _ _ w _ w1 hrun
                have m2 := pm_mono n mid (pc + 3) _ _ w1 _ wF h
                have hM := hMet x M2 hG2 c6 c7 _ w _ w1 L hrun hel (fun z hz => okS.2 z (by
                  rw [← l1] at hz
                  exact List.mem_of_mem_take (List.mem_reverse.mp hz))) I.2.2.2.1 I.2.2.2.2.2.1 dC dI cI cZ cJ φ H.size
                have hM2 := pm_toMet hM (fun E st t q => by obtain ⟨x2, φ2, q, -⟩ := q; cases q)
                refine pm_after (a := (Value.ref (φ a) :: ((st.take (y - 1)).reverse).map (pmV φ)).toArray) F I ?_ (back v w1 x _ hrun y h)
                have hR1 : drf D x + 1 ≤ R.frames ∧ 8 + (M2.2.1 + 11) + drl D x ≤ R.locals := ⟨by rw [hRf]; exact c4, by rw [hRl]; exact c5⟩
                have hfit : cells + (pmnc w1 - pmnc w) ≤ R.cells ∧ slots + (pmns w1 - pmns w) ≤ R.slots := ⟨by omega, by omega⟩
                have hrm := lv_room (m := m) (pc := pc) (ls := ls) (rest := st.map (pmV φ)) (st := (st.drop y).map (pmV φ)) (by rw [pmSum_eq]; exact hsum)
                have hlen2 : (((st.take (y - 1)).reverse).map (pmV φ)).length = y - 1 := by simp; omega
                have hstack : st.map (pmV φ) = (((st.take (y - 1)).reverse).map (pmV φ)).reverse ++ .ref (φ a) :: (st.drop y).map (pmV φ) := by
                  have e := congrArg (List.map (pmV φ)) l3
                  rw [List.map_append, List.map_cons] at e
                  rw [e]
                  simp [pmV]
                have hp0 : PreS s H (pmPc D dC dI cI cZ cJ L φ w (.ref a :: (st.take (y - 1)).reverse) H.size) (.ref (φ a) :: ((st.take (y - 1)).reverse).map (pmV φ)) := ⟨pmPc_blind, pmPc_at F I G0 hA⟩
                rcases n5 with n5 | ⟨host, n5⟩
                · exact pm_vaRun (va_runI (Ts := dws D mid) (own := (dyy D mid).cls) (nL := M'.2.1) (cc := dbc D mid) ⟨hx, hb, hml, hown, hts⟩ hM2 (cwI (y - 1) hts n2 hws rfl rfl (hts _ n3) (hts _ n5) (hts _ n4) c2b c3 hR1) hp0 rfl hlen2 hl.1 hstack hrm hdec hfit)
                · exact pm_vaRun (va_runIN (Ts := dws D mid) (own := (dyy D mid).cls) (nL := M'.2.1) (cc := dbc D mid) ⟨hx, hb, hml, hown, hts⟩ hM2 ⟨va_cnB (host := host) (y - 1) hts n2 hws rfl rfl (G0.2.2.1 _ n5).2 (hts _ n3) c3 hR1, c2b, hts _ n4⟩ hp0 rfl hlen2 hl.1 hstack hrm hdec hfit)
              · cases h
            · cases h
        · -- the rest
          rename_i i' k1 k2 k3 k4 k5 k6 k10 k11 k12 k13 k7 k8 k9
          have hk := pmEOk_rest hek k1 k2 k3 k4 k5 k6 k7 k8 k9 k10 k11 k12 k13
          split at h
          · rename_i pc1 lo1 st1 hq
            rw [pmKA_A hq] at hk
            obtain ⟨q1, q2⟩ := pmA_keep (n := pmn w) hq
            refine pm_soundA hx hb hown hmb2 hk hq hl (fun ls1 hl1 => ?_)
            exact ih mid M' hG p e R s m args below meth c dC dI cI cZ cJ A b L xs C F G0 Q pc1 lo1 st1 w out wF φ ls1 H locs cells slots h (q1.trans hlen) (q2 okS) hl1 I hc hs K
          · split at h
            · rename_i pc1 lo1 st1 w1 hq
              rw [pmKA_B hq] at hk
              obtain ⟨q1, q2, q3⟩ := pmB_keep hq
              have m2 := pm_mono n mid pc1 _ _ w1 _ wF h
              refine pm_soundB hD.1 hx hb hown hmb2 (fun ci q hq w hw => hts w (hcw ci q hq w hw)) (fun q => hnm (by simpa using q)) F hk hq hl I okS.1 okS.2 (by omega) (by omega) (fun φ1 ls1 H1 locs1 c1 s1 g1 g2 g3 g4 g5 => ?_)
              subst q1
              exact ih mid M' hG p e R s m args below meth c dC dI cI cZ cJ A b L xs C F G0 Q pc1 lo1 st1 w1 out wF φ1 ls1 H1 locs1 c1 s1 h hlen (q3 I.2.2.2.1 okS) g2 g3 (by omega) (by omega) (K.step g1 q2.1 g4 g5)
            · cases h
end PMZ
