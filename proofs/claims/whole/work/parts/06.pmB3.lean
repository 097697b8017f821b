theorem pmNew_h {w : pmW} {h : (FieldType × Nat) ⊕ Nat} {n : Nat} : pmh (pmNew w h n) (pmn w + 1) = h := by
  show va_up w.2.2.2.1 (w.1 + 1) h (w.1 + 1) = h
  simp [va_up]
theorem pmNew_r {w : pmW} {h : (FieldType × Nat) ⊕ Nat} {n : Nat} : pmr (pmNew w h n) (pmn w + 1) = fun _ => none := by
  show va_up w.2.2.2.2.1 (w.1 + 1) _ (w.1 + 1) = _
  simp [va_up]
theorem pmNew_i {w : pmW} {h : (FieldType × Nat) ⊕ Nat} {n : Nat} : pmi (pmNew w h n) (pmn w + 1) = fun _ => 0 := by
  show va_up w.2.2.2.2.2.1 (w.1 + 1) _ (w.1 + 1) = _
  simp [va_up]
theorem pmNew_j {w : pmW} {h : (FieldType × Nat) ⊕ Nat} {n : Nat} : pmj (pmNew w h n) (pmn w + 1) = fun _ => 0 := by
  show va_up w.2.2.2.2.2.2 (w.1 + 1) _ (w.1 + 1) = _
  simp [va_up]
section PMD
variable {p : Program} {l : Launch} {e : Env} {R : Room} {s : State} {m : MethodId} {args : Array Value} {below : List Frame} {meth : Method} {c : Code} {H : Heap} {locs : List Loc} {cells slots : Nat} {Q : State → Prop}
variable {cl : List vw_C} {ty : Nat → Nat → FieldType} {dC : Nat → ClassId} {dI : Nat → Nat → Nat} {cI cZ cJ : ClassId} {A : Nat → Prop} {b L : Nat} {xs : Nat → Int32}
variable {cc : ByteArray} {nL pc pc1 x y : Nat} {lo lo1 : pmL} {st st1 : List Value} {φ : Nat → Nat} {own : String} {mb : Cond → Bool} {ls : Array Slot} {w w1 : pmW} {ini : Bool}
set_option maxHeartbeats 4000000 in
theorem pm_soundB (hcl : pmClOk cl ty) (hx : p.tables.exec = Jvm.exec) (hb : c.code = cc) (hown : s.vm.findClass own = some m.cls) (hts : ∀ w, mb w = true → w.before args s = true) (hcw : ∀ (ci : Nat) (q : vw_C), cl[ci]? = some q → ∀ w ∈ u_ws q.1 q.2.1 q.2.2, w.before args s = true) (hini : ini = true → meth.name = "<init>") {i : Instr}
    (F : pmFix cl dC dI cI cZ cJ A s b L xs) (ok : pmOkB cl own ini mb cc pc i x y = true) (h : pmB ty (pmN cl) i x y pc lo st w = some (pc1, lo1, st1, w1)) (hl : lv_has ls nL (pmLv φ lo)) (I : pmInv cl ty dC dI cI cZ cJ A s b L xs φ w H locs)
    (hlo : ∀ i a, pmGet lo i = some (.ref a) → a ≤ pmn w) (hst : ∀ a, Value.ref a ∈ st → a ≤ pmn w)
    (hc : cells + pmnc w1 ≤ R.cells + pmnc w) (hs : slots + pmns w1 ≤ R.slots + pmns w)
    (kk : ∀ (φ1 : Nat → Nat) (ls1 : Array Slot) (H1 : Heap) (locs1 : List Loc) (cells1 slots1 : Nat), (∀ a, a ≤ pmn w → φ1 a = φ a) → lv_has ls1 nL (pmLv φ1 lo1) → pmInv cl ty dC dI cI cZ cJ A s b L xs φ1 w1 H1 locs1 → cells1 + pmnc w = cells + pmnc w1 → slots1 + pmns w = slots + pmns w1 →
      W p l e R s m args below meth c H1 locs1 cells1 slots1 Q (F0 m pc1 ls1 (st1.map (pmV φ1)))) :
    W p l e R s m args below meth c H locs cells slots Q (F0 m pc ls (st.map (pmV φ))) := by
  obtain ⟨hK, hA, hX, hbl, hbA⟩ := F
  obtain ⟨hP, hD, hS, hw, h0, hh0, hi0⟩ := id I
  have new0 : ∀ (hd : (FieldType × Nat) ⊕ Nat) (n : Nat) (q : Nat) (H1 : Heap), va_P (dC, dI) cl (pmWd cl ty cI cZ cJ φ w ++ [(q, pmCl cl ty cI cZ cJ (va_up φ (pmn w + 1) q) (pmNew w hd n) (pmn w + 1))]) H1 → va_D A (pmWd cl ty cI cZ cJ φ w ++ [(q, pmCl cl ty cI cZ cJ (va_up φ (pmn w + 1) q) (pmNew w hd n) (pmn w + 1))]) → va_S A s.heap H1 locs →
      pmInv cl ty dC dI cI cZ cJ A s b L xs (va_up φ (pmn w + 1) q) (pmNew w hd n) H1 locs := by
    intro hd n q H1 h1 h2 h3
    rw [← pmWd_new hw] at h1 h2
    refine ⟨h1, h2, h3, fun a k z hz => ?_, ?_, ?_, ?_⟩
    · have hz : va_up (pmr w) (pmn w + 1) (fun _ => none) a k = some z := hz
      show z ≤ pmn w + 1
      by_cases e : a = pmn w + 1
      · simp [va_up, e] at hz
      · simp only [va_up, if_neg e] at hz
        exact Nat.le_succ_of_le (hw _ _ _ hz)
    · simp only [va_up]; rw [if_neg (by omega)]; exact h0
    · show va_up (pmh w) (pmn w + 1) hd 0 = _
      simp only [va_up]; rw [if_neg (by omega)]; exact hh0
    · show va_up (pmi w) (pmn w + 1) (fun _ => 0) 0 = _
      simp only [va_up]; rw [if_neg (by omega)]; exact hi0
  have up1 : ∀ q a, a ≤ pmn w → va_up φ (pmn w + 1) q a = φ a := fun q a ha => by simp only [va_up]; rw [if_neg (by omega)]
  have up2 : ∀ q, va_up φ (pmn w + 1) q (pmn w + 1) = q := fun q => by simp [va_up]
  have lup : ∀ q, lv_has ls nL (pmLv (va_up φ (pmn w + 1) q) lo) := fun q => by rw [pmLv_agree (up1 q) hlo]; exact hl
  have inv0 : ∀ {a : Nat} {w1 : pmW}, 1 ≤ a → a ≤ pmn w → pmn w1 = pmn w → pmh w1 = pmh w → (∀ b, b ≠ a → pmr w1 b = pmr w b ∧ pmi w1 b = pmi w b ∧ pmj w1 b = pmj w b) → (∀ a k b, pmr w1 a k = some b → b ≤ pmn w) →
      ∀ (E : va_E) (H1 : Heap) (locs1 : List Loc), pmCl cl ty cI cZ cJ φ w1 a = E → va_P (dC, dI) cl ((pmWd cl ty cI cZ cJ φ w).set (a - 1) (φ a, E)) H1 → va_D A ((pmWd cl ty cI cZ cJ φ w).set (a - 1) (φ a, E)) → va_S A s.heap H1 locs1 → pmInv cl ty dC dI cI cZ cJ A s b L xs φ w1 H1 locs1 := by
    intro a w1 g1 g2 g3 g4 g5 g6 E H1 locs1 gE gP gD gS
    subst gE
    rw [← pmWd_set g1 g2 g3 (pmCl_other hw g4 g5)] at gP gD
    exact ⟨gP, gD, gS, by rw [g3]; exact g6, h0, by rw [g4]; exact hh0, by rw [(g5 0 (by omega)).2.1]; exact hi0⟩
  unfold pmB at h
  split at h
  · -- getfield
    rename_i n
    split at h
    · rename_i a r
      split at h
      · rename_i ci hh
        split at h
        · rename_i hq
          obtain ⟨rfl, q1, q2⟩ := hq
          cases h
          simp only [pmOkB, Bool.and_eq_true, decide_eq_true_eq] at ok
          obtain ⟨o1, o2⟩ := ok
          split at o2
          · rename_i C T N hci
            simp only [Bool.and_eq_true, decide_eq_true_eq] at o2
            obtain ⟨o3, o5⟩ := o2
            refine va_get (D := (dC, dI)) (ws := pmWd cl ty cI cZ cJ φ w) hx hb (hcw _ _ hci) (fun _ h => h) hown hK hP (a - 1) (by rw [pmWd_at q1 q2, pmCl_obj hh]) hci y o3 (hts _ o5) (fun _ h => h) (pmFs_at (by rw [pmN_of hci]; exact o3)) o1 ?_
            exact kk φ ls H locs cells slots (fun _ _ => rfl) hl I rfl rfl
          · cases o2
        · cases h
      · cases h
    · cases h
  · -- putfield
    rename_i n
    split at h
    · rename_i v a r
      split at h
      · rename_i ci hh
        split at h
        · rename_i hq
          obtain ⟨rfl, q1, q2⟩ := hq
          split at h
          · rename_i w2 hwr
            cases h
            obtain ⟨⟨g1, g1b, g1c, g2⟩, g3, g4, g5, g6, g7⟩ := pmWr_spec hwr
            have hvn : ∀ z, v = .ref z → z ≤ pmn w := fun z hz => hst z (by rw [hz]; simp)
            simp only [pmOkB, Bool.and_eq_true, decide_eq_true_eq] at ok
            obtain ⟨o1, o2⟩ := ok
            split at o2
            · rename_i C T N hci
              simp only [Bool.and_eq_true, decide_eq_true_eq, Bool.or_eq_true] at o2
              obtain ⟨o3, o5, o6⟩ := o2
              have hN : pmN cl ci = N := pmN_of hci
              obtain ⟨t1, t2, -⟩ := hcl ci _ hci
              have hE := pmCl_put (cl := cl) (ty := ty) (cI := cI) (cZ := cZ) (cJ := cJ) (φ := φ) hh (congrFun g2 a) g4 g5
              have kk1 := fun (H1 : Heap) (locs1 : List Loc) gP gD gS => kk φ ls H1 locs1 cells slots (fun _ _ => rfl) hl (inv0 q1 q2 g1 g2 g3 (g6 _ hw hvn) _ H1 locs1 hE gP gD gS) (by rw [g1b]) (by rw [g1c])
              rcases o6 with o6 | ⟨o6, o7, o8⟩
              · exact va_put (D := (dC, dI)) (ws := pmWd cl ty cI cZ cJ φ w) hx hb (hcw _ _ hci) (fun _ h => h) (ty ci) t1 t2 hown hK hP hD hS (a - 1) (by rw [pmWd_at q1 q2, pmCl_obj hh]) hci y o3 (hts _ o5) (fun _ h => h) o6 (t1 y o3) (g7 φ).1 (g7 φ).2 (by simp [hN]; exact o3) o1 kk1
              · exact va_putF (D := (dC, dI)) (ws := pmWd cl ty cI cZ cJ φ w) hx hb (hcw _ _ hci) (fun _ h => h) (ty ci) t1 t2 hown hK hP hD hS (a - 1) (by rw [pmWd_at q1 q2, pmCl_obj hh]) hci y o3 (hts _ o5) (fun _ h => h) o7 (hini o6) o8 (t1 y o3) (g7 φ).1 (g7 φ).2 (by simp [hN]; exact o3) o1 kk1
            · cases o2
          · cases h
        · cases h
      · cases h
    · cases h
  · -- iaload
    simp only [pmOkB, decide_eq_true_eq] at ok
    split at h
    · rename_i j a r
      split at h
      · rename_i n hh
        split at h
        · rename_i q2
          split at h
          · cases h
          · rename_i hin
            cases h
            by_cases ha : a = 0
            · subst ha
              rw [hh0] at hh
              cases hh
              rw [hi0] at kk
              show W p l e R s m args below meth c H locs cells slots Q (F0 m pc ls (.int j :: .ref (φ 0) :: r.map (pmV φ)))
              rw [h0]
              exact va_sld hx hb hX hbl hbA hS hin ok (kk φ ls H locs cells slots (fun _ _ => rfl) hl I rfl rfl)
            · exact va_iald (D := (dC, dI)) (ws := pmWd cl ty cI cZ cJ φ w) hx hb hK hP (a - 1) 0 (by rw [pmWd_at (Nat.pos_of_ne_zero ha) q2, pmCl_int hh]) rfl hin ok (kk φ ls H locs cells slots (fun _ _ => rfl) hl I rfl rfl)
        · cases h
      · cases h
    · cases h
  · -- baload
    simp only [pmOkB, decide_eq_true_eq] at ok
    split at h
    · rename_i j a r
      split at h
      · rename_i n hh
        split at h
        · rename_i q2
          split at h
          · cases h
          · rename_i hin
            cases h
            exact va_zald (D := (dC, dI)) (ws := pmWd cl ty cI cZ cJ φ w) hx hb hK hP (a - 1) 1 (by rw [pmWd_at q2.1 q2.2, pmCl_bool hh]) rfl hin ok (kk φ ls H locs cells slots (fun _ _ => rfl) hl I rfl rfl)
        · cases h
      · cases h
    · cases h
  · -- laload
    simp only [pmOkB, decide_eq_true_eq] at ok
    split at h
    · rename_i j a r
      split at h
      · rename_i n hh
        split at h
        · rename_i q2
          split at h
          · cases h
          · rename_i hin
            cases h
            exact va_lald (D := (dC, dI)) (ws := pmWd cl ty cI cZ cJ φ w) hx hb hK hP (a - 1) 2 (by rw [pmWd_at q2.1 q2.2, pmCl_long hh]) rfl hin ok (kk φ ls H locs cells slots (fun _ _ => rfl) hl I rfl rfl)
        · cases h
      · cases h
    · cases h
  · -- iastore
    simp only [pmOkB, decide_eq_true_eq] at ok
    split at h
    · rename_i v j a r
      split at h
      · rename_i n hh
        split at h
        · rename_i q2
          split at h
          · cases h
          · rename_i hin
            cases h
            refine va_iast (D := (dC, dI)) (ws := pmWd cl ty cI cZ cJ φ w) hx hb hK hP hD hS (a - 1) 0 (by rw [pmWd_at q2.1 q2.2, pmCl_int hh]) rfl hin ok (fun H1 locs1 gP gD gS => kk φ ls H1 locs1 cells slots (fun _ _ => rfl) hl (inv0 (w1 := (w.1, w.2.1, w.2.2.1, w.2.2.2.1, w.2.2.2.2.1, pmUI w.2.2.2.2.2.1 a j.toNatClampNeg v, w.2.2.2.2.2.2)) q2.1 q2.2 rfl rfl (fun b hb => ⟨rfl, pmUI_ne _ _ _ hb, rfl⟩) hw _ H1 locs1 ?_ gP gD gS) rfl rfl)
            exact (pmCl_int (w := (w.1, w.2.1, w.2.2.1, w.2.2.2.1, w.2.2.2.2.1, pmUI w.2.2.2.2.2.1 a j.toNatClampNeg v, w.2.2.2.2.2.2)) (n := n) hh).trans (congrArg (fun f => Sum.inl (cI, n, Sum.inl f)) (pmUI_eq _ _ _ _))
        · cases h
      · cases h
    · cases h
  · -- bastore
    simp only [pmOkB, decide_eq_true_eq] at ok
    split at h
    · rename_i v j a r
      split at h
      · rename_i n hh
        split at h
        · rename_i q2
          split at h
          · cases h
          · rename_i hin
            cases h
            refine va_zast (D := (dC, dI)) (ws := pmWd cl ty cI cZ cJ φ w) hx hb hK hP hD hS (a - 1) 1 (by rw [pmWd_at q2.1 q2.2, pmCl_bool hh]) rfl hin ok (fun H1 locs1 gP gD gS => kk φ ls H1 locs1 cells slots (fun _ _ => rfl) hl (inv0 (w1 := (w.1, w.2.1, w.2.2.1, w.2.2.2.1, w.2.2.2.2.1, pmUI w.2.2.2.2.2.1 a j.toNatClampNeg (vp_nar .boolean v), w.2.2.2.2.2.2)) q2.1 q2.2 rfl rfl (fun b hb => ⟨rfl, pmUI_ne _ _ _ hb, rfl⟩) hw _ H1 locs1 ?_ gP gD gS) rfl rfl)
            exact (pmCl_bool (w := (w.1, w.2.1, w.2.2.1, w.2.2.2.1, w.2.2.2.2.1, pmUI w.2.2.2.2.2.1 a j.toNatClampNeg (vp_nar .boolean v), w.2.2.2.2.2.2)) (n := n) hh).trans (congrArg (fun f => Sum.inl (cZ, n, Sum.inl f)) (pmUI_eq _ _ _ _))
        · cases h
      · cases h
    · cases h
  · -- lastore
    simp only [pmOkB, decide_eq_true_eq] at ok
    split at h
    · rename_i v j a r
      split at h
      · rename_i n hh
        split at h
        · rename_i q2
          split at h
          · cases h
          · rename_i hin
            cases h
            refine va_last (D := (dC, dI)) (ws := pmWd cl ty cI cZ cJ φ w) hx hb hK hP hD hS (a - 1) 2 (by rw [pmWd_at q2.1 q2.2, pmCl_long hh]) rfl hin ok (fun H1 locs1 gP gD gS => kk φ ls H1 locs1 cells slots (fun _ _ => rfl) hl (inv0 (w1 := (w.1, w.2.1, w.2.2.1, w.2.2.2.1, w.2.2.2.2.1, w.2.2.2.2.2.1, pmUJ w.2.2.2.2.2.2 a j.toNatClampNeg v)) q2.1 q2.2 rfl rfl (fun b hb => ⟨rfl, rfl, pmUJ_ne _ _ _ hb⟩) hw _ H1 locs1 ?_ gP gD gS) rfl rfl)
            exact (pmCl_long (w := (w.1, w.2.1, w.2.2.1, w.2.2.2.1, w.2.2.2.2.1, w.2.2.2.2.2.1, pmUJ w.2.2.2.2.2.2 a j.toNatClampNeg v)) (n := n) hh).trans (congrArg (fun f => Sum.inl (cJ, n, Sum.inr (Sum.inl f))) (pmUJ_eq _ _ _ _))
        · cases h
      · cases h
    · cases h
  · -- arraylength
    simp only [pmOkB, decide_eq_true_eq] at ok
    split at h
    · rename_i a r
      split at h
      · rename_i t n hh
        split at h
        · rename_i q2
          cases h
          by_cases ha : a = 0
          · subst ha
            rw [hh0] at hh
            cases hh
            show W p l e R s m args below meth c H locs cells slots Q (F0 m pc ls (.ref (φ 0) :: r.map (pmV φ)))
            rw [h0]
            exact va_slen hx hb hX hbl hbA hS ok (kk φ ls H locs cells slots (fun _ _ => rfl) hl I rfl rfl)
          · obtain ⟨cA, z, t1, j, e1, e2, e3⟩ := pmCl_arr (cl := cl) (ty := ty) (cI := cI) (cZ := cZ) (cJ := cJ) (φ := φ) hh
            exact va_alen (D := (dC, dI)) (ws := pmWd cl ty cI cZ cJ φ w) hx hb hK hP (a - 1) j (by rw [pmWd_at (Nat.pos_of_ne_zero ha) q2, e1]) e3 (by rw [e2]) ok (kk φ ls H locs cells slots (fun _ _ => rfl) hl I rfl rfl)
        · cases h
      · cases h
    · cases h
  · -- newarray int
    simp only [pmOkB, Bool.and_eq_true, decide_eq_true_eq] at ok
    split at h
    · rename_i n r
      split at h
      · cases h
      · rename_i hn
        cases h
        have hn1 : ¬ n < 0 := fun q => hn (Or.inl q)
        have hn2 : n.toNatClampNeg ≤ 65536 := by omega
        refine va_newa (D := (dC, dI)) (ws := pmWd cl ty cI cZ cJ φ w) hx hb (hts _ ok.2) rfl hK hP hD hS hA (a0 := (n.toNatClampNeg, .inl (fun _ => 0))) (fun _ => rfl) hn1 rfl (by show n.toNatClampNeg * 4 ≤ _; omega) (by simp only [pmnc, pmNew] at hc; omega) (by simp only [pmns, pmNew] at hs; omega) ok.1 (fun q cA H1 hK1 hP1 hD1 hS1 => ?_)
        have e1 : cA = cI := Option.some.inj ((va_nm_int (hK1.2 3 (cA, .int) rfl).2).symm.trans (va_nm_int (hK.2 0 (cI, .int) rfl).2))
        subst e1
        have hE : pmCl cl ty cA cZ cJ (va_up φ (pmn w + 1) q) (pmNew w (.inl (.int, n.toNatClampNeg)) n.toNatClampNeg) (pmn w + 1) = .inl (cA, n.toNatClampNeg, .inl (fun _ => 0)) := by
          rw [pmCl_int (n := n.toNatClampNeg) pmNew_h, pmNew_i]
        have k1 := kk (va_up φ (pmn w + 1) q) ls H1 locs (cells + 1) (slots + n.toNatClampNeg) (up1 q) (lup q) (new0 _ _ q H1 (by rw [hE]; exact hP1) (by rw [hE]; exact hD1) hS1) (by simp only [pmnc, pmNew]; omega) (by simp only [pmns, pmNew]; omega)
        rw [List.map_cons, pmSt_agree (up1 q) (fun a ha => hst a (List.mem_cons_of_mem _ ha))] at k1
        simp only [pmV, up2] at k1
        exact k1
    · cases h
  · -- newarray boolean
    simp only [pmOkB, Bool.and_eq_true, decide_eq_true_eq] at ok
    split at h
    · rename_i n r
      split at h
      · cases h
      · rename_i hn
        cases h
        have hn1 : ¬ n < 0 := fun q => hn (Or.inl q)
        have hn2 : n.toNatClampNeg ≤ 65536 := by omega
        refine va_newa (D := (dC, dI)) (ws := pmWd cl ty cI cZ cJ φ w) hx hb (hts _ ok.2) rfl hK hP hD hS hA (a0 := (n.toNatClampNeg, .inl (fun _ => 0))) (fun _ => rfl) hn1 rfl (by show n.toNatClampNeg * 1 ≤ _; omega) (by simp only [pmnc, pmNew] at hc; omega) (by simp only [pmns, pmNew] at hs; omega) ok.1 (fun q cA H1 hK1 hP1 hD1 hS1 => ?_)
        have e1 : cA = cZ := Option.some.inj ((va_nm_boolean (hK1.2 3 (cA, .boolean) rfl).2).symm.trans (va_nm_boolean (hK.2 1 (cZ, .boolean) rfl).2))
        subst e1
        have hE : pmCl cl ty cI cA cJ (va_up φ (pmn w + 1) q) (pmNew w (.inl (.boolean, n.toNatClampNeg)) n.toNatClampNeg) (pmn w + 1) = .inl (cA, n.toNatClampNeg, .inl (fun _ => 0)) := by
          rw [pmCl_bool (n := n.toNatClampNeg) pmNew_h, pmNew_i]
        have k1 := kk (va_up φ (pmn w + 1) q) ls H1 locs (cells + 1) (slots + n.toNatClampNeg) (up1 q) (lup q) (new0 _ _ q H1 (by rw [hE]; exact hP1) (by rw [hE]; exact hD1) hS1) (by simp only [pmnc, pmNew]; omega) (by simp only [pmns, pmNew]; omega)
        rw [List.map_cons, pmSt_agree (up1 q) (fun a ha => hst a (List.mem_cons_of_mem _ ha))] at k1
        simp only [pmV, up2] at k1
        exact k1
    · cases h
  · -- newarray long
    simp only [pmOkB, Bool.and_eq_true, decide_eq_true_eq] at ok
    split at h
    · rename_i n r
      split at h
      · cases h
      · rename_i hn
        cases h
        have hn1 : ¬ n < 0 := fun q => hn (Or.inl q)
        have hn2 : n.toNatClampNeg ≤ 65536 := by omega
        refine va_newa (D := (dC, dI)) (ws := pmWd cl ty cI cZ cJ φ w) hx hb (hts _ ok.2) rfl hK hP hD hS hA (a0 := (n.toNatClampNeg, .inr (.inl (fun _ => 0)))) (fun _ => rfl) hn1 rfl (by show n.toNatClampNeg * 8 ≤ _; omega) (by simp only [pmnc, pmNew] at hc; omega) (by simp only [pmns, pmNew] at hs; omega) ok.1 (fun q cA H1 hK1 hP1 hD1 hS1 => ?_)
        have e1 : cA = cJ := Option.some.inj ((va_nm_long (hK1.2 3 (cA, .long) rfl).2).symm.trans (va_nm_long (hK.2 2 (cJ, .long) rfl).2))
        subst e1
        have hE : pmCl cl ty cI cZ cA (va_up φ (pmn w + 1) q) (pmNew w (.inl (.long, n.toNatClampNeg)) n.toNatClampNeg) (pmn w + 1) = .inl (cA, n.toNatClampNeg, .inr (.inl (fun _ => 0))) := by
          rw [pmCl_long (n := n.toNatClampNeg) pmNew_h, pmNew_j]
        have k1 := kk (va_up φ (pmn w + 1) q) ls H1 locs (cells + 1) (slots + n.toNatClampNeg) (up1 q) (lup q) (new0 _ _ q H1 (by rw [hE]; exact hP1) (by rw [hE]; exact hD1) hS1) (by simp only [pmnc, pmNew]; omega) (by simp only [pmns, pmNew]; omega)
        rw [List.map_cons, pmSt_agree (up1 q) (fun a ha => hst a (List.mem_cons_of_mem _ ha))] at k1
        simp only [pmV, up2] at k1
        exact k1
    · cases h
  · -- new
    rename_i n
    cases h
    simp only [pmOkB, Bool.and_eq_true, decide_eq_true_eq] at ok
    obtain ⟨o1, o2⟩ := ok
    split at o2
    · rename_i C T N hci
      simp only [Bool.and_eq_true] at o2
      obtain ⟨o4, o5, o6⟩ := o2
      have hN : pmN cl x = N := pmN_of hci
      obtain ⟨t1, -, t3⟩ := hcl x _ hci
      have hrd : ∀ k, pmRd (pmNew w (.inr x) (pmN cl x)) (pmn w + 1) k (ty x k) = match ty x k with
          | .object _ => .null
          | .array _ => .null
          | .long => .long 0
          | _ => .int 0 := by
        intro k
        unfold pmRd
        rw [pmNew_r, pmNew_i, pmNew_j]
        cases ty x k <;> rfl
      refine va_new (D := (dC, dI)) (C := C) (T := T) (N := N) (ws := pmWd cl ty cI cZ cJ φ w) (fs := (List.range (pmN cl x)).map (fun k => pmV φ (pmRd (pmNew w (.inr x) (pmN cl x)) (pmn w + 1) k (ty x k)))) hx hb (hcw _ _ hci) (fun _ h => h) (ty x) t1 hown (hts _ o4) (hts _ o5) (hts _ o6) hK hP hD hS hA hci (fun j hj => ?_) (by simp only [pmnc, pmNew] at hc; omega) (by simp only [pmns, pmNew, hN] at hs; omega) o1 (fun q H1 hP1 hD1 hS1 => ?_)
      · have hj' : j < pmN cl x := by rw [hN]; exact hj
        have h1 := t3 j hj
        simp only [vp_V, List.getD_eq_getElem?_getD, List.getElem?_map, List.getElem?_range hj', Option.map_some, Option.getD_some, hrd]
        revert h1
        show pmTok (ty x j) = true → _
        cases ty x j <;> simp [pmTok, defaultValue, pmV]
      · have hE : pmCl cl ty cI cZ cJ (va_up φ (pmn w + 1) q) (pmNew w (.inr x) (pmN cl x)) (pmn w + 1) = .inr (x, (List.range (pmN cl x)).map (fun k => pmV φ (pmRd (pmNew w (.inr x) (pmN cl x)) (pmn w + 1) k (ty x k)))) := by
          rw [pmCl_obj (ci := x) pmNew_h]
          congr 2
          refine List.map_congr_left fun k _ => ?_
          rw [hrd]
          split <;> rfl
        have k1 := kk (va_up φ (pmn w + 1) q) ls H1 locs (cells + 1) (slots + N) (up1 q) (lup q) (new0 _ _ q H1 (by rw [hE]; exact hP1) (by rw [hE]; exact hD1) hS1) (by simp only [pmnc, pmNew]; omega) (by simp only [pmns, pmNew, hN]; omega)
        rw [List.map_cons, pmSt_agree (up1 q) hst] at k1
        simp only [pmV, up2] at k1
        exact k1
    · cases o2
  · cases h
end PMD
