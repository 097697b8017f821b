section PMU
variable {D : pmD} {l : Launch}
theorem pm_entry {φ : Nat → Nat} {vs : List Value} {n : Nat} (h : (pmEnt vs).length ≤ n) : lv_has ((lg_sl (vs.map (pmV φ)) ++ List.replicate (n - (lg_sl (vs.map (pmV φ))).length) Slot.unset).toArray) n (pmLv φ (pmPad n (pmEnt vs))) := by
  have hl := lv_entry (vs.map (pmV φ)) (n := n) (by rw [pmEnt_len]; exact h)
  refine ⟨hl.1, hl.2.1, fun q hq => hl.2.2 q ?_⟩
  obtain ⟨v, h1, h2⟩ := pmLv_mem.mp hq
  have h3 := pmEnt_get vs q.1 0 v (pmPad_get _ _ _ _ h1)
  rw [lv_args_map]
  refine List.mem_map.mpr ⟨_, h3, ?_⟩
  rw [← h2]
  rfl
theorem pm_P_kept {dC : Nat → ClassId} {dI : Nat → Nat → Nat} {cl : List vw_C} {ws : va_W} {H H1 : Heap} (h : va_P (dC, dI) cl ws H) (hq : ∀ q : Nat, q < H.size → H1[q]? = H[q]?) : va_P (dC, dI) cl ws H1 :=
  fun k q hk => (h k q hk).kept (hq _ (h k q hk).lt)
theorem pmWd_bmp {cl : List vw_C} {ty : Nat → Nat → FieldType} {cI cZ cJ : ClassId} {φ : Nat → Nat} {w : pmW} : pmWd cl ty cI cZ cJ φ (pmBmp w) = pmWd cl ty cI cZ cJ φ w := rfl
set_option maxHeartbeats 4000000 in
theorem pm_met_body (hst : l.stackTraces = false) {mid : Nat} {M : pmM} {w : pmW} {out : pmO} {wF : pmW} {L : Nat} {dC : Nat → ClassId} {dI : Nat → Nat → Nat} {cI cZ cJ : ClassId} {φ : Nat → Nat}
    {p : Program} {e : Env} {s : State} {m : MethodId} {args : Array Value} {below : List Frame} {meth : Method} {c : Code}
    (hx : p.tables.exec = Jvm.exec) (hb : c.code = dbc D mid) (hr : meth.sig.returnType = drt D mid) (hts : ∀ w ∈ dws D mid, w.before args s = true) (hown : s.vm.findClass (dyy D mid).cls = some m.cls) (hlocks : meth.locks = false) (hml : c.maxLocals = M.2.1)
    (htab : M.2.2.1 = [] → ∀ x ∈ c.exceptionTable.toList, False)
    (hwf : ∀ a k b, pmr w a k = some b → b ≤ pmn w) (hh0 : pmh w 0 = .inl (.int, L)) (hG0 : pmG D (va_A (pmWd (dcl D) (dty D) cI cZ cJ φ w) s.heap.size) s) :
    pmK D mid M p l e (pmRm D mid w wF) s m args below meth c dC dI cI cZ cJ (va_A (pmWd (dcl D) (dty D) cI cZ cJ φ w) s.heap.size) (φ 0) L (pmi w 0)
      (vx_MQ below (pmQc D dC dI cI cZ cJ φ w wF s.heap.size out) (pmXc D dC dI cI cZ cJ φ w wF s.heap.size out) args s (pmnc wF - pmnc w) (pmns wF - pmns w) (va_A (pmWd (dcl D) (dty D) cI cZ cJ φ w) s.heap.size)) out wF w φ 0 0 := by
  refine ⟨fun φ1 ls1 H1 locs1 c1 s1 pc1 v h1 h2 h3 h4 h5 h6 h7 => ?_, fun φ1 ls1 H1 locs1 c1 s1 pc1 x w1 st1 h1 h2 h3 h4 h5 h5b h6 h7 h8 h9 => ?_, fun φ1 ls1 H1 locs1 c1 s1 pc1 x q ce rest h1 h2 h3 h4 h5 h6 h7 h8 h9 => ?_⟩
  · refine vx_ret ?_
    obtain ⟨hP, hD, hS, hw, h0, hh, hi⟩ := h5
    have e1 : c1 = pmnc wF - pmnc w := by omega
    have e2 : s1 = pmns wF - pmns w := by omega
    subst e1; subst e2
    have hq : ∀ t : State, t.heap = H1 → s.WarmedH t.vm → pmQc D dC dI cI cZ cJ φ w wF s.heap.size out args s (.returned (v.map (pmV φ1))) t := fun t ht hW =>
      ⟨v, φ1, h1, rfl, h3, by rw [ht]; exact hP, hD, h4, hw, hh.trans hh0.symm, hi, hS.F ht⟩
    rcases h2 with ⟨z, rfl, d, r⟩ | ⟨z, rfl, d, r⟩ | ⟨z, rfl, d, t, r⟩ | ⟨rfl, d, r⟩
    · rcases r with r | ⟨r, r2⟩
      · exact W.iret (v := z) hx hb (hr.trans r) hq hS.2.2 d hlocks
      · refine W.zret (v := z) hx hb (hr.trans r) ?_ hq hS.2.2 d hlocks
        rcases r2 with rfl | rfl <;> decide
    · exact W.lret (v := z) hx hb (hr.trans r) hq hS.2.2 d hlocks
    · exact W.aret (v := .ref (φ1 z)) hx hb (hr.trans r) (Or.inr ⟨t, rfl⟩) (Or.inr ⟨_, rfl⟩) hq hS.2.2 d hlocks
    · exact W.vret hx hb (hr.trans r) hq hS.2.2 d hlocks
  · obtain ⟨hP, hD, hS, hw, h0, hh, hi⟩ := h7
    obtain ⟨ik, is, ic, text, t1, t2, t3, t4, t5, t6, t7, d0, d3, d4, d6, d9, r1, r2⟩ := h2
    obtain ⟨g1, g2, g3, g4, g5⟩ := hG0
    obtain ⟨sa, hsa⟩ := g4 _ t4
    subst h4
    have hcc : pmnc (pmBmp w1) = pmnc w1 + 1 := rfl
    have hss : pmns (pmBmp w1) = pmns w1 + 6 := rfl
    refine vx_throwS hx hb hst hown t1 (by decide) (hts _ t2) (hts _ t3) hsa (vx_hat (B := dEW D) (fun u hu => hts _ (t5 u hu)) t6 (fun u hu => pmEw_tabs (g3 u hu).1 rfl (g3 u hu).2)) t7 g1 g2 hS (h5.trans hml.symm) d0 d3 d4 d6 d9 (fun z hz => (htab h3 z hz).elim)
      (by show 2 + 3 < drf D mid; omega) (by show _ + (13 * (2 + 1) + 43) ≤ drl D mid; omega) (by show c1 + 1 ≤ pmnc (pmBmp w1) - pmnc w; omega) (by show s1 + 6 ≤ pmns (pmBmp w1) - pmns w; omega) hlocks (fun t ht hz hk => ?_) hS.2.2 (by omega) (by omega)
    refine ⟨x, φ1, h1, rfl, ?_, ?_, h6, hw, hh.trans hh0.symm, hi, ?_⟩
    · rw [pmWd_bmp]; exact pm_P_kept hP hk
    · rw [pmWd_bmp]; exact hD
    · exact ⟨Nat.le_trans hS.1 hz, fun q hq1 hq2 => (hk q (Nat.lt_of_lt_of_le hq1 hS.1)).trans (hS.2.1 q hq1 hq2)⟩
  · obtain ⟨hP, hD, hS, hw, h0, hh, hi⟩ := h7
    refine vx_out (fun z hz => (htab h2 z hz).elim) hlocks h3 h4 h5 (fun t ht hW => ⟨x, φ1, h1, rfl, by rw [ht]; exact hP, hD, h6, hw, hh.trans hh0.symm, hi, hS.F ht⟩) hS.2.2 (by omega) (by omega)
set_option maxHeartbeats 4000000 in
theorem pm_met_of (hst : l.stackTraces = false) {n : Nat} (hB : pmBody D l n) : pmMet D l n := by
  intro mid M hG hpl hhd vs w out wF L hrun hlen hvs hwf hh0 dC dI cI cZ cJ φ sz
  have okS : pmOkS (pmn w) (pmPad M.2.1 (pmEnt vs)) [] := by
    refine ⟨fun i a hg => hvs a ?_, fun a ha => by cases ha⟩
    exact lv_args_mem vs 0 _ (pmEnt_get vs i 0 _ (pmPad_get _ _ _ _ hg))
  have lenP : (pmPad M.2.1 (pmEnt vs)).length = M.2.1 := by rw [pmPad_len]; omega
  rcases hhd with ⟨hno, ws', hws⟩ | ⟨hyes, ws', hws⟩
  · refine vx_ofW (cc := dbc D mid) (maxL := M.2.1) (ret := drt D mid) hpl hws ?_
    intro p e s m args below meth c s₁ B hml htab hv
    obtain ⟨rfl, rfl, hP, hK, hD0, hX, hXl, hXA, hG0⟩ := hv
    have hts := atoms_spec (ws := dws D mid) B.pre
    have hown : s.vm.findClass (dyy D mid).cls = some m.cls := findClass_of_methodNamed B.named
    have hnm : (dyy D mid).name = "<init>" → meth.name = "<init>" := fun q => (name_of_methodNamed B.named B.method).1.trans q
    rw [lg_entry_eq]
    exact hB mid M hG p e _ s m _ below meth c dC dI cI cZ cJ (va_A (pmWd (dcl D) (dty D) cI cZ cJ φ w) s.heap.size) (φ 0) L (pmi w 0) ⟨B.exec, B.bytes, hml, hown, hts, hnm, fun q => absurd hno q, rfl, rfl⟩ ⟨hK, fun q h => Or.inr h, hX, hXl, hXA⟩ hG0 _ 0 _ [] w out wF φ _ s.heap [] 0 0 hrun lenP okS (pm_entry hlen)
      ⟨hP, hD0.self, va_S.rf, hwf, rfl, hh0, rfl⟩ (by show 0 + pmnc wF ≤ (pmnc wF - pmnc w) + pmnc w; omega) (by show 0 + pmns wF ≤ (pmns wF - pmns w) + pmns w; omega)
      (pm_met_body hst B.exec B.bytes B.returns hts hown B.notSynchronized hml (fun _ => htab) hwf hh0 hG0)
  · refine vx_ofWH (cc := dbc D mid) (maxL := M.2.1) (ret := drt D mid) (hh := dhs D mid) hpl hws ?_
    intro p e s m args below meth c s₁ B hml hv
    obtain ⟨rfl, rfl, hP, hK, hD0, hX, hXl, hXA, hG0⟩ := hv
    have hts := atoms_spec (ws := dws D mid) B.pre
    have hown : s.vm.findClass (dyy D mid).cls = some m.cls := findClass_of_methodNamed B.named
    have hnm : (dyy D mid).name = "<init>" → meth.name = "<init>" := fun q => (name_of_methodNamed B.named B.method).1.trans q
    have htb := vx_table (x := dyy D mid) B (hts _ (by rw [hws]; exact List.mem_cons_self))
    rw [lg_entry_eq]
    exact hB mid M hG p e _ s m _ below meth c dC dI cI cZ cJ (va_A (pmWd (dcl D) (dty D) cI cZ cJ φ w) s.heap.size) (φ 0) L (pmi w 0) ⟨B.exec, B.bytes, hml, hown, hts, hnm, fun _ => htb, rfl, rfl⟩ ⟨hK, fun q h => Or.inr h, hX, hXl, hXA⟩ hG0 _ 0 _ [] w out wF φ _ s.heap [] 0 0 hrun lenP okS (pm_entry hlen)
      ⟨hP, hD0.self, va_S.rf, hwf, rfl, hh0, rfl⟩ (by show 0 + pmnc wF ≤ (pmnc wF - pmnc w) + pmnc w; omega) (by show 0 + pmns wF ≤ (pmns wF - pmns w) + pmns w; omega)
      (pm_met_body hst B.exec B.bytes B.returns hts hown B.notSynchronized hml (fun q => absurd q hyes) hwf hh0 hG0)
end PMU
