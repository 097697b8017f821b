/-! THE CLAIM OUT OF ONE WALK OF THE LAW'S BODY. Your part is whole_start (and what it stands on); all else here is the same for every law, but numbers. -/
def R_law : String := "TrackRoutesLaw"
def lw_P (b : Addr) (xs : List Int32) (args : Array Value) (s : State) : Prop := args = #[.ref b] ∧ s.IntsAt b xs ∧ xs.length ≤ 643 ∧ (Jvm.Cond.and given_1 narrow_1).before args s = true
def lw_Q (_ : Array Value) (s : State) (o : Outcome) (t : State) : Prop := o = .returned (some (.int 1)) ∧ Framed s o t [] 600128 7301063
def lw_Z (below : List Frame) (a : Array Value) (s : State) : State → Prop := fun t => ∃ o, t.status = .running ∧ Ended t below o ∧ lw_Q a s o t
/-- the law's own end, with 1 on the stack, nothing written that was there before, its room as the claim has it -/
theorem lw_ret {p : Program} {l : Launch} {e : Env} {s : State} {m : MethodId} {below : List Frame} {meth : Method} {c : Code} {b : Nat} (hx : p.tables.exec = Jvm.exec) (hb : c.code = code) (hr : meth.sig.returnType = ret) (hlocks : meth.locks = false) {pc : Nat} {H : Heap} {ls : Array Slot} (hdg : decode code pc = .ok (.ireturn, 1)) : W p l e room_1 s m #[Value.ref b] below meth c H [] 600128 7301063 (lw_Z below #[Value.ref b] s) (F0 m pc ls [.int 1]) := by
  intro T hT X
  obtain ⟨fs, hret, hrun, hended, hW, hframe⟩ := X.leave (v := some (.int 1)) (hlocks := hlocks) (fun h => by rw [hr] at h; cases h)
  have hmeth' : T.vm.method? m = some meth := X.method'
  refine ⟨T.setFrames fs, ?_, .returned (some (.int 1)), hrun, hended, rfl, ⟨_, rfl⟩, hW, hframe⟩
  jvm_step X.here [X.here.top, hx, hb, hdg, hmeth', hr, ret, narrow_b1]
  (try refine ⟨rfl, ?_⟩); (try refine ⟨rfl, ?_⟩)
  first | (intro acts; rw [hret _ acts rfl rfl rfl]) | rw [hret _ _ rfl rfl rfl]
  exact Steps.refl _
/-- what holds at the law's entry: the machine, the code, the tables' words (any of lw_tbl by 'hts w (by decide +kernel)'), the script of L ints xs at the cell b, what the Statement gives of the start (any of its parts by flat_of_before) -/
def lw_At (p : Program) (s : State) (m : MethodId) (meth : Method) (c : Code) (b L : Nat) (xs : Nat → Int32) : Prop :=
  p.tables.exec = Jvm.exec ∧ c.code = code ∧ meth.sig.returnType = ret ∧ c.maxLocals = 7 ∧ s.vm.findClass R_law = some m.cls ∧ (∀ w ∈ lw_tbl, w.before #[Value.ref b] s = true) ∧ va_X b L xs s s.heap ∧ b < s.heap.size ∧ meth.locks = false ∧ (Jvm.Cond.and given_1 narrow_1).before #[Value.ref b] s = true ∧ (Jvm.Cond.code x code maxLocals ret).before #[Value.ref b] s = true
/-- the pure machine's start: the script alone -/
def w00 (L : Nat) (xs : Nat → Int32) : pmW := (0, 0, 0, fun _ => .inl (.int, L), fun _ _ => none, fun a => if a = 0 then xs else fun _ => 0, fun _ _ => 0)
/-- what is left: the law in the pure machine -/
def PureLaw : Prop := ∀ (L : Nat) (xs : Nat → Int32), L ≤ 643 → PX m_L_law 0 (pmPad 7 (pmEnt [.ref 0])) [] (w00 L xs) (fun o w => o = .inl (some (.int 1)) ∧ pmnc w ≤ 600128 ∧ pmns w ≤ 7301063)
theorem st_cls : ∀ q ∈ vwCl, (u_ws q.1 q.2.1 q.2.2).all (fun w => decide (w ∈ lw_tbl)) = true ∧ Cond.instantiable q.1 q.2.2 ∈ lw_tbl := by
  intro q hq
  simp only [vwCl, List.mem_cons, List.not_mem_nil, or_false] at hq
  rcases hq with rfl | rfl | rfl | rfl | rfl | rfl | rfl <;> exact ⟨by decide +kernel, by decide +kernel⟩
theorem st_arr {s : State} {args : Array Value} {ty : FieldType} (h : (Cond.arrayClass ty).before args s = true) (hp : ∀ cA, s.vm.findClass ("[" ++ ty.toString) = some cA → va_RA s cA ty) : ∃ cA, ArrOfT s cA ty ∧ va_RA s cA ty := by
  obtain ⟨cA, kA, comp, h1, h2, h3⟩ := Cond.arrayClass_spec h
  exact ⟨cA, fun n z => ⟨fun k h => (by cases h), kA, h2, comp, h3⟩, hp cA h1⟩
theorem st_known {s : State} {args : Array Value} (hts : ∀ w ∈ lw_tbl, w.before args s = true) : ∃ (dC : Nat → ClassId) (dI : Nat → Nat → Nat), ∀ (c : Nat) (q : vw_C), vwCl[c]? = some q → u_Kn s q.1 q.2.1 q.2.2 (dC c) (dI c) := by
  have h : ∀ ci : Nat, ∃ z : ClassId × (Nat → Nat), ∀ q : vw_C, vwCl[ci]? = some q → u_Kn s q.1 q.2.1 q.2.2 z.1 z.2 := by
    intro ci
    cases hq : vwCl[ci]? with
    | none => exact ⟨(0, fun _ => 0), fun q h => by cases h⟩
    | some q =>
      obtain ⟨h1, h2⟩ := st_cls q (List.mem_of_getElem? hq)
      obtain ⟨cC, iS, hk⟩ := u_known (n := q.2.2) hts (fun w hw => of_decide_eq_true (List.all_eq_true.mp h1 w hw)) (hts _ h2)
      exact ⟨(cC, iS), fun q2 h => by cases h; exact hk⟩
  obtain ⟨f, hf⟩ := Classical.axiomOfChoice h
  exact ⟨fun c => (f c).1, fun c => (f c).2, fun c q hq => hf c q hq⟩
set_option maxRecDepth 100000 in
theorem st_ew {w : Cond} (hw : w ∈ dEW pgD) : pmEwOk w = true ∧ w ∈ lw_tbl := by
  have e : dEW pgD = List.filter pmEwOk lw_tbl := by unfold dEW pgD pgEW; rfl
  rw [e] at hw
  exact ⟨(List.mem_filter.mp hw).2, (List.mem_filter.mp hw).1⟩
theorem st_nil {α : Type} {k : Nat} {q : α} {P : Prop} (h : ([] : List α)[k]? = some q) : P := by simp at h
theorem st_sr : ∀ q ∈ pgSR, Cond.stringRef q.1 q.2.1 q.2.2 ∈ lw_tbl := by decide +kernel
theorem st_sx : ∀ q ∈ pgSR, Cond.exactly (.string q.1 q.2.1) "java/lang/String" ∈ flatC (Jvm.Cond.and given_1 narrow_1) := by decide +kernel
theorem st_nc : ∀ q ∈ pgNC, Cond.not (.castable q.1 q.2) ∈ flatC (Jvm.Cond.and given_1 narrow_1) := by decide +kernel
theorem st_words : Cond.arrayClass .int ∈ lw_tbl ∧ Cond.arrayClass .boolean ∈ lw_tbl ∧ Cond.arrayClass .long ∈ lw_tbl ∧ Cond.laysStatic Bundle.tN "UNASSIGNED_STACK" Bundle.steD ∈ lw_tbl ∧ Cond.laysStatic Bundle.tN "SUPPRESSED_SENTINEL" Bundle.listD ∈ lw_tbl ∧ Cond.initialized Bundle.tN ∈ lw_tbl ∧ Cond.isRef (.static Bundle.tN "UNASSIGNED_STACK" Bundle.steD) ∈ flatC (Jvm.Cond.and given_1 narrow_1) ∧ Cond.isRef (.static Bundle.tN "SUPPRESSED_SENTINEL" Bundle.listD) ∈ flatC (Jvm.Cond.and given_1 narrow_1) := by
  refine ⟨?_, ?_, ?_, ?_, ?_, ?_, ?_, ?_⟩ <;> decide +kernel
/-- from the entry, for every script of at most 643 ints, the law comes to its end with true: out of the pure machine -/
theorem whole_start (hp : PureLaw) {p : Program} {e : Env} {s : State} {m : MethodId} {below : List Frame} {meth : Method} {c : Code} (l : Launch) (hst : l.stackTraces = false) {b L : Nat} {xs : Nat → Int32} (hL : L ≤ 643) (C0 : lw_At p s m meth c b L xs) : W p l e room_1 s m #[Value.ref b] below meth c s.heap [] 0 0 (lw_Z below #[Value.ref b] s) (entryFrame m ([Value.ref b] : List Value).toArray 7) := by
  obtain ⟨hx, hb, hr, hml, hown, hts, hX, hbl, hlocks, hgv, hcd⟩ := C0
  obtain ⟨o, wF, ⟨n, hn⟩, rfl, hc, hs⟩ := hp L xs hL
  obtain ⟨t1, t2, t3, t4, t5, t6, t7, t8⟩ := st_words
  obtain ⟨dC, dI, hkn⟩ := st_known hts
  obtain ⟨cI, hI1, hI2⟩ := st_arr (hts _ t1) (fun cA h => h)
  obtain ⟨cZ, hZ1, hZ2⟩ := st_arr (hts _ t2) (fun cA h => h)
  obtain ⟨cJ, hJ1, hJ2⟩ := st_arr (hts _ t3) (fun cA h => h)
  have hfl := flat_of_before _ hgv
  have hM : dG pgD m_L_law = some (pcL_law, 7, [], 0) := rfl
  have hctx : pmCtx pgD m_L_law (pcL_law, 7, [], 0) p room_1 s m #[Value.ref b] meth c := by
    refine ⟨hx, hb, hml, hown, ?_, fun h => absurd (show (dyy pgD m_L_law).name = "<init>" from h) (by decide), fun h => absurd rfl h, rfl, rfl⟩
    intro w hw
    rcases List.mem_cons.mp (show w ∈ pgHw (pgAt m_L_law) :: pgTb from hw) with h | h
    · rw [h]; exact hcd
    · exact hts w (List.mem_filter.mp h).1
  have hfix : pmFix (dcl pgD) dC dI cI cZ cJ (fun q => s.heap.size ≤ q) s b L xs := by
    refine ⟨⟨hkn, fun k q hk => ?_⟩, fun q h => h, hX, hbl, fun h => absurd hbl (Nat.not_lt.mpr h)⟩
    match k, hk with
    | 0, hk => cases hk; exact ⟨hI1, hI2⟩
    | 1, hk => cases hk; exact ⟨hZ1, hZ2⟩
    | 2, hk => cases hk; exact ⟨hJ1, hJ2⟩
    | k + 3, hk => simp at hk
  have hA : ∀ a : Nat, a < s.heap.size → ¬ s.heap.size ≤ a := fun a h => Nat.not_le.mpr h
  have hG : pmG pgD (fun q => s.heap.size ≤ q) s := by
    refine ⟨vx_Zqof (hts _ t4) (hts _ t6) (hfl _ t7) hA, vx_Zqof (hts _ t5) (hts _ t6) (hfl _ t8) hA, fun w hw => ?_, fun q hq => ?_, fun q hq => ?_⟩
    · obtain ⟨h1, h2⟩ := st_ew hw
      exact ⟨h1, pmEw_tabs h1 rfl (hts w h2)⟩
    · obtain ⟨a, -, -, -, h2, -⟩ := Cond.exactly_spec (hfl _ (st_sx q hq))
      exact ⟨a, vk_R.of (hts _ (st_sr q hq)) h2⟩
    · exact va_Nc.of (hfl _ (st_nc q hq))
  rw [lg_entry_eq]
  refine pm_body pgDOk hst n m_L_law _ hM p e room_1 s m #[Value.ref b] below meth c dC dI cI cZ cJ _ b L xs hctx hfix hG (lw_Z below #[Value.ref b] s) 0 (pmPad 7 (pmEnt [.ref 0])) [] (w00 L xs) (.inl (some (.int 1))) wF (fun _ => b) _ s.heap [] 0 0 (hn n (Nat.le_refl n)) rfl ?_ (pm_entry (φ := fun _ => b) (vs := [.ref 0]) (n := 7) (by decide)) ?_ ?_ ?_ ?_
  · refine ⟨fun i a h => ?_, fun a h => by cases h⟩
    have h2 := pmEnt_get [.ref 0] i 0 _ (pmPad_get _ _ _ _ h)
    have h3 := lv_args_mem _ _ _ h2
    simp only [List.mem_singleton, Value.ref.injEq] at h3
    subst h3
    exact Nat.le_refl _
  · refine ⟨fun k q h => st_nil h, ⟨fun i j p q h => st_nil h, fun k q h => st_nil h⟩, va_S.rf, fun a k b h => (by cases h), rfl, rfl, rfl⟩
  · show 0 + pmnc wF ≤ 600128 + 0
    omega
  · show 0 + pmns wF ≤ 7301063 + 0
    omega
  · refine ⟨fun φ1 ls1 H1 locs1 c1 s1 pc1 v h1 h2 h3 h4 h5 h6 h7 => ?_, fun φ1 ls1 H1 locs1 c1 s1 pc1 x w1 st1 h1 => (by cases h1), fun φ1 ls1 H1 locs1 c1 s1 pc1 x q ce rest h1 => (by cases h1)⟩
    cases h1
    obtain ⟨-, -, hS, -⟩ := h5
    refine va_forget (fun q hq => hS.2.2 q hq) ?_
    refine W.widen (k := 600128) (n := 7301063) ?_ ?_ ?_
    · have : c1 + 0 = 0 + pmnc wF := h6
      omega
    · have : s1 + 0 = 0 + pmns wF := h7
      omega
    · rcases h2 with ⟨z, e1, d, -⟩ | ⟨z, e1, -⟩ | ⟨z, e1, -⟩ | ⟨e1, -⟩
      · cases e1
        exact lw_ret hx hb hr hlocks d
      · cases e1
      · cases e1
      · cases e1
set_option maxHeartbeats 4000000 in
theorem lw_walk (hp : PureLaw) (l : Launch) (hst : l.stackTraces = false) (b : Addr) (xs : List Int32) : MetFree l x (headSpec (Jvm.Cond.code x code maxLocals ret :: tables_1) room_1) (lw_P b xs) (fun _ _ _ _ _ => True) lw_Q := by
  refine MetFree.of_bodyS (code := code) (maxLocals := maxLocals) (ret := ret) (by decide) ?_ ?_
  · intro args s m h hn
    obtain ⟨meth, c, h1, h2, h3, h4, h5, h6, -, -⟩ := Cond.code_spec hn (atoms_spec (ws := Jvm.Cond.code x code maxLocals ret :: tables_1) h _ List.mem_cons_self)
    exact ⟨meth, c, h1, h2, h3, h4, h5, h6⟩
  · intro p e s m args below meth c s₁ B hml0 hP _
    obtain ⟨rfl, hx, hbd, hgv⟩ := hP
    obtain ⟨scr, harrAt, hlist, hof, hsmall⟩ := hx
    obtain ⟨hcb, hkn, -, -⟩ := State.arrayAt?_spec harrAt
    have hown : s.vm.findClass R_law = some m.cls := findClass_of_methodNamed B.named
    have hts0 : ∀ c ∈ (Jvm.Cond.code x code maxLocals ret :: tables_1), c.before #[Value.ref b] s = true := atoms_spec (ws := Jvm.Cond.code x code maxLocals ret :: tables_1) B.pre
    have hts : ∀ w ∈ lw_tbl, w.before #[Value.ref b] s = true := k2_hts_sels lw_privs (fun w hw => hts0 w (List.mem_cons_of_mem _ hw)) lw_privs_ok
    have hml : c.maxLocals = 7 := B.maxLocals_eq (hts0 _ List.mem_cons_self)
    have X₀ : Stand p l e room_1 s m #[Value.ref b] below meth c s₁ [] 0 0 := Stand.of_body B
    have hh0 : s₁.heap = s.heap := by rw [B.state]; rfl
    have hsz : scr.slots.size = xs.length := by rw [← Array.length_toList, hlist, List.length_map]
    have hval : ∀ j : Nat, j < xs.length → scr.slots[j]? = some (.int (xs.getD j 0)) := fun j hj => by
      rw [← Array.getElem?_toList, hlist]
      simp [hj]
    have hbl : b < s.heap.size := (Array.getElem?_eq_some_iff.mp hcb).1
    have hX : va_X b xs.length (fun j => xs.getD j 0) s s.heap := ⟨scr, hcb, hof, hkn, hsz, hval⟩
    have K : W p l e room_1 s m #[Value.ref b] below meth c s₁.heap [] 0 0 (lw_Z below #[Value.ref b] s) (entryFrame m ([Value.ref b] : List Value).toArray 7) := by
      rw [hh0]
      exact whole_start hp l hst hbd ⟨B.exec, B.bytes, B.returns, hml, hown, hts, hX, hbl, B.notSynchronized, hgv, hts0 _ List.mem_cons_self⟩
    obtain ⟨t, a1, o, b1, b2, b3⟩ := K s₁ rfl X₀
    exact ⟨t, o, a1, b1, b2, b3⟩
theorem lw_pre_spec {args : Array Value} {s : State} (h : (Jvm.Cond.and given_1 narrow_1).before args s = true) (hr : rest_1_c.before args s = true) : ∃ (b : Addr) (xs : List Int32), lw_P b xs args s := by
  have hs := flat_of_before _ h
  have hq := flat_of_before _ hr
  have hc : (Cond.count 1).before args s = true := hs _ (by decide +kernel)
  have harr : (Cond.arrayOf (.arg 0) .int).before args s = true := hs _ (by decide +kernel)
  have hle : (Cond.le (.length (.arg 0)) (.int 643)).before args s = true := hs _ (by decide +kernel)
  have hlen : (Cond.isInt (.length (.arg 0))).before args s = true := hq _ (by decide +kernel)
  have hall : (Cond.all (.arg 0) (.isInt (.elem (.arg 0) (.index 0)))).before args s = true := hq _ (by decide +kernel)
  obtain ⟨b, xs, hb, hx⟩ := State.ints_of_pre rfl harr hlen hall
  have hsm : xs.length < 2 ^ 31 := hx.choose_spec.2.2.2
  have hev : (Term.length (.arg 0)).eval args s none [] s = some (.int xs.length.toInt32) := hx.length_eval hb
  have hv := Cond.le_ints hev (show (Term.int 643).eval args s none [] s = some (.int 643) from rfl)
  have hd : xs.length.toInt32 ≤ 643 := by
    simpa [Cond.before, Cond.holds, hv] using hle
  have hN : xs.length ≤ 643 := (Int32.ofNat_le_ofNat hsm (by decide)).mp (show Int32.ofNat xs.length ≤ Int32.ofNat 643 from hd)
  exact ⟨b, xs, Cond.one_arg hc (show args[0]? = some (.ref b) from hb), hx, hN, h⟩
theorem lw_comes (hp : PureLaw) (l : Launch) (hst : l.stackTraces = false) : Comes l x (Jvm.Cond.code x code maxLocals ret :: tables_1) room_1 (fun tb e args s => Calls_1 tb e args s ∧ rest_1 tb e args s ∧ Pre_1 tb e args s)
    (fun _ _ args s o t => lw_Q args s o t) := by
  intro p e ha hc hk s m args below hf hfit hheap happ hpre
  obtain ⟨b, xs, hP⟩ := lw_pre_spec hpre.2.2 hpre.2.1
  obtain ⟨k, o, h1, h2, h3, hQ⟩ := lw_walk hp l hst b xs p e ha hc hk s m args below hf ((Spec.applies_iff_loose hf).mp happ).1 hP trivial
  exact ⟨k, o, h1, h2, h3, hQ⟩
theorem lw_frame {s t : State} {o : Outcome} {args : Array Value} (h : Framed s o t [] 600128 7301063) :
    Framed s o t (fieldLocs frame_1_writes args s ++ arrayLocs frame_1_arrays args s ++ staticLocs frame_1_statics s) 600128 7301063 := h
theorem lw_limb (hp : PureLaw) (L : Cond) (hL : ∀ (args : Array Value) (s t : State), L.after args s (.returned (some (.int 1))) t = true) :
    ArmFor flags0 classFile x code maxLocals ret World_1 tables_1 room_1 Calls_1 rest_1 Pre_1
      (fun tb e a s o t => postC L tb e a s o t ∧ Framed s o t (fieldLocs frame_1_writes a s ++ arrayLocs frame_1_arrays a s ++ staticLocs frame_1_statics s) 600128 7301063) := by
  intro l hfl _ _ p e ha hc hk s m args below hf hfit hheap happ hpre
  have hst : l.stackTraces = false := by unfold Launch.stackTraces; rw [hfl]; decide
  obtain ⟨k, o, h1, h2, h3, rfl, hF⟩ := lw_comes hp l hst p e ha hc hk s m args below hf hfit hheap happ hpre
  exact ⟨k, _, h1, h2, h3, hL args s _, lw_frame hF⟩
theorem i_vc_of (hp : PureLaw) : Claimed_1_1 ∧ Claimed_1_2 := ⟨lw_limb hp limb_1_1 (fun args s t => by simp [limb_1_1, Cond.after, Cond.holds, Cond.value]), lw_limb hp limb_1_2 (fun args s t => Cond.after_iff.mpr (by
  first | (rw [show limb_1_2 = Cond.eq .result (.int 1) from rfl, Cond.eq_ints (x := 1) (y := 1) rfl rfl]; simp; done) | (simp [limb_1_2, Cond.value, Term.eval]; done)))⟩
