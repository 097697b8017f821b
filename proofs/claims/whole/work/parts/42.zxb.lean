/-! ranges -/
abbrev inR (e : Int) : Prop := -2147483648 ≤ e ∧ e < 2147483648
abbrev inR64 (e : Int) : Prop := -9223372036854775808 ≤ e ∧ e < 9223372036854775808
theorem i32_toInt {e : Int} (h : inR e) : (Int32.ofInt e).toInt = e := Int32.toInt_ofInt_of_le (by have := h.1; omega) (by have := h.2; omega)
theorem i64_toInt {e : Int} (h : inR64 e) : (Int64.ofInt e).toInt = e := Int64.toInt_ofInt_of_le (by have := h.1; omega) (by have := h.2; omega)
theorem i32_lt {a b : Int} (ha : inR a) (hb : inR b) : Int32.ofInt a < Int32.ofInt b ↔ a < b := by rw [Int32.lt_iff_toInt_lt, i32_toInt ha, i32_toInt hb]
theorem i32_le {a b : Int} (ha : inR a) (hb : inR b) : Int32.ofInt a ≤ Int32.ofInt b ↔ a ≤ b := by rw [Int32.le_iff_toInt_le, i32_toInt ha, i32_toInt hb]
theorem i32_eq {a b : Int} (ha : inR a) (hb : inR b) : Int32.ofInt a = Int32.ofInt b ↔ a = b := by
  refine ⟨fun h => ?_, fun h => by rw [h]⟩
  have := congrArg Int32.toInt h
  rwa [i32_toInt ha, i32_toInt hb] at this
theorem i64_lt {a b : Int} (ha : inR64 a) (hb : inR64 b) : Int64.ofInt a < Int64.ofInt b ↔ a < b := by rw [Int64.lt_iff_toInt_lt, i64_toInt ha, i64_toInt hb]
theorem i64_eq {a b : Int} (ha : inR64 a) (hb : inR64 b) : Int64.ofInt a = Int64.ofInt b ↔ a = b := by
  refine ⟨fun h => ?_, fun h => by rw [h]⟩
  have := congrArg Int64.toInt h
  rwa [i64_toInt ha, i64_toInt hb] at this
theorem i32_nat {e : Int} (h : 0 ≤ e) : Int32.ofInt e = nI e.toNat := by
  obtain ⟨n, rfl⟩ := Int.eq_ofNat_of_zero_le h
  rfl
def zCnd : ClassFile.Cond → Int → Prop
  | .eq, v => v = 0
  | .ne, v => v ≠ 0
  | .lt, v => v < 0
  | .ge, v => 0 ≤ v
  | .gt, v => 0 < v
  | .le, v => v ≤ 0
def zCnd2 : ClassFile.Cond → Int → Int → Prop
  | .eq, u, v => u = v
  | .ne, u, v => u ≠ v
  | .lt, u, v => u < v
  | .ge, u, v => v ≤ u
  | .gt, u, v => v < u
  | .le, u, v => u ≤ v
theorem zCnd_c {cd : ClassFile.Cond} {v : Int} (h : inR v) : pmCnd cd (Int32.ofInt v) ↔ zCnd cd v := by
  have h0 : inR 0 := by omega
  have e : (0 : Int32) = Int32.ofInt 0 := rfl
  cases cd <;> simp only [pmCnd, zCnd, ne_eq] <;> rw [e]
  · exact i32_eq h h0
  · rw [i32_eq h h0]
  · exact i32_lt h h0
  · exact i32_le h0 h
  · exact i32_lt h0 h
  · exact i32_le h h0
theorem zCnd2_c {cd : ClassFile.Cond} {u v : Int} (hu : inR u) (hv : inR v) : pmCnd2 cd (Int32.ofInt u) (Int32.ofInt v) ↔ zCnd2 cd u v := by
  cases cd <;> simp only [pmCnd2, zCnd2, ne_eq]
  · exact i32_eq hu hv
  · rw [i32_eq hu hv]
  · exact i32_lt hu hv
  · exact i32_le hv hu
  · exact i32_lt hv hu
  · exact i32_le hu hv
section ZXB
variable {mid pc x y : Nat} {k : Int32} {M : pmM} {l : zL} {st r : List zV} {w : zW} {Q : zO → zW → Prop}
theorem zx_if {cd : ClassFile.Cond} {off : Int} {v : Int} (hG : pgG mid = some M) (hc : pmCode M pc = some (.ifCond cd off, x, y, k)) (hr : inR v) (kt : zCnd cd v → ZX mid x l r w Q) (kf : ¬ zCnd cd v → ZX mid (pc + 3) l r w Q) : ZX mid pc l (.inl v :: r) w Q :=
  px_if hG hc (fun h => kt ((zCnd_c hr).mp h)) (fun h => kf (fun q => h ((zCnd_c hr).mpr q)))
theorem zx_cmp {cd : ClassFile.Cond} {off : Int} {u v : Int} (hG : pgG mid = some M) (hc : pmCode M pc = some (.if_icmp cd off, x, y, k)) (hu : inR u) (hv : inR v) (kt : zCnd2 cd u v → ZX mid x l r w Q) (kf : ¬ zCnd2 cd u v → ZX mid (pc + 3) l r w Q) : ZX mid pc l (.inl v :: .inl u :: r) w Q :=
  px_cmp hG hc (fun h => kt ((zCnd2_c hu hv).mp h)) (fun h => kf (fun q => h ((zCnd2_c hu hv).mpr q)))
theorem zx_iald {j : Int} {a n : Nat} (hG : pgG mid = some M) (hc : pmCode M pc = some (.iaload, x, y, k)) (hh : hd0 w.2.2.1 w.2.2.2.1 a = .inl (.int, n)) (ha : a ≤ 55) (hn : n < 2 ^ 31) (h0 : 0 ≤ j) (hj : j < n) (K : ZX mid (pc + 1) l (.inl (w.2.2.2.2.1 a j) :: r) w Q) : ZX mid pc l (.inl j :: .inr (.inr a) :: r) w Q := by
  refine px_iald hG hc (show pmh (zw w) a = .inl (.int, n) from hh) ha (i32_nat h0) (by omega) hn ?_
  have e : ((j.toNat : Nat) : Int) = j := Int.toNat_of_nonneg h0
  have e2 : Value.int (pmi (zw w) a j.toNat) = zc (.inl (w.2.2.2.2.1 a j)) := by
    show Value.int (Int32.ofInt (w.2.2.2.2.1 a ((j.toNat : Nat) : Int))) = _
    rw [e]; rfl
  rw [e2]
  exact K
theorem zx_bald {j : Int} {a n : Nat} (hG : pgG mid = some M) (hc : pmCode M pc = some (.baload, x, y, k)) (hh : hd0 w.2.2.1 w.2.2.2.1 a = .inl (.boolean, n)) (ha : 1 ≤ a ∧ a ≤ 55) (hn : n < 2 ^ 31) (h0 : 0 ≤ j) (hj : j < n) (K : ZX mid (pc + 1) l (.inl (w.2.2.2.2.1 a j) :: r) w Q) : ZX mid pc l (.inl j :: .inr (.inr a) :: r) w Q := by
  refine px_bald hG hc (show pmh (zw w) a = .inl (.boolean, n) from hh) ha (i32_nat h0) (by omega) hn ?_
  have e : ((j.toNat : Nat) : Int) = j := Int.toNat_of_nonneg h0
  have e2 : Value.int (pmi (zw w) a j.toNat) = zc (.inl (w.2.2.2.2.1 a j)) := by
    show Value.int (Int32.ofInt (w.2.2.2.2.1 a ((j.toNat : Nat) : Int))) = _
    rw [e]; rfl
  rw [e2]
  exact K
theorem zw_set {nc ns L S : Nat} {I J : zI} {a : Nat} {j v : Int} (h0 : 0 ≤ j) : zw (nc, ns, L, S, zU I a j v, J) = (55, nc, ns, hd0 L S, R0, pmUI (fun a k => Int32.ofInt (I a ((k : Nat) : Int))) a j.toNat (Int32.ofInt v), fun a k => Int64.ofInt (J a ((k : Nat) : Int))) := by
  have e : ((j.toNat : Nat) : Int) = j := Int.toNat_of_nonneg h0
  have h := zU_c I a j.toNat v
  rw [e] at h
  rw [← h]
  rfl
theorem zx_iast {j v : Int} {a n : Nat} {nc ns L S : Nat} {I J : zI} (hG : pgG mid = some M) (hc : pmCode M pc = some (.iastore, x, y, k)) (hh : hd0 L S a = .inl (.int, n)) (ha : 1 ≤ a ∧ a ≤ 55) (hn : n < 2 ^ 31) (h0 : 0 ≤ j) (hj : j < n) (K : ZX mid (pc + 1) l r (nc, ns, L, S, zU I a j v, J) Q) : ZX mid pc l (.inl v :: .inl j :: .inr (.inr a) :: r) (nc, ns, L, S, I, J) Q := by
  refine px_iast hG hc (show pmh (zw (nc, ns, L, S, I, J)) a = .inl (.int, n) from hh) ha (i32_nat h0) (by omega) hn ?_
  unfold ZX at K
  rw [zw_set h0] at K
  exact K
theorem zx_bast {j v : Int} {a n : Nat} {nc ns L S : Nat} {I J : zI} (hG : pgG mid = some M) (hc : pmCode M pc = some (.bastore, x, y, k)) (hh : hd0 L S a = .inl (.boolean, n)) (ha : 1 ≤ a ∧ a ≤ 55) (hn : n < 2 ^ 31) (h0 : 0 ≤ j) (hj : j < n) (hv : v = 0 ∨ v = 1) (K : ZX mid (pc + 1) l r (nc, ns, L, S, zU I a j v, J) Q) : ZX mid pc l (.inl v :: .inl j :: .inr (.inr a) :: r) (nc, ns, L, S, I, J) Q := by
  refine px_bast hG hc (show pmh (zw (nc, ns, L, S, I, J)) a = .inl (.boolean, n) from hh) ha (i32_nat h0) (by omega) hn ?_
  unfold ZX at K
  rw [zw_set h0] at K
  have e : vp_nar .boolean (Int32.ofInt v) = Int32.ofInt v := by rcases hv with rfl | rfl <;> decide
  rw [e]
  exact K
theorem zx_putb {i : Nat} {v : Int} {a : Nat} {nc ns L S : Nat} {I J : zI} (hG : pgG mid = some M) (hc : pmCode M pc = some (.putfield i, x, y, k)) (hh : hd0 L S a = .inr x) (ha : 1 ≤ a ∧ a ≤ 55) (ht : pgTy x y = .boolean) (hv : v = 0 ∨ v = 1) (K : ZX mid (pc + 3) l r (nc, ns, L, S, zU I a (y : Int) v, J) Q) : ZX mid pc l (.inl v :: .inr (.inr a) :: r) (nc, ns, L, S, I, J) Q := by
  refine PX.step (fun n => pmX_B hG hc (pc1 := pc + 3) (l1 := zcl l) (st1 := r.map zc) (w1 := zw (nc, ns, L, S, zU I a (y : Int) v, J)) rfl ?_) K
  simp only [pmB, List.map_cons, zc]
  rw [show pmh (zw (nc, ns, L, S, I, J)) a = .inr x from hh]
  dsimp only
  rw [if_pos (show x = x ∧ 1 ≤ a ∧ a ≤ pmn (zw (nc, ns, L, S, I, J)) from ⟨rfl, ha⟩), ht]
  simp only [pmWr]
  rw [if_pos (by rcases hv with rfl | rfl <;> decide)]
  have h := zU_c I a y v
  simp only [zw]
  rw [← h]
theorem zx_idiv {a b : Int} (hG : pgG mid = some M) (hc : pmCode M pc = some (.idiv, x, y, k)) (ha : 0 ≤ a) (hb : 0 < b) (ha2 : a < 2147483648) (hb2 : b < 2147483648) (K : ZX mid (pc + 1) l (.inl (a / b) :: r) w Q) : ZX mid pc l (.inl b :: .inl a :: r) w Q := by
  refine PX.step (fun n => pmX_A hG hc (pc1 := pc + 1) (l1 := zcl l) (st1 := zc (.inl (a / b)) :: r.map zc) ?_) K
  simp only [pmA, List.map_cons, zc]
  have hb0 : ¬ Int32.ofInt b = 0 := by
    rw [show (0 : Int32) = Int32.ofInt 0 from rfl, i32_eq (by omega) (by omega)]; omega
  rw [if_neg hb0]
  have e : Int32.ofInt a / Int32.ofInt b = Int32.ofInt (a / b) := by
    refine Int32.toInt_inj.mp ?_
    have q1 : a / b ≤ a := Int.ediv_le_self b ha
    have q2 : 0 ≤ a / b := Int.ediv_nonneg ha (by omega)
    rw [Int32.toInt_div, i32_toInt (by omega), i32_toInt (by omega), i32_toInt (by omega), Int.tdiv_eq_ediv_of_nonneg ha]
    rw [Int.bmod_eq_of_le] <;> omega
  rw [e]
theorem zx_irem {a b : Int} (hG : pgG mid = some M) (hc : pmCode M pc = some (.irem, x, y, k)) (ha : 0 ≤ a) (hb : 0 < b) (ha2 : a < 2147483648) (hb2 : b < 2147483648) (K : ZX mid (pc + 1) l (.inl (a % b) :: r) w Q) : ZX mid pc l (.inl b :: .inl a :: r) w Q := by
  refine PX.step (fun n => pmX_A hG hc (pc1 := pc + 1) (l1 := zcl l) (st1 := zc (.inl (a % b)) :: r.map zc) ?_) K
  simp only [pmA, List.map_cons, zc]
  have hb0 : ¬ Int32.ofInt b = 0 := by
    rw [show (0 : Int32) = Int32.ofInt 0 from rfl, i32_eq (by omega) (by omega)]; omega
  rw [if_neg hb0]
  have e : Int32.ofInt a / Int32.ofInt b = Int32.ofInt (a / b) := by
    refine Int32.toInt_inj.mp ?_
    have q1 : a / b ≤ a := Int.ediv_le_self b ha
    have q2 : 0 ≤ a / b := Int.ediv_nonneg ha (by omega)
    rw [Int32.toInt_div, i32_toInt (by omega), i32_toInt (by omega), i32_toInt (by omega), Int.tdiv_eq_ediv_of_nonneg ha]
    rw [Int.bmod_eq_of_le] <;> omega
  rw [e, ← Int32.ofInt_mul, ← Int32.ofInt_sub, show a - a / b * b = a % b by rw [Int.emod_def, Int.mul_comm]]
theorem zx_i2l {a : Int} (hG : pgG mid = some M) (hc : pmCode M pc = some (.i2l, x, y, k)) (ha : inR a) (K : ZX mid (pc + 1) l (.inr (.inl a) :: r) w Q) : ZX mid pc l (.inl a :: r) w Q := by
  refine PX.step (fun n => pmX_A hG hc (pc1 := pc + 1) (l1 := zcl l) (st1 := zc (.inr (.inl a)) :: r.map zc) ?_) K
  simp only [pmA, List.map_cons, zc]
  have e : (Int32.ofInt a).toInt64 = Int64.ofInt a := by
    refine Int64.toInt_inj.mp ?_
    rw [Int32.toInt_toInt64, i32_toInt ha, i64_toInt (by omega)]
  rw [e]
/-- a comparison of longs and the jump behind it -/
theorem zx_lcif {cd : ClassFile.Cond} {off : Int} {u v : Int} {x2 y2 : Nat} {k2 : Int32} (hG : pgG mid = some M) (hc : pmCode M pc = some (.lcmp, x, y, k)) (hc2 : pmCode M (pc + 1) = some (.ifCond cd off, x2, y2, k2)) (hu : inR64 u) (hv : inR64 v) (kt : zCnd2 cd u v → ZX mid x2 l r w Q) (kf : ¬ zCnd2 cd u v → ZX mid (pc + 4) l r w Q) : ZX mid pc l (.inr (.inl v) :: .inr (.inl u) :: r) w Q := by
  refine PX.step (fun n => pmX_A hG hc (pc1 := pc + 1) (l1 := zcl l) (st1 := .int (lg_cmp (Int64.ofInt u) (Int64.ofInt v)) :: r.map zc) rfl) ?_
  have key : pmCnd cd (lg_cmp (Int64.ofInt u) (Int64.ofInt v)) ↔ zCnd2 cd u v := by
    have h1 := i64_lt hv hu
    have h2 := i64_eq hu hv
    unfold lg_cmp
    by_cases a1 : v < u
    · rw [if_pos (show Int64.ofInt u > Int64.ofInt v from h1.mpr a1)]
      cases cd <;> simp only [pmCnd, zCnd2] <;> first
        | (refine ⟨fun h => absurd h (by decide), fun h => ?_⟩; omega)
        | (refine ⟨fun h => ?_, fun h => by decide⟩; omega)
    · rw [if_neg (fun h => a1 (h1.mp h))]
      by_cases a2 : u = v
      · rw [if_pos (h2.mpr a2)]
        cases cd <;> simp only [pmCnd, zCnd2] <;> first
          | (refine ⟨fun h => absurd h (by decide), fun h => ?_⟩; omega)
          | (refine ⟨fun h => ?_, fun h => by decide⟩; omega)
      · rw [if_neg (fun h => a2 (h2.mp h))]
        cases cd <;> simp only [pmCnd, zCnd2] <;> first
          | (refine ⟨fun h => absurd h (by decide), fun h => ?_⟩; omega)
          | (refine ⟨fun h => ?_, fun h => by decide⟩; omega)
  exact px_if hG hc2 (fun h => kt (key.mp h)) (fun h => kf (fun q => h (key.mpr q)))
theorem zx_sw {v : Int} {d lo hi : Int} {offs : Array Int} (hG : pgG mid = some M) (hc : pmCode M pc = some (.tableswitch d lo hi offs, x, y, k)) (hr : inR v) {t : Nat} (ht : (if v < lo ∨ hi < v then some (((pc : Int) + d).toNat) else (match offs[(v - lo).toNat]? with | some off => some (((pc : Int) + off).toNat) | none => none)) = some t) (K : ZX mid t l r w Q) : ZX mid pc l (.inl v :: r) w Q := by
  refine PX.step (fun n => pmX_A hG hc (pc1 := t) (l1 := zcl l) (st1 := r.map zc) ?_) K
  simp only [pmA, List.map_cons, zc]
  rw [i32_toInt hr]
  split at ht
  · rename_i h
    rw [if_pos h]
    cases ht
    rfl
  · rename_i h
    rw [if_neg h]
    split at ht
    · rename_i off ho
      rw [ho]
      cases ht
      rfl
    · cases ht
theorem zx_iret {v : Int} (hG : pgG mid = some M) (hc : pmCode M pc = some (.ireturn, x, y, k)) (hy : y = 0 ∨ v = 0 ∨ v = 1) (hq : Q (.inl (some (.inl v))) w) : ZX mid pc l [.inl v] w Q :=
  px_iret hG hc (by rcases hy with h | rfl | rfl; exact .inl h; exact .inr (.inl rfl); exact .inr (.inr rfl)) ⟨.inl (some (.inl v)), w, rfl, rfl, hq⟩
theorem zx_vret (hG : pgG mid = some M) (hc : pmCode M pc = some (.return_, x, y, k)) (hq : Q (.inl none) w) : ZX mid pc l [] w Q := px_vret hG hc ⟨.inl none, w, rfl, rfl, hq⟩
theorem zx_aret {a : Nat} (hG : pgG mid = some M) (hc : pmCode M pc = some (.areturn, x, y, k)) (hq : Q (.inl (some (.inr (.inr a)))) w) : ZX mid pc l [.inr (.inr a)] w Q := px_aret hG hc ⟨.inl (some (.inr (.inr a))), w, rfl, rfl, hq⟩
theorem zx_throw (hG : pgG mid = some M) (hc : pmCode M pc = some (.athrow, x, y, k)) (hM : M.2.2.1 = []) (hs : pmSum (st.map zc) ≤ 8) (hq : Q (.inr x) (w.1 + 1, w.2.1 + 6, w.2.2)) : ZX mid pc l st w Q := px_throw hG hc hM hs ⟨.inr x, (w.1 + 1, w.2.1 + 6, w.2.2), rfl, rfl, hq⟩
theorem zx_imax {a b : Int} (hG : pgG mid = some M) (hc : pmCode M pc = some (.swap, x, y, k)) (hs : pmSum (r.map zc) ≤ 8) (ha : inR a) (hb : inR b) (K : ZX mid (pc + 3) l (.inl (max a b) :: r) w Q) : ZX mid pc l (.inl b :: .inl a :: r) w Q := by
  refine px_imax hG hc hs ?_
  have e : (if Int32.ofInt a < Int32.ofInt b then Int32.ofInt b else Int32.ofInt a) = Int32.ofInt (max a b) := by
    by_cases h : a < b
    · rw [if_pos ((i32_lt ha hb).mpr h), show max a b = b by omega]
    · rw [if_neg (fun q => h ((i32_lt ha hb).mp q)), show max a b = a by omega]
  rw [e]
  exact K
theorem zx_imin {a b : Int} (hG : pgG mid = some M) (hc : pmCode M pc = some (.dup_x1, x, y, k)) (hs : pmSum (r.map zc) ≤ 8) (ha : inR a) (hb : inR b) (K : ZX mid (pc + 3) l (.inl (min a b) :: r) w Q) : ZX mid pc l (.inl b :: .inl a :: r) w Q := by
  refine px_imin hG hc hs ?_
  have e : (if Int32.ofInt b < Int32.ofInt a then Int32.ofInt b else Int32.ofInt a) = Int32.ofInt (min a b) := by
    by_cases h : b < a
    · rw [if_pos ((i32_lt hb ha).mpr h), show min a b = b by omega]
    · rw [if_neg (fun q => h ((i32_lt hb ha).mp q)), show min a b = a by omega]
  rw [e]
  exact K
end ZXB
