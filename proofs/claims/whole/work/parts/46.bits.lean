def bt (x : Int32) (i : Nat) : Bool := x.toBitVec.getLsbD i
theorem b_ext {x y : Int32} (h : ∀ i, i < 32 → bt x i = bt y i) : x = y := Int32.toBitVec_inj.mp (BitVec.eq_of_getLsbD_eq (fun i hi => h i hi))
theorem b_or (x y : Int32) (i : Nat) : bt (x ||| y) i = (bt x i || bt y i) := by unfold bt; rw [Int32.toBitVec_or, BitVec.getLsbD_or]
theorem b_and (x y : Int32) (i : Nat) : bt (x &&& y) i = (bt x i && bt y i) := by unfold bt; rw [Int32.toBitVec_and, BitVec.getLsbD_and]
theorem b_xor (x y : Int32) (i : Nat) : bt (x ^^^ y) i = (bt x i ^^ bt y i) := by unfold bt; rw [Int32.toBitVec_xor, BitVec.getLsbD_xor]
theorem b_big {x : Int32} {i : Nat} (h : 32 ≤ i) : bt x i = false := BitVec.getLsbD_of_ge _ _ h
theorem b_255 (i : Nat) : bt 255 i = decide (i < 8) := by
  rcases Nat.lt_or_ge i 32 with h | h
  · exact (by decide +kernel : ∀ i, i < 32 → bt 255 i = decide (i < 8)) i h
  · rw [b_big h, decide_eq_false (by omega)]
theorem b_65535 (i : Nat) : bt 65535 i = decide (i < 16) := by
  rcases Nat.lt_or_ge i 32 with h | h
  · exact (by decide +kernel : ∀ i, i < 32 → bt 65535 i = decide (i < 16)) i h
  · rw [b_big h, decide_eq_false (by omega)]
theorem b_m1 : ∀ i, i < 32 → bt (-1) i = true := by decide +kernel
theorem b_0 (i : Nat) : bt 0 i = false := BitVec.getLsbD_zero
theorem s_l : ∀ n, n < 32 → ((nI n &&& 31).toBitVec.smod 32).toNat = n := by decide +kernel
theorem s_u : ∀ n, n < 32 → (((nI n).toUInt32 &&& Int32.toUInt32 31).toBitVec % 32).toNat = n := by decide +kernel
theorem b_shl (n : Nat) (hn : n < 32) (x : Int32) {i : Nat} (hi : i < 32) : bt (x <<< (nI n &&& 31)) i = (decide (n ≤ i) && bt x (i - n)) := by
  unfold bt
  rw [Int32.toBitVec_shiftLeft]
  show (x.toBitVec <<< ((nI n &&& 31).toBitVec.smod 32).toNat).getLsbD i = _
  rw [s_l n hn, BitVec.getLsbD_shiftLeft]
  rcases Nat.lt_or_ge i n with h | h
  · simp [h, Nat.not_le.mpr h]
  · simp [hi, h, Nat.not_lt.mpr h]
theorem b_ushr (n : Nat) (hn : n < 32) (x : Int32) (i : Nat) : bt ((x.toUInt32 >>> ((nI n).toUInt32 &&& Int32.toUInt32 31)).toInt32) i = bt x (n + i) := by
  show (x.toUInt32 >>> ((nI n).toUInt32 &&& Int32.toUInt32 31)).toBitVec.getLsbD i = x.toUInt32.toBitVec.getLsbD (n + i)
  rw [UInt32.toBitVec_shiftRight]
  show (x.toUInt32.toBitVec >>> (((nI n).toUInt32 &&& Int32.toUInt32 31).toBitVec % 32).toNat).getLsbD i = _
  rw [s_u n hn, BitVec.getLsbD_ushiftRight]
theorem b_sshr (n : Nat) (hn : n < 32) (x : Int32) {i : Nat} (hi : i < 32) : bt (x >>> (nI n &&& 31)) i = if n + i < 32 then bt x (n + i) else bt x 31 := by
  unfold bt
  rw [Int32.toBitVec_shiftRight]
  show (x.toBitVec.sshiftRight ((nI n &&& 31).toBitVec.smod 32).toNat).getLsbD i = _
  rw [s_l n hn, BitVec.getLsbD_sshiftRight, BitVec.msb_eq_getLsbD_last]
  simp [hi]
/-! sets of nets as ints -/
def tb (m n : Int) : Prop := zand (zshr m n) 1 ≠ 0
theorem z32_R (x : Int32) : inR x.toInt := by
  have h1 := Int32.toInt_lt x
  have h2 := Int32.le_toInt x
  omega
theorem zand_R (m n : Int) : inR (zand m n) := z32_R _
theorem zor_R (m n : Int) : inR (zor m n) := z32_R _
theorem zxor_R (m n : Int) : inR (zxor m n) := z32_R _
theorem zshl_R (m n : Int) : inR (zshl m n) := z32_R _
theorem zshr_R (m n : Int) : inR (zshr m n) := z32_R _
theorem b_one : ∀ i, i < 32 → bt 1 i = decide (i = 0) := by decide +kernel
theorem b_and1 (x : Int32) : x &&& 1 ≠ 0 ↔ bt x 0 = true := by
  constructor
  · intro h
    cases hb : bt x 0 with
    | true => rfl
    | false =>
      refine absurd (b_ext fun i hi => ?_) h
      rw [b_and, b_0, b_one i hi]
      by_cases h0 : i = 0
      · subst h0; rw [hb]; rfl
      · simp [h0]
  · intro h q
    have := congrArg (fun z => bt z 0) q
    simp only [b_and, b_0, h, b_one 0 (by decide)] at this
    cases this
theorem toInt_ne0 (x : Int32) : x.toInt ≠ 0 ↔ x ≠ 0 := by
  refine ⟨fun h q => h (by rw [q]; rfl), fun h q => h ?_⟩
  exact Int32.toInt_inj.mp (by rw [q]; rfl)
theorem tb_bt {m n : Int} (h0 : 0 ≤ n) (h1 : n < 32) : tb m n ↔ bt (Int32.ofInt m) n.toNat = true := by
  unfold tb zand zshr
  rw [toInt_ne0, i32_of, show Int32.ofInt 1 = 1 from rfl, b_and1, i32_nat h0, b_sshr n.toNat (by omega) _ (by omega), if_pos (by omega)]
  simp
theorem tb_or {a b n : Int} (h0 : 0 ≤ n) (h1 : n < 32) : tb (zor a b) n ↔ tb a n ∨ tb b n := by
  rw [tb_bt h0 h1, tb_bt h0 h1, tb_bt h0 h1]
  unfold zor
  rw [i32_of, b_or, Bool.or_eq_true]
theorem tb_and {a b n : Int} (h0 : 0 ≤ n) (h1 : n < 32) : tb (zand a b) n ↔ tb a n ∧ tb b n := by
  rw [tb_bt h0 h1, tb_bt h0 h1, tb_bt h0 h1]
  unfold zand
  rw [i32_of, b_and, Bool.and_eq_true]
theorem tb_not {a n : Int} (h0 : 0 ≤ n) (h1 : n < 32) : tb (zxor a (-1)) n ↔ ¬ tb a n := by
  rw [tb_bt h0 h1, tb_bt h0 h1]
  unfold zxor
  rw [i32_of, b_xor, show Int32.ofInt (-1) = -1 from rfl, b_m1 _ (by omega)]
  cases bt (Int32.ofInt a) n.toNat <;> simp
theorem tb_xor {a b n : Int} (h0 : 0 ≤ n) (h1 : n < 32) : tb (zxor a b) n ↔ ¬ (tb a n ↔ tb b n) := by
  rw [tb_bt h0 h1, tb_bt h0 h1, tb_bt h0 h1]
  unfold zxor
  rw [i32_of, b_xor]
  cases bt (Int32.ofInt a) n.toNat <;> cases bt (Int32.ofInt b) n.toNat <;> simp
theorem tb_one {k n : Int} (h0 : 0 ≤ n) (h1 : n < 32) (k0 : 0 ≤ k) (k1 : k < 32) : tb (zshl 1 k) n ↔ n = k := by
  rw [tb_bt h0 h1]
  unfold zshl
  rw [i32_of, i32_nat k0, b_shl k.toNat (by omega) _ (by omega), show Int32.ofInt 1 = 1 from rfl, b_one _ (by omega)]
  simp only [Bool.and_eq_true, decide_eq_true_eq]
  omega
theorem tb_zero {n : Int} (h0 : 0 ≤ n) (h1 : n < 32) : ¬ tb 0 n := by
  rw [tb_bt h0 h1, show Int32.ofInt 0 = 0 from rfl, b_0]
  simp
theorem tb_ext {a b : Int} (ha : inR a) (hb : inR b) (h : ∀ n : Int, 0 ≤ n → n < 32 → (tb a n ↔ tb b n)) : a = b := by
  rw [← i32_eq ha hb]
  refine b_ext fun i hi => ?_
  have := h (i : Int) (by omega) (by omega)
  rw [tb_bt (by omega) (by omega), tb_bt (by omega) (by omega)] at this
  simp only [Int.toNat_natCast] at this
  cases h1 : bt (Int32.ofInt a) i <;> cases h2 : bt (Int32.ofInt b) i <;> simp_all
/-- of the first 16 alone -/
def M16 (m : Int) : Prop := inR m ∧ ∀ n : Int, 16 ≤ n → n < 32 → ¬ tb m n
theorem M16.R {m : Int} (h : M16 m) : inR m := h.1
theorem M16_0 : M16 0 := ⟨by decide, fun n h0 h1 => tb_zero (by omega) h1⟩
theorem M16_or {a b : Int} (ha : M16 a) (hb : M16 b) : M16 (zor a b) := ⟨zor_R _ _, fun n h0 h1 q => by
  rw [tb_or (by omega) h1] at q
  rcases q with q | q
  · exact ha.2 n h0 h1 q
  · exact hb.2 n h0 h1 q⟩
theorem M16_andl {a b : Int} (ha : M16 a) : M16 (zand a b) := ⟨zand_R _ _, fun n h0 h1 q => by
  rw [tb_and (by omega) h1] at q
  exact ha.2 n h0 h1 q.1⟩
theorem M16_andr {a b : Int} (hb : M16 b) : M16 (zand a b) := ⟨zand_R _ _, fun n h0 h1 q => by
  rw [tb_and (by omega) h1] at q
  exact hb.2 n h0 h1 q.2⟩
theorem M16_xor {a b : Int} (ha : M16 a) (hb : M16 b) : M16 (zxor a b) := ⟨zxor_R _ _, fun n h0 h1 q => by
  rw [tb_xor (by omega) h1] at q
  exact q ⟨fun z => absurd z (ha.2 n h0 h1), fun z => absurd z (hb.2 n h0 h1)⟩⟩
theorem M16_one {k : Int} (k0 : 0 ≤ k) (k1 : k < 16) : M16 (zshl 1 k) := ⟨zshl_R _ _, fun n h0 h1 q => by
  rw [tb_one (by omega) h1 k0 (by omega)] at q
  omega⟩
theorem M16_ext {a b : Int} (ha : M16 a) (hb : M16 b) (h : ∀ n : Int, 0 ≤ n → n < 16 → (tb a n ↔ tb b n)) : a = b := tb_ext ha.1 hb.1 fun n h0 h1 => by
  by_cases q : n < 16
  · exact h n h0 q
  · exact ⟨fun z => absurd z (ha.2 n (by omega) h1), fun z => absurd z (hb.2 n (by omega) h1)⟩
theorem M16_ne0 {a : Int} (ha : M16 a) : a ≠ 0 ↔ ∃ n : Int, 0 ≤ n ∧ n < 16 ∧ tb a n := by
  constructor
  · intro h
    refine Classical.byContradiction fun q => h (M16_ext ha M16_0 fun n h0 h1 => ?_)
    exact ⟨fun z => absurd ⟨n, h0, h1, z⟩ q, fun z => absurd z (tb_zero h0 (by omega))⟩
  · rintro ⟨n, h0, h1, h2⟩ rfl
    exact tb_zero h0 (by omega) h2
