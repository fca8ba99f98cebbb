/-! ===== longs as rows of bits ===== -/
def tb (x : Int64) (k : Nat) : Bool := x.toBitVec.getLsbD k
theorem tb_ext {x y : Int64} (h : ∀ k, k < 64 → tb x k = tb y k) : x = y := by
  apply Int64.toBitVec_inj.mp
  apply BitVec.eq_of_getLsbD_eq
  intro i hi
  exact h i hi
theorem tb_big (x : Int64) {k : Nat} (h : 64 ≤ k) : tb x k = false := BitVec.getLsbD_of_ge _ _ h
theorem tb_and (x y : Int64) (k : Nat) : tb (x &&& y) k = (tb x k && tb y k) := by
  unfold tb; rw [Int64.toBitVec_and, BitVec.getLsbD_and]
theorem tb_or (x y : Int64) (k : Nat) : tb (x ||| y) k = (tb x k || tb y k) := by
  unfold tb; rw [Int64.toBitVec_or, BitVec.getLsbD_or]
theorem tb_xor (x y : Int64) (k : Nat) : tb (x ^^^ y) k = (tb x k ^^ tb y k) := by
  unfold tb; rw [Int64.toBitVec_xor, BitVec.getLsbD_xor]
theorem tb_m1 : ∀ k, k < 64 → tb (-1) k = true := by decide +kernel
theorem tb_0 (k : Nat) : tb 0 k = false := by
  by_cases h : k < 64
  · revert k; decide +kernel
  · exact tb_big _ (by omega)
theorem tb_1 (k : Nat) : tb 1 k = decide (k = 0) := by
  by_cases h : k < 64
  · revert k; decide +kernel
  · rw [tb_big _ (by omega)]; simp; omega
theorem tb_not (x : Int64) {k : Nat} (h : k < 64) : tb (x ^^^ (-1)) k = !tb x k := by rw [tb_xor, tb_m1 k h]; simp
theorem tb_sh0 : ∀ n, n < 64 → (((zI (n : Nat)).toInt64 &&& 63)).toBitVec.smod 64 = BitVec.ofNat 64 n := by decide +kernel
theorem tb_sh1 : ∀ n, n < 64 → ((zI (n : Nat)).toInt64.toUInt64 &&& Int64.toUInt64 63).toNat % 64 = n := by decide +kernel
theorem tb_shl (x : Int64) {n : Nat} (hn : n < 64) (k : Nat) : tb (x <<< ((zI n).toInt64 &&& 63)) k = (decide (k < 64) && decide (n ≤ k) && tb x (k - n)) := by
  unfold tb
  rw [Int64.toBitVec_shiftLeft, tb_sh0 n hn, BitVec.shiftLeft_eq', BitVec.getLsbD_shiftLeft, BitVec.toNat_ofNat, Nat.mod_eq_of_lt (by omega)]
  by_cases h : n ≤ k
  · have h3 : ¬ k < n := by omega
    simp [h, h3]
  · simp [h]
theorem tb_ushr (x : Int64) {n : Nat} (hn : n < 64) (k : Nat) : tb ((x.toUInt64 >>> ((zI n).toInt64.toUInt64 &&& Int64.toUInt64 63)).toInt64) k = tb x (n + k) := by
  have e : (x.toUInt64 >>> ((zI n).toInt64.toUInt64 &&& Int64.toUInt64 63)).toInt64.toBitVec = x.toBitVec >>> n := by
    apply BitVec.eq_of_toNat_eq
    show (x.toUInt64 >>> _).toNat = _
    rw [UInt64.toNat_shiftRight, tb_sh1 n hn, BitVec.toNat_ushiftRight]
    rfl
  unfold tb
  rw [e, BitVec.getLsbD_ushiftRight]
theorem tb_sshr (x : Int64) {n : Nat} (hn : n < 64) (k : Nat) : tb (x >>> ((zI n).toInt64 &&& 63)) k = (decide (k < 64) && if n + k < 64 then tb x (n + k) else tb x 63) := by
  unfold tb
  rw [Int64.toBitVec_shiftRight, tb_sh0 n hn, BitVec.sshiftRight_eq', BitVec.getLsbD_sshiftRight, BitVec.toNat_ofNat, Nat.mod_eq_of_lt (by omega)]
  by_cases h : k < 64
  · by_cases h2 : n + k < 64
    · simp [h, h2]
    · simp [h, h2, BitVec.msb_eq_getLsbD_last]
  · simp [h]
theorem tb_one_shl {n : Nat} (hn : n < 64) (k : Nat) : tb ((1 : Int64) <<< ((zI n).toInt64 &&& 63)) k = (decide (k < 64) && decide (k = n)) := by
  rw [tb_shl _ hn, tb_1]
  by_cases h : k < 64 <;> by_cases h1 : k = n <;> simp [h, h1] <;> omega
/-- the bit's test as the class makes it -/
theorem tb_test (x : Int64) {n : Nat} (hn : n < 64) : zcmp ((x.toUInt64 >>> ((zI n).toInt64.toUInt64 &&& Int64.toUInt64 63)).toInt64 &&& 1) 0 = 0 ↔ tb x n = false := by
  have h1 : ∀ y : Int64, zcmp y 0 = 0 ↔ y = 0 := by
    intro y
    unfold zcmp
    by_cases a : (0 : Int64) < y
    · rw [if_pos a]
      constructor
      · intro h; omega
      · intro h; subst h; exact absurd a (by decide)
    · rw [if_neg a]
      by_cases b : y = 0 <;> simp [b]
  rw [h1]
  constructor
  · intro h
    have := congrArg (fun y => tb y 0) h
    simp only [tb_and, tb_ushr x hn, tb_1, tb_0] at this
    simpa using this
  · intro h
    apply tb_ext
    intro k hk
    rw [tb_and, tb_ushr x hn, tb_1, tb_0]
    by_cases e : k = 0
    · subst e; simp [h]
    · simp [e]
