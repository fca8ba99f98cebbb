/-! ===== bit counts ===== -/
def un (x : Int64) : Nat := x.toBitVec.toNat
theorem un_lt (x : Int64) : un x < 18446744073709551616 := x.toBitVec.isLt
theorem un_and (x y : Int64) : un (x &&& y) = un x &&& un y := by unfold un; rw [Int64.toBitVec_and, BitVec.toNat_and]
theorem un_add {x y : Int64} (h : un x + un y < 18446744073709551616) : un (x + y) = un x + un y := by
  unfold un at *
  rw [Int64.toBitVec_add, BitVec.toNat_add]
  exact Nat.mod_eq_of_lt h
theorem un_sub {x y : Int64} (h : un y ≤ un x) : un (x - y) = un x - un y := by
  have hx := un_lt x
  unfold un at *
  rw [Int64.toBitVec_sub, BitVec.toNat_sub]
  omega
theorem un_shr (x : Int64) {n : Nat} (hn : n < 64) : un (shrI x n) = un x / 2 ^ n := by
  have e : (x.toUInt64 >>> ((zI n).toInt64.toUInt64 &&& Int64.toUInt64 63)).toInt64.toBitVec = x.toBitVec >>> n := by
    apply BitVec.eq_of_toNat_eq
    show (x.toUInt64 >>> _).toNat = _
    rw [UInt64.toNat_shiftRight, tb_sh1 n hn, BitVec.toNat_ushiftRight]
    rfl
  unfold un shrI
  rw [e, BitVec.toNat_ushiftRight, Nat.shiftRight_eq_div_pow]
theorem un_tb (x : Int64) (k : Nat) : (un x).testBit k = tb x k := rfl
/-! byte by byte -/
theorem and_by (a b c d : Nat) (hb : b < 256) (hd : d < 256) : (a * 256 + b) &&& (c * 256 + d) = (a &&& c) * 256 + (b &&& d) := by
  have h1 : ((a * 256 + b) &&& (c * 256 + d)) / 2 ^ 8 = (a * 256 + b) / 2 ^ 8 &&& (c * 256 + d) / 2 ^ 8 := Nat.and_div_two_pow
  have h2 : ((a * 256 + b) &&& (c * 256 + d)) % 2 ^ 8 = (a * 256 + b) % 2 ^ 8 &&& (c * 256 + d) % 2 ^ 8 := Nat.and_mod_two_pow
  rw [show (2 : Nat) ^ 8 = 256 from rfl] at h1 h2
  rw [show (a * 256 + b) / 256 = a by omega, show (c * 256 + d) / 256 = c by omega] at h1
  rw [show (a * 256 + b) % 256 = b by omega, show (c * 256 + d) % 256 = d by omega] at h2
  have h3 := Nat.div_add_mod ((a * 256 + b) &&& (c * 256 + d)) 256
  rw [h1, h2] at h3
  omega
def bm (f : Nat → Nat) : Nat → Nat → Nat
  | 0, _ => 0
  | k + 1, n => bm f k (n / 256) * 256 + f (n % 256)
def mk8 (m : Nat) : Nat → Nat
  | 0 => 0
  | k + 1 => mk8 m k * 256 + m
def bf1 (b : Nat) : Nat := b - (b / 2 &&& 85)
def bf2 (b : Nat) : Nat := (b &&& 51) + (b / 4 &&& 51)
def bf3 (b : Nat) : Nat := (b + b / 16) &&& 15
theorem b1_ok : ∀ c, c < 2 → ∀ b, b < 256 → (c * 128 + b / 2) &&& 85 = b / 2 &&& 85 ∧ b / 2 &&& 85 ≤ b := by decide +kernel
theorem b2_ok : ∀ c, c < 4 → ∀ b, b < 256 → (c * 64 + b / 4) &&& 51 = b / 4 &&& 51 := by decide +kernel
theorem b2_lt : ∀ b, b < 256 → bf1 b < 256 ∧ bf2 (bf1 b) ≤ 68 ∧ bf2 (bf1 b) % 16 ≤ 4 ∧ (b &&& 51) < 256 ∧ (b / 4 &&& 51) < 256 ∧ bf2 b < 256 := by decide +kernel
theorem b3_ok : ∀ c, c < 5 → ∀ b, b < 69 → (c * 16 + (b + b / 16)) &&& 15 = bf3 b := by decide +kernel
theorem pow_s (k : Nat) : 256 ^ (k + 1) = 256 ^ k * 256 := Nat.pow_succ 256 k
theorem L1b : ∀ (k n : Nat), n < 256 ^ k → (n / 2 &&& mk8 85 k) ≤ n ∧ n - (n / 2 &&& mk8 85 k) = bm bf1 k n
  | 0, n, h => by
    have : n = 0 := by simpa using h
    subst this
    decide
  | k + 1, n, h => by
    rw [pow_s] at h
    have ih := L1b k (n / 256) (by omega)
    have hb : n % 256 < 256 := Nat.mod_lt _ (by omega)
    have e1 : n / 2 = n / 256 / 2 * 256 + (n / 256 % 2 * 128 + n % 256 / 2) := by omega
    have h1 := b1_ok (n / 256 % 2) (by omega) (n % 256) hb
    have e2 : n / 2 &&& mk8 85 (k + 1) = (n / 256 / 2 &&& mk8 85 k) * 256 + (n % 256 / 2 &&& 85) := by
      rw [e1]
      show _ &&& (mk8 85 k * 256 + 85) = _
      rw [and_by _ _ _ _ (by omega) (by omega), h1.1]
    rw [e2]
    show _ ∧ _ = bm bf1 k (n / 256) * 256 + (n % 256 - (n % 256 / 2 &&& 85))
    have := h1.2
    omega
theorem L2b : ∀ (k n : Nat), (n &&& mk8 51 k) + (n / 4 &&& mk8 51 k) = bm bf2 k n
  | 0, n => by
    show (n &&& 0) + (n / 4 &&& 0) = 0
    rw [Nat.and_zero, Nat.and_zero]
  | k + 1, n => by
    have ih := L2b k (n / 256)
    have hb : n % 256 < 256 := Nat.mod_lt _ (by omega)
    have e1 : n / 4 = n / 256 / 4 * 256 + (n / 256 % 4 * 64 + n % 256 / 4) := by omega
    have e0 : n = n / 256 * 256 + n % 256 := by omega
    have h1 := b2_ok (n / 256 % 4) (by omega) (n % 256) hb
    have e2 : n / 4 &&& mk8 51 (k + 1) = (n / 256 / 4 &&& mk8 51 k) * 256 + (n % 256 / 4 &&& 51) := by
      rw [e1]
      show _ &&& (mk8 51 k * 256 + 51) = _
      rw [and_by _ _ _ _ (by omega) (by omega), h1]
    have e3 : n &&& mk8 51 (k + 1) = (n / 256 &&& mk8 51 k) * 256 + (n % 256 &&& 51) := by
      have : n &&& mk8 51 (k + 1) = (n / 256 * 256 + n % 256) &&& (mk8 51 k * 256 + 51) := by rw [← e0]; rfl
      rw [this, and_by _ _ _ _ hb (by omega)]
    rw [e2, e3]
    show _ = bm bf2 k (n / 256) * 256 + ((n % 256 &&& 51) + (n % 256 / 4 &&& 51))
    omega
theorem bm_lt {f : Nat → Nat} (hf : ∀ b, b < 256 → f b < 256) : ∀ (k n : Nat), bm f k n < 256 ^ k
  | 0, n => by show 0 < 1; omega
  | k + 1, n => by
    have := bm_lt hf k (n / 256)
    have := hf (n % 256) (by omega)
    rw [pow_s]
    show bm f k (n / 256) * 256 + f (n % 256) < _
    omega
theorem bm_comp {f g : Nat → Nat} (hf : ∀ b, b < 256 → f b < 256) : ∀ (k n : Nat), bm g k (bm f k n) = bm (fun b => g (f b)) k n
  | 0, n => rfl
  | k + 1, n => by
    have h1 := hf (n % 256) (by omega)
    show bm g k ((bm f k (n / 256) * 256 + f (n % 256)) / 256) * 256 + g ((bm f k (n / 256) * 256 + f (n % 256)) % 256) = bm (fun b => g (f b)) k (n / 256) * 256 + g (f (n % 256))
    rw [show (bm f k (n / 256) * 256 + f (n % 256)) / 256 = bm f k (n / 256) by omega, show (bm f k (n / 256) * 256 + f (n % 256)) % 256 = f (n % 256) by omega, bm_comp hf k]
theorem L3b {h : Nat → Nat} (hh : ∀ b, b < 256 → h b ≤ 68 ∧ h b % 16 ≤ 4) : ∀ (k n : Nat), (bm h k n + bm h k n / 16) &&& mk8 15 k = bm (fun b => bf3 (h b)) k n ∧ bm h k n % 16 ≤ 4
  | 0, n => by
    show (0 + 0 / 16) &&& 0 = 0 ∧ _
    exact ⟨rfl, by show 0 % 16 ≤ 4; omega⟩
  | k + 1, n => by
    have ih := L3b hh k (n / 256)
    have h1 := hh (n % 256) (by omega)
    have e0 : bm h (k + 1) n = bm h k (n / 256) * 256 + h (n % 256) := rfl
    have e1 : bm h (k + 1) n + bm h (k + 1) n / 16 = (bm h k (n / 256) + bm h k (n / 256) / 16) * 256 + (bm h k (n / 256) % 16 * 16 + (h (n % 256) + h (n % 256) / 16)) := by omega
    have h3 := b3_ok (bm h k (n / 256) % 16) (by omega) (h (n % 256)) (by omega)
    refine ⟨?_, by omega⟩
    rw [e1]
    show _ &&& (mk8 15 k * 256 + 15) = bm (fun b => bf3 (h b)) k (n / 256) * 256 + bf3 (h (n % 256))
    rw [and_by _ _ _ _ (by omega) (by omega), ih.1, h3]
def bit (n k : Nat) : Nat := if n.testBit k then 1 else 0
theorem pop8 : ∀ b, b < 256 → bf3 (bf2 (bf1 b)) = bit b 0 + bit b 1 + bit b 2 + bit b 3 + bit b 4 + bit b 5 + bit b 6 + bit b 7 ∧ bf3 (bf2 (bf1 b)) ≤ 8 := by decide +kernel
theorem bit_by (n i : Nat) {j : Nat} (hj : j < 8) : bit (n / 256 ^ i % 256) j = bit n (8 * i + j) := by
  unfold bit
  rw [show (256 : Nat) ^ i = 2 ^ (8 * i) by rw [Nat.pow_mul], show (256 : Nat) = 2 ^ 8 from rfl, Nat.testBit_mod_two_pow, Nat.testBit_div_two_pow, Nat.add_comm j]
  simp [hj]
/-- the sum of the bits -/
def pcn (x : Int64) : Int := sm (fun k => if tb x k = true then 1 else 0) 64
theorem dvm {x q r m : Nat} (h : x = q * m + r) (hr : r < m) : x / m = q := by
  subst h
  rw [Nat.mul_comm, Nat.mul_add_div (by omega), Nat.div_eq_of_lt hr, Nat.add_zero]
theorem dmm {x q s : Nat} (h : x = q * 256 + s) (hs : s ≤ 64) : x % 128 = s := by omega
theorem fold8 {p0 p1 p2 p3 p4 p5 p6 p7 a b c d : Nat} (h0 : p0 ≤ 8) (h1 : p1 ≤ 8) (h2 : p2 ≤ 8) (h3 : p3 ≤ 8) (h4 : p4 ≤ 8) (h5 : p5 ≤ 8) (h6 : p6 ≤ 8) (h7 : p7 ≤ 8)
    (ha : a = (((((((p7) * 256 + (p6)) * 256 + (p5)) * 256 + (p4)) * 256 + (p3)) * 256 + (p2)) * 256 + (p1)) * 256 + (p0)) (hb : b = a + a / 256) (hc : c = b + b / 65536) (hd : d = c + c / 4294967296) : b < 18446744073709551616 ∧ c < 18446744073709551616 ∧ d < 18446744073709551616 ∧ d % 128 = p0 + p1 + p2 + p3 + p4 + p5 + p6 + p7 := by
  have e1 : a / 256 = ((((((p7) * 256 + (p6)) * 256 + (p5)) * 256 + (p4)) * 256 + (p3)) * 256 + (p2)) * 256 + (p1) := dvm ha (by omega)
  have b1 : b = ((((((p7) * 256 + (p6 + p7)) * 256 + (p5 + p6)) * 256 + (p4 + p5)) * 256 + (p3 + p4)) * 256 + (p2 + p3)) * 65536 + ((p1 + p2) * 256 + (p0 + p1)) := by rw [hb, e1, ha]; clear hb hc hd e1 ha; omega
  have e2 : b / 65536 = (((((p7) * 256 + (p6 + p7)) * 256 + (p5 + p6)) * 256 + (p4 + p5)) * 256 + (p3 + p4)) * 256 + (p2 + p3) := dvm b1 (by clear hb hc hd e1 ha b1; omega)
  have c1 : c = ((((p7) * 256 + (p6 + p7)) * 256 + (p5 + p6 + p7)) * 256 + (p4 + p5 + p6 + p7)) * 4294967296 + ((((p3 + p4 + p5 + p6) * 256 + (p2 + p3 + p4 + p5)) * 256 + (p1 + p2 + p3 + p4)) * 256 + (p0 + p1 + p2 + p3)) := by rw [hc, e2, b1]; clear hb hc hd e1 ha e2 b1; omega
  have e3 : c / 4294967296 = (((p7) * 256 + (p6 + p7)) * 256 + (p5 + p6 + p7)) * 256 + (p4 + p5 + p6 + p7) := dvm c1 (by clear hb hc hd e1 ha b1 e2 c1; omega)
  have d1 : d = (((((((p7) * 256 + (p6 + p7)) * 256 + (p5 + p6 + p7)) * 256 + (p4 + p5 + p6 + p7)) * 256 + (p3 + p4 + p5 + p6 + p7)) * 256 + (p2 + p3 + p4 + p5 + p6 + p7)) * 256 + (p1 + p2 + p3 + p4 + p5 + p6 + p7)) * 256 + (p0 + p1 + p2 + p3 + p4 + p5 + p6 + p7) := by rw [hd, e3, c1]; clear hb hc hd e1 ha e2 b1 c1 e3; omega
  have bb : ∀ i, i ≤ 64 → i < 128 := fun i hi => by omega
  refine ⟨?_, ?_, ?_, ?_⟩
  · rw [b1]; clear hb hc hd e1 ha e2 b1 c1 e3 d1; omega
  · rw [c1]; clear hb hc hd e1 ha e2 b1 c1 e3 d1; omega
  · rw [d1]; clear hb hc hd e1 ha e2 b1 c1 e3 d1; omega
  · exact dmm d1 (by clear hb hc hd e1 ha e2 b1 c1 e3 d1; omega)
theorem pcn_eq (x : Int64) : pcn x = sm (fun i => ((bf3 (bf2 (bf1 (un x / 256 ^ i % 256))) : Nat) : Int)) 8 := by
  have e : ∀ i, i < 8 → ((bf3 (bf2 (bf1 (un x / 256 ^ i % 256))) : Nat) : Int) = sm (fun j => if tb x (8 * i + j) = true then 1 else 0) 8 := by
    intro i _
    rw [(pop8 (un x / 256 ^ i % 256) (by omega)).1, bit_by _ _ (by omega), bit_by _ _ (by omega), bit_by _ _ (by omega), bit_by _ _ (by omega), bit_by _ _ (by omega), bit_by _ _ (by omega), bit_by _ _ (by omega), bit_by _ _ (by omega)]
    have hb : ∀ k, ((bit (un x) k : Nat) : Int) = if tb x k = true then 1 else 0 := fun k => by
      unfold bit
      rw [un_tb]
      cases tb x k <;> rfl
    simp only [Int.natCast_add, hb, sm, Int.zero_add, Nat.add_zero]
  rw [sm_cong e]
  unfold pcn
  simp only [sm, Int.zero_add, Nat.mul_zero, Nat.zero_add]
  simp only [Nat.reduceMul, Nat.reduceAdd]
  omega
def bc1 (x : Int64) : Int64 := x - (shrI x 1 &&& 6148914691236517205)
def bc2 (x : Int64) : Int64 := (x &&& 3689348814741910323) + (shrI x 2 &&& 3689348814741910323)
def bc3 (x : Int64) : Int64 := (x + shrI x 4) &&& 1085102592571150095
def bc4 (x : Int64) : Int64 := x + shrI x 8
def bc5 (x : Int64) : Int64 := x + shrI x 16
def bc6 (x : Int64) : Int64 := x + shrI x 32
theorem un_c : un 6148914691236517205 = mk8 85 8 ∧ un 3689348814741910323 = mk8 51 8 ∧ un 1085102592571150095 = mk8 15 8 := by decide +kernel
theorem un_c1 (x : Int64) : un (bc1 x) = bm bf1 8 (un x) := by
  have h := L1b 8 (un x) (un_lt x)
  have e : un (shrI x 1 &&& 6148914691236517205) = un x / 2 &&& mk8 85 8 := by rw [un_and, un_c.1, show (1 : Int) = ((1 : Nat) : Int) from rfl, un_shr x (by decide)]
  unfold bc1
  rw [un_sub (by rw [e]; exact h.1), e]
  exact h.2
theorem un_c2 (x : Int64) : un (bc2 x) = bm bf2 8 (un x) := by
  have h := L2b 8 (un x)
  have e1 : un (x &&& 3689348814741910323) = un x &&& mk8 51 8 := by rw [un_and, un_c.2.1]
  have e2 : un (shrI x 2 &&& 3689348814741910323) = un x / 4 &&& mk8 51 8 := by rw [un_and, un_c.2.1, show (2 : Int) = ((2 : Nat) : Int) from rfl, un_shr x (by decide)]
  have hlt := bm_lt (f := bf2) (fun b hb => (b2_lt b hb).2.2.2.2.2) 8 (un x)
  unfold bc2
  rw [un_add (by rw [e1, e2, h]; exact hlt), e1, e2, h]
theorem bc_eq (x : Int64) : ((un (bc6 (bc5 (bc4 (bc3 (bc2 (bc1 x)))))) % 128 : Nat) : Int) = pcn x := by
  have h12 : un (bc2 (bc1 x)) = bm (fun b => bf2 (bf1 b)) 8 (un x) := by rw [un_c2, un_c1, bm_comp (fun b hb => (b2_lt b hb).1)]
  have h3 := (L3b (h := fun b => bf2 (bf1 b)) (fun b hb => ⟨(b2_lt b hb).2.1, (b2_lt b hb).2.2.1⟩) 8 (un x)).1
  have hlt : bm (fun b => bf2 (bf1 b)) 8 (un x) ≤ 4919131752989213764 := by
    have hb : ∀ b, b < 256 → bf2 (bf1 b) ≤ 68 := fun b hb => (b2_lt b hb).2.1
    have q : ∀ (k n : Nat), bm (fun b => bf2 (bf1 b)) k n ≤ mk8 68 k := by
      intro k
      induction k with
      | zero => intro n; exact Nat.le_refl 0
      | succ k ih =>
        intro n
        have := ih (n / 256)
        have := hb (n % 256) (by omega)
        show bm (fun b => bf2 (bf1 b)) k (n / 256) * 256 + bf2 (bf1 (n % 256)) ≤ mk8 68 k * 256 + 68
        omega
    exact Nat.le_trans (q 8 (un x)) (by decide)
  have e4 : un (shrI (bc2 (bc1 x)) 4) = un (bc2 (bc1 x)) / 16 := by rw [show (4 : Int) = ((4 : Nat) : Int) from rfl, un_shr _ (by decide)]
  have h123 : un (bc3 (bc2 (bc1 x))) = bm (fun b => bf3 (bf2 (bf1 b))) 8 (un x) := by
    unfold bc3
    rw [un_and, un_c.2.2, un_add (by rw [e4, h12]; omega), e4, h12]
    exact h3
  have hp : ∀ i, bf3 (bf2 (bf1 (un x / 256 ^ i % 256))) ≤ 8 := fun i => (pop8 _ (by omega)).2
  have ha : un (bc3 (bc2 (bc1 x))) = ((((((((bf3 (bf2 (bf1 (un x / 256 ^ 7 % 256))))) * 256 + (bf3 (bf2 (bf1 (un x / 256 ^ 6 % 256))))) * 256 + (bf3 (bf2 (bf1 (un x / 256 ^ 5 % 256))))) * 256 + (bf3 (bf2 (bf1 (un x / 256 ^ 4 % 256))))) * 256 + (bf3 (bf2 (bf1 (un x / 256 ^ 3 % 256))))) * 256 + (bf3 (bf2 (bf1 (un x / 256 ^ 2 % 256))))) * 256 + (bf3 (bf2 (bf1 (un x / 256 ^ 1 % 256))))) * 256 + (bf3 (bf2 (bf1 (un x / 256 ^ 0 % 256)))) := by
    rw [h123]
    simp only [bm, Nat.zero_mul, Nat.zero_add, Nat.div_div_eq_div_mul, Nat.reduceMul, Nat.reducePow, Nat.div_one]
  have hf := fold8 (hp 0) (hp 1) (hp 2) (hp 3) (hp 4) (hp 5) (hp 6) (hp 7) ha rfl rfl rfl
  have e8 : un (shrI (bc3 (bc2 (bc1 x))) 8) = un (bc3 (bc2 (bc1 x))) / 256 := by rw [show (8 : Int) = ((8 : Nat) : Int) from rfl, un_shr _ (by decide)]
  have h4 : un (bc4 (bc3 (bc2 (bc1 x)))) = un (bc3 (bc2 (bc1 x))) + un (bc3 (bc2 (bc1 x))) / 256 := by unfold bc4; rw [un_add (by rw [e8]; exact hf.1), e8]
  have e16 : un (shrI (bc4 (bc3 (bc2 (bc1 x)))) 16) = un (bc4 (bc3 (bc2 (bc1 x)))) / 65536 := by rw [show (16 : Int) = ((16 : Nat) : Int) from rfl, un_shr _ (by decide)]
  have h5 : un (bc5 (bc4 (bc3 (bc2 (bc1 x))))) = un (bc4 (bc3 (bc2 (bc1 x)))) + un (bc4 (bc3 (bc2 (bc1 x)))) / 65536 := by unfold bc5; rw [un_add (by rw [e16, h4]; exact hf.2.1), e16]
  have e32 : un (shrI (bc5 (bc4 (bc3 (bc2 (bc1 x))))) 32) = un (bc5 (bc4 (bc3 (bc2 (bc1 x))))) / 4294967296 := by rw [show (32 : Int) = ((32 : Nat) : Int) from rfl, un_shr _ (by decide)]
  have h6 : un (bc6 (bc5 (bc4 (bc3 (bc2 (bc1 x)))))) = un (bc5 (bc4 (bc3 (bc2 (bc1 x))))) + un (bc5 (bc4 (bc3 (bc2 (bc1 x))))) / 4294967296 := by unfold bc6; rw [un_add (by rw [e32, h5, h4]; exact hf.2.2.1), e32]
  rw [h6, h5, h4, hf.2.2.2, pcn_eq]
  simp only [sm, Int.zero_add, Int.natCast_add]
theorem l2i_un (x : Int64) : x.toInt32 = zI ((un x : Nat) : Int) := by
  apply Int32.toBitVec_inj.mp
  show x.toBitVec.signExtend 32 = BitVec.ofInt 32 ((x.toBitVec.toNat : Nat) : Int)
  apply BitVec.eq_of_toNat_eq
  rw [BitVec.ofInt_natCast, BitVec.toNat_ofNat, BitVec.signExtend_eq_setWidth_of_le _ (by decide), BitVec.toNat_setWidth]
theorem and127 (n : Nat) : zI (n : Int) &&& zI 127 = zI ((n % 128 : Nat) : Int) := by
  apply Int32.toBitVec_inj.mp
  rw [Int32.toBitVec_and]
  show BitVec.ofInt 32 (n : Int) &&& BitVec.ofInt 32 127 = BitVec.ofInt 32 ((n % 128 : Nat) : Int)
  apply BitVec.eq_of_toNat_eq
  rw [BitVec.toNat_and, BitVec.ofInt_natCast, BitVec.ofInt_natCast, BitVec.toNat_ofNat, BitVec.toNat_ofNat]
  show (n % 2 ^ 32) &&& (2 ^ 7 - 1) = _
  rw [Nat.and_two_pow_sub_one_eq_mod]
  omega
