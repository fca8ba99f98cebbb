/-! ===== the picture, as both sides see it: 0 wide, 1 high, 2 HARD, 3 SLOPE, 4 PULL, 5 tone of the figure, 6 of the ground, 7 NEAR, from 8 on shades, from 44 on marks ===== -/
abbrev Sg : Type := Nat → Int
def scC (Ω : Mem) : Sg := fun i => if i = 0 then gt Ω 13 0 else if i = 1 then gt Ω 13 1 else if i < 8 then gt Ω 14 (i - 2) else if i < 44 then gt Ω 15 (i - 8) else if i < 80 then gt Ω 16 (i - 44) else 0
def scM (Ω : Mem) : Sg := fun i => if i < 80 then gt Ω 50 i else 0
def sup (σ : Sg) (i : Nat) (v : Int) : Sg := fun j => if j = i then v else σ j
def scok (σ : Sg) : Prop := (2 ≤ σ 0 ∧ σ 0 ≤ 6) ∧ (2 ≤ σ 1 ∧ σ 1 ≤ 6) ∧ (1 ≤ σ 2 ∧ σ 2 ≤ 50) ∧ (0 ≤ σ 3 ∧ σ 3 ≤ 9) ∧ (0 ≤ σ 4 ∧ σ 4 ≤ 9) ∧ (0 ≤ σ 5 ∧ σ 5 ≤ 9) ∧ (0 ≤ σ 6 ∧ σ 6 ≤ 9) ∧ (σ 7 = 4 ∨ σ 7 = 8) ∧ (∀ k, k < 36 → 0 ≤ σ (8 + k) ∧ σ (8 + k) ≤ 9) ∧ (∀ k, k < 36 → 0 ≤ σ (44 + k) ∧ σ (44 + k) ≤ 2)
theorem scC_sh (Ω : Mem) {k : Nat} (h : k < 36) : scC Ω (8 + k) = gt Ω 15 k := by
  unfold scC
  rw [if_neg (by omega), if_neg (by omega), if_neg (by omega), if_pos (by omega), Nat.add_sub_cancel_left]
theorem scC_mk (Ω : Mem) {k : Nat} (h : k < 36) : scC Ω (44 + k) = gt Ω 16 k := by
  unfold scC
  rw [if_neg (by omega), if_neg (by omega), if_neg (by omega), if_neg (by omega), if_pos (by omega), Nat.add_sub_cancel_left]
theorem scC_se (Ω : Mem) {k : Nat} (h : k < 6) : scC Ω (2 + k) = gt Ω 14 k := by
  unfold scC
  rw [if_neg (by omega), if_neg (by omega), if_pos (by omega), Nat.add_sub_cancel_left]
theorem scC_0 (Ω : Mem) : scC Ω 0 = gt Ω 13 0 := rfl
theorem scC_1 (Ω : Mem) : scC Ω 1 = gt Ω 13 1 := rfl
theorem scC_2 (Ω : Mem) : scC Ω 2 = gt Ω 14 0 := rfl
theorem scC_3 (Ω : Mem) : scC Ω 3 = gt Ω 14 1 := rfl
theorem scC_4 (Ω : Mem) : scC Ω 4 = gt Ω 14 2 := rfl
theorem scC_5 (Ω : Mem) : scC Ω 5 = gt Ω 14 3 := rfl
theorem scC_6 (Ω : Mem) : scC Ω 6 = gt Ω 14 4 := rfl
theorem scC_7 (Ω : Mem) : scC Ω 7 = gt Ω 14 5 := rfl
theorem scM_at (Ω : Mem) {i : Nat} (h : i < 80) : scM Ω i = gt Ω 50 i := if_pos h
/-- only cells 13 to 16 matter -/
theorem scC_cong {Ω Ω1 : Mem} (h3 : Ω1 13 = Ω 13) (h4 : Ω1 14 = Ω 14) (h5 : Ω1 15 = Ω 15) (h6 : Ω1 16 = Ω 16) : scC Ω1 = scC Ω := by
  funext i
  unfold scC gt
  rw [h3, h4, h5, h6]
theorem scM_cong {Ω Ω1 : Mem} (h : Ω1 50 = Ω 50) : scM Ω1 = scM Ω := by
  funext i
  unfold scM gt
  rw [h]
theorem scC_upsh (Ω : Mem) {k : Nat} {v : Int} (hk : k < 36) (hv : zb v) : scC (ups Ω 15 k v) = sup (scC Ω) (8 + k) v := by
  funext i
  unfold scC sup
  rw [gt_n Ω k 0 v (by decide : 13 ≠ 15), gt_n Ω k 1 v (by decide : 13 ≠ 15), gt_n Ω k (i - 2) v (by decide : 14 ≠ 15), gt_n Ω k (i - 44) v (by decide : 16 ≠ 15), gt_if Ω 15 k hv]
  by_cases h : i = 8 + k
  · subst h
    rw [if_pos rfl, if_neg (by omega), if_neg (by omega), if_neg (by omega), if_pos (by omega), if_pos ⟨rfl, by omega⟩]
  · rw [if_neg h]
    by_cases h0 : i = 0 <;> by_cases h1 : i = 1 <;> by_cases h2 : i < 8 <;> by_cases h3 : i < 44 <;> simp [h0, h1, h2, h3]
    intro h4
    omega
theorem scC_upmk (Ω : Mem) {k : Nat} {v : Int} (hk : k < 36) (hv : zb v) : scC (ups Ω 16 k v) = sup (scC Ω) (44 + k) v := by
  funext i
  unfold scC sup
  rw [gt_n Ω k 0 v (by decide : 13 ≠ 16), gt_n Ω k 1 v (by decide : 13 ≠ 16), gt_n Ω k (i - 2) v (by decide : 14 ≠ 16), gt_n Ω k (i - 8) v (by decide : 15 ≠ 16), gt_if Ω 16 k hv]
  by_cases h : i = 44 + k
  · subst h
    rw [if_pos rfl, if_neg (by omega), if_neg (by omega), if_neg (by omega), if_neg (by omega), if_pos (by omega), if_pos ⟨rfl, by omega⟩]
  · rw [if_neg h]
    by_cases h0 : i = 0 <;> by_cases h1 : i = 1 <;> by_cases h2 : i < 8 <;> by_cases h3 : i < 44 <;> by_cases h5 : i < 80 <;> simp [h0, h1, h2, h3, h5]
    intro h4
    omega
theorem scC_upse (Ω : Mem) {k : Nat} {v : Int} (hk : k < 6) (hv : zb v) : scC (ups Ω 14 k v) = sup (scC Ω) (2 + k) v := by
  funext i
  unfold scC sup
  rw [gt_n Ω k 0 v (by decide : 13 ≠ 14), gt_n Ω k 1 v (by decide : 13 ≠ 14), gt_n Ω k (i - 8) v (by decide : 15 ≠ 14), gt_n Ω k (i - 44) v (by decide : 16 ≠ 14), gt_if Ω 14 k hv]
  by_cases h : i = 2 + k
  · subst h
    rw [if_pos rfl, if_neg (by omega), if_neg (by omega), if_pos (by omega), if_pos ⟨rfl, by omega⟩]
  · rw [if_neg h]
    by_cases h0 : i = 0 <;> by_cases h1 : i = 1 <;> by_cases h2 : i < 8 <;> simp [h0, h1, h2]
    intro h4
    omega
theorem scM_up (Ω : Mem) {k : Nat} {v : Int} (hk : k < 80) (hv : zb v) : scM (ups Ω 50 k v) = sup (scM Ω) k v := by
  funext i
  unfold scM sup
  rw [gt_if Ω 50 k hv]
  by_cases h : i = k
  · subst h; simp [hk]
  · simp [h]
/-! what the picture says -/
def sD (σ : Sg) (x y : Int) : Prop := 0 ≤ x ∧ x < σ 0 ∧ 0 ≤ y ∧ y < σ 1
def sN (σ : Sg) (x y : Int) : Int := σ 0 * y + x
def lkX (d : Nat) : Int := zTv 2 d
def lkY (d : Nat) : Int := zTv 3 d
def sLk (σ : Sg) (x y : Int) (d : Nat) : Int := if 2 ≤ d ∧ σ 7 ≠ 8 then -1 else if 0 ≤ x + lkX d ∧ x + lkX d < σ 0 ∧ 0 ≤ y + lkY d ∧ y + lkY d < σ 1 then σ 0 * (y + lkY d) + (x + lkX d) else -1
def sWt (σ : Sg) (a b d : Nat) : Int := if d < 2 then max 1 (σ 2 - σ 3 * zabs (σ (8 + a) - σ (8 + b))) else max 1 ((max 1 (σ 2 - σ 3 * zabs (σ (8 + a) - σ (8 + b)))) / 2)
def sPl (σ : Sg) (k t : Nat) : Int := σ 4 * zabs (σ (8 + k) - σ (2 + t))
def sdots (σ : Sg) : Nat := (σ 0 * σ 1).toNat
theorem zabs_le {a b : Int} (h : -b ≤ a) (h2 : a ≤ b) : 0 ≤ zabs a ∧ zabs a ≤ b := by unfold zabs; omega
/-- a product of small numbers -/
theorem mul_le2 {a b m n : Int} (h0 : 0 ≤ a) (h1 : a ≤ m) (h2 : 0 ≤ b) (h3 : b ≤ n) : 0 ≤ a * b ∧ a * b ≤ m * n := ⟨Int.mul_nonneg h0 h2, Int.mul_le_mul h1 h3 h2 (by omega)⟩
theorem sdots_le {σ : Sg} (h : scok σ) : 4 ≤ sdots σ ∧ sdots σ ≤ 36 ∧ (sdots σ : Int) = σ 0 * σ 1 := by
  obtain ⟨⟨a, b⟩, ⟨c, d⟩, -⟩ := h
  have h1 := mul_le2 (by omega : 0 ≤ σ 0) b (by omega : 0 ≤ σ 1) d
  have h2 : 2 * 2 ≤ σ 0 * σ 1 := Int.mul_le_mul a c (by omega) (by omega)
  unfold sdots
  omega
/-- a place's number is below the number of dots -/
theorem sN_lt {σ : Sg} (h : scok σ) {x y : Int} (hx : 0 ≤ x) (hx2 : x < σ 0) (hy : 0 ≤ y) (hy2 : y < σ 1) : 0 ≤ σ 0 * y + x ∧ σ 0 * y + x < σ 0 * σ 1 ∧ σ 0 * σ 1 ≤ 36 := by
  have h1 := sdots_le h
  obtain ⟨⟨a, b⟩, ⟨c, d⟩, -⟩ := h
  have h2 : 0 ≤ σ 0 * y := Int.mul_nonneg (by omega) hy
  have h3 : σ 0 * (y + 1) ≤ σ 0 * σ 1 := Int.mul_le_mul_of_nonneg_left (by omega) (by omega)
  rw [Int.mul_add] at h3
  omega
