/-! ===== a new object, on both sides ===== -/
def O0 : Mem := fun q => if q = 49 then upd (fun _ => 0) 6 (-1) else if q = 50 then mF else if 13 ≤ q ∧ q < 49 ∧ q % 4 = 1 then upd (upd (fun _ => 0) 0 4) 1 4 else if 13 ≤ q ∧ q < 49 ∧ q % 4 = 2 then sF else fun _ => 0
theorem upd_n {f : Nat → Int32} {k j : Nat} {v : Int32} (h : j ≠ k) : upd f k v j = f j := by simp [upd, h]
theorem mF_z {i : Nat} (h : 8 ≤ i) : mF i = 0 := by
  unfold mF
  rw [upd_n (by omega), upd_n (by omega), upd_n (by omega), upd_n (by omega), upd_n (by omega), upd_n (by omega), upd_n (by omega)]
theorem O0_50 (i : Nat) : gt O0 50 i = (mF i).toInt := rfl
theorem O0_15 (i : Nat) : gt O0 15 i = 0 := rfl
theorem O0_16 (i : Nat) : gt O0 16 i = 0 := rfl
theorem O0_z {i : Nat} (h : 8 ≤ i) : scM O0 i = 0 := by
  unfold scM
  split
  · rw [O0_50, mF_z h]; rfl
  · rfl
theorem O0_sc : scC O0 = scM O0 := by
  funext i
  by_cases h8 : i < 8
  · obtain rfl | rfl | rfl | rfl | rfl | rfl | rfl | rfl : i = 0 ∨ i = 1 ∨ i = 2 ∨ i = 3 ∨ i = 4 ∨ i = 5 ∨ i = 6 ∨ i = 7 := by omega
    all_goals decide
  · rw [O0_z (by omega)]
    unfold scC
    rw [if_neg (by omega), if_neg (by omega), if_neg h8]
    by_cases h44 : i < 44
    · rw [if_pos h44, O0_15]
    · rw [if_neg h44]
      by_cases h80 : i < 80
      · rw [if_pos h80, O0_16]
      · rw [if_neg h80]
theorem O0_ok : scok (scM O0) := by
  refine ⟨by decide, by decide, by decide, by decide, by decide, by decide, by decide, by decide, fun k hk => ?_, fun k hk => ?_⟩
  · rw [O0_z (by omega)]; omega
  · rw [O0_z (by omega)]; omega
def A0 : As := (scM O0, (0, fun _ => scM O0), (fun _ => 0), (0, fun _ => 0))
theorem O0_RC : RC O0 A0 := by
  refine ⟨⟨O0_sc, O0_ok⟩, ⟨rfl, by decide, ⟨by decide, by decide⟩, fun i hi => absurd hi (Nat.not_lt_zero i)⟩, fun i hi => rfl, rfl, by decide, rfl, fun k hk => absurd hk (Nat.not_lt_zero k), by decide, by decide⟩
theorem O0_RM : RM O0 A0 := by
  refine ⟨⟨rfl, O0_ok⟩, ⟨rfl, by decide, fun i hi => absurd hi (Nat.not_lt_zero i)⟩, fun i hi => rfl, ⟨rfl, by decide, fun k hk => absurd hk (Nat.not_lt_zero k)⟩, by decide⟩
theorem arrV_cong {cA : ClassId} {n : Nat} {f g : Nat → Option Nat} (h : ∀ j, j < n → f j = g j) : vp_cell cA (n, .inr (.inr (.inr (.inr f)))) = vp_cell cA (n, .inr (.inr (.inr (.inr g)))) := by
  rw [vp_cell_q, vp_cell_q]
  unfold arrV
  simp only [Cell.mk.injEq, true_and, and_true]
  apply Array.ext
  · simp
  · intro i h1 h2
    simp at h1
    simp [h i (by omega)]
