/-! ===== a state more, the oldest one gone if there are eight ===== -/
theorem RM.shift {Ω : Mem} {a : As} (h : RM Ω a) (h8 : a.2.1.1 = 8) : RM (ups (brg Ω 51 51 80 0 560) 49 2 7) (a.1, (7, a.2.1.2), a.2.2) := by
  obtain ⟨h1, ⟨h2, h3, h4⟩, h5, ⟨h6, h7, h9⟩, h10⟩ := h
  have hq : ∀ q, q ≠ 51 → q ≠ 49 → ups (brg Ω 51 51 80 0 560) 49 2 7 q = Ω q := fun q x y => by rw [ups_n _ _ _ y, brg_n _ _ _ _ _ x]
  have e49 : ∀ k, k ≠ 2 → gt (ups (brg Ω 51 51 80 0 560) 49 2 7) 49 k = gt Ω 49 k := fun k x => by rw [gt_sn _ _ _ x]; exact gt_fr (brg_n _ _ _ _ _ (by decide)) k
  refine ⟨⟨(scM_cong (hq 50 (by omega) (by omega))).trans h1.1, h1.2⟩, ⟨gt_s _ _ _ ⟨by decide, by decide⟩, by show 7 ≤ 8; omega, fun i hi => ⟨fun j hj => ?_, (h4 i (by have : i < 7 := hi; omega)).2⟩⟩, fun i hi => ?_, ⟨by rw [e49 5 (by decide)]; exact h6, h7, fun k hk => ?_⟩, by rw [e49 6 (by decide)]; exact h10⟩
  · have hi7 : i < 7 := hi
    show gt (ups (brg Ω 51 51 80 0 560) 49 2 7) 51 (80 * (7 - 1 - i) + j) = a.2.1.2 i j
    rw [gt_n _ _ _ _ (by decide), brg_at _ _ _ _ _ _ (Nat.zero_le _) (by omega), ← (h4 i (by omega)).1 j hj, h8]
    congr 1
    omega
  · rw [hq 52 (by omega) (by omega)]; exact h5 i hi
  · rw [gt_fr (hq 53 (by omega) (by omega))]; exact h9 k hk
theorem RM.push {Ω : Mem} {a : As} (h : RM Ω a) (h8 : a.2.1.1 < 8) : RM (ups (brg Ω 50 51 0 (80 * a.2.1.1) 80) 49 2 ((a.2.1.1 : Int) + 1)) (a.1, (a.2.1.1 + 1, fun i => if i = 0 then a.1 else a.2.1.2 (i - 1)), a.2.2) := by
  obtain ⟨h1, ⟨h2, h3, h4⟩, h5, ⟨h6, h7, h9⟩, h10⟩ := h
  have hq : ∀ q, q ≠ 51 → q ≠ 49 → ups (brg Ω 50 51 0 (80 * a.2.1.1) 80) 49 2 ((a.2.1.1 : Int) + 1) q = Ω q := fun q x y => by rw [ups_n _ _ _ y, brg_n _ _ _ _ _ x]
  have e49 : ∀ k, k ≠ 2 → gt (ups (brg Ω 50 51 0 (80 * a.2.1.1) 80) 49 2 ((a.2.1.1 : Int) + 1)) 49 k = gt Ω 49 k := fun k x => by rw [gt_sn _ _ _ x]; exact gt_fr (brg_n _ _ _ _ _ (by decide)) k
  refine ⟨⟨(scM_cong (hq 50 (by omega) (by omega))).trans h1.1, h1.2⟩, ⟨by rw [gt_s _ _ _ ⟨by omega, by omega⟩]; show (a.2.1.1 : Int) + 1 = ((a.2.1.1 + 1 : Nat) : Int); omega, by show a.2.1.1 + 1 ≤ 8; omega, fun i hi => ?_⟩, fun i hi => ?_, ⟨by rw [e49 5 (by decide)]; exact h6, h7, fun k hk => ?_⟩, by rw [e49 6 (by decide)]; exact h10⟩
  · have hi1 : i < a.2.1.1 + 1 := hi
    show (∀ j, j < 80 → gt (ups (brg Ω 50 51 0 (80 * a.2.1.1) 80) 49 2 ((a.2.1.1 : Int) + 1)) 51 (80 * (a.2.1.1 + 1 - 1 - i) + j) = (if i = 0 then a.1 else a.2.1.2 (i - 1)) j) ∧ (∀ j, 80 ≤ j → (if i = 0 then a.1 else a.2.1.2 (i - 1)) j = 0) ∧ scok (if i = 0 then a.1 else a.2.1.2 (i - 1))
    by_cases e : i = 0
    · subst e
      rw [if_pos rfl]
      refine ⟨fun j hj => ?_, fun j hj => by rw [← h1.1]; exact scM_0 Ω hj, h1.2⟩
      rw [gt_n _ _ _ _ (by decide), show 80 * (a.2.1.1 + 1 - 1 - 0) + j = 80 * a.2.1.1 + j by omega, brg_at _ _ _ _ _ _ (by omega) (by omega), ← h1.1, scM_at Ω hj]
      congr 1
      omega
    · rw [if_neg e]
      refine ⟨fun j hj => ?_, (h4 (i - 1) (by omega)).2⟩
      rw [gt_n _ _ _ _ (by decide), brg_off _ _ _ _ _ _ (by omega), ← (h4 (i - 1) (by omega)).1 j hj]
      congr 1
      omega
  · rw [hq 52 (by omega) (by omega)]; exact h5 i hi
  · rw [gt_fr (hq 53 (by omega) (by omega))]; exact h9 k hk
