theorem bits_ex (p : Nat → Prop) : ∀ n, n ≤ 63 → ∃ x : Int64, ∀ k, tb x k = true ↔ k < n ∧ p k
  | 0, _ => ⟨0, fun k => by rw [tb_0]; constructor <;> intro q <;> first | exact absurd q (by decide) | omega⟩
  | n + 1, h => by
    obtain ⟨x, hx⟩ := bits_ex p n (by omega)
    by_cases c : p n
    · refine ⟨x ||| (1 : Int64) <<< ((zI n).toInt64 &&& 63), fun k => ?_⟩
      rw [tb_put x (show n < 64 by omega), hx k]
      by_cases e : k = n
      · subst e; exact ⟨fun _ => ⟨by omega, c⟩, fun _ => Or.inr rfl⟩
      · exact ⟨fun q => by rcases q with q | q; exact ⟨by omega, q.2⟩; exact absurd q e, fun q => Or.inl ⟨by omega, q.2⟩⟩
    · refine ⟨x, fun k => ?_⟩
      rw [hx k]
      by_cases e : k = n
      · subst e; exact ⟨fun q => absurd q.1 (Nat.lt_irrefl _), fun q => absurd q.2 c⟩
      · exact ⟨fun q => ⟨by omega, q.2⟩, fun q => ⟨by omega, q.2⟩⟩
theorem loS_is {σ : Sg} (h : scok σ) : isLo σ (loS σ) := by
  have hN := sdots_le h
  exact Classical.epsilon_spec (p := isLo σ) (bits_ex _ _ (by omega))
theorem hiS_is {σ : Sg} (h : scok σ) : isHi σ (hiS σ) := by
  have hN := sdots_le h
  exact Classical.epsilon_spec (p := isHi σ) (bits_ex _ _ (by omega))
theorem may_best {σ : Sg} {H : Nat → Int} (h : ∀ u, u < sdots σ → H u = σ (44 + u)) {m : Int} (hm : mnW σ (om σ) m) (v : Nat) (x : Int) : mayP σ (om σ) H m v x ↔ ∃ T, best σ T ∧ T v = decide (x = 1) := by
  unfold mayP
  constructor
  · rintro ⟨S, s1, s2, s3⟩
    exact ⟨S, (best_iff h hm S).mp ⟨s1, s2⟩, s3⟩
  · rintro ⟨S, s1, s2⟩
    obtain ⟨b1, b2⟩ := (best_iff h hm S).mpr s1
    exact ⟨S, b1, b2, s2⟩
theorem sure_v {σ : Sg} (hv : scok σ) {H : Nat → Int} (h : ∀ u, u < sdots σ → H u = σ (44 + u)) {m : Int} (hm : mnW σ (om σ) m) {v : Nat} (hvN : v < sdots σ) : (¬ mayP σ (om σ) H m v 1 → sureV σ v = 0) ∧ (mayP σ (om σ) H m v 1 → mayP σ (om σ) H m v 2 → sureV σ v = 2) ∧ (mayP σ (om σ) H m v 1 → ¬ mayP σ (om σ) H m v 2 → sureV σ v = 1) := by
  rw [may_best h hm, may_best h hm]
  have lo := loS_is hv v
  have hi := hiS_is hv v
  unfold sureV
  obtain ⟨S, hS⟩ := mn_ex hm
  refine ⟨fun q => ?_, fun q1 q2 => ?_, fun q1 q2 => ?_⟩
  · have nh : ¬ tb (hiS σ) v = true := fun z => q ⟨_, (hi.mp z).2.choose_spec.1, (hi.mp z).2.choose_spec.2⟩
    have nl : ¬ tb (loS σ) v = true := fun z => q ⟨S, hS, (lo.mp z).2 S hS⟩
    rw [if_neg nl, if_neg nh]
  · obtain ⟨T, t1, t2⟩ := q1
    obtain ⟨U, u1, u2⟩ := q2
    have nl : ¬ tb (loS σ) v = true := fun z => by
      have := (lo.mp z).2 U u1
      rw [u2] at this
      exact absurd this (by decide)
    rw [if_neg nl, if_pos (hi.mpr ⟨hvN, T, t1, t2⟩)]
  · rw [if_pos (lo.mpr ⟨hvN, fun T hT => by
      cases c : T v
      · exact absurd ⟨T, hT, c⟩ q2
      · rfl⟩)]
