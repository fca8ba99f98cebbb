/-! ===== distances by a queue ===== -/
theorem holes1 : ∀ (m n : Nat) (f : Nat → Nat), (∀ i, i < n → f i < m) → (∀ i j, i < j → j < n → f i ≠ f j) → n ≤ m
  | 0, n, f, h, _ => by
    rcases Nat.eq_zero_or_pos n with q | q
    · omega
    · have := h 0 q; omega
  | m + 1, n, f, h, hd => by
    by_cases hm : ∃ i, i < n ∧ f i = m
    · obtain ⟨i, hi, hfi⟩ := hm
      -- leave i out
      have := holes1 m (n - 1) (fun k => if k < i then f k else f (k + 1)) (fun k hk => by
          by_cases c : k < i
          · simp only [c, if_true]
            have h1 := h k (by omega)
            have h2 := hd k i c hi
            omega
          · simp only [c, if_false]
            have h1 := h (k + 1) (by omega)
            have h2 := hd i (k + 1) (by omega) (by omega)
            omega) (fun a b hab hb => by
          by_cases ca : a < i <;> by_cases cb : b < i <;> simp only [ca, cb, if_true, if_false]
          · exact hd a b hab (by omega)
          · exact hd a (b + 1) (by omega) (by omega)
          · omega
          · exact hd (a + 1) (b + 1) (by omega) (by omega))
      omega
    · have := holes1 m n f (fun i hi => by
        have h1 := h i hi
        have h2 : f i ≠ m := fun e => hm ⟨i, hi, e⟩
        omega) hd
      omega
/-- the first dots looked at: those with room to the ground lie in the queue -/
def B1 (G : Nat → Int) (k : Nat) (D Q : Nat → Int) (c : Nat) : Prop :=
  c ≤ k ∧ (∀ i, i < c → 0 ≤ Q i ∧ Q i < k ∧ D (Q i).toNat = 1) ∧ (∀ i j, i < j → j < c → Q i < Q j) ∧ (∀ v, v < k → (D v = 0 ∨ D v = 1) ∧ (0 < G v ↔ D v = 1) ∧ (D v = 1 → ∃ i, i < c ∧ Q i = (v : Int)))
theorem B1_0 (G D Q : Nat → Int) : B1 G 0 D Q 0 := ⟨Nat.le_refl 0, fun i h => absurd h (Nat.not_lt_zero i), fun i j _ h => absurd h (Nat.not_lt_zero j), fun v h => absurd h (Nat.not_lt_zero v)⟩
theorem B1_no {G D Q : Nat → Int} {k c : Nat} (h : B1 G k D Q c) (hg : ¬ 0 < G k) : B1 G (k + 1) (fup D k 0) Q c := by
  obtain ⟨h1, h2, h3, h4⟩ := h
  refine ⟨by omega, fun i hi => ?_, h3, fun v hv => ?_⟩
  · have := h2 i hi
    refine ⟨this.1, by omega, ?_⟩
    rw [fup_n _ _ (by omega)]; exact this.2.2
  · by_cases e : v = k
    · subst e; rw [fup_s]; exact ⟨Or.inl rfl, by omega, fun q => by omega⟩
    · rw [fup_n _ _ e]; exact h4 v (by omega)
theorem B1_yes {G D Q : Nat → Int} {k c : Nat} (h : B1 G k D Q c) (hg : 0 < G k) : B1 G (k + 1) (fup (fup D k 0) k 1) (fup Q c k) (c + 1) := by
  obtain ⟨h1, h2, h3, h4⟩ := h
  refine ⟨by omega, fun i hi => ?_, fun i j hij hj => ?_, fun v hv => ?_⟩
  · by_cases e : i = c
    · subst e; rw [fup_s]; exact ⟨by omega, by omega, by rw [Int.toNat_natCast, fup_s]⟩
    · have := h2 i (by omega)
      rw [fup_n _ _ e]
      refine ⟨this.1, by omega, ?_⟩
      rw [fup_n _ _ (by omega), fup_n _ _ (by omega)]; exact this.2.2
  · by_cases e : j = c
    · subst e; rw [fup_s, fup_n _ _ (by omega)]; have := h2 i (by omega); omega
    · rw [fup_n _ _ e, fup_n _ _ (by omega)]; exact h3 i j hij (by omega)
  · by_cases e : v = k
    · subst e
      rw [fup_s]
      exact ⟨Or.inr rfl, ⟨fun _ => rfl, fun _ => hg⟩, fun _ => ⟨c, by omega, fup_s _ _ _⟩⟩
    · rw [fup_n _ _ e, fup_n _ _ e]
      obtain ⟨a1, a2, a3⟩ := h4 v (by omega)
      refine ⟨a1, a2, fun q => ?_⟩
      obtain ⟨i, hi, hq⟩ := a3 q
      exact ⟨i, by omega, by rw [fup_n _ _ (by omega)]; exact hq⟩
def BF (N : Nat) (nb G R : Nat → Int) (a jj : Nat) (D Q : Nat → Int) (c : Nat) : Prop :=
  c ≤ N ∧
  (∀ i, i < c → 0 ≤ Q i ∧ Q i < N ∧ 0 < D (Q i).toNat ∧ D (Q i).toNat ≤ (i : Int) + 1) ∧
  (∀ i k, i < k → k < c → Q i ≠ Q k ∧ D (Q i).toNat ≤ D (Q k).toNat) ∧
  (∀ v, v < N → 0 ≤ D v ∧ (0 < D v → ∃ i, i < c ∧ Q i = (v : Int))) ∧
  (∀ i, i < c → a < c → D (Q i).toNat ≤ D (Q a).toNat + 1) ∧
  (∀ v, v < N → (0 < G v ↔ D v = 1)) ∧
  (∀ v, v < N → 1 < D v → ∃ j, j < 8 ∧ 0 ≤ nb (v * 8 + j) ∧ 0 < R (v * 8 + j) ∧ D (nb (v * 8 + j)).toNat = D v - 1) ∧
  (∀ i j, (i < a ∨ (i = a ∧ j < jj)) → i < c → j < 8 → 0 ≤ nb ((Q i).toNat * 8 + j) → 0 < R ((nb ((Q i).toNat * 8 + j)).toNat * 8 + rv j) → 0 < D (nb ((Q i).toNat * 8 + j)).toNat ∧ D (nb ((Q i).toNat * 8 + j)).toNat ≤ D (Q i).toNat + 1)
theorem BF_0 {N : Nat} {nb G R D Q : Nat → Int} {c : Nat} (h : B1 G N D Q c) : BF N nb G R 0 0 D Q c := by
  obtain ⟨h1, h2, h3, h4⟩ := h
  refine ⟨h1, fun i hi => ?_, fun i k hik hk => ?_, fun v hv => ?_, fun i hi h0 => ?_, fun v hv => (h4 v hv).2.1, fun v hv hd => ?_, fun i j hq => ?_⟩
  · have := h2 i hi; omega
  · have a1 := h2 i (by omega); have a2 := h2 k hk; have := h3 i k hik hk; omega
  · have := (h4 v hv).1
    exact ⟨by omega, fun q => (h4 v hv).2.2 (by omega)⟩
  · have a1 := h2 i hi; have a2 := h2 0 h0; omega
  · have := (h4 v hv).1; omega
  · omega
theorem BF_skip {N : Nat} {nb G R D Q : Nat → Int} {a j c : Nat} (h : BF N nb G R a j D Q c) (hg : grph N nb) (ha : a < c) (hj : j < 8) (hs : 0 ≤ nb ((Q a).toNat * 8 + j) → 0 < R ((nb ((Q a).toNat * 8 + j)).toNat * 8 + rv j) → ¬ D (nb ((Q a).toNat * 8 + j)).toNat = 0) : BF N nb G R a (j + 1) D Q c := by
  obtain ⟨h1, h2, h3, h4, h5, h6, h7, h8⟩ := h
  refine ⟨h1, h2, h3, h4, h5, h6, h7, fun i k hik hi hk hn hr => ?_⟩
  by_cases e : i = a ∧ k = j
  · obtain ⟨rfl, rfl⟩ := e
    have hq := h2 i hi
    have hv := (hg.at (show (Q i).toNat * 8 + k < 8 * N by omega) hn).1
    have hne := hs hn hr
    have h9 := h4 _ hv
    have hp : 0 < D (nb ((Q i).toNat * 8 + k)).toNat := by omega
    obtain ⟨t, ht, hqt⟩ := h9.2 hp
    have h10 := h5 t ht hi
    rw [hqt, Int.toNat_natCast] at h10
    exact ⟨hp, h10⟩
  · exact h8 i k (by omega) hi hk hn hr
theorem BF_push {N : Nat} {nb G R D Q : Nat → Int} {a j c v : Nat} (h : BF N nb G R a j D Q c) (hg : grph N nb) (ha : a < c) (hj : j < 8) (hv : nb ((Q a).toNat * 8 + j) = (v : Int)) (hd : D v = 0) (hr : 0 < R (v * 8 + rv j)) : c < N ∧ BF N nb G R a (j + 1) (fup D v (D (Q a).toNat + 1)) (fup Q c v) (c + 1) := by
  obtain ⟨h1, h2, h3, h4, h5, h6, h7, h8⟩ := h
  have hqa := h2 a ha
  have hde := e_div (v := (Q a).toNat) hj
  obtain ⟨g1, g2, g3, g4, g5, g6, g7⟩ := hg.at (show (Q a).toNat * 8 + j < 8 * N by omega) (by omega)
  have hvt : (nb ((Q a).toNat * 8 + j)).toNat = v := by omega
  rw [hvt] at g1 g4
  rw [hde.1] at g3 g4
  have hrve : rve nb ((Q a).toNat * 8 + j) = v * 8 + rv j := by unfold rve; rw [hvt, hde.2]
  rw [hrve] at g2 g3
  have hnq : ∀ i, i < c → (Q i).toNat ≠ v := fun i hi e => by
    have := h2 i hi
    rw [e, hd] at this; omega
  have hc : c < N := by
    have := holes1 N (c + 1) (fun i => if i < c then (Q i).toNat else v) (fun i hi => by
        by_cases e : i < c
        · simp only [e, if_true]; have := h2 i e; omega
        · simp only [e, if_false]; exact g1) (fun i k hik hk => by
        by_cases e : k < c
        · have e2 : i < c := by omega
          simp only [e, e2, if_true]
          have := (h3 i k hik e).1
          have a1 := h2 i e2
          have a2 := h2 k e
          omega
        · have e2 : i < c := by omega
          simp only [e, e2, if_true, if_false]; exact hnq i e2)
    omega
  have dq : ∀ i, i < c → fup D v (D (Q a).toNat + 1) (Q i).toNat = D (Q i).toNat := fun i hi => fup_n _ _ (hnq i hi)
  have qn : ∀ i, i < c → fup Q c v i = Q i := fun i hi => fup_n _ _ (by omega)
  have qc : fup Q c v c = (v : Int) := fup_s _ _ _
  refine ⟨hc, by omega, fun i hi => ?_, fun i k hik hk => ?_, fun x hx => ?_, fun i hi _ => ?_, fun x hx => ?_, fun x hx hdx => ?_, fun i k hik hi hk hn hr2 => ?_⟩
  · by_cases e : i = c
    · subst e; rw [qc, Int.toNat_natCast, fup_s]; omega
    · rw [qn i (by omega), dq i (by omega)]; exact h2 i (by omega)
  · by_cases e : k = c
    · subst e
      rw [qc, qn i hik, Int.toNat_natCast, fup_s, dq i hik]
      have := hnq i hik
      have a1 := h2 i hik
      have a2 := h5 i hik ha
      omega
    · rw [qn i (by omega), qn k (by omega), dq i (by omega), dq k (by omega)]; exact h3 i k hik (by omega)
  · by_cases e : x = v
    · subst e; rw [fup_s]; exact ⟨by omega, fun _ => ⟨c, by omega, qc⟩⟩
    · rw [fup_n _ _ e]
      refine ⟨(h4 x hx).1, fun q => ?_⟩
      obtain ⟨i, hi, hq⟩ := (h4 x hx).2 q
      exact ⟨i, by omega, by rw [qn i hi]; exact hq⟩
  · rw [qn a ha, dq a ha]
    by_cases e : i = c
    · subst e; rw [qc, Int.toNat_natCast, fup_s]; omega
    · rw [qn i (by omega), dq i (by omega)]; exact h5 i (by omega) ha
  · by_cases e : x = v
    · subst e; rw [fup_s]; have := h6 x hx; omega
    · rw [fup_n _ _ e]; exact h6 x hx
  · by_cases e : x = v
    · subst e
      refine ⟨rv j, rv_lt hj, by omega, hr, ?_⟩
      rw [fup_s, g3, Int.toNat_natCast, dq a ha]; omega
    · rw [fup_n _ _ e] at hdx ⊢
      obtain ⟨k, b1, b2, b3, b4⟩ := h7 x hx hdx
      refine ⟨k, b1, b2, b3, ?_⟩
      rw [fup_n _ _ (fun q => by rw [q, hd] at b4; omega)]; exact b4
  · by_cases ec : i = c
    · omega
    · rw [qn i (by omega)] at hn hr2 ⊢
      rw [dq i (by omega)]
      by_cases e : i = a ∧ k = j
      · obtain ⟨rfl, rfl⟩ := e
        rw [hvt, fup_s]; omega
      · have := h8 i k (by omega) (by omega) hk hn hr2
        by_cases ev : (nb ((Q i).toNat * 8 + k)).toNat = v
        · rw [ev, hd] at this; omega
        · rw [fup_n _ _ ev]; exact this
theorem BF_next {N : Nat} {nb G R D Q : Nat → Int} {a c : Nat} (h : BF N nb G R a 8 D Q c) (ha : a < c) : BF N nb G R (a + 1) 0 D Q c := by
  obtain ⟨h1, h2, h3, h4, h5, h6, h7, h8⟩ := h
  refine ⟨h1, h2, h3, h4, fun i hi h0 => ?_, h6, h7, fun i j hq hi hj => h8 i j (by omega) hi hj⟩
  have := h5 i hi ha
  have := (h3 a (a + 1) (by omega) h0).2
  omega
/-- distances to the ground through what room there is -/
def lab (N : Nat) (nb G R D : Nat → Int) : Prop :=
  (∀ v, v < N → 0 ≤ D v ∧ D v ≤ N) ∧ (∀ v, v < N → (0 < G v ↔ D v = 1)) ∧
  (∀ v, v < N → 1 < D v → ∃ j, j < 8 ∧ 0 ≤ nb (v * 8 + j) ∧ 0 < R (v * 8 + j) ∧ D (nb (v * 8 + j)).toNat = D v - 1) ∧
  (∀ v, v < N → ∀ j, j < 8 → 0 ≤ nb (v * 8 + j) → 0 < R (v * 8 + j) → 0 < D (nb (v * 8 + j)).toNat → 0 < D v ∧ D v ≤ D (nb (v * 8 + j)).toNat + 1)
theorem BF_lab {N : Nat} {nb G R D Q : Nat → Int} {a c : Nat} (h : BF N nb G R a 0 D Q c) (hg : grph N nb) (ha : c ≤ a) : lab N nb G R D := by
  obtain ⟨h1, h2, h3, h4, h5, h6, h7, h8⟩ := h
  refine ⟨fun v hv => ⟨(h4 v hv).1, ?_⟩, h6, h7, fun v hv j hj hn hr hd => ?_⟩
  · by_cases q : 0 < D v
    · obtain ⟨i, hi, hq⟩ := (h4 v hv).2 q
      have := h2 i hi
      rw [hq, Int.toNat_natCast] at this
      omega
    · omega
  · have hde := e_div (v := v) hj
    obtain ⟨g1, g2, g3, g4, g5, g6, g7⟩ := hg.at (show v * 8 + j < 8 * N by omega) hn
    obtain ⟨i, hi, hq⟩ := (h4 _ g1).2 hd
    have hrve : rve nb (v * 8 + j) = (nb (v * 8 + j)).toNat * 8 + rv j := by unfold rve; rw [hde.2]
    rw [hde.1] at g3
    rw [hrve] at g3
    have e1 : nb ((Q i).toNat * 8 + rv j) = (v : Int) := by rw [hq, Int.toNat_natCast]; exact g3
    have := h8 i (rv j) (by omega) hi (rv_lt hj) (by omega) (by rw [e1, Int.toNat_natCast, rv_rv hj]; exact hr)
    rw [e1, Int.toNat_natCast, hq, Int.toNat_natCast] at this
    exact this
