/-! ===== best sets: what a filled network says ===== -/
def Best (σ : Sg) (f : Int) (S : Nat → Bool) : Prop := cst σ S + 1000000 * cnb σ S = f
def SV (σ : Sg) (f : Int) (Ω : Mem) : Prop := ∃ nb, grph (sdots σ) nb ∧ FI (sdots σ) nb (fun S => cst σ S + 1000000 * cnb σ S) f Ω ∧ 0 ≤ f ∧ ∃ L, lab (sdots σ) nb (gt Ω 5) (gt Ω 7) L ∧ ∀ v, v < sdots σ → 0 < gt Ω 4 v → L v = 0
theorem SV.moved {σ : Sg} {f : Int} {Ω Ω1 : Mem} (h : SV σ f Ω) (g : frM Ω Ω1) : SV σ f Ω1 := by
  obtain ⟨nb, h1, h2, h3, L, h4, h5⟩ := h
  have e4 : gt Ω1 4 = gt Ω 4 := by unfold gt; rw [g.1 4 (by decide) (by decide) (by decide)]
  have e5 : gt Ω1 5 = gt Ω 5 := by unfold gt; rw [g.1 5 (by decide) (by decide) (by decide)]
  have e7 : gt Ω1 7 = gt Ω 7 := by unfold gt; rw [g.1 7 (by decide) (by decide) (by decide)]
  exact ⟨nb, h1, h2.moved g, h3, L, by rw [e5, e7]; exact h4, by rw [e4]; exact h5⟩
theorem rc_z {N : Nat} {nb F G R : Nat → Int} (hF : ∀ v, v < N → 0 ≤ F v) (hG : ∀ v, v < N → 0 ≤ G v) (hR : ∀ e, e < 8 * N → 0 ≤ nb e → 0 ≤ R e) (S : Nat → Bool) : rc N nb F G R S = 0 ↔ (∀ v, v < N → S v = true → G v = 0) ∧ (∀ v, v < N → S v = false → F v = 0) ∧ (∀ e, e < 8 * N → 0 ≤ nb e → S (e / 8) = true → 0 < R e → S (nb e).toNat = true) := by
  have p1 : ∀ k, k < N → 0 ≤ (fun v => if S v = true then G v else F v) k := fun k hk => by
    by_cases c : S k = true
    · simp only [c, if_true]; exact hG k hk
    · simp only [c]; exact hF k hk
  have p2 : ∀ e, e < 8 * N → 0 ≤ (fun e => if 0 ≤ nb e ∧ S (e / 8) = true ∧ S (nb e).toNat = false then R e else 0) e := fun e he => by
    by_cases c : 0 ≤ nb e ∧ S (e / 8) = true ∧ S (nb e).toNat = false
    · simp only [c, and_self, if_true]; exact hR e he c.1
    · simp only [c, if_false]; omega
  constructor
  · intro h
    unfold rc at h
    have n1 := sm_nn p1
    have n2 := sm_nn p2
    have z1 := sm_z_inv p1 (by omega)
    have z2 := sm_z_inv p2 (by omega)
    refine ⟨fun v hv c => ?_, fun v hv c => ?_, fun e he hn c hr => ?_⟩
    · have := z1 v hv
      simp only [c, if_true] at this; exact this
    · have := z1 v hv
      simp only [c] at this; simpa using this
    · cases c2 : S (nb e).toNat
      · have := z2 e he
        simp only [hn, c, c2, and_self, if_true] at this
        omega
      · rfl
  · rintro ⟨h1, h2, h3⟩
    unfold rc
    rw [sm_z (fun v hv => ?_), sm_z (fun e he => ?_)]
    · rfl
    · by_cases c : 0 ≤ nb e ∧ S (e / 8) = true ∧ S (nb e).toNat = false
      · simp only [c, and_self, if_true]
        have := hR e he c.1
        by_cases q : 0 < R e
        · have := h3 e he c.1 c.2.1 q
          rw [c.2.2] at this; exact absurd this (by decide)
        · omega
      · simp only [c, if_false]
    · cases c : S v
      · simp; exact h2 v hv c
      · simp; exact h1 v hv c
theorem SV.iff {σ : Sg} {f : Int} {Ω : Mem} {nb : Nat → Int} (h2 : FI (sdots σ) nb (fun S => cst σ S + 1000000 * cnb σ S) f Ω) (S : Nat → Bool) : Best σ f S ↔ (∀ v, v < sdots σ → S v = true → gt Ω 5 v = 0) ∧ (∀ v, v < sdots σ → S v = false → gt Ω 4 v = 0) ∧ (∀ e, e < 8 * sdots σ → 0 ≤ nb e → S (e / 8) = true → 0 < gt Ω 7 e → S (nb e).toNat = true) := by
  have e : rc (sdots σ) nb (gt Ω 4) (gt Ω 5) (gt Ω 7) S + f = cst σ S + 1000000 * cnb σ S := h2.2.2.2.2.2 S
  rw [← rc_z (fun v hv => (h2.1 v hv).1) h2.2.1 (fun e he hn => (h2.2.2.1 e he hn).1) S]
  unfold Best
  omega
/-- a best set keeps off the dots from which something still could go to the ground -/
theorem best_lab {N : Nat} {nb G R L : Nat → Int} (hg : grph N nb) (hl : lab N nb G R L) {S : Nat → Bool} (h1 : ∀ v, v < N → S v = true → G v = 0) (h3 : ∀ e, e < 8 * N → 0 ≤ nb e → S (e / 8) = true → 0 < R e → S (nb e).toNat = true) : ∀ (n v : Nat), v < N → L v = (n : Int) → S v = true → L v = 0
  | 0, v, hv, h, hs => by omega
  | n + 1, v, hv, h, hs => by
    have hl' := hl
    obtain ⟨a1, a2, a3, a4⟩ := hl'
    by_cases e : L v = 1
    · have := (a2 v hv).mpr e
      have := h1 v hv hs
      omega
    · obtain ⟨j, b1, b2, b3, b4⟩ := a3 v hv (by omega)
      have hd := e_div (v := v) b1
      have := h3 (v * 8 + j) (by omega) b2 (by rw [hd.1]; exact hs) b3
      have := best_lab hg hl h1 h3 n _ (hg.at (show v * 8 + j < 8 * N by omega) b2).1 (by omega) this
      omega
theorem best_zero {σ : Sg} {f : Int} {Ω : Mem} {nb L : Nat → Int} (hg : grph (sdots σ) nb) (h2 : FI (sdots σ) nb (fun S => cst σ S + 1000000 * cnb σ S) f Ω) (hl : lab (sdots σ) nb (gt Ω 5) (gt Ω 7) L) (hF : ∀ v, v < sdots σ → 0 < gt Ω 4 v → L v = 0) : Best σ f (fun v => decide (L v = 0)) := by
  rw [SV.iff h2]
  obtain ⟨a1, a2, a3, a4⟩ := hl
  refine ⟨fun v hv hs => ?_, fun v hv hs => ?_, fun e he hn hs hr => ?_⟩
  · have : L v = 0 := of_decide_eq_true hs
    have h5 := h2.2.1 v hv
    have := a2 v hv
    omega
  · have : ¬ L v = 0 := of_decide_eq_false hs
    have h5 := (h2.1 v hv).1
    have := hF v hv
    omega
  · have q : L (e / 8) = 0 := of_decide_eq_true hs
    apply decide_eq_true
    have a := a4 (e / 8) (by omega) (e % 8) (by omega)
    rw [show e / 8 * 8 + e % 8 = e by omega] at a
    have c2 := (hg.at he hn).1
    have := (a1 _ c2).1
    by_cases c : 0 < L (nb e).toNat
    · have := (a hn hr c).1; omega
    · omega
/-- the smallest set with the seeds in it from which no way with room leads out -/
def clos (N : Nat) (nb R : Nat → Int) (s x : Int64) : Prop :=
  (∀ k, tb x k = true → k < N) ∧ (∀ k, tb s k = true → tb x k = true) ∧ (∀ e, e < 8 * N → 0 ≤ nb e → tb x (e / 8) = true → 0 < R e → tb x (nb e).toNat = true) ∧
  (∀ S : Nat → Bool, (∀ k, tb s k = true → S k = true) → (∀ e, e < 8 * N → 0 ≤ nb e → S (e / 8) = true → 0 < R e → S (nb e).toNat = true) → ∀ k, tb x k = true → S k = true)
def SPI (N : Nat) (nb R : Nat → Int) (s : Int64) (a j : Nat) (x : Int64) (Q : Nat → Int) (c : Nat) : Prop :=
  c ≤ N ∧ (∀ i, i < c → 0 ≤ Q i ∧ Q i < N ∧ tb x (Q i).toNat = true) ∧ (∀ i k, i < k → k < c → Q i ≠ Q k) ∧ (∀ k, tb x k = true → ∃ i, i < c ∧ Q i = (k : Int)) ∧ (∀ k, tb s k = true → tb x k = true) ∧
  (∀ i k, (i < a ∨ (i = a ∧ k < j)) → i < c → k < 8 → 0 ≤ nb ((Q i).toNat * 8 + k) → 0 < R ((Q i).toNat * 8 + k) → tb x (nb ((Q i).toNat * 8 + k)).toNat = true) ∧
  (∀ S : Nat → Bool, (∀ k, tb s k = true → S k = true) → (∀ e, e < 8 * N → 0 ≤ nb e → S (e / 8) = true → 0 < R e → S (nb e).toNat = true) → ∀ k, tb x k = true → S k = true)
def SQ (s : Int64) (k : Nat) (Q : Nat → Int) (c : Nat) : Prop :=
  c ≤ k ∧ (∀ i, i < c → 0 ≤ Q i ∧ Q i < k ∧ tb s (Q i).toNat = true) ∧ (∀ i j, i < j → j < c → Q i ≠ Q j) ∧ (∀ v, v < k → tb s v = true → ∃ i, i < c ∧ Q i = (v : Int))
theorem SQ_0 (s : Int64) (Q : Nat → Int) : SQ s 0 Q 0 := ⟨Nat.le_refl 0, fun i hi => absurd hi (Nat.not_lt_zero i), fun i j _ hj => absurd hj (Nat.not_lt_zero j), fun v hv => absurd hv (Nat.not_lt_zero v)⟩
theorem SQ_no {s : Int64} {k : Nat} {Q : Nat → Int} {c : Nat} (h : SQ s k Q c) (hk : ¬ tb s k = true) : SQ s (k + 1) Q c := by
  obtain ⟨h1, h2, h3, h4⟩ := h
  refine ⟨by omega, fun i hi => ⟨(h2 i hi).1, by have := (h2 i hi).2.1; omega, (h2 i hi).2.2⟩, h3, fun v hv ht => ?_⟩
  by_cases e : v = k
  · subst e; exact absurd ht hk
  · exact h4 v (by omega) ht
theorem SQ_yes {s : Int64} {k : Nat} {Q : Nat → Int} {c : Nat} (h : SQ s k Q c) (hk : tb s k = true) : SQ s (k + 1) (fup Q c (k : Int)) (c + 1) := by
  obtain ⟨h1, h2, h3, h4⟩ := h
  refine ⟨by omega, fun i hi => ?_, fun i j hij hj => ?_, fun v hv ht => ?_⟩
  · by_cases e : i = c
    · subst e; rw [fup_s, Int.toNat_natCast]; exact ⟨by omega, by omega, hk⟩
    · rw [fup_n _ _ e]
      exact ⟨(h2 i (by omega)).1, by have := (h2 i (by omega)).2.1; omega, (h2 i (by omega)).2.2⟩
  · by_cases e : j = c
    · subst e
      rw [fup_s, fup_n _ _ (by omega)]
      have := (h2 i hij).2.1
      omega
    · rw [fup_n _ _ e, fup_n _ _ (by omega)]; exact h3 i j hij (by omega)
  · by_cases e : v = k
    · subst e; exact ⟨c, by omega, fup_s _ _ _⟩
    · obtain ⟨i, hi, hq⟩ := h4 v (by omega) ht
      exact ⟨i, by omega, by rw [fup_n _ _ (by omega)]; exact hq⟩
theorem SPI_0 {N : Nat} {nb R : Nat → Int} {s : Int64} {Q : Nat → Int} {c : Nat} (h : SQ s N Q c) (hs : ∀ k, tb s k = true → k < N) : SPI N nb R s 0 0 s Q c := by
  obtain ⟨h1, h2, h3, h4⟩ := h
  exact ⟨h1, h2, h3, fun k hk => h4 k (hs k hk) hk, fun _ h => h, fun i k hik => by omega, fun S h _ => h⟩
theorem SPI_skip {N : Nat} {nb R : Nat → Int} {s x : Int64} {Q : Nat → Int} {a j c : Nat} (h : SPI N nb R s a j x Q c) (hh : 0 ≤ nb ((Q a).toNat * 8 + j) → 0 < R ((Q a).toNat * 8 + j) → tb x (nb ((Q a).toNat * 8 + j)).toNat = true) : SPI N nb R s a (j + 1) x Q c := by
  obtain ⟨h1, h2, h3, h4, h5, h6, h7⟩ := h
  refine ⟨h1, h2, h3, h4, h5, fun i k hik hi hk hn hr => ?_, h7⟩
  by_cases e : i = a ∧ k = j
  · obtain ⟨rfl, rfl⟩ := e; exact hh hn hr
  · exact h6 i k (by omega) hi hk hn hr
theorem SPI_next {N : Nat} {nb R : Nat → Int} {s x : Int64} {Q : Nat → Int} {a c : Nat} (h : SPI N nb R s a 8 x Q c) : SPI N nb R s (a + 1) 0 x Q c := by
  obtain ⟨h1, h2, h3, h4, h5, h6, h7⟩ := h
  exact ⟨h1, h2, h3, h4, h5, fun i k hik hi hk hn hr => h6 i k (by omega) hi hk hn hr, h7⟩
theorem SPI_push {N : Nat} {nb R : Nat → Int} {s x y : Int64} {Q : Nat → Int} {a j c v : Nat} (h : SPI N nb R s a j x Q c) (hg : grph N nb) (ha : a < c) (hj : j < 8) (hv : nb ((Q a).toNat * 8 + j) = (v : Int)) (hr : 0 < R ((Q a).toNat * 8 + j)) (hx : ¬ tb x v = true) (hy : ∀ k, tb y k = true ↔ tb x k = true ∨ k = v) : c < N ∧ SPI N nb R s a (j + 1) y (fup Q c (v : Int)) (c + 1) := by
  obtain ⟨h1, h2, h3, h4, h5, h6, h7⟩ := h
  have hqa := h2 a ha
  have hvN : v < N := by
    have := (hg.at (show (Q a).toNat * 8 + j < 8 * N by omega) (by omega)).1
    omega
  have hnq : ∀ i, i < c → Q i ≠ (v : Int) := fun i hi e => by
    have := (h2 i hi).2.2
    rw [e, Int.toNat_natCast] at this
    exact hx this
  have hc : c < N := by
    have := holes1 N (c + 1) (fun i => if i < c then (Q i).toNat else v) (fun i hi => by
        by_cases e : i < c
        · simp only [e, if_true]; have := h2 i e; omega
        · simp only [e, if_false]; exact hvN) (fun i k hik hk => by
        by_cases e : k < c
        · have e2 : i < c := by omega
          simp only [e, e2, if_true]
          have := h3 i k hik e
          have a1 := h2 i e2
          have a2 := h2 k e
          omega
        · have e2 : i < c := by omega
          simp only [e, e2, if_true, if_false]
          have := hnq i e2
          have a1 := h2 i e2
          omega)
    omega
  have qn : ∀ i, i < c → fup Q c v i = Q i := fun i hi => fup_n _ _ (by omega)
  have xy : ∀ k, tb x k = true → tb y k = true := fun k hk => (hy k).mpr (Or.inl hk)
  refine ⟨hc, by omega, fun i hi => ?_, fun i k hik hk => ?_, fun k hk => ?_, fun k hk => xy k (h5 k hk), fun i k hik hi hk hn hr2 => ?_, fun S s1 s2 k hk => ?_⟩
  · by_cases e : i = c
    · subst e; rw [fup_s, Int.toNat_natCast]; exact ⟨by omega, by omega, (hy v).mpr (Or.inr rfl)⟩
    · rw [qn i (by omega)]
      exact ⟨(h2 i (by omega)).1, (h2 i (by omega)).2.1, xy _ (h2 i (by omega)).2.2⟩
  · by_cases e : k = c
    · subst e; rw [fup_s, qn i hik]; exact hnq i hik
    · rw [qn i (by omega), qn k (by omega)]; exact h3 i k hik (by omega)
  · rcases (hy k).mp hk with q | rfl
    · obtain ⟨i, hi, hq⟩ := h4 k q
      exact ⟨i, by omega, by rw [qn i hi]; exact hq⟩
    · exact ⟨c, by omega, fup_s _ _ _⟩
  · by_cases ec : i = c
    · omega
    · rw [qn i (by omega)] at hn hr2 ⊢
      by_cases e : i = a ∧ k = j
      · obtain ⟨rfl, rfl⟩ := e
        rw [hv, Int.toNat_natCast]; exact (hy v).mpr (Or.inr rfl)
      · exact xy _ (h6 i k (by omega) (by omega) hk hn hr2)
  · rcases (hy k).mp hk with q | rfl
    · exact h7 S s1 s2 k q
    · have e := s2 ((Q a).toNat * 8 + j) (by omega) (by omega) (by rw [(e_div (v := (Q a).toNat) hj).1]; exact h7 S s1 s2 _ hqa.2.2) hr
      rw [hv, Int.toNat_natCast] at e
      exact e
theorem SPI_end {N : Nat} {nb R : Nat → Int} {s x : Int64} {Q : Nat → Int} {a c : Nat} (h : SPI N nb R s a 0 x Q c) (ha : c ≤ a) : clos N nb R s x := by
  obtain ⟨h1, h2, h3, h4, h5, h6, h7⟩ := h
  refine ⟨fun k hk => ?_, h5, fun e he hn hx hr => ?_, h7⟩
  · obtain ⟨i, hi, hq⟩ := h4 k hk
    have := (h2 i hi).2.1
    omega
  · obtain ⟨i, hi, hq⟩ := h4 _ hx
    have e1 : (Q i).toNat * 8 + e % 8 = e := by rw [hq, Int.toNat_natCast]; omega
    have := h6 i (e % 8) (by omega) hi (by omega)
    rw [e1] at this
    exact this hn hr
/-- the closure of what has still something to send, and more within the greatest best set -/
theorem clos_best {σ : Sg} {f : Int} {Ω : Mem} {nb : Nat → Int} (h2 : FI (sdots σ) nb (fun S => cst σ S + 1000000 * cnb σ S) f Ω) {s x : Int64} (hc : clos (sdots σ) nb (gt Ω 7) s x) (hF : ∀ v, v < sdots σ → 0 < gt Ω 4 v → tb s v = true) {T : Nat → Bool} (hT : Best σ f T) (hsT : ∀ k, tb s k = true → T k = true) : Best σ f (tb x) ∧ ∀ k, tb x k = true → T k = true := by
  obtain ⟨c1, c2, c3, c4⟩ := hc
  rw [SV.iff h2] at hT ⊢
  have hx := c4 T hsT hT.2.2
  refine ⟨⟨fun v hv hs => hT.1 v hv (hx v hs), fun v hv hs => ?_, c3⟩, hx⟩
  by_cases q : 0 < gt Ω 4 v
  · rw [c2 v (hF v hv q)] at hs; exact absurd hs (by decide)
  · have := (h2.1 v hv).1; omega
/-! the least cost over the sets that keep the marks -/
theorem bad_b (σ : Sg) (S : Nat → Bool) (v : Nat) : 0 ≤ bad σ S v ∧ bad σ S v ≤ 1 := by unfold bad; split <;> omega
theorem cnb_nn (σ : Sg) (S : Nat → Bool) : 0 ≤ cnb σ S := sm_nn (fun k _ => (bad_b σ S k).1)
theorem cV_b {σ : Sg} (h : scok σ) (S : Nat → Bool) {v : Nat} (hv : v < sdots σ) : 0 ≤ cV σ S v ∧ cV σ S v ≤ 281 := by
  have hN := sdots_le h
  have h1 : 0 ≤ sPl σ v (if S v = true then 3 else 4) ∧ sPl σ v (if S v = true then 3 else 4) ≤ 81 := sPl_b h (by omega) (by split <;> omega)
  have h2 := sm_bd (f := sLd σ S v) (a := 0) (b := 50) (n := 4) (fun d hd => by
    unfold sLd
    split
    · next c =>
      obtain ⟨o, g1, g2, -⟩ := lk_inv h hv hd c.1
      rw [g1, Int.toNat_natCast]
      have := sWt_b h d (show v < 36 by omega) (show o < 36 by omega)
      omega
    · omega)
  unfold cV
  omega
theorem cst_b {σ : Sg} (h : scok σ) (S : Nat → Bool) : 0 ≤ cst σ S ∧ cst σ S ≤ 10116 := by
  have hN := sdots_le h
  have := sm_bd (f := cV σ S) (a := 0) (b := 281) (n := sdots σ) (fun v hv => cV_b h S hv)
  unfold cst
  omega
def mkS (σ : Sg) : Nat → Bool := fun v => decide (σ (44 + v) = 1)
theorem cnb_mk (σ : Sg) : cnb σ (mkS σ) = 0 := by
  apply sm_z
  intro v _
  unfold bad mkS
  by_cases c : σ (44 + v) = 1 <;> simp [c]
/-- m is the least cost -/
def mn (σ : Sg) (m : Int) : Prop := (∃ S, cnb σ S = 0 ∧ cst σ S = m) ∧ ∀ S, cnb σ S = 0 → m ≤ cst σ S
theorem mn_uniq {σ : Sg} {a b : Int} (h : mn σ a) (g : mn σ b) : a = b := by
  obtain ⟨⟨S, s1, s2⟩, h2⟩ := h
  obtain ⟨⟨T, t1, t2⟩, g2⟩ := g
  have := h2 T t1
  have := g2 S s1
  omega
def best (σ : Sg) (S : Nat → Bool) : Prop := cnb σ S = 0 ∧ ∀ T, cnb σ T = 0 → cst σ S ≤ cst σ T
theorem SV.mn {σ : Sg} (hv : scok σ) {f : Int} {Ω : Mem} (h : SV σ f Ω) : mn σ f ∧ ∀ S, Best σ f S ↔ best σ S := by
  obtain ⟨nb, hg, h2, h3, L, h4, h5⟩ := h
  have hb := best_zero hg h2 h4 h5
  have hle : ∀ S, f ≤ cst σ S + 1000000 * cnb σ S := fun S => h2.le S
  have hm := hle (mkS σ)
  rw [cnb_mk] at hm
  have hmb := cst_b hv (mkS σ)
  have hz : ∀ S, Best σ f S → cnb σ S = 0 ∧ cst σ S = f := fun S hS => by
    unfold Best at hS
    have := cnb_nn σ S
    have := cst_b hv S
    omega
  have hz0 := hz _ hb
  refine ⟨⟨⟨_, hz0⟩, fun S hS => ?_⟩, fun S => ⟨fun hS => ?_, fun hS => ?_⟩⟩
  · have := hle S; omega
  · obtain ⟨z1, z2⟩ := hz S hS
    exact ⟨z1, fun T hT => by have := hle T; omega⟩
  · have := hS.2 _ hz0.1
    have := hle S
    have := hS.1
    unfold Best
    omega
/-- what the network is before it is filled -/
theorem netok.FI {σ : Sg} (h : scok σ) {Ω : Mem} (hn : netok σ (gt Ω 4) (gt Ω 5) (gt Ω 6) (gt Ω 7)) (h3 : gt Ω 3 0 = (sdots σ : Int)) : FI (sdots σ) (gt Ω 6) (fun S => cst σ S + 1000000 * cnb σ S) 0 Ω ∧ cst σ (fun _ => false) + 1000000 * cnb σ (fun _ => false) ≤ 1000000000 := by
  have hN := sdots_le h
  refine ⟨⟨fun v hv => ?_, fun v hv => ?_, fun e he h0 => ?_, rfl, h3, fun S => by rw [net_rc h hn S, Int.add_zero]⟩, ?_⟩
  · rw [hn.1 v hv]
    have := sPl_b h (a := v) (t := 4) (by omega) (Or.inr rfl)
    split <;> omega
  · rw [hn.2.1 v hv]
    have := sPl_b h (a := v) (t := 3) (by omega) (Or.inl rfl)
    split <;> omega
  · have hg := (hn.grph h).at he h0
    rw [hn.2.2.2 e he h0, hn.2.2.2 _ hg.2.1 (by rw [hg.2.2.1]; omega)]
    have a1 := nbP_at h he
    have a2 := nbP_at h hg.2.1
    rw [← hn.2.2.1 _ he] at a1
    rw [← hn.2.2.1 _ hg.2.1] at a2
    rcases a1 with q | ⟨o, -, -, -, -, q1, q2⟩
    · omega
    · rcases a2 with p | ⟨o2, -, -, -, -, p1, p2⟩
      · rw [hg.2.2.1] at p; omega
      · omega
  · have := cst_b h (fun _ => false)
    have := sm_bd (f := bad σ (fun _ => false)) (a := 0) (b := 1) (n := sdots σ) (fun v _ => bad_b σ _ v)
    unfold cnb
    omega
