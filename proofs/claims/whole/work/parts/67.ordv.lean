/-! ===== what an order that stands holds ===== -/
theorem seqB_true {A : Bool × Ps} {g : Ps → Bool × Ps} (h : (seqB A g).1 = true) : A.1 = true ∧ (g A.2).1 = true ∧ seqB A g = g A.2 := by
  unfold seqB at *
  by_cases c : A.1 = true
  · rw [if_pos c] at h ⊢; exact ⟨c, h, rfl⟩
  · rw [if_neg c] at h; exact absurd h c
theorem rF_true {T : Nat → Int} {L : Nat} {a b : Int} {s : Ps} (h : (rF T L a b s).1 = true) : ∃ (v : Int) (p : Nat), a ≤ v ∧ v ≤ b ∧ (rF T L a b s).2 = (p, s.2.1 + 1, fup s.2.2 s.2.1 v) := by
  unfold rF at *
  by_cases c : a ≤ sg T L s.1 - 48 ∧ sg T L s.1 - 48 ≤ b
  · rw [if_pos c]; exact ⟨_, _, c.1, c.2, rfl⟩
  · rw [if_neg c] at h; exact absurd h (by simp)
theorem rD_true {T : Nat → Int} {L : Nat} {x y : Int} {s : Ps} (h : (rD T L x y s).1 = true) : ∃ (u v : Int) (p : Nat), (0 ≤ u ∧ u < x) ∧ (0 ≤ v ∧ v < y) ∧ (rD T L x y s).2 = (p, s.2.1 + 2, fup (fup s.2.2 s.2.1 u) (s.2.1 + 1) v) := by
  unfold rD at *
  obtain ⟨h1, h2, h3⟩ := seqB_true h
  obtain ⟨u, p, a1, a2, a3⟩ := rF_true h1
  rw [a3] at h2
  obtain ⟨v, p2, b1, b2, b3⟩ := rF_true h2
  rw [h3, a3]
  exact ⟨u, v, p2, ⟨a1, by omega⟩, ⟨b1, by omega⟩, b3⟩
theorem rE_two (T : Nat → Int) (L : Nat) (s : Ps) : (rE T L s).2.2 = s.2 := by
  unfold rE
  split <;> rfl
def ordV (x y k : Int) (c : Nat) (f : Nat → Int) : Prop :=
  ((k = 102 ∨ k = 103 ∨ k = 110) ∧ (c = 2 ∨ c = 4) ∧ ((0 ≤ f 0 ∧ f 0 < x) ∧ (0 ≤ f 1 ∧ f 1 < y)) ∧ (c = 4 → (0 ≤ f 2 ∧ f 2 < x) ∧ (0 ≤ f 3 ∧ f 3 < y))) ∨
  (k = 115 ∧ c = 3 ∧ ((0 ≤ f 0 ∧ f 0 < x) ∧ (0 ≤ f 1 ∧ f 1 < y)) ∧ 0 ≤ f 2 ∧ f 2 ≤ 9) ∨
  (k = 108 ∧ c = 1 ∧ 1 ≤ f 0 ∧ f 0 ≤ 9)
theorem pO_ordV {T : Nat → Int} {L : Nat} {x y : Int} {p : Nat} {f : Nat → Int} (h : (pO T L x y p f).1 = true) : ordV x y (sg T L p) (pO T L x y p f).2.2.1 (pO T L x y p f).2.2.2 := by
  unfold pO at *
  by_cases c : sg T L p = 102 ∨ sg T L p = 103 ∨ sg T L p = 110 ∨ sg T L p = 115 ∨ sg T L p = 108
  · rw [if_pos c] at h ⊢
    unfold rO at *
    by_cases c1 : sg T L p = 102 ∨ sg T L p = 103 ∨ sg T L p = 110
    · rw [if_pos c1] at h ⊢
      obtain ⟨h1, h2, h3⟩ := seqB_true h
      rw [h3, rE_two]
      obtain ⟨g1, g2, g3⟩ := seqB_true h1
      rw [g3]
      obtain ⟨u, v, q, a1, a2, a3⟩ := rD_true g1
      rw [a3] at g2 ⊢
      left
      unfold rM at *
      by_cases c2 : sg T L (q, 0 + 2, fup (fup f 0 u) (0 + 1) v).1 = 59
      · rw [if_pos c2]
        refine ⟨c1, Or.inl rfl, ⟨?_, ?_⟩, fun q => absurd q (by show ¬ (0 + 2 = 4); omega)⟩
        · show 0 ≤ fup (fup f 0 u) (0 + 1) v 0 ∧ fup (fup f 0 u) (0 + 1) v 0 < x
          rw [fup_n _ _ (by omega), fup_s]; exact a1
        · show 0 ≤ fup (fup f 0 u) (0 + 1) v 1 ∧ fup (fup f 0 u) (0 + 1) v 1 < y
          rw [fup_s]; exact a2
      · rw [if_neg c2] at g2 ⊢
        obtain ⟨u2, v2, q2, b1, b2, b3⟩ := rD_true g2
        rw [b3]
        refine ⟨c1, Or.inr rfl, ⟨?_, ?_⟩, fun _ => ⟨?_, ?_⟩⟩
        · show 0 ≤ fup (fup (fup (fup f 0 u) (0 + 1) v) (0 + 2) u2) (0 + 2 + 1) v2 0 ∧ fup (fup (fup (fup f 0 u) (0 + 1) v) (0 + 2) u2) (0 + 2 + 1) v2 0 < x
          rw [fup_n _ _ (by omega), fup_n _ _ (by omega), fup_n _ _ (by omega), fup_s]; exact a1
        · show 0 ≤ fup (fup (fup (fup f 0 u) (0 + 1) v) (0 + 2) u2) (0 + 2 + 1) v2 1 ∧ fup (fup (fup (fup f 0 u) (0 + 1) v) (0 + 2) u2) (0 + 2 + 1) v2 1 < y
          rw [fup_n _ _ (by omega), fup_n _ _ (by omega), fup_s]; exact a2
        · show 0 ≤ fup (fup (fup (fup f 0 u) (0 + 1) v) (0 + 2) u2) (0 + 2 + 1) v2 2 ∧ fup (fup (fup (fup f 0 u) (0 + 1) v) (0 + 2) u2) (0 + 2 + 1) v2 2 < x
          rw [fup_n _ _ (by omega), fup_s]; exact b1
        · show 0 ≤ fup (fup (fup (fup f 0 u) (0 + 1) v) (0 + 2) u2) (0 + 2 + 1) v2 3 ∧ fup (fup (fup (fup f 0 u) (0 + 1) v) (0 + 2) u2) (0 + 2 + 1) v2 3 < y
          rw [fup_s]; exact b2
    · rw [if_neg c1] at h ⊢
      by_cases c2 : sg T L p = 115
      · rw [if_pos c2] at h ⊢
        obtain ⟨h1, h2, h3⟩ := seqB_true h
        rw [h3, rE_two]
        obtain ⟨g1, g2, g3⟩ := seqB_true h1
        rw [g3]
        obtain ⟨u, v, q, a1, a2, a3⟩ := rD_true g1
        rw [a3] at g2 ⊢
        obtain ⟨z, q2, b1, b2, b3⟩ := rF_true g2
        rw [b3]
        right; left
        refine ⟨c2, rfl, ⟨?_, ?_⟩, ?_⟩
        · show 0 ≤ fup (fup (fup f 0 u) (0 + 1) v) (0 + 2) z 0 ∧ fup (fup (fup f 0 u) (0 + 1) v) (0 + 2) z 0 < x
          rw [fup_n _ _ (by omega), fup_n _ _ (by omega), fup_s]; exact a1
        · show 0 ≤ fup (fup (fup f 0 u) (0 + 1) v) (0 + 2) z 1 ∧ fup (fup (fup f 0 u) (0 + 1) v) (0 + 2) z 1 < y
          rw [fup_n _ _ (by omega), fup_s]; exact a2
        · show 0 ≤ fup (fup (fup f 0 u) (0 + 1) v) (0 + 2) z 2 ∧ fup (fup (fup f 0 u) (0 + 1) v) (0 + 2) z 2 ≤ 9
          rw [fup_s]; exact ⟨b1, b2⟩
      · rw [if_neg c2] at h ⊢
        have c3 : sg T L p = 108 := by omega
        rw [if_pos c3] at h ⊢
        obtain ⟨h1, h2, h3⟩ := seqB_true h
        rw [h3, rE_two]
        obtain ⟨z, q2, b1, b2, b3⟩ := rF_true h1
        rw [b3]
        right; right
        refine ⟨c3, rfl, ?_⟩
        show 1 ≤ fup f 0 z 0 ∧ fup f 0 z 0 ≤ 9
        rw [fup_s]; exact ⟨b1, b2⟩
  · rw [if_neg c] at h; exact absurd h (by simp)
/-- what an order does to the picture -/
noncomputable def obey (σ : Sg) (k : Int) (c : Nat) (f : Nat → Int) : Sg :=
  if k = 108 then (lrR (f 0).toNat σ).2
  else if k = 115 then sup σ (8 + nO σ (f 0) (f 1)) (f 2)
  else sfA σ (lineS σ (f 0) (f 1) (if c = 4 then f 2 else f 0) (if c = 4 then f 3 else f 1)) (if k = 102 then 1 else if k = 103 then 2 else 0) (sdots σ)
theorem obey_l {σ : Sg} {k : Int} {c : Nat} {f : Nat → Int} (h1 : k ≠ 108) (h2 : k ≠ 115) : obey σ k c f = sfA σ (lineS σ (f 0) (f 1) (if c = 4 then f 2 else f 0) (if c = 4 then f 3 else f 1)) (if k = 102 then 1 else if k = 103 then 2 else 0) (sdots σ) := by
  unfold obey; rw [if_neg h1, if_neg h2]
theorem obey_cong {x y k : Int} {c : Nat} {f g : Nat → Int} (σ : Sg) (h : ordV x y k c f) (e : ∀ j, j < c → f j = g j) : obey σ k c f = obey σ k c g ∧ ordV x y k c g := by
  rcases h with ⟨h1, h2, h3, h4⟩ | ⟨h1, h2, h3, h4⟩ | ⟨h1, h2, h3⟩
  · have e0 := e 0 (by omega)
    have e1 := e 1 (by omega)
    by_cases c4 : c = 4
    · have e2 := e 2 (by omega)
      have e3 := e 3 (by omega)
      refine ⟨?_, Or.inl ⟨h1, h2, by rw [← e0, ← e1]; exact h3, by rw [← e2, ← e3]; exact h4⟩⟩
      rw [obey_l (by omega) (by omega), obey_l (by omega) (by omega), e0, e1, e2, e3]
    · refine ⟨?_, Or.inl ⟨h1, h2, by rw [← e0, ← e1]; exact h3, fun q => absurd q c4⟩⟩
      rw [obey_l (by omega) (by omega), obey_l (by omega) (by omega), if_neg c4, if_neg c4, if_neg c4, if_neg c4, e0, e1]
  · have e0 := e 0 (by omega)
    have e1 := e 1 (by omega)
    have e2 := e 2 (by omega)
    refine ⟨?_, Or.inr (Or.inl ⟨h1, h2, by rw [← e0, ← e1]; exact h3, by rw [← e2]; exact h4⟩)⟩
    unfold obey
    rw [if_neg (by omega), if_pos h1, if_neg (by omega), if_pos h1, e0, e1, e2]
  · have e0 := e 0 (by omega)
    refine ⟨?_, Or.inr (Or.inr ⟨h1, h2, by rw [← e0]; exact h3⟩)⟩
    unfold obey
    rw [if_pos h1, if_pos h1, e0]
theorem lrR_keep {P : Sg → Prop} (hP : ∀ σ x, P σ → P (lrn σ x)) : ∀ (n : Nat) (σ : Sg), P σ → P (lrR n σ).2
  | 0, σ, h => h
  | n + 1, σ, h => by
    rw [lrR]
    split
    · exact lrR_keep hP n _ (hP σ _ h)
    · exact hP σ _ h
theorem obey_ok {σ : Sg} (h : scok σ) {k : Int} {c : Nat} {f : Nat → Int} (ho : ordV (σ 0) (σ 1) k c f) : scok (obey σ k c f) ∧ obey σ k c f 0 = σ 0 ∧ obey σ k c f 1 = σ 1 := by
  unfold obey
  by_cases c1 : k = 108
  · rw [if_pos c1]
    refine ⟨lrR_keep (P := scok) (fun σ x h => lrn_ok h x) _ _ h, lrR_keep (P := fun τ => τ 0 = σ 0) (fun τ x e => ?_) _ _ rfl, lrR_keep (P := fun τ => τ 1 = σ 1) (fun τ x e => ?_) _ _ rfl⟩
    · rw [← e]; rfl
    · rw [← e]; rfl
  · rw [if_neg c1]
    by_cases c2 : k = 115
    · rw [if_pos c2]
      rcases ho with ⟨h1, -⟩ | ⟨h1, h2, h3, h4⟩ | ⟨h1, -⟩
      · omega
      · have hn := nO_lt h (x := f 0) (y := f 1) ⟨h3.1.1, h3.1.2, h3.2.1, h3.2.2⟩
        have hN := sdots_le h
        exact ⟨scok_sh h (by omega) h4.1 h4.2, if_neg (by omega), if_neg (by omega)⟩
      · omega
    · rw [if_neg c2]
      refine ⟨scok_sfA h _ _ ?_ ?_, (by unfold sfA sfG; exact if_neg (by omega)), (by unfold sfA sfG; exact if_neg (by omega))⟩
      · split
        · omega
        · split <;> omega
      · split
        · omega
        · split <;> omega
/-- all orders done, one after the other -/
noncomputable def doS (T : Nat → Int) (L : Nat) : Nat → Nat → Sg → Sg
  | 0, _, σ => σ
  | n + 1, p, σ => doS T L n (qO T L (σ 0) (σ 1) p).2.1 (obey σ (sg T L p) (qO T L (σ 0) (σ 1) p).2.2.1 (qO T L (σ 0) (σ 1) p).2.2.2)
noncomputable def aDoes (a : As) : Int × As := match pA a.2.2.2.2 a.2.2.2.1 (a.1 0) (a.1 1) 101 0 0 with
  | (some p, _) => (-10 - (p : Int), a)
  | (none, n) => ((n : Int), aSet (aRem a) (doS a.2.2.2.2 a.2.2.2.1 n 0 a.1))
theorem pA_go {T : Nat → Int} {L : Nat} {x y : Int} {k p i n : Nat} (h : pA T L x y k p i = (none, n)) (hi : i < n) : ∃ j, k = j + 1 ∧ (qO T L x y p).1 = true ∧ pA T L x y j (qO T L x y p).2.1 (i + 1) = (none, n) := by
  cases k with
  | zero => rw [pA] at h; exact absurd (congrArg Prod.fst h) (by simp)
  | succ j =>
    refine ⟨j, rfl, ?_⟩
    rw [pA] at h
    by_cases c : 0 < i ∧ sg T L p = -1
    · rw [if_pos c] at h
      have := congrArg Prod.snd h
      have : i = n := this
      omega
    · rw [if_neg c] at h
      by_cases c2 : (qO T L x y p).1 = true
      · rw [if_pos c2] at h; exact ⟨c2, h⟩
      · rw [if_neg c2] at h; exact absurd (congrArg Prod.fst h) (by simp)
theorem pA_n {T : Nat → Int} {L : Nat} {x y : Int} : ∀ {k p i n : Nat} {o : Option Nat}, pA T L x y k p i = (o, n) → i ≤ n ∧ n ≤ i + k
  | 0, p, i, n, o, h => by
    rw [pA] at h
    have : i = n := congrArg Prod.snd h
    omega
  | k + 1, p, i, n, o, h => by
    rw [pA] at h
    by_cases c : 0 < i ∧ sg T L p = -1
    · rw [if_pos c] at h
      have : i = n := congrArg Prod.snd h
      omega
    · rw [if_neg c] at h
      by_cases c2 : (qO T L x y p).1 = true
      · rw [if_pos c2] at h
        have := pA_n h
        omega
      · rw [if_neg c2] at h
        have : i = n := congrArg Prod.snd h
        omega
/-! ===== longs as integers, where they are small ===== -/
def lnI (a : Int) : Int64 := Int64.ofInt a
theorem lnI_i2l {a : Int} (h : zb a) : (zI a).toInt64 = lnI a := Int32.toInt64_ofInt (by have := h.1; exact this) (by have := h.2; exact this)
theorem lnI_l2i (a : Int) : (lnI a).toInt32 = zI a := Int64.toInt32_ofInt
theorem lnI_div {a b : Int} (h0 : 0 ≤ a) (h1 : a ≤ 9223372036854775807) (hb0 : 0 ≤ b) (hb1 : b ≤ 9223372036854775807) : lnI a / lnI b = lnI (a / b) := by
  unfold lnI
  rw [← Int64.ofInt_tdiv (by show -9223372036854775808 ≤ a; omega) (by show a ≤ 9223372036854775807; omega) (by show -9223372036854775808 ≤ b; omega) (by show b ≤ 9223372036854775807; omega), Int.tdiv_eq_ediv_of_nonneg h0]
theorem lnI_rem {a b : Int} (h0 : 0 ≤ a) (h1 : a ≤ 9223372036854775807) (hb0 : 0 ≤ b) (hb1 : b ≤ 9223372036854775807) : lnI a - lnI a / lnI b * lnI b = lnI (a % b) := by
  rw [lnI_div h0 h1 hb0 hb1]
  unfold lnI
  rw [← Int64.ofInt_mul, ← Int64.ofInt_sub]
  congr 1
  have := Int.emod_add_mul_ediv a b
  rw [Int.mul_comm] at this
  omega
def drI (s : Int) : Nat → Int
  | 0 => s
  | k + 1 => (drI s k * 1103515245 + 12345) % 2147483648
def drv (s n : Int) (k : Nat) : Int := drI s (k + 1) / 65536 % n
theorem drI_b {s : Int} (h : 0 ≤ s) (h1 : s ≤ 999999) : ∀ k, 0 ≤ drI s k ∧ drI s k < 2147483648
  | 0 => by show 0 ≤ s ∧ s < 2147483648; omega
  | k + 1 => by
    show 0 ≤ (drI s k * 1103515245 + 12345) % 2147483648 ∧ (drI s k * 1103515245 + 12345) % 2147483648 < 2147483648
    omega
theorem dr_step {d : Int} (h : 0 ≤ d) (h1 : d < 2147483648) : (lnI d * 1103515245 + 12345) - (lnI d * 1103515245 + 12345) / 2147483648 * 2147483648 = lnI ((d * 1103515245 + 12345) % 2147483648) := by
  rw [← lnI_rem (by omega) (by omega) (by omega) (by omega)]
  unfold lnI
  rw [Int64.ofInt_add, Int64.ofInt_mul]
  rfl
theorem dr_nz {n : Int} (h : 1 ≤ n) (h1 : n ≤ 10) : ¬ (zI n).toInt64 = 0 := by
  rw [lnI_i2l ⟨by omega, by omega⟩]
  intro e
  have := congrArg Int64.toInt e
  unfold lnI at this
  rw [Int64.toInt_ofInt_of_le (by omega) (by omega)] at this
  have e0 : (0 : Int64).toInt = 0 := rfl
  omega
theorem dr_val {d n : Int} (h : 0 ≤ d) (h1 : d < 2147483648) (hn : 1 ≤ n) (hn1 : n ≤ 10) : (lnI d / 65536 - lnI d / 65536 / (zI n).toInt64 * (zI n).toInt64).toInt32 = zI (d / 65536 % n) := by
  rw [lnI_i2l ⟨by omega, by omega⟩, show (65536 : Int64) = lnI 65536 from rfl, lnI_div (by omega) (by omega) (by omega) (by omega), lnI_rem (by omega) (by omega) (by omega) (by omega), lnI_l2i]
theorem drv_b {s n : Int} (h : 0 ≤ s) (h1 : s ≤ 999999) (hn : 1 ≤ n) (hn1 : n ≤ 10) (k : Nat) : 0 ≤ drv s n k ∧ drv s n k ≤ 9 := by
  have := drI_b h h1 (k + 1)
  unfold drv
  have a1 := Int.emod_nonneg (drI s (k + 1) / 65536) (show n ≠ 0 by omega)
  have a2 := Int.emod_lt_of_pos (drI s (k + 1) / 65536) (show 0 < n by omega)
  omega
def sfD (σ : Sg) (f : Nat → Int) (n : Nat) : Sg := fun i => if 8 ≤ i ∧ i < 8 + n then f (i - 8) else σ i
theorem sfD_0 (σ : Sg) (f : Nat → Int) : sfD σ f 0 = σ := by funext i; exact if_neg (by omega)
theorem sfD_s (σ : Sg) (f : Nat → Int) (n : Nat) : sup (sfD σ f n) (8 + n) (f n) = sfD σ f (n + 1) := by
  funext i
  unfold sup sfD
  by_cases h : i = 8 + n
  · subst h; rw [if_pos rfl, if_pos (by omega), Nat.add_sub_cancel_left]
  · rw [if_neg h]
    by_cases h2 : 8 ≤ i ∧ i < 8 + n
    · rw [if_pos h2, if_pos (by omega)]
    · rw [if_neg h2, if_neg (by omega)]
theorem sfD_ok {σ : Sg} (h : scok σ) {f : Nat → Int} (hf : ∀ k, 0 ≤ f k ∧ f k ≤ 9) {n : Nat} (hn : n ≤ 36) : scok (sfD σ f n) := by
  obtain ⟨a0, a1, a2, a3, a4, a5, a6, a7, a8, a9⟩ := h
  have e : ∀ i, i < 8 ∨ 44 ≤ i → sfD σ f n i = σ i := fun i hi => if_neg (by omega)
  refine ⟨by rw [e 0 (by omega)]; exact a0, by rw [e 1 (by omega)]; exact a1, by rw [e 2 (by omega)]; exact a2, by rw [e 3 (by omega)]; exact a3, by rw [e 4 (by omega)]; exact a4, by rw [e 5 (by omega)]; exact a5, by rw [e 6 (by omega)]; exact a6, by rw [e 7 (by omega)]; exact a7, fun k hk => ?_, fun k hk => ?_⟩
  · unfold sfD
    split
    · exact hf _
    · exact a8 k hk
  · rw [e _ (by omega)]; exact a9 k hk
def aDraws (a : As) (s n : Int) : Int × As := if (0 ≤ s ∧ s ≤ 999999) ∧ (1 ≤ n ∧ n ≤ 10) then (sm (drv s n) (sdots a.1), aSet (aRem a) (sfD a.1 (drv s n) (sdots a.1))) else (-2, aInc a 0)
def dgf (f : Nat → Int) : Nat → Int64
  | 0 => 1744
  | k + 1 => 31 * dgf f k + (zI (f k)).toInt64
def dgs (σ : Sg) (h : Int64) : Nat → Int64
  | 0 => h
  | k + 1 => 31 * (31 * dgs σ h k + (zI (σ (8 + k))).toInt64) + (zI (σ (44 + k))).toInt64
noncomputable def aDigest (a : As) : Int64 × As := (31 * (31 * (31 * dgs a.1 (dgf (fun k => toldV a (k : Int)) 13) (sdots a.1) + (zI (lcV a.1)).toInt64) + loS a.1) + hiS a.1, a)
