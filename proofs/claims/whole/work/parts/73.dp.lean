/-! ===== the least cost, dot after dot ===== -/
/-- what the links from earlier dots cost at a dot -/
def bW (σ : Sg) (ω : Nat → Nat → Int) (S : Nat → Bool) (u d : Nat) : Int := if bk σ u d ≠ -1 ∧ S (bk σ u d).toNat ≠ S u then ω (bk σ u d).toNat d else 0
def aV (σ : Sg) (ω : Nat → Nat → Int) (S : Nat → Bool) (u : Nat) : Int := sPl σ u (if S u = true then 3 else 4) + sm (bW σ ω S u) 4
def gT (σ : Sg) (ω : Nat → Nat → Int) (S : Nat → Bool) (t e : Nat) : Int := if (bk σ (e / 4) (e % 4) ≠ -1 ∧ 4 * (bk σ (e / 4) (e % 4)).toNat + e % 4 < t) ∧ S (bk σ (e / 4) (e % 4)).toNat ≠ S (e / 4) then ω (bk σ (e / 4) (e % 4)).toNat (e % 4) else 0
theorem gT_sum {σ : Sg} (h : scok σ) (ω : Nat → Nat → Int) (S : Nat → Bool) : ∀ t, t ≤ 4 * sdots σ → sm (gT σ ω S t) (4 * sdots σ) = sm (fun t => lW σ ω S (t / 4) (t % 4)) t
  | 0, _ => by
    rw [sm_z (fun e _ => by unfold gT; rw [if_neg (by omega)])]
    rfl
  | t + 1, ht => by
    have ih := gT_sum h ω S t (by omega)
    rw [sm_s, ← ih]
    have hv : t / 4 < sdots σ := by omega
    have hd : t % 4 < 4 := by omega
    have et : 4 * (t / 4) + t % 4 = t := by omega
    by_cases b : lk σ (t / 4) (t % 4) = -1
    · rw [show lW σ ω S (t / 4) (t % 4) = 0 by unfold lW; rw [if_neg (fun q => q.1 b)], Int.add_zero]
      apply sm_cong
      intro e he
      unfold gT
      by_cases c : bk σ (e / 4) (e % 4) = -1
      · rw [if_neg (fun q => q.1.1 c), if_neg (fun q => q.1.1 c)]
      · obtain ⟨u, g1, g2, g3, -⟩ := bk_inv h (show e / 4 < sdots σ by omega) (show e % 4 < 4 by omega) c
        rw [g1, Int.toNat_natCast]
        by_cases q : 4 * u + e % 4 = t
        · have e1 : u = t / 4 := by omega
          have e2 : e % 4 = t % 4 := by omega
          rw [e1, e2, b] at g3
          omega
        · by_cases q2 : 4 * u + e % 4 < t
          · by_cases q3 : S u = S (e / 4)
            · rw [if_neg (fun z => z.2 q3), if_neg (fun z => z.2 q3)]
            · rw [if_pos ⟨⟨by omega, by omega⟩, q3⟩, if_pos ⟨⟨by omega, by omega⟩, q3⟩]
          · rw [if_neg (fun z => by omega), if_neg (fun z => by omega)]
    · obtain ⟨o, g1, g2, g3, g4⟩ := lk_inv h hv hd b
      have e0 : (4 * o + t % 4) / 4 = o := by omega
      have e1 : (4 * o + t % 4) % 4 = t % 4 := by omega
      have s1 := sm_one (f := gT σ ω S t) (f1 := gT σ ω S (t + 1)) (k := 4 * o + t % 4) (n := 4 * sdots σ) (by omega) (fun e he hne => by
        unfold gT
        by_cases c : bk σ (e / 4) (e % 4) = -1
        · rw [if_neg (fun q => q.1.1 c), if_neg (fun q => q.1.1 c)]
        · obtain ⟨u, k1, k2, k3, -⟩ := bk_inv h (show e / 4 < sdots σ by omega) (show e % 4 < 4 by omega) c
          rw [k1, Int.toNat_natCast]
          by_cases q : 4 * u + e % 4 = t
          · have e1 : u = t / 4 := by omega
            have e2 : e % 4 = t % 4 := by omega
            rw [e1, e2, g1] at k3
            omega
          · by_cases q2 : 4 * u + e % 4 < t
            · by_cases q3 : S u = S (e / 4)
              · rw [if_neg (fun z => z.2 q3), if_neg (fun z => z.2 q3)]
              · rw [if_pos ⟨⟨by omega, by omega⟩, q3⟩, if_pos ⟨⟨by omega, by omega⟩, q3⟩]
            · rw [if_neg (fun z => by omega), if_neg (fun z => by omega)])
      have z1 : gT σ ω S t (4 * o + t % 4) = 0 := by
        unfold gT
        rw [e0, e1, g3, Int.toNat_natCast]
        exact if_neg (fun z => by omega)
      have z2 : gT σ ω S (t + 1) (4 * o + t % 4) = lW σ ω S (t / 4) (t % 4) := by
        unfold gT lW
        rw [e0, e1, g3, g1, Int.toNat_natCast, Int.toNat_natCast]
        by_cases q3 : S (t / 4) = S o
        · rw [if_neg (fun z => z.2 q3), if_neg (fun z => z.2 q3)]
        · rw [if_pos ⟨⟨by omega, by omega⟩, q3⟩, if_pos ⟨by omega, q3⟩]
      rw [s1, z1, z2]
      omega
/-- costs by the later dots are costs by the earlier ones -/
theorem aV_sum {σ : Sg} (h : scok σ) (ω : Nat → Nat → Int) (S : Nat → Bool) : sm (aV σ ω S) (sdots σ) = cW σ ω S := by
  have e := gT_sum h ω S _ (Nat.le_refl (4 * sdots σ))
  rw [sm_4, sm_4] at e
  have e1 : sm (fun v => sm (fun d => gT σ ω S (4 * sdots σ) (4 * v + d)) 4) (sdots σ) = sm (fun v => sm (bW σ ω S v) 4) (sdots σ) := by
    apply sm_cong
    intro v hv
    apply sm_cong
    intro d hd
    unfold gT bW
    rw [show (4 * v + d) / 4 = v by omega, show (4 * v + d) % 4 = d by omega]
    by_cases c : bk σ v d = -1
    · rw [if_neg (fun q => q.1.1 c), if_neg (fun q => q.1 c)]
    · obtain ⟨u, k1, k2, k3, -⟩ := bk_inv h hv hd c
      rw [k1, Int.toNat_natCast]
      by_cases q3 : S u = S v
      · rw [if_neg (fun z => z.2 q3), if_neg (fun z => z.2 q3)]
      · rw [if_pos ⟨⟨by omega, by omega⟩, q3⟩, if_pos ⟨by omega, q3⟩]
  have e2 : sm (fun v => sm (fun d => lW σ ω S ((4 * v + d) / 4) ((4 * v + d) % 4)) 4) (sdots σ) = sm (fun v => sm (lW σ ω S v) 4) (sdots σ) := by
    apply sm_cong
    intro v hv
    apply sm_cong
    intro d hd
    rw [show (4 * v + d) / 4 = v by omega, show (4 * v + d) % 4 = d by omega]
  rw [e1, e2] at e
  unfold cW
  have a1 : sm (aV σ ω S) (sdots σ) = sm (fun v => sPl σ v (if S v = true then 3 else 4)) (sdots σ) + sm (fun v => sm (bW σ ω S v) 4) (sdots σ) := by
    rw [← sm_add]; rfl
  have a2 : sm (cWV σ ω S) (sdots σ) = sm (fun v => sPl σ v (if S v = true then 3 else 4)) (sdots σ) + sm (fun v => sm (lW σ ω S v) 4) (sdots σ) := by
    rw [← sm_add]; rfl
  rw [a1, a2, e]
/-- the latest dots, as a number -/
def cod (M : Nat) (S : Nat → Bool) : Nat → Nat
  | 0 => 0
  | v + 1 => (2 * cod M S v + (if S v = true then 1 else 0)) % M
theorem cod_lt {M : Nat} (h : 0 < M) (S : Nat → Bool) : ∀ v, cod M S v < M
  | 0 => h
  | v + 1 => Nat.mod_lt _ h
theorem cod_cong {M : Nat} {S T : Nat → Bool} : ∀ {v : Nat}, (∀ u, u < v → S u = T u) → cod M S v = cod M T v
  | 0, _ => rfl
  | v + 1, h => by rw [cod, cod, cod_cong (fun u hu => h u (by omega)), h v (by omega)]
theorem cod_bit (n : Nat) (S : Nat → Bool) : ∀ (v t : Nat), t < n → t < v → (cod (2 ^ n) S v).testBit t = S (v - 1 - t)
  | 0, t, _, h => by omega
  | v + 1, 0, hn, _ => by
    rw [cod, Nat.testBit_mod_two_pow, Nat.testBit_zero, show v + 1 - 1 - 0 = v by omega]
    cases c : S v
    · simp
    · simp [hn]
  | v + 1, t + 1, hn, hv => by
    rw [cod, Nat.testBit_mod_two_pow, Nat.testBit_succ, show v + 1 - 1 - (t + 1) = v - 1 - t by omega, ← cod_bit n S v t (by omega) (by omega)]
    rw [show (2 * cod (2 ^ n) S v + if S v = true then 1 else 0) / 2 = cod (2 ^ n) S v by split <;> omega]
    simp [hn]
/-- earlier neighbours, by their numbers -/
theorem bk_eq {σ : Sg} (h : scok σ) {v : Nat} (hv : v < sdots σ) :
    (bk σ v 0 = if 0 < v % sw σ then ((v - 1 : Nat) : Int) else -1) ∧
    (bk σ v 1 = if sw σ ≤ v then ((v - sw σ : Nat) : Int) else -1) ∧
    (bk σ v 2 = if (sw σ ≤ v ∧ σ 7 = 8) ∧ 0 < v % sw σ then ((v - sw σ - 1 : Nat) : Int) else -1) ∧
    (bk σ v 3 = if (sw σ ≤ v ∧ σ 7 = 8) ∧ v % sw σ < sw σ - 1 then ((v - sw σ + 1 : Nat) : Int) else -1) := by
  obtain ⟨h1, h2, h3⟩ := dot_xy h hv
  have hW := sw_eq h
  have hH := sh_eq h
  generalize hx : v % sw σ = x at *
  generalize hy : v / sw σ = y at *
  have hge : sw σ ≤ v ↔ 1 ≤ y := by
    constructor
    · intro q
      have : y ≠ 0 := fun e => by subst e; rw [Nat.mul_zero] at h3; omega
      omega
    · intro q
      have := Nat.mul_le_mul_left (sw σ) q
      omega
  have hxy := sw_num h x y
  rw [h3] at hxy
  have hm : σ 0 * ((y : Int) - 1) = σ 0 * (y : Int) - σ 0 := by rw [Int.mul_sub, Int.mul_one]
  have hpos : 1 ≤ y → σ 0 ≤ σ 0 * (y : Int) := fun q => by
    have := Int.mul_le_mul_of_nonneg_left (show (1 : Int) ≤ y by omega) (show 0 ≤ σ 0 by omega)
    rw [Int.mul_one] at this
    exact this
  have l0 : lkX 0 = 1 ∧ lkY 0 = 0 := ⟨rfl, rfl⟩
  have l1 : lkX 1 = 0 ∧ lkY 1 = 1 := ⟨rfl, rfl⟩
  have l2 : lkX 2 = 1 ∧ lkY 2 = 1 := ⟨rfl, rfl⟩
  have l3 : lkX 3 = -1 ∧ lkY 3 = 1 := ⟨rfl, rfl⟩
  unfold bk bLk
  rw [hx, hy, l0.1, l0.2, l1.1, l1.2, l2.1, l2.2, l3.1, l3.2]
  refine ⟨?_, ?_, ?_, ?_⟩
  · rw [if_neg (by omega)]
    by_cases c : 0 < x
    · rw [if_pos (by omega), if_pos c, Int.sub_zero]; omega
    · rw [if_neg (by omega), if_neg c]
  · rw [if_neg (by omega)]
    by_cases c : 1 ≤ y
    · rw [if_pos (by omega), if_pos (by omega), hm]; omega
    · rw [if_neg (by omega), if_neg (by omega)]
  · by_cases c0 : σ 7 = 8
    · rw [if_neg (fun q => q.2 c0)]
      by_cases c : 1 ≤ y ∧ 0 < x
      · have hp1 := hpos c.1
        rw [if_pos (by omega), if_pos (by omega), hm]; omega
      · rw [if_neg (by omega), if_neg (by omega)]
    · rw [if_pos ⟨by omega, c0⟩, if_neg (fun q => c0 q.1.2)]
  · by_cases c0 : σ 7 = 8
    · rw [if_neg (fun q => q.2 c0)]
      by_cases c : 1 ≤ y ∧ x < sw σ - 1
      · rw [if_pos (by omega), if_pos (by omega), hm]; omega
      · rw [if_neg (by omega), if_neg (by omega)]
    · rw [if_pos ⟨by omega, c0⟩, if_neg (fun q => c0 q.1.2)]
/-- what a dot adds, the latest ones as a number says -/
def bit1 (k t : Nat) : Nat := k / 2 ^ t % 2
def cut1 (ω : Nat → Nat → Int) (i k u d t : Nat) : Int := if bit1 k t = i then 0 else ω u d
def addV (σ : Sg) (ω : Nat → Nat → Int) (v i k : Nat) : Int :=
  sPl σ v (if i = 1 then 3 else 4) + (if 0 < v % sw σ then cut1 ω i k (v - 1) 0 0 else 0) + (if sw σ ≤ v then cut1 ω i k (v - sw σ) 1 (sw σ - 1) else 0) +
  (if (sw σ ≤ v ∧ σ 7 = 8) ∧ 0 < v % sw σ then cut1 ω i k (v - sw σ - 1) 2 (sw σ) else 0) + (if (sw σ ≤ v ∧ σ 7 = 8) ∧ v % sw σ < sw σ - 1 then cut1 ω i k (v - sw σ + 1) 3 (sw σ - 2) else 0)
def b01 (b : Bool) : Nat := if b = true then 1 else 0
theorem bit1_cod {n : Nat} {S : Nat → Bool} {v t : Nat} (h : t < n) (h2 : t < v) : bit1 (cod (2 ^ n) S v) t = b01 (S (v - 1 - t)) := by
  have e := cod_bit n S v t h h2
  rw [Nat.testBit_eq_decide_div_mod_eq] at e
  unfold bit1 b01
  cases c : S (v - 1 - t)
  · rw [c] at e
    have := of_decide_eq_false e
    simp; omega
  · rw [c] at e
    have := of_decide_eq_true e
    simp; exact this
theorem b01_eq {a b : Bool} : b01 a = b01 b ↔ a = b := by cases a <;> cases b <;> simp [b01]
theorem addV_cod {σ : Sg} (h : scok σ) (ω : Nat → Nat → Int) (S : Nat → Bool) {v : Nat} (hv : v < sdots σ) : addV σ ω v (b01 (S v)) (cod (2 ^ (sw σ + 1)) S v) = aV σ ω S v := by
  obtain ⟨k0, k1, k2, k3⟩ := bk_eq h hv
  obtain ⟨h1, h2, h3⟩ := dot_xy h hv
  have hW := sw_eq h
  have hxv : v % sw σ ≤ v := Nat.mod_le _ _
  have hp : (if b01 (S v) = 1 then 3 else 4) = if S v = true then 3 else 4 := by cases S v <;> rfl
  have hc : ∀ (u d t : Nat), t < sw σ + 1 → t < v → u = v - 1 - t → cut1 ω (b01 (S v)) (cod (2 ^ (sw σ + 1)) S v) u d t = if S u ≠ S v then ω u d else 0 := fun u d t a b e => by
    unfold cut1
    rw [bit1_cod a b, ← e]
    by_cases q : S u = S v
    · rw [if_pos (b01_eq.mpr q), if_neg (fun z => z q)]
    · rw [if_neg (fun z => q (b01_eq.mp z)), if_pos q]
  have e0 : (if 0 < v % sw σ then cut1 ω (b01 (S v)) (cod (2 ^ (sw σ + 1)) S v) (v - 1) 0 0 else 0) = bW σ ω S v 0 := by
    unfold bW
    rw [k0]
    by_cases c : 0 < v % sw σ
    · rw [if_pos c, if_pos c, hc _ _ _ (by omega) (by omega) (by omega), Int.toNat_natCast]
      have : ((v - 1 : Nat) : Int) ≠ -1 := by omega
      simp only [this, ne_eq, not_false_iff, true_and]
    · rw [if_neg c, if_neg c, if_neg (fun q => q.1 rfl)]
  have e1 : (if sw σ ≤ v then cut1 ω (b01 (S v)) (cod (2 ^ (sw σ + 1)) S v) (v - sw σ) 1 (sw σ - 1) else 0) = bW σ ω S v 1 := by
    unfold bW
    rw [k1]
    by_cases c : sw σ ≤ v
    · rw [if_pos c, if_pos c, hc _ _ _ (by omega) (by omega) (by omega), Int.toNat_natCast]
      have : ((v - sw σ : Nat) : Int) ≠ -1 := by omega
      simp only [this, ne_eq, not_false_iff, true_and]
    · rw [if_neg c, if_neg c, if_neg (fun q => q.1 rfl)]
  have e2 : (if (sw σ ≤ v ∧ σ 7 = 8) ∧ 0 < v % sw σ then cut1 ω (b01 (S v)) (cod (2 ^ (sw σ + 1)) S v) (v - sw σ - 1) 2 (sw σ) else 0) = bW σ ω S v 2 := by
    unfold bW
    rw [k2]
    by_cases c : (sw σ ≤ v ∧ σ 7 = 8) ∧ 0 < v % sw σ
    · have hlt : sw σ < v := by
        rcases Nat.lt_or_eq_of_le c.1.1 with q | q
        · exact q
        · rw [← q, Nat.mod_self] at c; omega
      rw [if_pos c, if_pos c, hc _ _ _ (by omega) (by omega) (by omega), Int.toNat_natCast]
      have : ((v - sw σ - 1 : Nat) : Int) ≠ -1 := by omega
      simp only [this, ne_eq, not_false_iff, true_and]
    · rw [if_neg c, if_neg c, if_neg (fun q => q.1 rfl)]
  have e3 : (if (sw σ ≤ v ∧ σ 7 = 8) ∧ v % sw σ < sw σ - 1 then cut1 ω (b01 (S v)) (cod (2 ^ (sw σ + 1)) S v) (v - sw σ + 1) 3 (sw σ - 2) else 0) = bW σ ω S v 3 := by
    unfold bW
    rw [k3]
    by_cases c : (sw σ ≤ v ∧ σ 7 = 8) ∧ v % sw σ < sw σ - 1
    · rw [if_pos c, if_pos c, hc _ _ _ (by omega) (by omega) (by omega), Int.toNat_natCast]
      have : ((v - sw σ + 1 : Nat) : Int) ≠ -1 := by omega
      simp only [this, ne_eq, not_false_iff, true_and]
    · rw [if_neg c, if_neg c, if_neg (fun q => q.1 rfl)]
  unfold addV aV
  rw [hp, e0, e1, e2, e3]
  simp only [sm, Int.zero_add]
  omega
/-! the tables -/
def hok (H : Nat → Int) (S : Nat → Bool) (n : Nat) : Prop := ∀ u, u < n → H u ≠ (if S u = true then 2 else 1)
theorem hok_cong {H : Nat → Int} {S T : Nat → Bool} {n : Nat} (h : ∀ u, u < n → S u = T u) (hS : hok H S n) : hok H T n := fun u hu => by rw [← h u hu]; exact hS u hu
/-- the cost of the first dots -/
def dC (σ : Sg) (ω : Nat → Nat → Int) (S : Nat → Bool) (n : Nat) : Int := sm (aV σ ω S) n
theorem aV_cong {σ : Sg} (h : scok σ) (ω : Nat → Nat → Int) {S T : Nat → Bool} {v : Nat} (hv : v < sdots σ) (e : ∀ u, u ≤ v → S u = T u) : aV σ ω S v = aV σ ω T v := by
  rw [← addV_cod h ω S hv, ← addV_cod h ω T hv, e v (Nat.le_refl v), cod_cong (fun u hu => e u (by omega))]
theorem dC_cong {σ : Sg} (h : scok σ) (ω : Nat → Nat → Int) {S T : Nat → Bool} {n : Nat} (hn : n ≤ sdots σ) (e : ∀ u, u < n → S u = T u) : dC σ ω S n = dC σ ω T n :=
  sm_cong (fun v hv => aV_cong h ω (by omega) (fun u hu => e u (by omega)))
/-- a table after n dots -/
def tab (σ : Sg) (ω : Nat → Nat → Int) (H : Nat → Int) (n : Nat) (f : Nat → Int) : Prop := ∀ k, k < 2 ^ (sw σ + 1) → f k ≤ 1000000 ∧ (∀ S, hok H S n → cod (2 ^ (sw σ + 1)) S n = k → f k ≤ dC σ ω S n) ∧ (f k = 1000000 ∨ ∃ S, hok H S n ∧ cod (2 ^ (sw σ + 1)) S n = k ∧ dC σ ω S n = f k)
/-- the next table, while the last one is gone through: ways below k, and at k with a dot out (j = 1) or both (j = 2) -/
def tabN (σ : Sg) (ω : Nat → Nat → Int) (H : Nat → Int) (n k j : Nat) (g : Nat → Int) : Prop := ∀ t, t < 2 ^ (sw σ + 1) → g t ≤ 1000000 ∧ (∀ S, hok H S (n + 1) → (cod (2 ^ (sw σ + 1)) S n < k ∨ (cod (2 ^ (sw σ + 1)) S n = k ∧ b01 (S n) < j)) → cod (2 ^ (sw σ + 1)) S (n + 1) = t → g t ≤ dC σ ω S (n + 1)) ∧ (g t = 1000000 ∨ ∃ S, hok H S (n + 1) ∧ cod (2 ^ (sw σ + 1)) S (n + 1) = t ∧ dC σ ω S (n + 1) = g t)
theorem tab_0 (σ : Sg) (ω : Nat → Nat → Int) (H : Nat → Int) {f : Nat → Int} (h0 : f 0 = 0) (h1 : ∀ k, 0 < k → k < 2 ^ (sw σ + 1) → f k = 1000000) : tab σ ω H 0 f := by
  intro k hk
  by_cases e : k = 0
  · subst e
    rw [h0]
    exact ⟨by omega, fun S _ _ => Int.le_refl 0, Or.inr ⟨fun _ => false, fun u hu => absurd hu (Nat.not_lt_zero u), rfl, rfl⟩⟩
  · rw [h1 k (by omega) hk]
    refine ⟨Int.le_refl _, fun S _ hc => ?_, Or.inl rfl⟩
    have : 0 = k := hc
    omega
theorem tabN_0 (σ : Sg) (ω : Nat → Nat → Int) (H : Nat → Int) (n : Nat) {g : Nat → Int} (h1 : ∀ k, k < 2 ^ (sw σ + 1) → g k = 1000000) : tabN σ ω H n 0 0 g := by
  intro t ht
  rw [h1 t ht]
  exact ⟨Int.le_refl _, fun S _ hc => by omega, Or.inl rfl⟩
theorem tabN_next {σ : Sg} {ω : Nat → Nat → Int} {H : Nat → Int} {n k : Nat} {g : Nat → Int} (h : tabN σ ω H n k 2 g) : tabN σ ω H n (k + 1) 0 g := by
  intro t ht
  obtain ⟨h1, h2, h3⟩ := h t ht
  refine ⟨h1, fun S hS hc => h2 S hS ?_, h3⟩
  have : b01 (S n) < 2 := by unfold b01; split <;> omega
  omega
/-- nothing lies so -/
theorem tabN_skip {σ : Sg} {ω : Nat → Nat → Int} {H : Nat → Int} {n k : Nat} {f g : Nat → Int} (h : tabN σ ω H n k 0 g) (hf : tab σ ω H n f) (hk : k < 2 ^ (sw σ + 1)) (h6 : ∀ S, dC σ ω S n < 1000000) (hfk : ¬ f k < 1000000) : tabN σ ω H n (k + 1) 0 g := by
  intro t ht
  obtain ⟨h1, h2, h3⟩ := h t ht
  refine ⟨h1, fun S hS hc => h2 S hS ?_, h3⟩
  by_cases e : cod (2 ^ (sw σ + 1)) S n = k
  · have := (hf k hk).2.1 S (fun u hu => hS u (by omega)) e
    have := h6 S
    omega
  · omega
/-- a dot held the other way -/
theorem tabN_held {σ : Sg} {ω : Nat → Nat → Int} {H : Nat → Int} {n k j : Nat} {g : Nat → Int} (h : tabN σ ω H n k j g) (hj : j < 2) (hh : H n = (if j = 1 then 2 else 1)) : tabN σ ω H n k (j + 1) g := by
  intro t ht
  obtain ⟨h1, h2, h3⟩ := h t ht
  refine ⟨h1, fun S hS hc => h2 S hS ?_, h3⟩
  rcases hc with hc | ⟨hc, hb⟩
  · exact Or.inl hc
  · by_cases e : b01 (S n) = j
    · exfalso
      have hs := hS n (by omega)
      apply hs
      rw [hh]
      cases c : S n
      · rw [c] at e
        have : j = 0 := e.symm
        subst this; rfl
      · rw [c] at e
        have : j = 1 := e.symm
        subst this; rfl
    · exact Or.inr ⟨hc, by omega⟩
theorem tabN_go {σ : Sg} (hv : scok σ) {ω : Nat → Nat → Int} {H : Nat → Int} {n k j : Nat} {f g : Nat → Int} (h : tabN σ ω H n k j g) (hf : tab σ ω H n f) (hn : n < sdots σ) (hk : k < 2 ^ (sw σ + 1)) (hj : j < 2) (hh : H n ≠ (if j = 1 then 2 else 1)) (hfk : f k < 1000000) (h6 : ∀ S, dC σ ω S (n + 1) < 1000000) : tabN σ ω H n k (j + 1) (fup g ((2 * k + j) % 2 ^ (sw σ + 1)) (min (f k + addV σ ω n j k) (g ((2 * k + j) % 2 ^ (sw σ + 1))))) := by
  intro t ht
  obtain ⟨h1, h2, h3⟩ := h t ht
  have hst : ∀ S, cod (2 ^ (sw σ + 1)) S n = k → b01 (S n) = j → cod (2 ^ (sw σ + 1)) S (n + 1) = (2 * k + j) % 2 ^ (sw σ + 1) ∧ dC σ ω S (n + 1) = dC σ ω S n + addV σ ω n j k := fun S a b => by
    refine ⟨?_, ?_⟩
    · rw [cod, a]
      have : (if S n = true then 1 else 0) = j := b
      rw [this]
    · show dC σ ω S n + aV σ ω S n = _
      rw [← addV_cod hv ω S hn, a, b]
  obtain ⟨f1, f2, f3⟩ := hf k hk
  -- one that lies so
  obtain ⟨S0, s1, s2, s3⟩ : ∃ S, hok H S n ∧ cod (2 ^ (sw σ + 1)) S n = k ∧ dC σ ω S n = f k := by
    rcases f3 with q | q
    · omega
    · exact q
  have e1 : ∀ u, u < n → S0 u = (fun u => if u = n then decide (j = 1) else S0 u) u := fun u hu => by
    show S0 u = if u = n then decide (j = 1) else S0 u
    rw [if_neg (by omega)]
  have e2 : (fun u => if u = n then decide (j = 1) else S0 u) n = decide (j = 1) := if_pos rfl
  have e3 : b01 (decide (j = 1)) = j := by
    obtain rfl | rfl : j = 0 ∨ j = 1 := by omega
    · rfl
    · rfl
  have hS1 : hok H (fun u => if u = n then decide (j = 1) else S0 u) (n + 1) := fun u hu => by
    by_cases q : u = n
    · subst q
      rw [e2]
      obtain rfl | rfl : j = 0 ∨ j = 1 := by omega
      · exact hh
      · exact hh
    · rw [← e1 u (by omega)]; exact s1 u (by omega)
  have hc1 : cod (2 ^ (sw σ + 1)) (fun u => if u = n then decide (j = 1) else S0 u) n = k := by rw [← cod_cong e1]; exact s2
  have hd1 : dC σ ω (fun u => if u = n then decide (j = 1) else S0 u) n = f k := by rw [← dC_cong hv ω (by omega) e1]; exact s3
  have hgo := hst _ hc1 (by rw [if_pos rfl]; exact e3)
  rw [hd1] at hgo
  have hlt := h6 (fun u => if u = n then decide (j = 1) else S0 u)
  by_cases et : t = (2 * k + j) % 2 ^ (sw σ + 1)
  · rw [← et, fup_s]
    refine ⟨by omega, fun S hS hc hcod => ?_, ?_⟩
    · by_cases q : cod (2 ^ (sw σ + 1)) S n = k ∧ b01 (S n) = j
      · have := hst S q.1 q.2
        have := f2 S (fun u hu => hS u (by omega)) q.1
        omega
      · have := h2 S hS (by omega) hcod
        omega
    · by_cases q : f k + addV σ ω n j k ≤ g t
      · rw [Int.min_eq_left q]
        exact Or.inr ⟨_, hS1, by rw [hgo.1, et], hgo.2⟩
      · rw [Int.min_eq_right (by omega)]
        exact h3
  · rw [fup_n _ _ et]
    refine ⟨h1, fun S hS hc hcod => ?_, h3⟩
    by_cases q : cod (2 ^ (sw σ + 1)) S n = k ∧ b01 (S n) = j
    · have := (hst S q.1 q.2).1
      omega
    · exact h2 S hS (by omega) hcod
theorem tab_s {σ : Sg} {ω : Nat → Nat → Int} {H : Nat → Int} {n : Nat} {f g : Nat → Int} (h : tabN σ ω H n (2 ^ (sw σ + 1)) 0 g) (e : ∀ k, k < 2 ^ (sw σ + 1) → f k = g k) : tab σ ω H (n + 1) f := by
  intro k hk
  rw [e k hk]
  obtain ⟨h1, h2, h3⟩ := h k hk
  exact ⟨h1, fun S hS hc => h2 S hS (Or.inl (cod_lt (Nat.pow_pos (by decide)) S n)) hc, h3⟩
/-- the least cost with dots held -/
def mnH (σ : Sg) (ω : Nat → Nat → Int) (H : Nat → Int) (m : Int) : Prop := (∃ S, hok H S (sdots σ) ∧ cW σ ω S = m) ∧ ∀ S, hok H S (sdots σ) → m ≤ cW σ ω S
theorem aV_nn {σ : Sg} (h : scok σ) {ω : Nat → Nat → Int} (hω : ∀ v d, v < sdots σ → d < 4 → lk σ v d ≠ -1 → 0 ≤ ω v d ∧ ω v d ≤ 99) (S : Nat → Bool) {v : Nat} (hv : v < sdots σ) : 0 ≤ aV σ ω S v ∧ aV σ ω S v ≤ 477 := by
  have hN := sdots_le h
  have h1 : 0 ≤ sPl σ v (if S v = true then 3 else 4) ∧ sPl σ v (if S v = true then 3 else 4) ≤ 81 := sPl_b h (by omega) (by split <;> omega)
  have h2 := sm_bd (f := bW σ ω S v) (a := 0) (b := 99) (n := 4) (fun d hd => by
    unfold bW
    split
    · next c =>
      obtain ⟨o, g1, g2, g3, -⟩ := bk_inv h hv hd c.1
      rw [g1, Int.toNat_natCast]
      exact hω o d g2 hd (by omega)
    · omega)
  unfold aV
  omega
theorem dC_b {σ : Sg} (h : scok σ) {ω : Nat → Nat → Int} (hω : ∀ v d, v < sdots σ → d < 4 → lk σ v d ≠ -1 → 0 ≤ ω v d ∧ ω v d ≤ 99) (S : Nat → Bool) {n : Nat} (hn : n ≤ sdots σ) : 0 ≤ dC σ ω S n ∧ dC σ ω S n ≤ 17172 := by
  have hN := sdots_le h
  have := sm_bd (f := aV σ ω S) (a := 0) (b := 477) (n := n) (fun v hv => aV_nn h hω S (by omega))
  unfold dC
  omega
/-- the least over a table -/
def lst (f : Nat → Int) : Nat → Int
  | 0 => 1000000
  | k + 1 => if f k < lst f k then f k else lst f k
theorem lst_le (f : Nat → Int) : ∀ (n k : Nat), k < n → lst f n ≤ f k
  | 0, k, h => by omega
  | n + 1, k, h => by
    rw [lst]
    by_cases e : k = n
    · subst e; split <;> omega
    · have := lst_le f n k (by omega)
      split <;> omega
theorem lst_at (f : Nat → Int) : ∀ (n : Nat), lst f n = 1000000 ∨ ∃ k, k < n ∧ lst f n = f k
  | 0 => Or.inl rfl
  | n + 1 => by
    rw [lst]
    split
    · exact Or.inr ⟨n, by omega, rfl⟩
    · rcases lst_at f n with q | ⟨k, h1, h2⟩
      · exact Or.inl q
      · exact Or.inr ⟨k, by omega, h2⟩
theorem tab_end {σ : Sg} (h : scok σ) {ω : Nat → Nat → Int} (hω : ∀ v d, v < sdots σ → d < 4 → lk σ v d ≠ -1 → 0 ≤ ω v d ∧ ω v d ≤ 99) {H : Nat → Int} {f : Nat → Int} (ht : tab σ ω H (sdots σ) f) : mnH σ ω H (lst f (2 ^ (sw σ + 1))) := by
  have hall : ∀ S, hok H S (sdots σ) → lst f (2 ^ (sw σ + 1)) ≤ cW σ ω S := fun S hS => by
    have hc := cod_lt (M := 2 ^ (sw σ + 1)) (Nat.pow_pos (by decide)) S (sdots σ)
    have h1 := lst_le f _ _ hc
    have h2 := (ht _ hc).2.1 S hS rfl
    rw [← aV_sum h]
    exact Int.le_trans h1 h2
  refine ⟨?_, hall⟩
  have hm : hok H (fun u => decide (H u = 1)) (sdots σ) := fun u _ => by
    by_cases c : H u = 1
    · simp [c]
    · simp [c]
  rcases lst_at f (2 ^ (sw σ + 1)) with q | ⟨k, h1, h2⟩
  · have := hall _ hm
    have := cW_b h hω (fun u => decide (H u = 1))
    omega
  · have := hall _ hm
    have := cW_b h hω (fun u => decide (H u = 1))
    rcases (ht k h1).2.2 with q | ⟨S, s1, s2, s3⟩
    · omega
    · exact ⟨S, s1, by rw [← aV_sum h, h2]; exact s3⟩
