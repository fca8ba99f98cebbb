/-! ===== sums, counts, what loops over the dots make ===== -/
def sm (f : Nat → Int) : Nat → Int
  | 0 => 0
  | n + 1 => sm f n + f n
theorem sm_s (f : Nat → Int) (n : Nat) : sm f (n + 1) = sm f n + f n := rfl
theorem sm_cong {f g : Nat → Int} : ∀ {n : Nat}, (∀ k, k < n → f k = g k) → sm f n = sm g n
  | 0, _ => rfl
  | n + 1, h => by rw [sm_s, sm_s, sm_cong (fun k hk => h k (by omega)), h n (by omega)]
theorem sm_bd {f : Nat → Int} {a b : Int} : ∀ {n : Nat}, (∀ k, k < n → a ≤ f k ∧ f k ≤ b) → a * n ≤ sm f n ∧ sm f n ≤ b * n
  | 0, _ => by simp [sm]
  | n + 1, h => by
    have h1 := sm_bd (n := n) (fun k hk => h k (by omega))
    have h2 := h n (by omega)
    rw [sm_s]
    have e1 : a * ((n + 1 : Nat) : Int) = a * n + a := by rw [Int.natCast_add, Int.mul_add]; simp
    have e2 : b * ((n + 1 : Nat) : Int) = b * n + b := by rw [Int.natCast_add, Int.mul_add]; simp
    rw [e1, e2]
    omega
def ct (p : Nat → Prop) (dp : ∀ k, Decidable (p k)) : Nat → Int := sm (fun k => if p k then 1 else 0)
def cb (b : Bool) : Int := if b then 1 else 0
def sw (σ : Sg) : Nat := (σ 0).toNat
def sh (σ : Sg) : Nat := (σ 1).toNat
theorem sw_eq {σ : Sg} (h : scok σ) : (sw σ : Int) = σ 0 ∧ 2 ≤ sw σ ∧ sw σ ≤ 6 := by
  obtain ⟨⟨a, b⟩, -⟩ := h
  unfold sw
  omega
theorem sh_eq {σ : Sg} (h : scok σ) : (sh σ : Int) = σ 1 ∧ 2 ≤ sh σ ∧ sh σ ≤ 6 := by
  obtain ⟨-, ⟨a, b⟩, -⟩ := h
  unfold sh
  omega
theorem sdots_mul {σ : Sg} (h : scok σ) : sdots σ = sw σ * sh σ := by
  have h1 := sw_eq h
  have h2 := sh_eq h
  have h3 := sdots_le h
  have : ((sw σ * sh σ : Nat) : Int) = σ 0 * σ 1 := by rw [Int.natCast_mul, h1.1, h2.1]
  omega
def sbl (σ : Sg) (x y : Int) (k : Nat) : Sg := fun i => if i = 0 then x else if i = 1 then y else if i < 8 then σ i else if (8 ≤ i ∧ i < 8 + k) ∨ (44 ≤ i ∧ i < 44 + k) then 0 else σ i
def sfG (σ : Sg) (p : Nat → Bool) (v : Sg) (n : Nat) : Sg := fun i => if 44 ≤ i ∧ i < 44 + n ∧ p i = true then v i else σ i
theorem sfG_0 (σ : Sg) (p : Nat → Bool) (v : Sg) : sfG σ p v 0 = σ := by
  funext i; unfold sfG; rw [if_neg (by omega)]
theorem sfG_at (σ : Sg) (p : Nat → Bool) (v : Sg) (n : Nat) : sfG σ p v n (44 + n) = σ (44 + n) := by unfold sfG; rw [if_neg (by omega)]
theorem sfG_s (σ : Sg) (p : Nat → Bool) (v : Sg) (n : Nat) (h : p (44 + n) = true) : sup (sfG σ p v n) (44 + n) (v (44 + n)) = sfG σ p v (n + 1) := by
  funext i
  unfold sup sfG
  by_cases e : i = 44 + n
  · subst e; rw [if_pos rfl, if_pos ⟨by omega, by omega, h⟩]
  · rw [if_neg e]
    by_cases c : 44 ≤ i ∧ i < 44 + n ∧ p i = true
    · rw [if_pos c, if_pos ⟨c.1, by omega, c.2.2⟩]
    · rw [if_neg c, if_neg (fun q => c ⟨q.1, by omega, q.2.2⟩)]
theorem sfG_n (σ : Sg) (p : Nat → Bool) (v : Sg) (n : Nat) (h : ¬ p (44 + n) = true ∨ σ (44 + n) = v (44 + n)) : sfG σ p v n = sfG σ p v (n + 1) := by
  funext i
  unfold sfG
  by_cases c : 44 ≤ i ∧ i < 44 + n ∧ p i = true
  · rw [if_pos c, if_pos ⟨c.1, by omega, c.2.2⟩]
  · rw [if_neg c]
    by_cases c2 : 44 ≤ i ∧ i < 44 + (n + 1) ∧ p i = true
    · rw [if_pos c2]
      have e : i = 44 + n := by
        by_cases q : i < 44 + n
        · exact absurd ⟨c2.1, q, c2.2.2⟩ c
        · omega
      subst e
      rcases h with h | h
      · exact absurd c2.2.2 h
      · exact h
    · rw [if_neg c2]
def sfA (σ : Sg) (x : Int64) (m : Int) (n : Nat) : Sg := sfG σ (fun i => tb x (i - 44)) (fun _ => m) n
def sfAc (σ : Sg) (x : Int64) (m : Int) : Nat → Int := sm (fun k => if tb x k = true ∧ σ (44 + k) ≠ m then 1 else 0)
def sfR (σ : Sg) (x : Int64) (n : Nat) : Sg := sfG σ (fun i => decide (σ i = 0)) (fun i => if tb x (i - 44) = true then 1 else 2) n
def sfRc (σ : Sg) : Nat → Int := sm (fun k => if σ (44 + k) = 0 then 1 else 0)
def sfS (σ : Sg) (n : Nat) : Sg := sfG σ (fun i => decide (¬ σ i = 0)) (fun i => if σ i = 1 then 2 else 1) n
def sfSc (σ : Sg) : Nat → Int := sm (fun k => if σ (44 + k) = 0 then 0 else 1)
theorem sfA_0 (σ : Sg) (x : Int64) (m : Int) : sfA σ x m 0 = σ := sfG_0 _ _ _
theorem sfR_0 (σ : Sg) (x : Int64) : sfR σ x 0 = σ := sfG_0 _ _ _
theorem sfS_0 (σ : Sg) : sfS σ 0 = σ := sfG_0 _ _ _
theorem sfA_at (σ : Sg) (x : Int64) (m : Int) (n : Nat) : sfA σ x m n (44 + n) = σ (44 + n) := sfG_at _ _ _ _
theorem sfR_at (σ : Sg) (x : Int64) (n : Nat) : sfR σ x n (44 + n) = σ (44 + n) := sfG_at _ _ _ _
theorem sfS_at (σ : Sg) (n : Nat) : sfS σ n (44 + n) = σ (44 + n) := sfG_at _ _ _ _
theorem sfA_s (σ : Sg) (x : Int64) (m : Int) (n : Nat) (h : tb x n = true) : sup (sfA σ x m n) (44 + n) m = sfA σ x m (n + 1) := sfG_s σ _ (fun _ => m) n (by rw [Nat.add_sub_cancel_left]; exact h)
theorem sfA_n (σ : Sg) (x : Int64) (m : Int) (n : Nat) (h : ¬ tb x n = true ∨ σ (44 + n) = m) : sfA σ x m n = sfA σ x m (n + 1) := sfG_n σ _ (fun _ => m) n (by rw [Nat.add_sub_cancel_left]; exact h)
theorem sfR_s (σ : Sg) (x : Int64) (n : Nat) (h : σ (44 + n) = 0) : sup (sfR σ x n) (44 + n) (if tb x n = true then 1 else 2) = sfR σ x (n + 1) := by
  have := sfG_s σ (fun i => decide (σ i = 0)) (fun i => if tb x (i - 44) = true then 1 else 2) n (decide_eq_true h)
  rw [Nat.add_sub_cancel_left] at this
  exact this
theorem sfR_n (σ : Sg) (x : Int64) (n : Nat) (h : ¬ σ (44 + n) = 0) : sfR σ x n = sfR σ x (n + 1) := sfG_n _ _ _ _ (Or.inl (by simpa using h))
theorem sfS_s (σ : Sg) (n : Nat) (h : ¬ σ (44 + n) = 0) : sup (sfS σ n) (44 + n) (if σ (44 + n) = 1 then 2 else 1) = sfS σ (n + 1) := sfG_s σ (fun i => decide (¬ σ i = 0)) (fun i => if σ i = 1 then 2 else 1) n (decide_eq_true h)
theorem sfS_n (σ : Sg) (n : Nat) (h : σ (44 + n) = 0) : sfS σ n = sfS σ (n + 1) := sfG_n _ _ _ _ (Or.inl (by simpa using h))
theorem gt_fr {Ω Ω0 : Mem} {q : Nat} (h : Ω q = Ω0 q) (k : Nat) : gt Ω q k = gt Ω0 q k := by unfold gt; rw [h]

theorem sbl_s (σ : Sg) (x y : Int) (k : Nat) : sup (sup (sbl σ x y k) (8 + k) 0) (44 + k) 0 = sbl σ x y (k + 1) := by
  funext i
  unfold sup sbl
  by_cases e : i = 44 + k
  · subst e; rw [if_pos rfl, if_neg (by omega), if_neg (by omega), if_neg (by omega), if_pos (by omega)]
  · rw [if_neg e]
    by_cases e2 : i = 8 + k
    · subst e2; rw [if_pos rfl, if_neg (by omega), if_neg (by omega), if_neg (by omega), if_pos (by omega)]
    · rw [if_neg e2]
      by_cases h8 : i < 8
      · simp [h8]
      · have h0 : ¬ i = 0 := by omega
        have h1 : ¬ i = 1 := by omega
        simp only [h0, h1, h8, if_false]
        by_cases c : (8 ≤ i ∧ i < 8 + k) ∨ (44 ≤ i ∧ i < 44 + k)
        · rw [if_pos c, if_pos (by omega)]
        · rw [if_neg c, if_neg (by omega)]
theorem fl_X2_startBlank_15 : Cond.fieldLink RX2 15 "StrokeCuts$Scene" "shades" "[I" ∈ wsX2_startBlank := by decide +kernel
theorem in_X2_startBlank_X2 : ∀ x ∈ u_ws RX2 TX2 5, x ∈ wsX2_startBlank := by decide +kernel
theorem fl_X2_startBlank_18 : Cond.fieldLink RX2 18 "StrokeCuts$Scene" "marks" "[I" ∈ wsX2_startBlank := by decide +kernel
set_option maxHeartbeats 4000000 in
set_option maxRecDepth 100000 in
theorem L_X2_startBlank_12 {E : zE} {w : zP} {l : Launch} {Post : Option Value → Mem → Prop} (hw : zOK w) (hC : zC E w l RX2 wsX2_startBlank cX2_startBlank 4 0 0 none Post) (x y : Int) (σ : Sg) (Ω0 : Mem) (K : ∀ Ω : Mem, scC Ω = sbl σ x y 36 → (∀ q, q ≠ 13 → q ≠ 15 → q ≠ 16 → Ω q = Ω0 q) → X E Ω 38 [some (.ref (wa w 13)), some (.int (zI x)), some (.int (zI y)), some (.int (zI ((36 : Nat) : Int)))] []) : ∀ (n : Nat) (k : Nat) (Ω : Mem), 36 < k + n → (k ≤ 36) → (scC Ω = sbl σ x y k) → (∀ q, q ≠ 13 → q ≠ 15 → q ≠ 16 → Ω q = Ω0 q) → X E Ω 12 [some (.ref (wa w 13)), some (.int (zI x)), some (.int (zI y)), some (.int (zI (k : Int)))] [] := by
  intro n
  induction n with
  | zero =>
    intro k Ω hfu hk hs hF
    exact absurd hfu (by omega)
  | succ n ih =>
    intro k Ω hfu hk hs hF
    refine z_iload_n (pc := 12) hC (i := 3) dX2_startBlank_12 rfl rfl ?_
    refine z_bipush (pc := 13) hC dX2_startBlank_13 rfl ?_
    refine z_icmp_ge (pc := 15) hC 38 (by first | assumption | exact zb_gt _ _ _ | exact zcmp_zb _ _ | exact bI_zb _ | exact ⟨by omega, by omega⟩) (by first | assumption | exact zb_gt _ _ _ | exact zcmp_zb _ _ | exact bI_zb _ | exact ⟨by omega, by omega⟩) dX2_startBlank_15 rfl (fun h15 => ?_) (fun h15 => ?_)
    · obtain rfl : k = 36 := by omega
      exact K _ hs hF
    · refine z_aload_n (pc := 18) hC (i := 0) dX2_startBlank_18 rfl rfl ?_
      refine z_getR (C := RX2) (T := TX2) (N := 5) (ci := 2) (pc := 19) hC (.ref (wa w 15)) _ 3 in_X2_startBlank_X2 rfl (by decide) (fun _ => rfl) (by decide) fl_X2_startBlank_15 (fun _ => rfl) dX2_startBlank_19 ?_
      refine z_iload_n (pc := 22) hC (i := 3) dX2_startBlank_22 rfl rfl ?_
      refine z_iconst (pc := 23) hC dX2_startBlank_23 ?_
      refine z_iask (pc := 24) hC _ _ (by decide) (fun _ => rfl) rfl (by omega) (by decide) dX2_startBlank_24 ?_
      refine z_aload_n (pc := 25) hC (i := 0) dX2_startBlank_25 rfl rfl ?_
      refine z_getR (C := RX2) (T := TX2) (N := 5) (ci := 2) (pc := 26) hC (.ref (wa w 16)) _ 4 in_X2_startBlank_X2 rfl (by decide) (fun _ => rfl) (by decide) fl_X2_startBlank_18 (fun _ => rfl) dX2_startBlank_26 ?_
      refine z_iload_n (pc := 29) hC (i := 3) dX2_startBlank_29 rfl rfl ?_
      refine z_iconst (pc := 30) hC dX2_startBlank_30 ?_
      refine z_iask (pc := 31) hC _ _ (by decide) (fun _ => rfl) rfl (by omega) (by decide) dX2_startBlank_31 ?_
      refine z_iinc (pc := 32) hC (i := 3) dX2_startBlank_32 rfl (by decide) rfl (zS_s (zS_s (zS_s zS_0))) ?_
      refine z_goto (pc := 35) hC 12 dX2_startBlank_35 rfl ?_
      exact ih (k + 1) _ (by omega) (by omega) (by rw [scC_upmk _ (k := k) (by omega) zb_0, scC_upsh _ (k := k) (by omega) zb_0, hs, sbl_s]) (fun q h1 h2 h3 => by rw [ups_n _ _ _ h3, ups_n _ _ _ h2]; exact hF q h1 h2 h3)
theorem scC_upwh (Ω : Mem) {x y : Int} (hx : zb x) (hy : zb y) : scC (ups (ups Ω 13 0 x) 13 1 y) = sbl (scC Ω) x y 0 := by
  funext i
  unfold scC sbl
  rw [gt_if _ 13 1 hy, gt_if _ 13 0 hx, gt_s _ 13 1 hy, gt_n _ _ _ _ (by decide : 14 ≠ 13), gt_n _ _ _ _ (by decide : 15 ≠ 13), gt_n _ _ _ _ (by decide : 16 ≠ 13), gt_n _ _ _ _ (by decide : 14 ≠ 13), gt_n _ _ _ _ (by decide : 15 ≠ 13), gt_n _ _ _ _ (by decide : 16 ≠ 13)]
  by_cases h0 : i = 0 <;> by_cases h1 : i = 1 <;> by_cases h2 : i < 8 <;> simp [h0, h1, h2] <;> omega
theorem fl_X2_startBlank_21 : Cond.fieldLink RX2 21 "StrokeCuts$Scene" "width" "I" ∈ wsX2_startBlank := by decide +kernel
theorem fl_X2_startBlank_25 : Cond.fieldLink RX2 25 "StrokeCuts$Scene" "height" "I" ∈ wsX2_startBlank := by decide +kernel
set_option maxHeartbeats 4000000 in
set_option maxRecDepth 100000 in
theorem c_X2_startBlank (l : Launch) (w : zP) (hw : zOK w) (Ω : Mem) (x y : Int) (hx : zb x) (hy : zb y) : zM l w yX2_startBlank wsX2_startBlank 0 0 [.ref (wa w 13), .int (zI x), .int (zI y)] Ω (zvo (fun Ω1 => scC Ω1 = sbl (scC Ω) x y 36 ∧ ∀ q, q ≠ 13 → q ≠ 15 → q ≠ 16 → Ω1 q = Ω q)) := by
  refine zM_of cX2_startBlank 4 none RX2 [some (.ref (wa w 13)), some (.int (zI x)), some (.int (zI y)), none] hw (by decide +kernel) rfl rfl (Nat.le_of_ble_eq_true rfl) rfl (fun E hC => ?_)
  refine z_aload_n (pc := 0) hC (i := 0) dX2_startBlank_0 rfl rfl ?_
  refine z_iload_n (pc := 1) hC (i := 1) dX2_startBlank_1 rfl rfl ?_
  refine z_putI (C := RX2) (T := TX2) (N := 5) (ci := 2) (pc := 2) hC _ 0 in_X2_startBlank_X2 rfl (by decide) (fun _ => rfl) (by decide) fl_X2_startBlank_21 tyX2_ok nmX2 rfl (by decide +kernel) (fun _ => Nat.le_of_ble_eq_true rfl) (fun _ _ => rfl) dX2_startBlank_2 ?_
  refine z_aload_n (pc := 5) hC (i := 0) dX2_startBlank_5 rfl rfl ?_
  refine z_iload_n (pc := 6) hC (i := 2) dX2_startBlank_6 rfl rfl ?_
  refine z_putI (C := RX2) (T := TX2) (N := 5) (ci := 2) (pc := 7) hC _ 1 in_X2_startBlank_X2 rfl (by decide) (fun _ => rfl) (by decide) fl_X2_startBlank_25 tyX2_ok nmX2 rfl (by decide +kernel) (fun _ => Nat.le_of_ble_eq_true rfl) (fun _ _ => rfl) dX2_startBlank_7 ?_
  refine z_iconst (pc := 10) hC dX2_startBlank_10 ?_
  refine z_istore_n (pc := 11) hC (i := 3) dX2_startBlank_11 rfl (by decide) rfl (zS_s (zS_s (zS_s zS_0))) ?_
  exact L_X2_startBlank_12 hw hC x y (scC Ω) Ω (fun Ω1 h1 h2 => z_vret (pc := 38) hC rfl ⟨rfl, h1, h2⟩ dX2_startBlank_38) 37 0 _ (by omega) (by omega) (scC_upwh Ω hx hy) (fun q h1 _ _ => by rw [ups_n _ _ _ h1, ups_n _ _ _ h1])
theorem sm_01 {f : Nat → Int} (h : ∀ k, f k = 0 ∨ f k = 1) (n : Nat) : 0 ≤ sm f n ∧ sm f n ≤ n := by
  have := sm_bd (f := f) (a := 0) (b := 1) (n := n) (fun k _ => by rcases h k with e | e <;> omega)
  omega
theorem sfAc_b (σ : Sg) (x : Int64) (m : Int) (n : Nat) : 0 ≤ sfAc σ x m n ∧ sfAc σ x m n ≤ n := sm_01 (fun k => by by_cases c : tb x k = true ∧ σ (44 + k) ≠ m <;> simp [c]) n
theorem sfRc_b (σ : Sg) (n : Nat) : 0 ≤ sfRc σ n ∧ sfRc σ n ≤ n := sm_01 (fun k => by by_cases c : σ (44 + k) = 0 <;> simp [c]) n
theorem sfSc_b (σ : Sg) (n : Nat) : 0 ≤ sfSc σ n ∧ sfSc σ n ≤ n := sm_01 (fun k => by by_cases c : σ (44 + k) = 0 <;> simp [c]) n
theorem ms_X2_markAll_X4_has : Cond.static yX4_has ∈ wsX2_markAll := by decide +kernel
theorem mi_X2_markAll_X4_has : Cond.initialized yX4_has.cls ∈ wsX2_markAll := by decide +kernel
theorem fl_X2_markAll_18 : Cond.fieldLink RX2 18 "StrokeCuts$Scene" "marks" "[I" ∈ wsX2_markAll := by decide +kernel
theorem in_X2_markAll_X2 : ∀ x ∈ u_ws RX2 TX2 5, x ∈ wsX2_markAll := by decide +kernel
set_option maxHeartbeats 4000000 in
set_option maxRecDepth 100000 in
theorem L_X2_markAll_6 {E : zE} {w : zP} {l : Launch} {Post : Option Value → Mem → Prop} (hw : zOK w) (hC : zC E w l RX2 wsX2_markAll cX2_markAll 6 1 22 (some .int) Post) (x : Int64) (m : Int) (hm : zb m) (σ : Sg) (Ω0 : Mem) (N : Nat) (hN : (N : Int) = gt Ω0 13 0 * gt Ω0 13 1) (hN36 : N ≤ 36) (K : ∀ Ω : Mem, scC Ω = sfA σ x m N → (∀ q, q ≠ 16 → Ω q = Ω0 q) → X E Ω 52 [some (.ref (wa w 13)), some (.long x), none, some (.int (zI m)), some (.int (zI (sfAc σ x m N))), some (.int (zI (N : Int)))] []) : ∀ (n : Nat) (k : Nat) (Ω : Mem), N < k + n → (k ≤ N) → (scC Ω = sfA σ x m k) → (∀ q, q ≠ 16 → Ω q = Ω0 q) → X E Ω 6 [some (.ref (wa w 13)), some (.long x), none, some (.int (zI m)), some (.int (zI (sfAc σ x m k))), some (.int (zI (k : Int)))] [] := by
  intro n
  induction n with
  | zero =>
    intro k Ω hfu hk hs hF
    exact absurd hfu (by omega)
  | succ n ih =>
    intro k Ω hfu hk hs hF
    have e0 := gt_fr (hF 13 (by decide)) 0
    have e1 := gt_fr (hF 13 (by decide)) 1
    have hmk : k < 36 → gt Ω 16 k = σ (44 + k) := fun h => by rw [← scC_mk Ω h, hs, sfA_at]
    refine z_iload (pc := 6) hC (i := 5) dX2_markAll_6 rfl ?_
    refine z_aload_n (pc := 8) hC (i := 0) dX2_markAll_8 rfl rfl ?_
    refine z_callV (n := 0) (T := TX2) (N := 5) (ci := 2) (pc := 9) hC (c_X2_dots l w hw _) gX2_markAll_X2_dots rfl (by decide +kernel) (by decide) (by decide) rfl (by decide) (fun _ => rfl) rfl rfl (Nat.le_of_ble_eq_true rfl) dX2_markAll_9 (zi_k fun r9 Ω9 h9 => ?_)
    obtain ⟨rfl, hM9⟩ := h9
    obtain rfl := hM9.symm
    rw [e0, e1, ← hN]
    refine z_icmp_ge (pc := 12) hC 52 (by first | assumption | exact zb_gt _ _ _ | exact zcmp_zb _ _ | exact bI_zb _ | exact ⟨by omega, by omega⟩) (by first | assumption | exact zb_gt _ _ _ | exact zcmp_zb _ _ | exact bI_zb _ | exact ⟨by omega, by omega⟩) dX2_markAll_12 rfl (fun h12 => ?_) (fun h12 => ?_)
    · obtain rfl : k = N := by omega
      exact K _ hs hF
    · refine z_lload_n (pc := 15) hC (i := 1) dX2_markAll_15 rfl rfl ?_
      refine z_iload (pc := 16) hC (i := 5) dX2_markAll_16 rfl ?_
      refine z_callSN (n := 2) (pc := 18) hC (c_X4_has l w hw _ _ _ (by omega)) (fun h => h.2.1.2.1) gX2_markAll_X4_has_n64 ms_X2_markAll_X4_has mi_X2_markAll_X4_has rfl (by decide +kernel) (by decide) (by decide) rfl rfl (Nat.le_of_ble_eq_true rfl) dX2_markAll_18 (zb_k fun r18 Ω18 h18 => ?_)
      obtain ⟨rfl, hM18⟩ := h18
      obtain rfl := hM18.symm
      refine z_ifd_eq (pc := 21) hC 46 dX2_markAll_21 rfl (fun h21 => ?_) (fun h21 => ?_)
      · refine z_iinc (pc := 46) hC (i := 5) dX2_markAll_46 rfl (by decide) rfl (zS_s (zS_s (zS_s (zS_s (zS_s zS_0))))) ?_
        refine z_goto (pc := 49) hC 6 dX2_markAll_49 rfl ?_
        have hc : sfAc σ x m (k + 1) = sfAc σ x m k := by unfold sfAc; rw [sm_s, if_neg (fun q => h21 q.1)]; omega
        have hh := ih (k + 1) _ (by omega) (by omega) (by rw [hs]; exact sfA_n σ x m k (Or.inl h21)) (hF)
        rw [hc] at hh
        exact hh
      · refine z_aload_n (pc := 24) hC (i := 0) dX2_markAll_24 rfl rfl ?_
        refine z_getR (C := RX2) (T := TX2) (N := 5) (ci := 2) (pc := 25) hC (.ref (wa w 16)) _ 4 in_X2_markAll_X2 rfl (by decide) (fun _ => rfl) (by decide) fl_X2_markAll_18 (fun _ => rfl) dX2_markAll_25 ?_
        refine z_iload (pc := 28) hC (i := 5) dX2_markAll_28 rfl ?_
        refine z_ialk (pc := 30) hC _ _ (by decide) (fun _ => rfl) rfl (by omega) (by decide) dX2_markAll_30 ?_
        refine z_iload_n (pc := 31) hC (i := 3) dX2_markAll_31 rfl rfl ?_
        refine z_icmp_eq (pc := 32) hC 46 (by first | assumption | exact zb_gt _ _ _ | exact zcmp_zb _ _ | exact bI_zb _ | exact ⟨by omega, by omega⟩) (by first | assumption | exact zb_gt _ _ _ | exact zcmp_zb _ _ | exact bI_zb _ | exact ⟨by omega, by omega⟩) dX2_markAll_32 rfl (fun h32 => ?_) (fun h32 => ?_)
        · refine z_iinc (pc := 46) hC (i := 5) dX2_markAll_46 rfl (by decide) rfl (zS_s (zS_s (zS_s (zS_s (zS_s zS_0))))) ?_
          refine z_goto (pc := 49) hC 6 dX2_markAll_49 rfl ?_
          have hc : sfAc σ x m (k + 1) = sfAc σ x m k := by unfold sfAc; rw [sm_s, if_neg (fun q => q.2 (by rw [← hmk (by omega)]; exact h32))]; omega
          have hh := ih (k + 1) _ (by omega) (by omega) (by rw [hs]; exact sfA_n σ x m k (Or.inr (by rw [← hmk (by omega)]; exact h32))) (hF)
          rw [hc] at hh
          exact hh
        · refine z_aload_n (pc := 35) hC (i := 0) dX2_markAll_35 rfl rfl ?_
          refine z_getR (C := RX2) (T := TX2) (N := 5) (ci := 2) (pc := 36) hC (.ref (wa w 16)) _ 4 in_X2_markAll_X2 rfl (by decide) (fun _ => rfl) (by decide) fl_X2_markAll_18 (fun _ => rfl) dX2_markAll_36 ?_
          refine z_iload (pc := 39) hC (i := 5) dX2_markAll_39 rfl ?_
          refine z_iload_n (pc := 41) hC (i := 3) dX2_markAll_41 rfl rfl ?_
          refine z_iask (pc := 42) hC _ _ (by decide) (fun _ => rfl) rfl (by omega) (by decide) dX2_markAll_42 ?_
          refine z_iinc (pc := 43) hC (i := 4) dX2_markAll_43 rfl (by decide) rfl (zS_s (zS_s (zS_s (zS_s zS_0)))) ?_
          refine z_iinc (pc := 46) hC (i := 5) dX2_markAll_46 rfl (by decide) rfl (zS_s (zS_s (zS_s (zS_s (zS_s zS_0))))) ?_
          refine z_goto (pc := 49) hC 6 dX2_markAll_49 rfl ?_
          have hc : sfAc σ x m (k + 1) = sfAc σ x m k + 1 := by unfold sfAc; rw [sm_s, if_pos ⟨h21, by rw [← hmk (by omega)]; exact h32⟩]
          have hh := ih (k + 1) _ (by omega) (by omega) (by rw [scC_upmk _ (k := k) (by omega) hm, hs, sfA_s σ x m k h21]) (fun q h1 => by rw [ups_n _ _ _ h1]; exact hF q h1)
          rw [hc] at hh
          exact hh
set_option maxHeartbeats 4000000 in
set_option maxRecDepth 100000 in
theorem c_X2_markAll (l : Launch) (w : zP) (hw : zOK w) (Ω : Mem) (x : Int64) (m : Int) (hv : scok (scC Ω)) (hm : zb m) : zM l w yX2_markAll wsX2_markAll 1 22 [.ref (wa w 13), .long x, .int (zI m)] Ω (zi (fun r Ω1 => r = sfAc (scC Ω) x m (sdots (scC Ω)) ∧ scC Ω1 = sfA (scC Ω) x m (sdots (scC Ω)) ∧ ∀ q, q ≠ 16 → Ω1 q = Ω q)) := by
  refine zM_of cX2_markAll 6 (some .int) RX2 [some (.ref (wa w 13)), some (.long x), none, some (.int (zI m)), none, none] hw (by decide +kernel) rfl rfl (Nat.le_of_ble_eq_true rfl) rfl (fun E hC => ?_)
  refine z_iconst (pc := 0) hC dX2_markAll_0 ?_
  refine z_istore (pc := 1) hC (i := 4) dX2_markAll_1 (by decide) rfl (zS_s (zS_s (zS_s (zS_s zS_0)))) ?_
  refine z_iconst (pc := 3) hC dX2_markAll_3 ?_
  refine z_istore (pc := 4) hC (i := 5) dX2_markAll_4 (by decide) rfl (zS_s (zS_s (zS_s (zS_s (zS_s zS_0))))) ?_
  have hd := sdots_le hv
  exact L_X2_markAll_6 hw hC x m hm (scC Ω) Ω (sdots (scC Ω)) hd.2.2 hd.2.1 (fun Ω1 h1 h2 => z_iload (pc := 52) hC (i := 4) dX2_markAll_52 rfl (z_iret (pc := 54) hC rfl ⟨_, rfl, rfl, h1, h2⟩ dX2_markAll_54)) (sdots (scC Ω) + 1) 0 Ω (by omega) (by omega) (sfA_0 _ _ _).symm (fun _ _ => rfl)
theorem fl_X2_markRest_18 : Cond.fieldLink RX2 18 "StrokeCuts$Scene" "marks" "[I" ∈ wsX2_markRest := by decide +kernel
theorem in_X2_markRest_X2 : ∀ x ∈ u_ws RX2 TX2 5, x ∈ wsX2_markRest := by decide +kernel
theorem ms_X2_markRest_X4_has : Cond.static yX4_has ∈ wsX2_markRest := by decide +kernel
theorem mi_X2_markRest_X4_has : Cond.initialized yX4_has.cls ∈ wsX2_markRest := by decide +kernel
set_option maxHeartbeats 4000000 in
set_option maxRecDepth 100000 in
theorem L_X2_markRest_5 {E : zE} {w : zP} {l : Launch} {Post : Option Value → Mem → Prop} (hw : zOK w) (hC : zC E w l RX2 wsX2_markRest cX2_markRest 5 1 22 (some .int) Post) (x : Int64) (σ : Sg) (Ω0 : Mem) (N : Nat) (hN : (N : Int) = gt Ω0 13 0 * gt Ω0 13 1) (hN36 : N ≤ 36) (K : ∀ Ω : Mem, scC Ω = sfR σ x N → (∀ q, q ≠ 16 → Ω q = Ω0 q) → X E Ω 54 [some (.ref (wa w 13)), some (.long x), none, some (.int (zI (sfRc σ N))), some (.int (zI (N : Int)))] []) : ∀ (n : Nat) (k : Nat) (Ω : Mem), N < k + n → (k ≤ N) → (scC Ω = sfR σ x k) → (∀ q, q ≠ 16 → Ω q = Ω0 q) → X E Ω 5 [some (.ref (wa w 13)), some (.long x), none, some (.int (zI (sfRc σ k))), some (.int (zI (k : Int)))] [] := by
  intro n
  induction n with
  | zero =>
    intro k Ω hfu hk hs hF
    exact absurd hfu (by omega)
  | succ n ih =>
    intro k Ω hfu hk hs hF
    have e0 := gt_fr (hF 13 (by decide)) 0
    have e1 := gt_fr (hF 13 (by decide)) 1
    have hmk : k < 36 → gt Ω 16 k = σ (44 + k) := fun h => by rw [← scC_mk Ω h, hs, sfR_at]
    refine z_iload (pc := 5) hC (i := 4) dX2_markRest_5 rfl ?_
    refine z_aload_n (pc := 7) hC (i := 0) dX2_markRest_7 rfl rfl ?_
    refine z_callV (n := 0) (T := TX2) (N := 5) (ci := 2) (pc := 8) hC (c_X2_dots l w hw _) gX2_markRest_X2_dots rfl (by decide +kernel) (by decide) (by decide) rfl (by decide) (fun _ => rfl) rfl rfl (Nat.le_of_ble_eq_true rfl) dX2_markRest_8 (zi_k fun r8 Ω8 h8 => ?_)
    obtain ⟨rfl, hM8⟩ := h8
    obtain rfl := hM8.symm
    rw [e0, e1, ← hN]
    refine z_icmp_ge (pc := 11) hC 54 (by first | assumption | exact zb_gt _ _ _ | exact zcmp_zb _ _ | exact bI_zb _ | exact ⟨by omega, by omega⟩) (by first | assumption | exact zb_gt _ _ _ | exact zcmp_zb _ _ | exact bI_zb _ | exact ⟨by omega, by omega⟩) dX2_markRest_11 rfl (fun h11 => ?_) (fun h11 => ?_)
    · obtain rfl : k = N := by omega
      exact K _ hs hF
    · refine z_aload_n (pc := 14) hC (i := 0) dX2_markRest_14 rfl rfl ?_
      refine z_getR (C := RX2) (T := TX2) (N := 5) (ci := 2) (pc := 15) hC (.ref (wa w 16)) _ 4 in_X2_markRest_X2 rfl (by decide) (fun _ => rfl) (by decide) fl_X2_markRest_18 (fun _ => rfl) dX2_markRest_15 ?_
      refine z_iload (pc := 18) hC (i := 4) dX2_markRest_18 rfl ?_
      refine z_ialk (pc := 20) hC _ _ (by decide) (fun _ => rfl) rfl (by omega) (by decide) dX2_markRest_20 ?_
      refine z_if_ne (pc := 21) hC 48 (by first | assumption | exact zb_gt _ _ _ | exact zcmp_zb _ _ | exact bI_zb _ | exact ⟨by omega, by omega⟩) dX2_markRest_21 rfl (fun h21 => ?_) (fun h21 => ?_)
      · refine z_iinc (pc := 48) hC (i := 4) dX2_markRest_48 rfl (by decide) rfl (zS_s (zS_s (zS_s (zS_s zS_0)))) ?_
        refine z_goto (pc := 51) hC 5 dX2_markRest_51 rfl ?_
        have hc : sfRc σ (k + 1) = sfRc σ k := by unfold sfRc; rw [sm_s, if_neg (by rw [← hmk (by omega)]; exact h21)]; omega
        have hh := ih (k + 1) _ (by omega) (by omega) (by rw [hs]; exact sfR_n σ x k (by rw [← hmk (by omega)]; exact h21)) (hF)
        rw [hc] at hh
        exact hh
      · refine z_aload_n (pc := 24) hC (i := 0) dX2_markRest_24 rfl rfl ?_
        refine z_getR (C := RX2) (T := TX2) (N := 5) (ci := 2) (pc := 25) hC (.ref (wa w 16)) _ 4 in_X2_markRest_X2 rfl (by decide) (fun _ => rfl) (by decide) fl_X2_markRest_18 (fun _ => rfl) dX2_markRest_25 ?_
        refine z_iload (pc := 28) hC (i := 4) dX2_markRest_28 rfl ?_
        refine z_lload_n (pc := 30) hC (i := 1) dX2_markRest_30 rfl rfl ?_
        refine z_iload (pc := 31) hC (i := 4) dX2_markRest_31 rfl ?_
        refine z_callSN (n := 2) (pc := 33) hC (c_X4_has l w hw _ _ _ (by omega)) (fun h => h.2.1.2.1) gX2_markRest_X4_has_n64 ms_X2_markRest_X4_has mi_X2_markRest_X4_has rfl (by decide +kernel) (by decide) (by decide) rfl rfl (Nat.le_of_ble_eq_true rfl) dX2_markRest_33 (zb_k fun r33 Ω33 h33 => ?_)
        obtain ⟨rfl, hM33⟩ := h33
        obtain rfl := hM33.symm
        refine z_ifd_eq (pc := 36) hC 43 dX2_markRest_36 rfl (fun h36 => ?_) (fun h36 => ?_)
        · refine z_iconst (pc := 43) hC dX2_markRest_43 ?_
          refine z_iask (pc := 44) hC _ _ (by decide) (fun _ => rfl) rfl (by omega) (by decide) dX2_markRest_44 ?_
          refine z_iinc (pc := 45) hC (i := 3) dX2_markRest_45 rfl (by decide) rfl (zS_s (zS_s (zS_s zS_0))) ?_
          refine z_iinc (pc := 48) hC (i := 4) dX2_markRest_48 rfl (by decide) rfl (zS_s (zS_s (zS_s (zS_s zS_0)))) ?_
          refine z_goto (pc := 51) hC 5 dX2_markRest_51 rfl ?_
          have hc : sfRc σ (k + 1) = sfRc σ k + 1 := by unfold sfRc; rw [sm_s, if_pos (by rw [← hmk (by omega)]; exact h21)]
          have hh := ih (k + 1) _ (by omega) (by omega) (by rw [scC_upmk _ (k := k) (v := 2) (by omega) ⟨by omega, by omega⟩, hs, ← sfR_s σ x k (by rw [← hmk (by omega)]; exact h21), if_neg h36]) (fun q h1 => by rw [ups_n _ _ _ h1]; exact hF q h1)
          rw [hc] at hh
          exact hh
        · refine z_iconst (pc := 39) hC dX2_markRest_39 ?_
          refine z_goto (pc := 40) hC 44 dX2_markRest_40 rfl ?_
          refine z_iask (pc := 44) hC _ _ (by decide) (fun _ => rfl) rfl (by omega) (by decide) dX2_markRest_44 ?_
          refine z_iinc (pc := 45) hC (i := 3) dX2_markRest_45 rfl (by decide) rfl (zS_s (zS_s (zS_s zS_0))) ?_
          refine z_iinc (pc := 48) hC (i := 4) dX2_markRest_48 rfl (by decide) rfl (zS_s (zS_s (zS_s (zS_s zS_0)))) ?_
          refine z_goto (pc := 51) hC 5 dX2_markRest_51 rfl ?_
          have hc : sfRc σ (k + 1) = sfRc σ k + 1 := by unfold sfRc; rw [sm_s, if_pos (by rw [← hmk (by omega)]; exact h21)]
          have hh := ih (k + 1) _ (by omega) (by omega) (by rw [scC_upmk _ (k := k) (v := 1) (by omega) ⟨by omega, by omega⟩, hs, ← sfR_s σ x k (by rw [← hmk (by omega)]; exact h21), if_pos h36]) (fun q h1 => by rw [ups_n _ _ _ h1]; exact hF q h1)
          rw [hc] at hh
          exact hh
set_option maxHeartbeats 4000000 in
set_option maxRecDepth 100000 in
theorem c_X2_markRest (l : Launch) (w : zP) (hw : zOK w) (Ω : Mem) (x : Int64) (hv : scok (scC Ω)) : zM l w yX2_markRest wsX2_markRest 1 22 [.ref (wa w 13), .long x] Ω (zi (fun r Ω1 => r = sfRc (scC Ω) (sdots (scC Ω)) ∧ scC Ω1 = sfR (scC Ω) x (sdots (scC Ω)) ∧ ∀ q, q ≠ 16 → Ω1 q = Ω q)) := by
  refine zM_of cX2_markRest 5 (some .int) RX2 [some (.ref (wa w 13)), some (.long x), none, none, none] hw (by decide +kernel) rfl rfl (Nat.le_of_ble_eq_true rfl) rfl (fun E hC => ?_)
  refine z_iconst (pc := 0) hC dX2_markRest_0 ?_
  refine z_istore_n (pc := 1) hC (i := 3) dX2_markRest_1 rfl (by decide) rfl (zS_s (zS_s (zS_s zS_0))) ?_
  refine z_iconst (pc := 2) hC dX2_markRest_2 ?_
  refine z_istore (pc := 3) hC (i := 4) dX2_markRest_3 (by decide) rfl (zS_s (zS_s (zS_s (zS_s zS_0)))) ?_
  have hd := sdots_le hv
  exact L_X2_markRest_5 hw hC x (scC Ω) Ω (sdots (scC Ω)) hd.2.2 hd.2.1 (fun Ω1 h1 h2 => z_iload_n (pc := 54) hC (i := 3) dX2_markRest_54 rfl rfl (z_iret (pc := 55) hC rfl ⟨_, rfl, rfl, h1, h2⟩ dX2_markRest_55)) (sdots (scC Ω) + 1) 0 Ω (by omega) (by omega) (sfR_0 _ _).symm (fun _ _ => rfl)
theorem fl_X2_swapSides_18 : Cond.fieldLink RX2 18 "StrokeCuts$Scene" "marks" "[I" ∈ wsX2_swapSides := by decide +kernel
theorem in_X2_swapSides_X2 : ∀ x ∈ u_ws RX2 TX2 5, x ∈ wsX2_swapSides := by decide +kernel
set_option maxHeartbeats 4000000 in
set_option maxRecDepth 100000 in
theorem L_X2_swapSides_4 {E : zE} {w : zP} {l : Launch} {Post : Option Value → Mem → Prop} (hw : zOK w) (hC : zC E w l RX2 wsX2_swapSides cX2_swapSides 3 1 20 (some .int) Post) (σ : Sg) (Ω0 : Mem) (N : Nat) (hN : (N : Int) = gt Ω0 13 0 * gt Ω0 13 1) (hN36 : N ≤ 36) (K : ∀ Ω : Mem, scC Ω = sfS σ N → (∀ q, q ≠ 16 → Ω q = Ω0 q) → X E Ω 51 [some (.ref (wa w 13)), some (.int (zI (sfSc σ N))), some (.int (zI (N : Int)))] []) : ∀ (n : Nat) (k : Nat) (Ω : Mem), N < k + n → (k ≤ N) → (scC Ω = sfS σ k) → (∀ q, q ≠ 16 → Ω q = Ω0 q) → X E Ω 4 [some (.ref (wa w 13)), some (.int (zI (sfSc σ k))), some (.int (zI (k : Int)))] [] := by
  intro n
  induction n with
  | zero =>
    intro k Ω hfu hk hs hF
    exact absurd hfu (by omega)
  | succ n ih =>
    intro k Ω hfu hk hs hF
    have e0 := gt_fr (hF 13 (by decide)) 0
    have e1 := gt_fr (hF 13 (by decide)) 1
    have hmk : k < 36 → gt Ω 16 k = σ (44 + k) := fun h => by rw [← scC_mk Ω h, hs, sfS_at]
    refine z_iload_n (pc := 4) hC (i := 2) dX2_swapSides_4 rfl rfl ?_
    refine z_aload_n (pc := 5) hC (i := 0) dX2_swapSides_5 rfl rfl ?_
    refine z_callV (n := 0) (T := TX2) (N := 5) (ci := 2) (pc := 6) hC (c_X2_dots l w hw _) gX2_swapSides_X2_dots rfl (by decide +kernel) (by decide) (by decide) rfl (by decide) (fun _ => rfl) rfl rfl (Nat.le_of_ble_eq_true rfl) dX2_swapSides_6 (zi_k fun r6 Ω6 h6 => ?_)
    obtain ⟨rfl, hM6⟩ := h6
    obtain rfl := hM6.symm
    rw [e0, e1, ← hN]
    refine z_icmp_ge (pc := 9) hC 51 (by first | assumption | exact zb_gt _ _ _ | exact zcmp_zb _ _ | exact bI_zb _ | exact ⟨by omega, by omega⟩) (by first | assumption | exact zb_gt _ _ _ | exact zcmp_zb _ _ | exact bI_zb _ | exact ⟨by omega, by omega⟩) dX2_swapSides_9 rfl (fun h9 => ?_) (fun h9 => ?_)
    · obtain rfl : k = N := by omega
      exact K _ hs hF
    · refine z_aload_n (pc := 12) hC (i := 0) dX2_swapSides_12 rfl rfl ?_
      refine z_getR (C := RX2) (T := TX2) (N := 5) (ci := 2) (pc := 13) hC (.ref (wa w 16)) _ 4 in_X2_swapSides_X2 rfl (by decide) (fun _ => rfl) (by decide) fl_X2_swapSides_18 (fun _ => rfl) dX2_swapSides_13 ?_
      refine z_iload_n (pc := 16) hC (i := 2) dX2_swapSides_16 rfl rfl ?_
      refine z_ialk (pc := 17) hC _ _ (by decide) (fun _ => rfl) rfl (by omega) (by decide) dX2_swapSides_17 ?_
      refine z_if_eq (pc := 18) hC 45 (by first | assumption | exact zb_gt _ _ _ | exact zcmp_zb _ _ | exact bI_zb _ | exact ⟨by omega, by omega⟩) dX2_swapSides_18 rfl (fun h18 => ?_) (fun h18 => ?_)
      · refine z_iinc (pc := 45) hC (i := 2) dX2_swapSides_45 rfl (by decide) rfl (zS_s (zS_s zS_0)) ?_
        refine z_goto (pc := 48) hC 4 dX2_swapSides_48 rfl ?_
        have hc : sfSc σ (k + 1) = sfSc σ k := by unfold sfSc; rw [sm_s, if_pos (by rw [← hmk (by omega)]; exact h18)]; omega
        have hh := ih (k + 1) _ (by omega) (by omega) (by rw [hs]; exact sfS_n σ k (by rw [← hmk (by omega)]; exact h18)) (hF)
        rw [hc] at hh
        exact hh
      · refine z_aload_n (pc := 21) hC (i := 0) dX2_swapSides_21 rfl rfl ?_
        refine z_getR (C := RX2) (T := TX2) (N := 5) (ci := 2) (pc := 22) hC (.ref (wa w 16)) _ 4 in_X2_swapSides_X2 rfl (by decide) (fun _ => rfl) (by decide) fl_X2_swapSides_18 (fun _ => rfl) dX2_swapSides_22 ?_
        refine z_iload_n (pc := 25) hC (i := 2) dX2_swapSides_25 rfl rfl ?_
        refine z_aload_n (pc := 26) hC (i := 0) dX2_swapSides_26 rfl rfl ?_
        refine z_getR (C := RX2) (T := TX2) (N := 5) (ci := 2) (pc := 27) hC (.ref (wa w 16)) _ 4 in_X2_swapSides_X2 rfl (by decide) (fun _ => rfl) (by decide) fl_X2_swapSides_18 (fun _ => rfl) dX2_swapSides_27 ?_
        refine z_iload_n (pc := 30) hC (i := 2) dX2_swapSides_30 rfl rfl ?_
        refine z_ialk (pc := 31) hC _ _ (by decide) (fun _ => rfl) rfl (by omega) (by decide) dX2_swapSides_31 ?_
        refine z_iconst (pc := 32) hC dX2_swapSides_32 ?_
        refine z_icmp_ne (pc := 33) hC 40 (by first | assumption | exact zb_gt _ _ _ | exact zcmp_zb _ _ | exact bI_zb _ | exact ⟨by omega, by omega⟩) (by first | assumption | exact zb_gt _ _ _ | exact zcmp_zb _ _ | exact bI_zb _ | exact ⟨by omega, by omega⟩) dX2_swapSides_33 rfl (fun h33 => ?_) (fun h33 => ?_)
        · refine z_iconst (pc := 40) hC dX2_swapSides_40 ?_
          refine z_iask (pc := 41) hC _ _ (by decide) (fun _ => rfl) rfl (by omega) (by decide) dX2_swapSides_41 ?_
          refine z_iinc (pc := 42) hC (i := 1) dX2_swapSides_42 rfl (by decide) rfl (zS_s zS_0) ?_
          refine z_iinc (pc := 45) hC (i := 2) dX2_swapSides_45 rfl (by decide) rfl (zS_s (zS_s zS_0)) ?_
          refine z_goto (pc := 48) hC 4 dX2_swapSides_48 rfl ?_
          have hc : sfSc σ (k + 1) = sfSc σ k + 1 := by unfold sfSc; rw [sm_s, if_neg (by rw [← hmk (by omega)]; exact h18)]
          have hh := ih (k + 1) _ (by omega) (by omega) (by rw [scC_upmk _ (k := k) (v := 1) (by omega) ⟨by omega, by omega⟩, hs, ← sfS_s σ k (by rw [← hmk (by omega)]; exact h18), if_neg (by rw [← hmk (by omega)]; exact h33)]) (fun q h1 => by rw [ups_n _ _ _ h1]; exact hF q h1)
          rw [hc] at hh
          exact hh
        · refine z_iconst (pc := 36) hC dX2_swapSides_36 ?_
          refine z_goto (pc := 37) hC 41 dX2_swapSides_37 rfl ?_
          refine z_iask (pc := 41) hC _ _ (by decide) (fun _ => rfl) rfl (by omega) (by decide) dX2_swapSides_41 ?_
          refine z_iinc (pc := 42) hC (i := 1) dX2_swapSides_42 rfl (by decide) rfl (zS_s zS_0) ?_
          refine z_iinc (pc := 45) hC (i := 2) dX2_swapSides_45 rfl (by decide) rfl (zS_s (zS_s zS_0)) ?_
          refine z_goto (pc := 48) hC 4 dX2_swapSides_48 rfl ?_
          have hc : sfSc σ (k + 1) = sfSc σ k + 1 := by unfold sfSc; rw [sm_s, if_neg (by rw [← hmk (by omega)]; exact h18)]
          have hh := ih (k + 1) _ (by omega) (by omega) (by rw [scC_upmk _ (k := k) (v := 2) (by omega) ⟨by omega, by omega⟩, hs, ← sfS_s σ k (by rw [← hmk (by omega)]; exact h18), if_pos (by rw [← hmk (by omega)]; exact h33)]) (fun q h1 => by rw [ups_n _ _ _ h1]; exact hF q h1)
          rw [hc] at hh
          exact hh
theorem fl_X2_swapSides_9 : Cond.fieldLink RX2 9 "StrokeCuts$Scene" "settings" "[I" ∈ wsX2_swapSides := by decide +kernel
set_option maxHeartbeats 4000000 in
set_option maxRecDepth 100000 in
theorem c_X2_swapSides (l : Launch) (w : zP) (hw : zOK w) (Ω : Mem) (hv : scok (scC Ω)) : zM l w yX2_swapSides wsX2_swapSides 1 20 [.ref (wa w 13)] Ω (zi (fun r Ω1 => r = sfSc (scC Ω) (sdots (scC Ω)) ∧ scC Ω1 = sup (sup (sfS (scC Ω) (sdots (scC Ω))) (2 + 3) (scC Ω 6)) (2 + 4) (scC Ω 5) ∧ ∀ q, q ≠ 14 → q ≠ 16 → Ω1 q = Ω q)) := by
  refine zM_of cX2_swapSides 3 (some .int) RX2 [some (.ref (wa w 13)), none, none] hw (by decide +kernel) rfl rfl (Nat.le_of_ble_eq_true rfl) rfl (fun E hC => ?_)
  refine z_iconst (pc := 0) hC dX2_swapSides_0 ?_
  refine z_istore_n (pc := 1) hC (i := 1) dX2_swapSides_1 rfl (by decide) rfl (zS_s zS_0) ?_
  refine z_iconst (pc := 2) hC dX2_swapSides_2 ?_
  refine z_istore_n (pc := 3) hC (i := 2) dX2_swapSides_3 rfl (by decide) rfl (zS_s (zS_s zS_0)) ?_
  have hd := sdots_le hv
  refine L_X2_swapSides_4 hw hC (scC Ω) Ω (sdots (scC Ω)) hd.2.2 hd.2.1 (fun Ω1 h1 h2 => ?_) (sdots (scC Ω) + 1) 0 Ω (by omega) (by omega) (sfS_0 _).symm (fun _ _ => rfl)
  have ht3 : gt Ω1 14 3 = scC Ω 5 := gt_fr (h2 14 (by decide)) 3
  have ht4 : gt Ω1 14 4 = scC Ω 6 := gt_fr (h2 14 (by decide)) 4
  refine z_aload_n (pc := 51) hC (i := 0) dX2_swapSides_51 rfl rfl ?_
  refine z_getR (C := RX2) (T := TX2) (N := 5) (ci := 2) (pc := 52) hC (.ref (wa w 14)) _ 2 in_X2_swapSides_X2 rfl (by decide) (fun _ => rfl) (by decide) fl_X2_swapSides_9 (fun _ => rfl) dX2_swapSides_52 ?_
  refine z_iconst (pc := 55) hC dX2_swapSides_55 ?_
  refine z_ialk (pc := 56) hC _ 3 (by decide) (fun _ => rfl) rfl (by decide) (by decide) dX2_swapSides_56 ?_
  refine z_istore_n (pc := 57) hC (i := 2) dX2_swapSides_57 rfl (by decide) rfl (zS_s (zS_s zS_0)) ?_
  refine z_aload_n (pc := 58) hC (i := 0) dX2_swapSides_58 rfl rfl ?_
  refine z_getR (C := RX2) (T := TX2) (N := 5) (ci := 2) (pc := 59) hC (.ref (wa w 14)) _ 2 in_X2_swapSides_X2 rfl (by decide) (fun _ => rfl) (by decide) fl_X2_swapSides_9 (fun _ => rfl) dX2_swapSides_59 ?_
  refine z_iconst (pc := 62) hC dX2_swapSides_62 ?_
  refine z_aload_n (pc := 63) hC (i := 0) dX2_swapSides_63 rfl rfl ?_
  refine z_getR (C := RX2) (T := TX2) (N := 5) (ci := 2) (pc := 64) hC (.ref (wa w 14)) _ 2 in_X2_swapSides_X2 rfl (by decide) (fun _ => rfl) (by decide) fl_X2_swapSides_9 (fun _ => rfl) dX2_swapSides_64 ?_
  refine z_iconst (pc := 67) hC dX2_swapSides_67 ?_
  refine z_ialk (pc := 68) hC _ 4 (by decide) (fun _ => rfl) rfl (by decide) (by decide) dX2_swapSides_68 ?_
  refine z_iask (pc := 69) hC _ 3 (by decide) (fun _ => rfl) rfl (by decide) (by decide) dX2_swapSides_69 ?_
  refine z_aload_n (pc := 70) hC (i := 0) dX2_swapSides_70 rfl rfl ?_
  refine z_getR (C := RX2) (T := TX2) (N := 5) (ci := 2) (pc := 71) hC (.ref (wa w 14)) _ 2 in_X2_swapSides_X2 rfl (by decide) (fun _ => rfl) (by decide) fl_X2_swapSides_9 (fun _ => rfl) dX2_swapSides_71 ?_
  refine z_iconst (pc := 74) hC dX2_swapSides_74 ?_
  refine z_iload_n (pc := 75) hC (i := 2) dX2_swapSides_75 rfl rfl ?_
  refine z_iask (pc := 76) hC _ 4 (by decide) (fun _ => rfl) rfl (by decide) (by decide) dX2_swapSides_76 ?_
  refine z_iload_n (pc := 77) hC (i := 1) dX2_swapSides_77 rfl rfl ?_
  exact z_iret (pc := 78) hC rfl ⟨_, rfl, ⟨rfl, by rw [scC_upse _ (by decide) (zb_gt _ _ _), scC_upse _ (by decide) (zb_gt _ _ _), h1, ht3, ht4], fun q h3 h4 => by rw [ups_n _ _ _ h3, ups_n _ _ _ h3]; exact h2 q h4⟩⟩ dX2_swapSides_78
