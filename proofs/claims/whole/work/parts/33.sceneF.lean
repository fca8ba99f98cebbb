/-! ===== sets made of numbers ===== -/
def lnS (f : Nat → Nat) : Nat → Int64
  | 0 => 0
  | n + 1 => lnS f n ||| ((1 : Int64) <<< ((zI (f n : Nat)).toInt64 &&& 63))
theorem lnS_tb {f : Nat → Nat} : ∀ {n : Nat}, (∀ k, k < n → f k < 64) → ∀ v, tb (lnS f n) v = true ↔ ∃ k, k < n ∧ f k = v
  | 0, _, v => by
    rw [lnS, tb_0]
    constructor
    · intro h; cases h
    · rintro ⟨k, h, -⟩; omega
  | n + 1, h, v => by
    have ih := lnS_tb (f := f) (n := n) (fun k hk => h k (by omega)) v
    have hn := h n (by omega)
    rw [lnS, tb_or, tb_one_shl hn, Bool.or_eq_true, ih, Bool.and_eq_true, decide_eq_true_eq, decide_eq_true_eq]
    constructor
    · rintro (⟨k, a, b⟩ | ⟨a, b⟩)
      · exact ⟨k, by omega, b⟩
      · exact ⟨n, by omega, b.symm⟩
    · rintro ⟨k, a, b⟩
      by_cases e : k = n
      · subst e; right; exact ⟨by omega, b.symm⟩
      · left; exact ⟨k, by omega, b⟩
def colF (σ : Sg) (x : Nat) : Nat → Nat := fun y => sw σ * y + x
def rowF (σ : Sg) (y : Nat) : Nat → Nat := fun x => sw σ * y + x
def colS (σ : Sg) (x : Nat) : Int64 := lnS (colF σ x) (sh σ)
def rowS (σ : Sg) (y : Nat) : Int64 := lnS (rowF σ y) (sw σ)
/-- the line's places -/
def lnN (x y tx ty : Int) : Int := max (zabs (tx - x)) (zabs (ty - y))
def lnA (a b n : Int) (k : Nat) : Int := if n = 0 then a else a + (2 * (k : Int) * (b - a) + n) / (2 * n)
def lnF (σ : Sg) (x y tx ty : Int) (k : Nat) : Nat := (σ 0 * lnA y ty (lnN x y tx ty) k + lnA x tx (lnN x y tx ty) k).toNat
def lineS (σ : Sg) (x y tx ty : Int) : Int64 := lnS (lnF σ x y tx ty) ((lnN x y tx ty).toNat + 1)
theorem lnA_in {a b n : Int} {k : Nat} (hn : zabs (b - a) ≤ n) (hk : (k : Int) ≤ n) {lo hi : Int} (ha : lo ≤ a ∧ a ≤ hi) (hb : lo ≤ b ∧ b ≤ hi) : lo ≤ lnA a b n k ∧ lnA a b n k ≤ hi := by
  unfold lnA
  by_cases h0 : n = 0
  · rw [if_pos h0]; exact ha
  · rw [if_neg h0]
    unfold zabs at hn
    have hp : 0 < n := by omega
    have key : min 0 (b - a) ≤ (2 * (k : Int) * (b - a) + n) / (2 * n) ∧ (2 * (k : Int) * (b - a) + n) / (2 * n) ≤ max 0 (b - a) := by
      have hkd : (k : Int) * (b - a) ≤ max 0 (b - a) * n ∧ min 0 (b - a) * n ≤ (k : Int) * (b - a) := by
        by_cases hs : 0 ≤ b - a
        · rw [Int.max_eq_right hs, Int.min_eq_left hs]
          constructor
          · rw [Int.mul_comm (b - a) n]; exact Int.mul_le_mul_of_nonneg_right hk hs
          · rw [Int.zero_mul]; exact Int.mul_nonneg (by omega) hs
        · rw [Int.max_eq_left (by omega), Int.min_eq_right (by omega)]
          constructor
          · rw [Int.zero_mul]; exact Int.mul_nonpos_of_nonneg_of_nonpos (by omega) (by omega)
          · rw [Int.mul_comm (b - a) n]; exact Int.mul_le_mul_of_nonpos_right hk (by omega)
      have e : 2 * (k : Int) * (b - a) = 2 * ((k : Int) * (b - a)) := Int.mul_assoc _ _ _
      rw [e]
      constructor
      · rw [Int.le_ediv_iff_mul_le (by omega)]
        have e2 : min 0 (b - a) * (2 * n) = 2 * (min 0 (b - a) * n) := by rw [Int.mul_left_comm]
        rw [e2]; omega
      · apply Int.lt_add_one_iff.mp
        rw [Int.ediv_lt_iff_lt_mul (by omega)]
        have e2 : (max 0 (b - a) + 1) * (2 * n) = 2 * (max 0 (b - a) * n) + 2 * n := by rw [Int.add_mul, Int.one_mul, Int.mul_left_comm]
        rw [e2]; omega
    omega
theorem lnN_b {x y tx ty : Int} (hx : 0 ≤ x ∧ x ≤ 5) (hy : 0 ≤ y ∧ y ≤ 5) (hx2 : 0 ≤ tx ∧ tx ≤ 5) (hy2 : 0 ≤ ty ∧ ty ≤ 5) : 0 ≤ lnN x y tx ty ∧ lnN x y tx ty ≤ 5 := by
  have h1 := zabs_le (a := tx - x) (b := 5) (by omega) (by omega)
  have h2 := zabs_le (a := ty - y) (b := 5) (by omega) (by omega)
  unfold lnN
  omega
theorem lnF_lt {σ : Sg} (h : scok σ) {x y tx ty : Int} (hx : 0 ≤ x ∧ x < σ 0) (hy : 0 ≤ y ∧ y < σ 1) (hx2 : 0 ≤ tx ∧ tx < σ 0) (hy2 : 0 ≤ ty ∧ ty < σ 1) {k : Nat} (hk : (k : Int) ≤ lnN x y tx ty) : lnF σ x y tx ty k < sdots σ ∧ (lnF σ x y tx ty k : Int) = σ 0 * lnA y ty (lnN x y tx ty) k + lnA x tx (lnN x y tx ty) k := by
  have a1 := lnA_in (a := x) (b := tx) (n := lnN x y tx ty) (by unfold lnN; omega) hk (lo := 0) (hi := σ 0 - 1) (by omega) (by omega)
  have a2 := lnA_in (a := y) (b := ty) (n := lnN x y tx ty) (by unfold lnN; omega) hk (lo := 0) (hi := σ 1 - 1) (by omega) (by omega)
  have a3 := sN_lt h a1.1 (by omega : lnA x tx (lnN x y tx ty) k < σ 0) a2.1 (by omega : lnA y ty (lnN x y tx ty) k < σ 1)
  have a4 := sdots_le h
  unfold lnF
  omega

theorem fl_X2_column_25 : Cond.fieldLink RX2 25 "StrokeCuts$Scene" "height" "I" ∈ wsX2_column := by decide +kernel
theorem in_X2_column_X2 : ∀ x ∈ u_ws RX2 TX2 5, x ∈ wsX2_column := by decide +kernel
set_option maxHeartbeats 4000000 in
set_option maxRecDepth 100000 in
theorem L_X2_column_5 {E : zE} {w : zP} {l : Launch} {Post : Option Value → Mem → Prop} (hw : zOK w) (hC : zC E w l RX2 wsX2_column cX2_column 5 1 22 (some .long) Post) (Ω : Mem) (a : Nat) (hv : scok (scC Ω)) (K : X E Ω 32 [some (.ref (wa w 13)), some (.int (zI (a : Int))), some (.long (lnS (colF (scC Ω) a) (sh (scC Ω)))), none, some (.int (zI ((sh (scC Ω) : Nat) : Int)))] []) : ∀ (n : Nat) (k : Nat), sh (scC Ω) < k + n → (k ≤ sh (scC Ω)) → X E Ω 5 [some (.ref (wa w 13)), some (.int (zI (a : Int))), some (.long (lnS (colF (scC Ω) a) k)), none, some (.int (zI (k : Int)))] [] := by
  intro n
  induction n with
  | zero =>
    intro k hfu hk
    exact absurd hfu (by omega)
  | succ n ih =>
    intro k hfu hk
    have hW := sw_eq hv
    have hH := sh_eq hv
    rw [scC_0] at hW
    rw [scC_1] at hH
    have hD := sdots_le hv
    refine z_iload (pc := 5) hC (i := 4) dX2_column_5 rfl ?_
    refine z_aload_n (pc := 7) hC (i := 0) dX2_column_7 rfl rfl ?_
    refine z_getI (C := RX2) (T := TX2) (N := 5) (ci := 2) (pc := 8) hC _ 1 in_X2_column_X2 rfl (by decide) (fun _ => rfl) (by decide) fl_X2_column_25 (fun _ => rfl) dX2_column_8 ?_
    refine z_icmp_ge (pc := 11) hC 32 (by first | assumption | exact zb_gt _ _ _ | exact zcmp_zb _ _ | exact bI_zb _ | exact ⟨by omega, by omega⟩) (by first | assumption | exact zb_gt _ _ _ | exact zcmp_zb _ _ | exact bI_zb _ | exact ⟨by omega, by omega⟩) dX2_column_11 rfl (fun h11 => ?_) (fun h11 => ?_)
    · obtain rfl : k = sh (scC Ω) := by omega
      exact K
    · refine z_lload_n (pc := 14) hC (i := 2) dX2_column_14 rfl rfl ?_
      refine z_lconst (pc := 15) hC (v := 1) dX2_column_15 rfl ?_
      refine z_aload_n (pc := 16) hC (i := 0) dX2_column_16 rfl rfl ?_
      refine z_iload_n (pc := 17) hC (i := 1) dX2_column_17 rfl rfl ?_
      refine z_iload (pc := 18) hC (i := 4) dX2_column_18 rfl ?_
      refine z_callV (n := 2) (T := TX2) (N := 5) (ci := 2) (pc := 20) hC (c_X2_numberOf l w hw _ _ _) gX2_column_X2_numberOf rfl (by decide +kernel) (by decide) (by decide) rfl (by decide) (fun _ => rfl) rfl rfl (Nat.le_of_ble_eq_true rfl) dX2_column_20 (zi_k fun r20 Ω20 h20 => ?_)
      obtain ⟨rfl, hM20⟩ := h20
      obtain rfl := hM20.symm
      rw [show gt Ω 13 0 * (k : Int) + (a : Int) = ((sw (scC Ω) * k + a : Nat) : Int) from sw_num hv a k]
      refine z_lshl (pc := 23) hC rfl dX2_column_23 ?_
      refine z_lor (pc := 24) hC dX2_column_24 ?_
      refine z_lstore_n (pc := 25) hC (i := 2) dX2_column_25 rfl (by decide) rfl (zS2_s (zS2_s zS2_0)) ?_
      refine z_iinc (pc := 26) hC (i := 4) dX2_column_26 rfl (by decide) rfl (zS_s (zS_s (zS_s (zS_s zS_0)))) ?_
      refine z_goto (pc := 29) hC 5 dX2_column_29 rfl ?_
      exact ih (k + 1) (by omega) (by omega)
set_option maxHeartbeats 4000000 in
set_option maxRecDepth 100000 in
theorem c_X2_column (l : Launch) (w : zP) (hw : zOK w) (Ω : Mem) (a : Nat) (hv : scok (scC Ω)) : zM l w yX2_column wsX2_column 1 22 [.ref (wa w 13), .int (zI (a : Int))] Ω (zlo (fun r Ω1 => r = colS (scC Ω) a ∧ Ω1 = Ω)) := by
  refine zM_of cX2_column 5 (some .long) RX2 [some (.ref (wa w 13)), some (.int (zI (a : Int))), none, none, none] hw (by decide +kernel) rfl rfl (Nat.le_of_ble_eq_true rfl) rfl (fun E hC => ?_)
  refine z_lconst (pc := 0) hC (v := 0) dX2_column_0 rfl ?_
  refine z_lstore_n (pc := 1) hC (i := 2) dX2_column_1 rfl (by decide) rfl (zS2_s (zS2_s zS2_0)) ?_
  refine z_iconst (pc := 2) hC dX2_column_2 ?_
  refine z_istore (pc := 3) hC (i := 4) dX2_column_3 (by decide) rfl (zS_s (zS_s (zS_s (zS_s zS_0)))) ?_
  refine L_X2_column_5 hw hC Ω a hv ?_ (sh (scC Ω) + 1) 0 (by omega) (by omega)
  refine z_lload_n (pc := 32) hC (i := 2) dX2_column_32 rfl rfl ?_
  exact z_lret (pc := 33) hC rfl ⟨_, rfl, ⟨rfl, rfl⟩⟩ dX2_column_33
theorem fl_X2_row_21 : Cond.fieldLink RX2 21 "StrokeCuts$Scene" "width" "I" ∈ wsX2_row := by decide +kernel
theorem in_X2_row_X2 : ∀ x ∈ u_ws RX2 TX2 5, x ∈ wsX2_row := by decide +kernel
set_option maxHeartbeats 4000000 in
set_option maxRecDepth 100000 in
theorem L_X2_row_5 {E : zE} {w : zP} {l : Launch} {Post : Option Value → Mem → Prop} (hw : zOK w) (hC : zC E w l RX2 wsX2_row cX2_row 5 1 22 (some .long) Post) (Ω : Mem) (a : Nat) (hv : scok (scC Ω)) (K : X E Ω 32 [some (.ref (wa w 13)), some (.int (zI (a : Int))), some (.long (lnS (rowF (scC Ω) a) (sw (scC Ω)))), none, some (.int (zI ((sw (scC Ω) : Nat) : Int)))] []) : ∀ (n : Nat) (k : Nat), sw (scC Ω) < k + n → (k ≤ sw (scC Ω)) → X E Ω 5 [some (.ref (wa w 13)), some (.int (zI (a : Int))), some (.long (lnS (rowF (scC Ω) a) k)), none, some (.int (zI (k : Int)))] [] := by
  intro n
  induction n with
  | zero =>
    intro k hfu hk
    exact absurd hfu (by omega)
  | succ n ih =>
    intro k hfu hk
    have hW := sw_eq hv
    have hH := sh_eq hv
    rw [scC_0] at hW
    rw [scC_1] at hH
    have hD := sdots_le hv
    refine z_iload (pc := 5) hC (i := 4) dX2_row_5 rfl ?_
    refine z_aload_n (pc := 7) hC (i := 0) dX2_row_7 rfl rfl ?_
    refine z_getI (C := RX2) (T := TX2) (N := 5) (ci := 2) (pc := 8) hC _ 0 in_X2_row_X2 rfl (by decide) (fun _ => rfl) (by decide) fl_X2_row_21 (fun _ => rfl) dX2_row_8 ?_
    refine z_icmp_ge (pc := 11) hC 32 (by first | assumption | exact zb_gt _ _ _ | exact zcmp_zb _ _ | exact bI_zb _ | exact ⟨by omega, by omega⟩) (by first | assumption | exact zb_gt _ _ _ | exact zcmp_zb _ _ | exact bI_zb _ | exact ⟨by omega, by omega⟩) dX2_row_11 rfl (fun h11 => ?_) (fun h11 => ?_)
    · obtain rfl : k = sw (scC Ω) := by omega
      exact K
    · refine z_lload_n (pc := 14) hC (i := 2) dX2_row_14 rfl rfl ?_
      refine z_lconst (pc := 15) hC (v := 1) dX2_row_15 rfl ?_
      refine z_aload_n (pc := 16) hC (i := 0) dX2_row_16 rfl rfl ?_
      refine z_iload (pc := 17) hC (i := 4) dX2_row_17 rfl ?_
      refine z_iload_n (pc := 19) hC (i := 1) dX2_row_19 rfl rfl ?_
      refine z_callV (n := 2) (T := TX2) (N := 5) (ci := 2) (pc := 20) hC (c_X2_numberOf l w hw _ _ _) gX2_row_X2_numberOf rfl (by decide +kernel) (by decide) (by decide) rfl (by decide) (fun _ => rfl) rfl rfl (Nat.le_of_ble_eq_true rfl) dX2_row_20 (zi_k fun r20 Ω20 h20 => ?_)
      obtain ⟨rfl, hM20⟩ := h20
      obtain rfl := hM20.symm
      rw [show gt Ω 13 0 * (a : Int) + (k : Int) = ((sw (scC Ω) * a + k : Nat) : Int) from sw_num hv k a]
      refine z_lshl (pc := 23) hC rfl dX2_row_23 ?_
      refine z_lor (pc := 24) hC dX2_row_24 ?_
      refine z_lstore_n (pc := 25) hC (i := 2) dX2_row_25 rfl (by decide) rfl (zS2_s (zS2_s zS2_0)) ?_
      refine z_iinc (pc := 26) hC (i := 4) dX2_row_26 rfl (by decide) rfl (zS_s (zS_s (zS_s (zS_s zS_0)))) ?_
      refine z_goto (pc := 29) hC 5 dX2_row_29 rfl ?_
      exact ih (k + 1) (by omega) (by omega)
set_option maxHeartbeats 4000000 in
set_option maxRecDepth 100000 in
theorem c_X2_row (l : Launch) (w : zP) (hw : zOK w) (Ω : Mem) (a : Nat) (hv : scok (scC Ω)) : zM l w yX2_row wsX2_row 1 22 [.ref (wa w 13), .int (zI (a : Int))] Ω (zlo (fun r Ω1 => r = rowS (scC Ω) a ∧ Ω1 = Ω)) := by
  refine zM_of cX2_row 5 (some .long) RX2 [some (.ref (wa w 13)), some (.int (zI (a : Int))), none, none, none] hw (by decide +kernel) rfl rfl (Nat.le_of_ble_eq_true rfl) rfl (fun E hC => ?_)
  refine z_lconst (pc := 0) hC (v := 0) dX2_row_0 rfl ?_
  refine z_lstore_n (pc := 1) hC (i := 2) dX2_row_1 rfl (by decide) rfl (zS2_s (zS2_s zS2_0)) ?_
  refine z_iconst (pc := 2) hC dX2_row_2 ?_
  refine z_istore (pc := 3) hC (i := 4) dX2_row_3 (by decide) rfl (zS_s (zS_s (zS_s (zS_s zS_0)))) ?_
  refine L_X2_row_5 hw hC Ω a hv ?_ (sw (scC Ω) + 1) 0 (by omega) (by omega)
  refine z_lload_n (pc := 32) hC (i := 2) dX2_row_32 rfl rfl ?_
  exact z_lret (pc := 33) hC rfl ⟨_, rfl, ⟨rfl, rfl⟩⟩ dX2_row_33
def bordS (σ : Sg) : Int64 := colS σ 0 ||| colS σ (sw σ - 1) ||| rowS σ 0 ||| rowS σ (sh σ - 1)
theorem fl_X2_border_21 : Cond.fieldLink RX2 21 "StrokeCuts$Scene" "width" "I" ∈ wsX2_border := by decide +kernel
theorem in_X2_border_X2 : ∀ x ∈ u_ws RX2 TX2 5, x ∈ wsX2_border := by decide +kernel
theorem fl_X2_border_25 : Cond.fieldLink RX2 25 "StrokeCuts$Scene" "height" "I" ∈ wsX2_border := by decide +kernel
set_option maxHeartbeats 4000000 in
set_option maxRecDepth 100000 in
theorem c_X2_border (l : Launch) (w : zP) (hw : zOK w) (Ω : Mem) (hv : scok (scC Ω)) : zM l w yX2_border wsX2_border 2 46 [.ref (wa w 13)] Ω (zlo (fun r Ω1 => r = bordS (scC Ω) ∧ Ω1 = Ω)) := by
  refine zM_of cX2_border 1 (some .long) RX2 [some (.ref (wa w 13))] hw (by decide +kernel) rfl rfl (Nat.le_of_ble_eq_true rfl) rfl (fun E hC => ?_)
  have hW := sw_eq hv
  have hH := sh_eq hv
  rw [scC_0] at hW
  rw [scC_1] at hH
  refine z_aload_n (pc := 0) hC (i := 0) dX2_border_0 rfl rfl ?_
  refine z_iconst (pc := 1) hC dX2_border_1 ?_
  refine z_callV (n := 1) (T := TX2) (N := 5) (ci := 2) (pc := 2) hC (c_X2_column l w hw _ 0 hv) gX2_border_X2_column rfl (by decide +kernel) (by decide) (by decide) rfl (by decide) (fun _ => rfl) rfl rfl (Nat.le_of_ble_eq_true rfl) dX2_border_2 (zl_k fun r2 Ω2 h2 => ?_)
  obtain ⟨rfl, hM2⟩ := h2
  obtain rfl := hM2.symm
  refine z_aload_n (pc := 5) hC (i := 0) dX2_border_5 rfl rfl ?_
  refine z_aload_n (pc := 6) hC (i := 0) dX2_border_6 rfl rfl ?_
  refine z_getI (C := RX2) (T := TX2) (N := 5) (ci := 2) (pc := 7) hC _ 0 in_X2_border_X2 rfl (by decide) (fun _ => rfl) (by decide) fl_X2_border_21 (fun _ => rfl) dX2_border_7 ?_
  refine z_iconst (pc := 10) hC dX2_border_10 ?_
  refine z_isub (pc := 11) hC dX2_border_11 ?_
  rw [show gt Ω 13 0 - 1 = ((sw (scC Ω) - 1 : Nat) : Int) by omega]
  refine z_callV (n := 1) (T := TX2) (N := 5) (ci := 2) (pc := 12) hC (c_X2_column l w hw _ _ hv) gX2_border_X2_column rfl (by decide +kernel) (by decide) (by decide) rfl (by decide) (fun _ => rfl) rfl rfl (Nat.le_of_ble_eq_true rfl) dX2_border_12 (zl_k fun r12 Ω12 h12 => ?_)
  obtain ⟨rfl, hM12⟩ := h12
  obtain rfl := hM12.symm
  refine z_lor (pc := 15) hC dX2_border_15 ?_
  refine z_aload_n (pc := 16) hC (i := 0) dX2_border_16 rfl rfl ?_
  refine z_iconst (pc := 17) hC dX2_border_17 ?_
  refine z_callV (n := 1) (T := TX2) (N := 5) (ci := 2) (pc := 18) hC (c_X2_row l w hw _ 0 hv) gX2_border_X2_row rfl (by decide +kernel) (by decide) (by decide) rfl (by decide) (fun _ => rfl) rfl rfl (Nat.le_of_ble_eq_true rfl) dX2_border_18 (zl_k fun r18 Ω18 h18 => ?_)
  obtain ⟨rfl, hM18⟩ := h18
  obtain rfl := hM18.symm
  refine z_lor (pc := 21) hC dX2_border_21 ?_
  refine z_aload_n (pc := 22) hC (i := 0) dX2_border_22 rfl rfl ?_
  refine z_aload_n (pc := 23) hC (i := 0) dX2_border_23 rfl rfl ?_
  refine z_getI (C := RX2) (T := TX2) (N := 5) (ci := 2) (pc := 24) hC _ 1 in_X2_border_X2 rfl (by decide) (fun _ => rfl) (by decide) fl_X2_border_25 (fun _ => rfl) dX2_border_24 ?_
  refine z_iconst (pc := 27) hC dX2_border_27 ?_
  refine z_isub (pc := 28) hC dX2_border_28 ?_
  rw [show gt Ω 13 1 - 1 = ((sh (scC Ω) - 1 : Nat) : Int) by omega]
  refine z_callV (n := 1) (T := TX2) (N := 5) (ci := 2) (pc := 29) hC (c_X2_row l w hw _ _ hv) gX2_border_X2_row rfl (by decide +kernel) (by decide) (by decide) rfl (by decide) (fun _ => rfl) rfl rfl (Nat.le_of_ble_eq_true rfl) dX2_border_29 (zl_k fun r29 Ω29 h29 => ?_)
  obtain ⟨rfl, hM29⟩ := h29
  obtain rfl := hM29.symm
  refine z_lor (pc := 32) hC dX2_border_32 ?_
  exact z_lret (pc := 33) hC rfl ⟨_, rfl, ⟨rfl, rfl⟩⟩ dX2_border_33
set_option maxHeartbeats 4000000 in
set_option maxRecDepth 100000 in
theorem L_X2_lineOf_38 {E : zE} {w : zP} {l : Launch} {Post : Option Value → Mem → Prop} (hw : zOK w) (hC : zC E w l RX2 wsX2_lineOf cX2_lineOf 11 1 22 (some .long) Post) (Ω : Mem) (x y tx ty : Int) (hv : scok (scC Ω)) (hx : 0 ≤ x ∧ x < gt Ω 13 0) (hy : 0 ≤ y ∧ y < gt Ω 13 1) (hx2 : 0 ≤ tx ∧ tx < gt Ω 13 0) (hy2 : 0 ≤ ty ∧ ty < gt Ω 13 1) (h0 : ¬ lnN x y tx ty = 0) (K : ∀ o9 o10 : Option Value, X E Ω 111 [some (.ref (wa w 13)), some (.int (zI x)), some (.int (zI y)), some (.int (zI tx)), some (.int (zI ty)), some (.int (zI (lnN x y tx ty))), some (.long (lnS (lnF (scC Ω) x y tx ty) ((lnN x y tx ty).toNat + 1))), none, some (.int (zI ((((lnN x y tx ty).toNat + 1) : Nat) : Int))), o9, o10] []) : ∀ (n : Nat) (k : Nat) (o9 : Option Value) (o10 : Option Value), ((lnN x y tx ty).toNat + 1) < k + n → (k ≤ ((lnN x y tx ty).toNat + 1)) → X E Ω 38 [some (.ref (wa w 13)), some (.int (zI x)), some (.int (zI y)), some (.int (zI tx)), some (.int (zI ty)), some (.int (zI (lnN x y tx ty))), some (.long (lnS (lnF (scC Ω) x y tx ty) k)), none, some (.int (zI (k : Int))), o9, o10] [] := by
  intro n
  induction n with
  | zero =>
    intro k o9 o10 hfu hk
    exact absurd hfu (by omega)
  | succ n ih =>
    intro k o9 o10 hfu hk
    have hok := id hv
    obtain ⟨⟨hW1, hW2⟩, ⟨hH1, hH2⟩, -⟩ := hok
    rw [scC_0] at hW1 hW2
    rw [scC_1] at hH1 hH2
    have hn := lnN_b (x := x) (y := y) (tx := tx) (ty := ty) (by omega) (by omega) (by omega) (by omega)
    refine z_iload (pc := 38) hC (i := 8) dX2_lineOf_38 rfl ?_
    refine z_iload (pc := 40) hC (i := 5) dX2_lineOf_40 rfl ?_
    refine z_icmp_gt (pc := 42) hC 111 (by first | assumption | exact zb_gt _ _ _ | exact zcmp_zb _ _ | exact bI_zb _ | exact ⟨by omega, by omega⟩) (by first | assumption | exact zb_gt _ _ _ | exact zcmp_zb _ _ | exact bI_zb _ | exact ⟨by omega, by omega⟩) dX2_lineOf_42 rfl (fun h42 => ?_) (fun h42 => ?_)
    · obtain rfl : k = ((lnN x y tx ty).toNat + 1) := by omega
      exact K _ _
    · have hk5 : (k : Int) * (tx - x) ≤ 25 ∧ -25 ≤ (k : Int) * (tx - x) := by
        have a1 := Int.mul_le_mul_of_nonneg_left (show tx - x ≤ 5 by omega) (show (0 : Int) ≤ k by omega)
        have a2 := Int.mul_le_mul_of_nonneg_left (show -5 ≤ tx - x by omega) (show (0 : Int) ≤ k by omega)
        omega
      have hk6 : (k : Int) * (ty - y) ≤ 25 ∧ -25 ≤ (k : Int) * (ty - y) := by
        have a1 := Int.mul_le_mul_of_nonneg_left (show ty - y ≤ 5 by omega) (show (0 : Int) ≤ k by omega)
        have a2 := Int.mul_le_mul_of_nonneg_left (show -5 ≤ ty - y by omega) (show (0 : Int) ≤ k by omega)
        omega
      have hkx : 2 * (k : Int) * (tx - x) = 2 * ((k : Int) * (tx - x)) := Int.mul_assoc _ _ _
      have hky : 2 * (k : Int) * (ty - y) = 2 * ((k : Int) * (ty - y)) := Int.mul_assoc _ _ _
      have hlt := lnF_lt hv hx hy hx2 hy2 (k := k) (by omega)
      have hD := sdots_le hv
      refine z_iload_n (pc := 45) hC (i := 1) dX2_lineOf_45 rfl rfl ?_
      refine z_iconst (pc := 46) hC dX2_lineOf_46 ?_
      refine z_iload (pc := 47) hC (i := 8) dX2_lineOf_47 rfl ?_
      refine z_imul (pc := 49) hC dX2_lineOf_49 ?_
      refine z_iload_n (pc := 50) hC (i := 3) dX2_lineOf_50 rfl rfl ?_
      refine z_iload_n (pc := 51) hC (i := 1) dX2_lineOf_51 rfl rfl ?_
      refine z_isub (pc := 52) hC dX2_lineOf_52 ?_
      refine z_imul (pc := 53) hC dX2_lineOf_53 ?_
      refine z_iload (pc := 54) hC (i := 5) dX2_lineOf_54 rfl ?_
      refine z_iadd (pc := 56) hC dX2_lineOf_56 ?_
      refine z_iconst (pc := 57) hC dX2_lineOf_57 ?_
      refine z_iload (pc := 58) hC (i := 5) dX2_lineOf_58 rfl ?_
      refine z_imul (pc := 60) hC dX2_lineOf_60 ?_
      refine z_callS (n := 2) (pc := 61) hC (c_J9_floorDiv_7cf53 l w hw _ _ _ (by omega) (by omega) (by omega)) gX2_lineOf_J9_floorDiv_7cf53 rfl (by decide +kernel) (by decide) (by decide) rfl rfl (Nat.le_of_ble_eq_true rfl) dX2_lineOf_61 (zi_k fun r61 Ω61 h61 => ?_)
      obtain ⟨rfl, hM61⟩ := h61
      obtain rfl := hM61.symm
      refine z_iadd (pc := 64) hC dX2_lineOf_64 ?_
      refine z_istore (pc := 65) hC (i := 9) dX2_lineOf_65 (by decide) rfl (zS_s (zS_s (zS_s (zS_s (zS_s (zS_s (zS_s (zS_s (zS_s zS_0))))))))) ?_
      refine z_iload_n (pc := 67) hC (i := 2) dX2_lineOf_67 rfl rfl ?_
      refine z_iconst (pc := 68) hC dX2_lineOf_68 ?_
      refine z_iload (pc := 69) hC (i := 8) dX2_lineOf_69 rfl ?_
      refine z_imul (pc := 71) hC dX2_lineOf_71 ?_
      refine z_iload (pc := 72) hC (i := 4) dX2_lineOf_72 rfl ?_
      refine z_iload_n (pc := 74) hC (i := 2) dX2_lineOf_74 rfl rfl ?_
      refine z_isub (pc := 75) hC dX2_lineOf_75 ?_
      refine z_imul (pc := 76) hC dX2_lineOf_76 ?_
      refine z_iload (pc := 77) hC (i := 5) dX2_lineOf_77 rfl ?_
      refine z_iadd (pc := 79) hC dX2_lineOf_79 ?_
      refine z_iconst (pc := 80) hC dX2_lineOf_80 ?_
      refine z_iload (pc := 81) hC (i := 5) dX2_lineOf_81 rfl ?_
      refine z_imul (pc := 83) hC dX2_lineOf_83 ?_
      refine z_callS (n := 2) (pc := 84) hC (c_J9_floorDiv_7cf53 l w hw _ _ _ (by omega) (by omega) (by omega)) gX2_lineOf_J9_floorDiv_7cf53 rfl (by decide +kernel) (by decide) (by decide) rfl rfl (Nat.le_of_ble_eq_true rfl) dX2_lineOf_84 (zi_k fun r84 Ω84 h84 => ?_)
      obtain ⟨rfl, hM84⟩ := h84
      obtain rfl := hM84.symm
      refine z_iadd (pc := 87) hC dX2_lineOf_87 ?_
      refine z_istore (pc := 88) hC (i := 10) dX2_lineOf_88 (by decide) rfl (zS_s (zS_s (zS_s (zS_s (zS_s (zS_s (zS_s (zS_s (zS_s (zS_s zS_0)))))))))) ?_
      refine z_lload (pc := 90) hC (i := 6) dX2_lineOf_90 rfl ?_
      refine z_lconst (pc := 92) hC (v := 1) dX2_lineOf_92 rfl ?_
      refine z_aload_n (pc := 93) hC (i := 0) dX2_lineOf_93 rfl rfl ?_
      refine z_iload (pc := 94) hC (i := 9) dX2_lineOf_94 rfl ?_
      refine z_iload (pc := 96) hC (i := 10) dX2_lineOf_96 rfl ?_
      refine z_callV (n := 2) (T := TX2) (N := 5) (ci := 2) (pc := 98) hC (c_X2_numberOf l w hw _ _ _) gX2_lineOf_X2_numberOf rfl (by decide +kernel) (by decide) (by decide) rfl (by decide) (fun _ => rfl) rfl rfl (Nat.le_of_ble_eq_true rfl) dX2_lineOf_98 (zi_k fun r98 Ω98 h98 => ?_)
      obtain ⟨rfl, hM98⟩ := h98
      obtain rfl := hM98.symm
      rw [show gt Ω 13 0 * (y + (2 * (k : Int) * (ty - y) + lnN x y tx ty) / (2 * lnN x y tx ty)) + (x + (2 * (k : Int) * (tx - x) + lnN x y tx ty) / (2 * lnN x y tx ty)) = (lnF (scC Ω) x y tx ty k : Int) by rw [hlt.2]; unfold lnA; rw [if_neg h0, if_neg h0]; rfl]
      refine z_lshl (pc := 101) hC rfl dX2_lineOf_101 ?_
      refine z_lor (pc := 102) hC dX2_lineOf_102 ?_
      refine z_lstore (pc := 103) hC (i := 6) dX2_lineOf_103 (by decide) rfl (zS2_s (zS2_s (zS2_s (zS2_s (zS2_s (zS2_s zS2_0)))))) ?_
      refine z_iinc (pc := 105) hC (i := 8) dX2_lineOf_105 rfl (by decide) rfl (zS_s (zS_s (zS_s (zS_s (zS_s (zS_s (zS_s (zS_s zS_0)))))))) ?_
      refine z_goto (pc := 108) hC 38 dX2_lineOf_108 rfl ?_
      exact ih (k + 1) _ _ (by omega) (by omega)
theorem ml_X2_lineOf_52 : Cond.methodLink RX2 52 Lib.Math.abs.name ∈ wsX2_lineOf := by decide +kernel
theorem ms_X2_lineOf_abs : Cond.static Lib.Math.abs.name ∈ wsX2_lineOf := by decide +kernel
theorem mi_X2_lineOf_Math : Cond.initialized "java/lang/Math" ∈ wsX2_lineOf := by decide +kernel
theorem mc_X2_lineOf_abs : Cond.code Lib.Math.abs.name Lib.Math.abs.code 1 (some .int) ∈ wsX2_lineOf := by decide +kernel
theorem ml_X2_lineOf_58 : Cond.methodLink RX2 58 Lib.Math.max.name ∈ wsX2_lineOf := by decide +kernel
theorem ms_X2_lineOf_max : Cond.static Lib.Math.max.name ∈ wsX2_lineOf := by decide +kernel
theorem mc_X2_lineOf_max : Cond.code Lib.Math.max.name Lib.Math.max.code 2 (some .int) ∈ wsX2_lineOf := by decide +kernel
set_option maxHeartbeats 4000000 in
set_option maxRecDepth 100000 in
theorem c_X2_lineOf (l : Launch) (w : zP) (hw : zOK w) (Ω : Mem) (x y tx ty : Int) (hv : scok (scC Ω)) (hx : 0 ≤ x ∧ x < gt Ω 13 0) (hy : 0 ≤ y ∧ y < gt Ω 13 1) (hx2 : 0 ≤ tx ∧ tx < gt Ω 13 0) (hy2 : 0 ≤ ty ∧ ty < gt Ω 13 1) : zM l w yX2_lineOf wsX2_lineOf 1 22 [.ref (wa w 13), .int (zI x), .int (zI y), .int (zI tx), .int (zI ty)] Ω (zlo (fun r Ω1 => r = lineS (scC Ω) x y tx ty ∧ Ω1 = Ω)) := by
  refine zM_of cX2_lineOf 11 (some .long) RX2 [some (.ref (wa w 13)), some (.int (zI x)), some (.int (zI y)), some (.int (zI tx)), some (.int (zI ty)), none, none, none, none, none, none] hw (by decide +kernel) rfl rfl (Nat.le_of_ble_eq_true rfl) rfl (fun E hC => ?_)
  have hok := id hv
  obtain ⟨⟨hW1, hW2⟩, ⟨hH1, hH2⟩, -⟩ := hok
  rw [scC_0] at hW1 hW2
  rw [scC_1] at hH1 hH2
  have hn := lnN_b (x := x) (y := y) (tx := tx) (ty := ty) (by omega) (by omega) (by omega) (by omega)
  refine z_iload_n (pc := 0) hC (i := 3) dX2_lineOf_0 rfl rfl ?_
  refine z_iload_n (pc := 1) hC (i := 1) dX2_lineOf_1 rfl rfl ?_
  refine z_isub (pc := 2) hC dX2_lineOf_2 ?_
  refine z_mabs (pc := 3) hC (by first | assumption | exact zb_gt _ _ _ | exact zcmp_zb _ _ | exact bI_zb _ | exact ⟨by omega, by omega⟩) ml_X2_lineOf_52 ms_X2_lineOf_abs mi_X2_lineOf_Math mc_X2_lineOf_abs (by decide) (Nat.le_of_ble_eq_true rfl) dX2_lineOf_3 ?_
  refine z_iload (pc := 6) hC (i := 4) dX2_lineOf_6 rfl ?_
  refine z_iload_n (pc := 8) hC (i := 2) dX2_lineOf_8 rfl rfl ?_
  refine z_isub (pc := 9) hC dX2_lineOf_9 ?_
  refine z_mabs (pc := 10) hC (by first | assumption | exact zb_gt _ _ _ | exact zcmp_zb _ _ | exact bI_zb _ | exact ⟨by omega, by omega⟩) ml_X2_lineOf_52 ms_X2_lineOf_abs mi_X2_lineOf_Math mc_X2_lineOf_abs (by decide) (Nat.le_of_ble_eq_true rfl) dX2_lineOf_10 ?_
  have hz1 := zabs_le (a := tx - x) (b := 5) (by omega) (by omega)
  have hz2 := zabs_le (a := ty - y) (b := 5) (by omega) (by omega)
  refine z_mmax (pc := 13) hC (by first | assumption | exact zb_gt _ _ _ | exact zcmp_zb _ _ | exact bI_zb _ | exact ⟨by omega, by omega⟩) (by first | assumption | exact zb_gt _ _ _ | exact zcmp_zb _ _ | exact bI_zb _ | exact ⟨by omega, by omega⟩) ml_X2_lineOf_58 ms_X2_lineOf_max mi_X2_lineOf_Math mc_X2_lineOf_max (by decide) (Nat.le_of_ble_eq_true rfl) dX2_lineOf_13 ?_
  refine z_istore (pc := 16) hC (i := 5) dX2_lineOf_16 (by decide) rfl (zS_s (zS_s (zS_s (zS_s (zS_s zS_0))))) ?_
  rw [show max (zabs (tx - x)) (zabs (ty - y)) = lnN x y tx ty from rfl]
  refine z_iload (pc := 18) hC (i := 5) dX2_lineOf_18 rfl ?_
  refine z_if_ne (pc := 20) hC 32 (by first | assumption | exact zb_gt _ _ _ | exact zcmp_zb _ _ | exact bI_zb _ | exact ⟨by omega, by omega⟩) dX2_lineOf_20 rfl (fun h20 => ?_) (fun h20 => ?_)
  · refine z_lconst (pc := 32) hC (v := 0) dX2_lineOf_32 rfl ?_
    refine z_lstore (pc := 33) hC (i := 6) dX2_lineOf_33 (by decide) rfl (zS2_s (zS2_s (zS2_s (zS2_s (zS2_s (zS2_s zS2_0)))))) ?_
    refine z_iconst (pc := 35) hC dX2_lineOf_35 ?_
    refine z_istore (pc := 36) hC (i := 8) dX2_lineOf_36 (by decide) rfl (zS_s (zS_s (zS_s (zS_s (zS_s (zS_s (zS_s (zS_s zS_0)))))))) ?_
    refine L_X2_lineOf_38 hw hC Ω x y tx ty hv hx hy hx2 hy2 h20 (fun o9 o10 => ?_) 7 0 none none (by omega) (by omega)
    refine z_lload (pc := 111) hC (i := 6) dX2_lineOf_111 rfl ?_
    exact z_lret (pc := 113) hC rfl ⟨_, rfl, ⟨rfl, rfl⟩⟩ dX2_lineOf_113
  · refine z_lconst (pc := 23) hC (v := 1) dX2_lineOf_23 rfl ?_
    refine z_aload_n (pc := 24) hC (i := 0) dX2_lineOf_24 rfl rfl ?_
    refine z_iload_n (pc := 25) hC (i := 1) dX2_lineOf_25 rfl rfl ?_
    refine z_iload_n (pc := 26) hC (i := 2) dX2_lineOf_26 rfl rfl ?_
    refine z_callV (n := 2) (T := TX2) (N := 5) (ci := 2) (pc := 27) hC (c_X2_numberOf l w hw _ _ _) gX2_lineOf_X2_numberOf rfl (by decide +kernel) (by decide) (by decide) rfl (by decide) (fun _ => rfl) rfl rfl (Nat.le_of_ble_eq_true rfl) dX2_lineOf_27 (zi_k fun r27 Ω27 h27 => ?_)
    obtain ⟨rfl, hM27⟩ := h27
    obtain rfl := hM27.symm
    have hlt := lnF_lt hv hx hy hx2 hy2 (k := 0) (by omega)
    rw [show gt Ω 13 0 * y + x = (lnF (scC Ω) x y tx ty 0 : Int) by rw [hlt.2]; unfold lnA; rw [if_pos h20, if_pos h20]; rfl]
    refine z_lshl (pc := 30) hC rfl dX2_lineOf_30 ?_
    exact z_lret (pc := 31) hC rfl ⟨_, rfl, ⟨by unfold lineS; rw [show (lnN x y tx ty).toNat = 0 by omega]; exact tb_ext (fun k _ => by rw [lnS, lnS, tb_or, tb_0]; simp), rfl⟩⟩ dX2_lineOf_31
