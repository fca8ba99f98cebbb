theorem tb_alld0 : ∀ n, n < 37 → ∀ k, k < 64 → tb (alld ((n : Nat) : Int)) k = decide (k < n) := by decide +kernel
theorem tb_alld {σ : Sg} (h : scok σ) (k : Nat) : tb (alld (σ 0 * σ 1)) k = decide (k < sdots σ) := by
  have hN := sdots_le h
  rw [← hN.2.2]
  by_cases c : k < 64
  · exact tb_alld0 _ (by omega) k c
  · rw [tb_big _ (by omega), decide_eq_false (by omega)]
theorem zcmp_z (y : Int64) : zcmp y 0 = 0 ↔ y = 0 := by
  unfold zcmp
  by_cases a : (0 : Int64) < y
  · rw [if_pos a]
    constructor
    · intro h; omega
    · intro h; subst h; exact absurd a (by decide)
  · rw [if_neg a]
    by_cases b : y = 0 <;> simp [b]
theorem out_z {σ : Sg} (h : scok σ) (x : Int64) : zcmp (x &&& (alld (σ 0 * σ 1) ^^^ (-1))) 0 = 0 ↔ ∀ k, tb x k = true → k < sdots σ := by
  have hN := sdots_le h
  rw [zcmp_z]
  constructor
  · intro e k hk
    have hk64 : k < 64 := by
      by_cases c : k < 64
      · exact c
      · rw [tb_big _ (by omega)] at hk; exact absurd hk (by decide)
    have := congrArg (fun y => tb y k) e
    simp only [tb_and, tb_not _ hk64, tb_alld h, tb_0, hk, Bool.true_and] at this
    by_cases c : k < sdots σ
    · exact c
    · simp [c] at this
  · intro e
    apply tb_ext
    intro k hk
    rw [tb_and, tb_not _ hk, tb_alld h, tb_0]
    cases c : tb x k
    · rfl
    · simp [e k c]
noncomputable def aCosts (a : As) (x : Int64) : Int × As := @ite _ (∀ k, tb x k = true → k < sdots a.1) (Classical.propDecidable _) (@ite _ (isCO a.1 x (sdots a.1)) (Classical.propDecidable _) (sm (sCv a.1 x) (sdots a.1), a) (-3, aInc a 1)) (-2, aInc a 0)
def edV (σ : Sg) (s : Int64) : Int := 4 * pcn s - 2 * (pcn (s &&& (colS σ (sw σ - 1) ^^^ (-1)) &&& shrI s 1) + pcn (s &&& shrI s (σ 0)))
def shpV (σ : Sg) (s : Int64) (k : Int) : Int := if k = 0 then pcn s else if k = 1 then cntPS σ s 0 else if k = 2 then cntPS σ (alld (σ 0 * σ 1) &&& (s ^^^ (-1))) (bordS σ) else if k = 3 then edV σ s else if k = 4 then fst1 (hitC σ s) (sw σ) else if k = 5 then fst1 (hitR σ s) (sh σ) else if k = 6 then lst1 (hitC σ s) (sw σ) else lst1 (hitR σ s) (sh σ)
noncomputable def aShape (a : As) (k : Int) : Int × As := if 0 ≤ k ∧ k ≤ 7 then (shpV a.1 (loS a.1) k, a) else (-2, aInc a 0)
abbrev chg (σ : Sg) (x : Int64) : Prop := lnew σ x 3 ≠ σ (2 + 3) ∨ lnew (sup σ (2 + 3) (lnew σ x 3)) (alld (σ 0 * σ 1) &&& (x ^^^ (-1))) 4 ≠ sup σ (2 + 3) (lnew σ x 3) (2 + 4)
noncomputable def lrR : Nat → Sg → Int × Sg
  | 0, σ => (0, σ)
  | n + 1, σ => if chg σ (loS σ) then ((lrR n (lrn σ (loS σ))).1 + 1, (lrR n (lrn σ (loS σ))).2) else (0, lrn σ (loS σ))
theorem lrR_b : ∀ (n : Nat) (σ : Sg), 0 ≤ (lrR n σ).1 ∧ (lrR n σ).1 ≤ n
  | 0, σ => by show (0 : Int) ≤ 0 ∧ (0 : Int) ≤ 0; omega
  | n + 1, σ => by
    have := lrR_b n (lrn σ (loS σ))
    rw [lrR]
    split
    · show 0 ≤ (lrR n (lrn σ (loS σ))).1 + 1 ∧ (lrR n (lrn σ (loS σ))).1 + 1 ≤ ((n + 1 : Nat) : Int); omega
    · show (0 : Int) ≤ 0 ∧ (0 : Int) ≤ ((n + 1 : Nat) : Int); omega
noncomputable def aLearns (a : As) (n : Int) : Int × As := if 1 ≤ n ∧ n ≤ 20 then ((lrR n.toNat a.1).1, aSet (aRem a) (lrR n.toNat a.1).2) else (-2, aInc a 0)
noncomputable def aKeeps (a : As) : Int × As := (sfRc a.1 (sdots a.1), aSet (aRem a) (sfR a.1 (loS a.1) (sdots a.1)))
def aTurns (a : As) : Int × As := (sfSc a.1 (sdots a.1), aSet (aRem a) (sup (sup (sfS a.1 (sdots a.1)) (2 + 3) (a.1 6)) (2 + 4) (a.1 5)))
def aType (a : As) (c : Int) : Int × As := if 0 ≤ c ∧ c ≤ 127 then (if a.2.2.2.1 < 100 then ((a.2.2.2.1 : Int) + 1, aTxt a (a.2.2.2.1 + 1) (fup a.2.2.2.2 a.2.2.2.1 c)) else (-4, aInc a 2)) else (-2, aInc a 0)
def aClear (a : As) : Int × As := (a.2.2.2.1, aTxt a 0 a.2.2.2.2)
def aBck (a : As) : Int × As := if a.2.1.1 = 0 then (-3, aInc a 1) else ((a.2.1.1 : Int) - 1, aBack a)
def toldV (a : As) (k : Int) : Int := if k < 3 then (a.2.2.1 k.toNat).toInt else if k < 11 then a.1 (k.toNat - 3) else if k = 11 then a.2.2.2.1 else a.2.1.1
def aTold (a : As) (k : Int) : Int × As := if 0 ≤ k ∧ k ≤ 12 then (toldV a k, a) else (-2, aInc a 0)

theorem fl_X4_costs_12 : Cond.fieldLink RX4 12 "StrokeCuts" "scene" "LStrokeCuts$Scene;" ∈ wsX4_costs := by decide +kernel
theorem in_X4_costs_X4 : ∀ x ∈ u_ws RX4 TX4 7, x ∈ wsX4_costs := by decide +kernel
theorem kc_X4_costs_149 : Cond.constantLong RX4 149 (-1) ∈ wsX4_costs := by decide +kernel
theorem fl_X4_costs_155 : Cond.fieldLink RX4 155 "StrokeCuts" "noCalls" "I" ∈ wsX4_costs := by decide +kernel
set_option maxHeartbeats 4000000 in
set_option maxRecDepth 100000 in
theorem c_X4_costs (l : Launch) (w : zP) (hw : zOK w) (Ω : Mem) (a : As) (h : RC Ω a) (x : Int64) : zM l w yX4_costs wsX4_costs 4 101 [.ref (wa w 0), .long x] Ω (zi (fun r Ω1 => r = (aCosts a x).1 ∧ RC Ω1 (aCosts a x).2 ∧ frC Ω Ω1)) := by
  refine zM_of cX4_costs 3 (some .int) RX4 [some (.ref (wa w 0)), some (.long x), none] hw (by decide +kernel) rfl rfl (Nat.le_of_ble_eq_true rfl) rfl (fun E hC => ?_)
  have hv := h.1.2
  have hv1 : scok (scC Ω) := by rw [h.1.1]; exact h.1.2
  have q0 : gt Ω 13 0 = a.1 0 := by rw [← scC_0, h.1.1]
  have q1 : gt Ω 13 1 = a.1 1 := by rw [← scC_1, h.1.1]
  have hN := sdots_le hv
  have hw01 := hv.1
  have hh01 := hv.2.1
  have i1 : Decidable (isCO (scC Ω) x (sdots (scC Ω))) := Classical.propDecidable _
  refine z_lload_n (pc := 0) hC (i := 1) dX4_costs_0 rfl rfl ?_
  refine z_aload_n (pc := 1) hC (i := 0) dX4_costs_1 rfl rfl ?_
  refine z_getR (C := RX4) (T := TX4) (N := 7) (ci := 4) (pc := 2) hC _ _ 0 in_X4_costs_X4 rfl (by decide) (fun _ => rfl) (by decide) fl_X4_costs_12 (fun _ => rfl) dX4_costs_2 ?_
  refine z_callV (n := 0) (T := TX2) (N := 5) (ci := 2) (pc := 5) hC (c_X2_allDots l w hw _) gX4_costs_X2_allDots rfl (by decide +kernel) (by decide) (by decide) rfl (by decide) (fun _ => rfl) rfl rfl (Nat.le_of_ble_eq_true rfl) dX4_costs_5 (zl_k fun r5 Ω5 h5 => ?_)
  obtain ⟨hr5, hm5⟩ := h5
  have hm5 := hm5.symm
  subst hm5
  rw [q0, q1] at hr5
  subst hr5
  refine z_ldc2 (pc := 8) hC kc_X4_costs_149 dX4_costs_8 ?_
  refine z_lxor (pc := 11) hC dX4_costs_11 ?_
  refine z_land (pc := 12) hC dX4_costs_12 ?_
  refine z_lconst (pc := 13) hC (v := 0) dX4_costs_13 rfl ?_
  refine z_lcmp (pc := 14) hC dX4_costs_14 ?_
  refine z_if_eq (pc := 15) hC 23 (by first | assumption | exact zb_gt _ _ _ | exact zcmp_zb _ _ | exact bI_zb _ | exact ⟨by omega, by omega⟩) dX4_costs_15 rfl (fun h15 => ?_) (fun h15 => ?_)
  · have hin := (out_z hv x).mp h15
    refine z_aload_n (pc := 23) hC (i := 0) dX4_costs_23 rfl rfl ?_
    refine z_getR (C := RX4) (T := TX4) (N := 7) (ci := 4) (pc := 24) hC _ _ 0 in_X4_costs_X4 rfl (by decide) (fun _ => rfl) (by decide) fl_X4_costs_12 (fun _ => rfl) dX4_costs_24 ?_
    refine z_lload_n (pc := 27) hC (i := 1) dX4_costs_27 rfl rfl ?_
    refine z_callV (n := 1) (T := TX2) (N := 5) (ci := 2) (pc := 28) hC (@c_X2_isCutOut l w hw _ x hv1 i1) gX4_costs_X2_isCutOut rfl (by decide +kernel) (by decide) (by decide) rfl (by decide) (fun _ => rfl) rfl rfl (Nat.le_of_ble_eq_true rfl) dX4_costs_28 (zb_k fun r28 Ω28 h28 => ?_)
    obtain ⟨rfl, hM28⟩ := h28
    obtain rfl := hM28.symm
    refine z_ifd_ne (pc := 31) hC 47 dX4_costs_31 rfl (fun h31 => ?_) (fun h31 => ?_)
    · refine z_aload_n (pc := 47) hC (i := 0) dX4_costs_47 rfl rfl ?_
      refine z_getR (C := RX4) (T := TX4) (N := 7) (ci := 4) (pc := 48) hC _ _ 0 in_X4_costs_X4 rfl (by decide) (fun _ => rfl) (by decide) fl_X4_costs_12 (fun _ => rfl) dX4_costs_48 ?_
      refine z_lload_n (pc := 51) hC (i := 1) dX4_costs_51 rfl rfl ?_
      refine z_callV (n := 1) (T := TX2) (N := 5) (ci := 2) (pc := 52) hC (c_X2_costOf l w hw _ x hv1) gX4_costs_X2_costOf rfl (by decide +kernel) (by decide) (by decide) rfl (by decide) (fun _ => rfl) rfl rfl (Nat.le_of_ble_eq_true rfl) dX4_costs_52 (zi_k fun r52 Ω52 h52 => ?_)
      obtain ⟨hr52, hm52⟩ := h52
      have hm52 := hm52.symm
      subst hm52
      rw [h.1.1] at hr52
      subst hr52
      exact z_iret (pc := 55) hC rfl ⟨_, rfl, ok_ret (by unfold aCosts; rw [if_pos hin, if_pos (by rw [h.1.1] at h31; exact h31)]) h (frC.refl _)⟩ dX4_costs_55
    · refine z_aload_n (pc := 34) hC (i := 0) dX4_costs_34 rfl rfl ?_
      refine z_dup (pc := 35) hC dX4_costs_35 rfl ?_
      refine z_getI (C := RX4) (T := TX4) (N := 7) (ci := 4) (pc := 36) hC _ 5 in_X4_costs_X4 rfl (by decide) (fun _ => rfl) (by decide) fl_X4_costs_155 (fun _ => rfl) dX4_costs_36 ?_
      refine z_iconst (pc := 39) hC dX4_costs_39 ?_
      refine z_iadd (pc := 40) hC dX4_costs_40 ?_
      refine z_putI (C := RX4) (T := TX4) (N := 7) (ci := 4) (pc := 41) hC _ 5 in_X4_costs_X4 rfl (by decide) (fun _ => rfl) (by decide) fl_X4_costs_155 tyX4_ok nmX4 rfl (by decide +kernel) (fun _ => Nat.le_of_ble_eq_true rfl) (fun _ _ => rfl) dX4_costs_41 ?_
      refine z_bipush (pc := 44) hC dX4_costs_44 rfl ?_
      exact z_iret (pc := 46) hC rfl ⟨_, rfl, ok_ret (by unfold aCosts; rw [if_pos hin, if_neg (by rw [h.1.1] at h31; exact h31)]) (h.inc (i := 1) (by decide) rfl) (frC_up _ _ _ (by decide))⟩ dX4_costs_46
  · refine z_aload_n (pc := 18) hC (i := 0) dX4_costs_18 rfl rfl ?_
    refine z_callV (n := 0) (T := TX4) (N := 7) (ci := 4) (pc := 19) hC (c_X4_refuseBad l w hw _) gX4_costs_X4_refuseBad rfl (by decide +kernel) (by decide) (by decide) rfl (by decide) (fun _ => rfl) rfl rfl (Nat.le_of_ble_eq_true rfl) dX4_costs_19 (zi_k fun r19 Ω19 h19 => ?_)
    obtain ⟨rfl, rfl⟩ := h19
    exact z_iret (pc := 22) hC rfl ⟨_, rfl, bad_ret h (if_neg (fun q => h15 ((out_z hv x).mpr q)))⟩ dX4_costs_22
theorem ts_X4_shape_36 {a : Int} {tgt : Nat} (h : (0 ≤ a ∧ a ≤ 6 ∧ (#[44, 49, 58, 67, 76, 85, 94] : Array Int)[(a - 0).toNat]? = some ((tgt : Int) - (36 : Nat))) ∨ ((a < 0 ∨ 6 < a) ∧ (tgt : Int) = (36 : Nat) + 103)) : (tgt = 80 ∧ (a = 0)) ∨ (tgt = 85 ∧ (a = 1)) ∨ (tgt = 94 ∧ (a = 2)) ∨ (tgt = 103 ∧ (a = 3)) ∨ (tgt = 112 ∧ (a = 4)) ∨ (tgt = 121 ∧ (a = 5)) ∨ (tgt = 130 ∧ (a = 6)) ∨ (tgt = 139 ∧ (a < 0 ∨ 6 < a)) := by
  rcases h with ⟨h1, h2, h3⟩ | ⟨h1, h2⟩
  · obtain ⟨i, hi⟩ := nat_of (by omega : 0 ≤ a - 0)
    rw [hi, Int.toNat_natCast] at h3
    rcases (by omega : i = 0 ∨ i = 1 ∨ i = 2 ∨ i = 3 ∨ i = 4 ∨ i = 5 ∨ i = 6) with rfl | rfl | rfl | rfl | rfl | rfl | rfl <;> simp at h3 <;> omega
  · omega
theorem fl_X4_shape_26 : Cond.fieldLink RX4 26 "StrokeCuts" "network" "LStrokeCuts$Network;" ∈ wsX4_shape := by decide +kernel
theorem in_X4_shape_X4 : ∀ x ∈ u_ws RX4 TX4 7, x ∈ wsX4_shape := by decide +kernel
theorem fl_X4_shape_12 : Cond.fieldLink RX4 12 "StrokeCuts" "scene" "LStrokeCuts$Scene;" ∈ wsX4_shape := by decide +kernel
set_option maxHeartbeats 4000000 in
set_option maxRecDepth 100000 in
theorem c_X4_shape (l : Launch) (w : zP) (hw : zOK w) (Ω : Mem) (a : As) (h : RC Ω a) (k : Int) (hk : zb k) : zM l w yX4_shape wsX4_shape 41 1142 [.ref (wa w 0), .int (zI k)] Ω (zi (fun r Ω1 => r = (aShape a k).1 ∧ RC Ω1 (aShape a k).2 ∧ frC Ω Ω1)) := by
  refine zM_of cX4_shape 4 (some .int) RX4 [some (.ref (wa w 0)), some (.int (zI k)), none, none] hw (by decide +kernel) rfl rfl (Nat.le_of_ble_eq_true rfl) rfl (fun E hC => ?_)
  have hv := h.1.2
  have hv1 : scok (scC Ω) := by rw [h.1.1]; exact h.1.2
  have q0 : gt Ω 13 0 = a.1 0 := by rw [← scC_0, h.1.1]
  have q1 : gt Ω 13 1 = a.1 1 := by rw [← scC_1, h.1.1]
  have hN := sdots_le hv
  have hw01 := hv.1
  have hh01 := hv.2.1
  refine z_iload_n (pc := 0) hC (i := 1) dX4_shape_0 rfl rfl ?_
  refine z_iconst (pc := 1) hC dX4_shape_1 ?_
  refine z_bipush (pc := 2) hC dX4_shape_2 rfl ?_
  refine z_callS (n := 3) (pc := 4) hC (c_X4_isWithin l w hw _ _ _ _ (by first | assumption | exact zb_gt _ _ _ | exact zcmp_zb _ _ | exact bI_zb _ | exact ⟨by omega, by omega⟩) (by first | assumption | exact zb_gt _ _ _ | exact zcmp_zb _ _ | exact bI_zb _ | exact ⟨by omega, by omega⟩) (by first | assumption | exact zb_gt _ _ _ | exact zcmp_zb _ _ | exact bI_zb _ | exact ⟨by omega, by omega⟩)) gX4_shape_X4_isWithin rfl (by decide +kernel) (by decide) (by decide) rfl rfl (Nat.le_of_ble_eq_true rfl) dX4_shape_4 (zb_k fun r4 Ω4 h4 => ?_)
  obtain ⟨rfl, hM4⟩ := h4
  obtain rfl := hM4.symm
  refine z_ifd_ne (pc := 7) hC 15 dX4_shape_7 rfl (fun h7 => ?_) (fun h7 => ?_)
  · refine z_aload_n (pc := 15) hC (i := 0) dX4_shape_15 rfl rfl ?_
    refine z_getR (C := RX4) (T := TX4) (N := 7) (ci := 4) (pc := 16) hC _ _ 2 in_X4_shape_X4 rfl (by decide) (fun _ => rfl) (by decide) fl_X4_shape_26 (fun _ => rfl) dX4_shape_16 ?_
    refine z_aload_n (pc := 19) hC (i := 0) dX4_shape_19 rfl rfl ?_
    refine z_getR (C := RX4) (T := TX4) (N := 7) (ci := 4) (pc := 20) hC _ _ 0 in_X4_shape_X4 rfl (by decide) (fun _ => rfl) (by decide) fl_X4_shape_12 (fun _ => rfl) dX4_shape_20 ?_
    refine z_callV (n := 1) (T := TX1) (N := 8) (ci := 1) (pc := 23) hC (c_X1_solve l w hw _ hv1) gX4_shape_X1_solve rfl (by decide +kernel) (by decide) (by decide) rfl (by decide) (fun _ => rfl) rfl rfl (Nat.le_of_ble_eq_true rfl) dX4_shape_23 (zi_k fun r23 Ω23 h23 => ?_)
    obtain ⟨hS, hSf⟩ := h23
    rw [h.1.1] at hS
    have hR := h.same hSf
    have hfS : frC Ω Ω23 := fun q hq => hSf q (by omega)
    have q0S : gt Ω23 13 0 = a.1 0 := by rw [← scC_0, hR.1.1]
    refine z_pop (pc := 26) hC dX4_shape_26 rfl ?_
    refine z_aload_n (pc := 27) hC (i := 0) dX4_shape_27 rfl rfl ?_
    refine z_getR (C := RX4) (T := TX4) (N := 7) (ci := 4) (pc := 28) hC _ _ 2 in_X4_shape_X4 rfl (by decide) (fun _ => rfl) (by decide) fl_X4_shape_26 (fun _ => rfl) dX4_shape_28 ?_
    refine z_callV (n := 0) (T := TX1) (N := 8) (ci := 1) (pc := 31) hC (c_X1_leastSet l w hw _ a.1 _ hv hS) gX4_shape_X1_leastSet rfl (by decide +kernel) (by decide) (by decide) rfl (by decide) (fun _ => rfl) rfl rfl (Nat.le_of_ble_eq_true rfl) dX4_shape_31 (zl_k fun r31 Ω31 h31 => ?_)
    obtain ⟨l1, l2, l3, l4⟩ := h31
    obtain rfl := hS.lo hv l1 l2 l3
    have hS2 := hS.moved l4
    have hR2 := hR.same l4.R
    refine z_lstore_n (pc := 34) hC (i := 2) dX4_shape_34 rfl (by decide) rfl (zS2_s (zS2_s zS2_0)) ?_
    refine z_iload_n (pc := 35) hC (i := 1) dX4_shape_35 rfl rfl ?_
    refine z_ts (pc := 36) hC (by first | assumption | exact ⟨by omega, by omega⟩) dX4_shape_36 (by decide) (by decide) (by intro i hi; show i < 7; omega) (fun tgt ht => ?_)
    rcases ts_X4_shape_36 ht with ⟨rfl, hk36⟩ | ⟨rfl, hk36⟩ | ⟨rfl, hk36⟩ | ⟨rfl, hk36⟩ | ⟨rfl, hk36⟩ | ⟨rfl, hk36⟩ | ⟨rfl, hk36⟩ | ⟨rfl, hk36⟩
    · refine z_lload_n (pc := 80) hC (i := 2) dX4_shape_80 rfl rfl ?_
      refine z_callS (n := 1) (pc := 81) hC (c_J13_bitCount_95d88 l w hw _ _) gX4_shape_J13_bitCount_95d88 rfl (by decide +kernel) (by decide) (by decide) rfl rfl (Nat.le_of_ble_eq_true rfl) dX4_shape_81 (zi_k fun r81 Ω81 h81 => ?_)
      obtain ⟨hr81, hm81⟩ := h81
      have hm81 := hm81.symm
      subst hm81
      subst hr81
      exact z_iret (pc := 84) hC rfl ⟨_, rfl, ok_ret (by unfold aShape shpV; rw [if_pos (by omega), if_pos (by omega)]) hR2 (hfS.trans l4.C)⟩ dX4_shape_84
    · refine z_aload_n (pc := 85) hC (i := 0) dX4_shape_85 rfl rfl ?_
      refine z_getR (C := RX4) (T := TX4) (N := 7) (ci := 4) (pc := 86) hC _ _ 0 in_X4_shape_X4 rfl (by decide) (fun _ => rfl) (by decide) fl_X4_shape_12 (fun _ => rfl) dX4_shape_86 ?_
      refine z_lload_n (pc := 89) hC (i := 2) dX4_shape_89 rfl rfl ?_
      refine z_callV (n := 1) (T := TX2) (N := 5) (ci := 2) (pc := 90) hC (c_X2_pieces l w hw _ _ (by rw [hR2.1.1]; exact hv)) gX4_shape_X2_pieces rfl (by decide +kernel) (by decide) (by decide) rfl (by decide) (fun _ => rfl) rfl rfl (Nat.le_of_ble_eq_true rfl) dX4_shape_90 (zi_k fun r90 Ω90 h90 => ?_)
      obtain ⟨hr90, hm90⟩ := h90
      have hm90 := hm90.symm
      subst hm90
      rw [hR2.1.1] at hr90
      subst hr90
      exact z_iret (pc := 93) hC rfl ⟨_, rfl, ok_ret (by unfold aShape shpV; rw [if_pos (by omega), if_neg (by omega), if_pos (by omega)]) hR2 (hfS.trans l4.C)⟩ dX4_shape_93
    · refine z_aload_n (pc := 94) hC (i := 0) dX4_shape_94 rfl rfl ?_
      refine z_getR (C := RX4) (T := TX4) (N := 7) (ci := 4) (pc := 95) hC _ _ 0 in_X4_shape_X4 rfl (by decide) (fun _ => rfl) (by decide) fl_X4_shape_12 (fun _ => rfl) dX4_shape_95 ?_
      refine z_lload_n (pc := 98) hC (i := 2) dX4_shape_98 rfl rfl ?_
      refine z_callV (n := 1) (T := TX2) (N := 5) (ci := 2) (pc := 99) hC (c_X2_holes l w hw _ _ (by rw [hR2.1.1]; exact hv)) gX4_shape_X2_holes rfl (by decide +kernel) (by decide) (by decide) rfl (by decide) (fun _ => rfl) rfl rfl (Nat.le_of_ble_eq_true rfl) dX4_shape_99 (zi_k fun r99 Ω99 h99 => ?_)
      obtain ⟨hr99, hm99⟩ := h99
      have hm99 := hm99.symm
      subst hm99
      rw [hR2.1.1] at hr99
      subst hr99
      exact z_iret (pc := 102) hC rfl ⟨_, rfl, ok_ret (by unfold aShape shpV; rw [if_pos (by omega), if_neg (by omega), if_neg (by omega), if_pos (by omega)]) hR2 (hfS.trans l4.C)⟩ dX4_shape_102
    · refine z_aload_n (pc := 103) hC (i := 0) dX4_shape_103 rfl rfl ?_
      refine z_getR (C := RX4) (T := TX4) (N := 7) (ci := 4) (pc := 104) hC _ _ 0 in_X4_shape_X4 rfl (by decide) (fun _ => rfl) (by decide) fl_X4_shape_12 (fun _ => rfl) dX4_shape_104 ?_
      refine z_lload_n (pc := 107) hC (i := 2) dX4_shape_107 rfl rfl ?_
      refine z_callV (n := 1) (T := TX2) (N := 5) (ci := 2) (pc := 108) hC (c_X2_edges l w hw _ _ (by rw [hR2.1.1]; exact hv)) gX4_shape_X2_edges rfl (by decide +kernel) (by decide) (by decide) rfl (by decide) (fun _ => rfl) rfl rfl (Nat.le_of_ble_eq_true rfl) dX4_shape_108 (zi_k fun r108 Ω108 h108 => ?_)
      obtain ⟨hr108, hm108⟩ := h108
      have hm108 := hm108.symm
      subst hm108
      rw [hR2.1.1] at hr108
      subst hr108
      exact z_iret (pc := 111) hC rfl ⟨_, rfl, ok_ret (by unfold aShape shpV; rw [if_pos (by omega), if_neg (by omega), if_neg (by omega), if_neg (by omega), if_pos (by omega)]; rfl) hR2 (hfS.trans l4.C)⟩ dX4_shape_111
    · refine z_aload_n (pc := 112) hC (i := 0) dX4_shape_112 rfl rfl ?_
      refine z_getR (C := RX4) (T := TX4) (N := 7) (ci := 4) (pc := 113) hC _ _ 0 in_X4_shape_X4 rfl (by decide) (fun _ => rfl) (by decide) fl_X4_shape_12 (fun _ => rfl) dX4_shape_113 ?_
      refine z_lload_n (pc := 116) hC (i := 2) dX4_shape_116 rfl rfl ?_
      refine z_callV (n := 1) (T := TX2) (N := 5) (ci := 2) (pc := 117) hC (c_X2_firstColumn l w hw _ _ (by rw [hR2.1.1]; exact hv)) gX4_shape_X2_firstColumn rfl (by decide +kernel) (by decide) (by decide) rfl (by decide) (fun _ => rfl) rfl rfl (Nat.le_of_ble_eq_true rfl) dX4_shape_117 (zi_k fun r117 Ω117 h117 => ?_)
      obtain ⟨hr117, hm117⟩ := h117
      have hm117 := hm117.symm
      subst hm117
      rw [hR2.1.1] at hr117
      subst hr117
      exact z_iret (pc := 120) hC rfl ⟨_, rfl, ok_ret (by unfold aShape shpV; rw [if_pos (by omega), if_neg (by omega), if_neg (by omega), if_neg (by omega), if_neg (by omega), if_pos (by omega)]) hR2 (hfS.trans l4.C)⟩ dX4_shape_120
    · refine z_aload_n (pc := 121) hC (i := 0) dX4_shape_121 rfl rfl ?_
      refine z_getR (C := RX4) (T := TX4) (N := 7) (ci := 4) (pc := 122) hC _ _ 0 in_X4_shape_X4 rfl (by decide) (fun _ => rfl) (by decide) fl_X4_shape_12 (fun _ => rfl) dX4_shape_122 ?_
      refine z_lload_n (pc := 125) hC (i := 2) dX4_shape_125 rfl rfl ?_
      refine z_callV (n := 1) (T := TX2) (N := 5) (ci := 2) (pc := 126) hC (c_X2_firstRow l w hw _ _ (by rw [hR2.1.1]; exact hv)) gX4_shape_X2_firstRow rfl (by decide +kernel) (by decide) (by decide) rfl (by decide) (fun _ => rfl) rfl rfl (Nat.le_of_ble_eq_true rfl) dX4_shape_126 (zi_k fun r126 Ω126 h126 => ?_)
      obtain ⟨hr126, hm126⟩ := h126
      have hm126 := hm126.symm
      subst hm126
      rw [hR2.1.1] at hr126
      subst hr126
      exact z_iret (pc := 129) hC rfl ⟨_, rfl, ok_ret (by unfold aShape shpV; rw [if_pos (by omega), if_neg (by omega), if_neg (by omega), if_neg (by omega), if_neg (by omega), if_neg (by omega), if_pos (by omega)]) hR2 (hfS.trans l4.C)⟩ dX4_shape_129
    · refine z_aload_n (pc := 130) hC (i := 0) dX4_shape_130 rfl rfl ?_
      refine z_getR (C := RX4) (T := TX4) (N := 7) (ci := 4) (pc := 131) hC _ _ 0 in_X4_shape_X4 rfl (by decide) (fun _ => rfl) (by decide) fl_X4_shape_12 (fun _ => rfl) dX4_shape_131 ?_
      refine z_lload_n (pc := 134) hC (i := 2) dX4_shape_134 rfl rfl ?_
      refine z_callV (n := 1) (T := TX2) (N := 5) (ci := 2) (pc := 135) hC (c_X2_lastColumn l w hw _ _ (by rw [hR2.1.1]; exact hv)) gX4_shape_X2_lastColumn rfl (by decide +kernel) (by decide) (by decide) rfl (by decide) (fun _ => rfl) rfl rfl (Nat.le_of_ble_eq_true rfl) dX4_shape_135 (zi_k fun r135 Ω135 h135 => ?_)
      obtain ⟨hr135, hm135⟩ := h135
      have hm135 := hm135.symm
      subst hm135
      rw [hR2.1.1] at hr135
      subst hr135
      exact z_iret (pc := 138) hC rfl ⟨_, rfl, ok_ret (by unfold aShape shpV; rw [if_pos (by omega), if_neg (by omega), if_neg (by omega), if_neg (by omega), if_neg (by omega), if_neg (by omega), if_neg (by omega), if_pos (by omega)]) hR2 (hfS.trans l4.C)⟩ dX4_shape_138
    · refine z_aload_n (pc := 139) hC (i := 0) dX4_shape_139 rfl rfl ?_
      refine z_getR (C := RX4) (T := TX4) (N := 7) (ci := 4) (pc := 140) hC _ _ 0 in_X4_shape_X4 rfl (by decide) (fun _ => rfl) (by decide) fl_X4_shape_12 (fun _ => rfl) dX4_shape_140 ?_
      refine z_lload_n (pc := 143) hC (i := 2) dX4_shape_143 rfl rfl ?_
      refine z_callV (n := 1) (T := TX2) (N := 5) (ci := 2) (pc := 144) hC (c_X2_lastRow l w hw _ _ (by rw [hR2.1.1]; exact hv)) gX4_shape_X2_lastRow rfl (by decide +kernel) (by decide) (by decide) rfl (by decide) (fun _ => rfl) rfl rfl (Nat.le_of_ble_eq_true rfl) dX4_shape_144 (zi_k fun r144 Ω144 h144 => ?_)
      obtain ⟨hr144, hm144⟩ := h144
      have hm144 := hm144.symm
      subst hm144
      rw [hR2.1.1] at hr144
      subst hr144
      exact z_iret (pc := 147) hC rfl ⟨_, rfl, ok_ret (by unfold aShape shpV; rw [if_pos (by omega), if_neg (by omega), if_neg (by omega), if_neg (by omega), if_neg (by omega), if_neg (by omega), if_neg (by omega), if_neg (by omega)]) hR2 (hfS.trans l4.C)⟩ dX4_shape_147
  · refine z_aload_n (pc := 10) hC (i := 0) dX4_shape_10 rfl rfl ?_
    refine z_callV (n := 0) (T := TX4) (N := 7) (ci := 4) (pc := 11) hC (c_X4_refuseBad l w hw _) gX4_shape_X4_refuseBad rfl (by decide +kernel) (by decide) (by decide) rfl (by decide) (fun _ => rfl) rfl rfl (Nat.le_of_ble_eq_true rfl) dX4_shape_11 (zi_k fun r11 Ω11 h11 => ?_)
    obtain ⟨rfl, rfl⟩ := h11
    exact z_iret (pc := 14) hC rfl ⟨_, rfl, bad_ret h (if_neg (by omega))⟩ dX4_shape_14
def frD (Ω Ω1 : Mem) : Prop := ∀ q, (49 ≤ q ∨ (10 ≤ q ∧ q ≤ 12)) → Ω1 q = Ω q
theorem frD.refl (Ω : Mem) : frD Ω Ω := fun _ _ => rfl
theorem frD.trans {A B C : Mem} (h : frD A B) (g : frD B C) : frD A C := fun q a => (g q a).trans (h q a)
theorem frD.C {A B : Mem} (h : frD A B) : frC A B := fun q hq => h q (Or.inl hq)
theorem fl_X4_learnRounds_26 : Cond.fieldLink RX4 26 "StrokeCuts" "network" "LStrokeCuts$Network;" ∈ wsX4_learnRounds := by decide +kernel
theorem in_X4_learnRounds_X4 : ∀ x ∈ u_ws RX4 TX4 7, x ∈ wsX4_learnRounds := by decide +kernel
theorem fl_X4_learnRounds_12 : Cond.fieldLink RX4 12 "StrokeCuts" "scene" "LStrokeCuts$Scene;" ∈ wsX4_learnRounds := by decide +kernel
set_option maxHeartbeats 4000000 in
set_option maxRecDepth 100000 in
theorem L_X4_learnRounds_4 {E : zE} {w : zP} {l : Launch} {Post : Option Value → Mem → Prop} (hw : zOK w) (hC : zC E w l RX4 wsX4_learnRounds cX4_learnRounds 4 41 1142 (some .int) Post) (n : Nat) (hn : n ≤ 20) (a0 : As) (Ω0 : Mem) (K : ∀ (c : Int) (Ω : Mem) (a : As) (r : Nat), c = (lrR n a0.1).1 → a.1 = (lrR n a0.1).2 → RC Ω a → a.2 = a0.2 → frD Ω0 Ω → X E Ω 50 [some (.ref (wa w 0)), some (.int (zI (n : Int))), some (.int (zI c)), some (.int (zI (r : Int)))] []) : ∀ (k : Nat) (r : Nat) (c : Int) (Ω : Mem) (a : As), n < r + k → (r ≤ n) → (RC Ω a) → (c + (lrR (n - r) a.1).1 = (lrR n a0.1).1) → ((lrR (n - r) a.1).2 = (lrR n a0.1).2) → (a.2 = a0.2) → (0 ≤ c) → (frD Ω0 Ω) → X E Ω 4 [some (.ref (wa w 0)), some (.int (zI (n : Int))), some (.int (zI c)), some (.int (zI (r : Int)))] [] := by
  intro k
  induction k with
  | zero =>
    intro r c Ω a hfu hr h hc hs ha hc0 hF
    exact absurd hfu (by omega)
  | succ k ih =>
    intro r c Ω a hfu hr h hc hs ha hc0 hF
    have hb := lrR_b n a0.1
    have hv := h.1.2
    have hv1 : scok (scC Ω) := by rw [h.1.1]; exact h.1.2
    have q0 : gt Ω 13 0 = a.1 0 := by rw [← scC_0, h.1.1]
    have q1 : gt Ω 13 1 = a.1 1 := by rw [← scC_1, h.1.1]
    have hN := sdots_le hv
    have hw01 := hv.1
    have hh01 := hv.2.1
    refine z_iload_n (pc := 4) hC (i := 3) dX4_learnRounds_4 rfl rfl ?_
    refine z_iload_n (pc := 5) hC (i := 1) dX4_learnRounds_5 rfl rfl ?_
    refine z_icmp_ge (pc := 6) hC 50 (by first | assumption | exact zb_gt _ _ _ | exact zcmp_zb _ _ | exact bI_zb _ | exact ⟨by omega, by omega⟩) (by first | assumption | exact zb_gt _ _ _ | exact zcmp_zb _ _ | exact bI_zb _ | exact ⟨by omega, by omega⟩) dX4_learnRounds_6 rfl (fun h6 => ?_) (fun h6 => ?_)
    · have e0 : n - r = 0 := by omega
      rw [e0, lrR] at hc hs
      exact K c Ω a r (by have hc1 : c + 0 = (lrR n a0.1).1 := hc; omega) hs h ha hF
    · refine z_aload_n (pc := 9) hC (i := 0) dX4_learnRounds_9 rfl rfl ?_
      refine z_getR (C := RX4) (T := TX4) (N := 7) (ci := 4) (pc := 10) hC _ _ 2 in_X4_learnRounds_X4 rfl (by decide) (fun _ => rfl) (by decide) fl_X4_learnRounds_26 (fun _ => rfl) dX4_learnRounds_10 ?_
      refine z_aload_n (pc := 13) hC (i := 0) dX4_learnRounds_13 rfl rfl ?_
      refine z_getR (C := RX4) (T := TX4) (N := 7) (ci := 4) (pc := 14) hC _ _ 0 in_X4_learnRounds_X4 rfl (by decide) (fun _ => rfl) (by decide) fl_X4_learnRounds_12 (fun _ => rfl) dX4_learnRounds_14 ?_
      refine z_callV (n := 1) (T := TX1) (N := 8) (ci := 1) (pc := 17) hC (c_X1_solve l w hw _ hv1) gX4_learnRounds_X1_solve rfl (by decide +kernel) (by decide) (by decide) rfl (by decide) (fun _ => rfl) rfl rfl (Nat.le_of_ble_eq_true rfl) dX4_learnRounds_17 (zi_k fun r17 Ω17 h17 => ?_)
      obtain ⟨hS, hSf⟩ := h17
      rw [h.1.1] at hS
      have hR := h.same hSf
      have hfS : frC Ω Ω17 := fun q hq => hSf q (by omega)
      have q0S : gt Ω17 13 0 = a.1 0 := by rw [← scC_0, hR.1.1]
      refine z_pop (pc := 20) hC dX4_learnRounds_20 rfl ?_
      refine z_aload_n (pc := 21) hC (i := 0) dX4_learnRounds_21 rfl rfl ?_
      refine z_getR (C := RX4) (T := TX4) (N := 7) (ci := 4) (pc := 22) hC _ _ 0 in_X4_learnRounds_X4 rfl (by decide) (fun _ => rfl) (by decide) fl_X4_learnRounds_12 (fun _ => rfl) dX4_learnRounds_22 ?_
      refine z_aload_n (pc := 25) hC (i := 0) dX4_learnRounds_25 rfl rfl ?_
      refine z_getR (C := RX4) (T := TX4) (N := 7) (ci := 4) (pc := 26) hC _ _ 2 in_X4_learnRounds_X4 rfl (by decide) (fun _ => rfl) (by decide) fl_X4_learnRounds_26 (fun _ => rfl) dX4_learnRounds_26 ?_
      refine z_callV (n := 0) (T := TX1) (N := 8) (ci := 1) (pc := 29) hC (c_X1_leastSet l w hw _ a.1 _ hv hS) gX4_learnRounds_X1_leastSet rfl (by decide +kernel) (by decide) (by decide) rfl (by decide) (fun _ => rfl) rfl rfl (Nat.le_of_ble_eq_true rfl) dX4_learnRounds_29 (zl_k fun r29 Ω29 h29 => ?_)
      obtain ⟨l1, l2, l3, l4⟩ := h29
      obtain rfl := hS.lo hv l1 l2 l3
      have hS2 := hS.moved l4
      have hR2 := hR.same l4.R
      refine z_callV (n := 1) (T := TX2) (N := 5) (ci := 2) (pc := 32) hC (c_X2_learnTones l w hw _ _ (by rw [hR2.1.1]; exact hv)) gX4_learnRounds_X2_learnTones rfl (by decide +kernel) (by decide) (by decide) rfl (by decide) (fun _ => rfl) rfl rfl (Nat.le_of_ble_eq_true rfl) dX4_learnRounds_32 (zb_k fun r32 Ω32 h32 => ?_)
      obtain ⟨rfl, t1, t2⟩ := h32
      rw [hR2.1.1] at t1
      have e1 : n - r = (n - (r + 1)) + 1 := by omega
      have hR3 := hR2.set t1 (lrn_ok hv _) (fun q u v => t2 q (by omega))
      have hf3 : frD Ω Ω32 := fun q hq => (t2 q (by omega)).trans ((l4.1 q (by omega) (by omega) (by omega)).trans (hSf q (by omega)))
      rw [e1, lrR] at hc hs
      refine z_ifd_ne (pc := 35) hC 41 dX4_learnRounds_35 rfl (fun h35 => ?_) (fun h35 => ?_)
      · have h35c : chg a.1 (loS a.1) := by rw [hR2.1.1] at h35; exact h35
        rw [if_pos h35c] at hc hs
        refine z_iinc (pc := 41) hC (i := 2) dX4_learnRounds_41 rfl (by decide) rfl (zS_s (zS_s zS_0)) ?_
        refine z_iinc (pc := 44) hC (i := 3) dX4_learnRounds_44 rfl (by decide) rfl (zS_s (zS_s (zS_s zS_0))) ?_
        refine z_goto (pc := 47) hC 4 dX4_learnRounds_47 rfl ?_
        exact ih (r + 1) (c + 1) _ (aSet a (lrn a.1 (loS a.1))) (by omega) (by omega) hR3 (by have hc1 : c + ((lrR (n - (r + 1)) (lrn a.1 (loS a.1))).1 + 1) = (lrR n a0.1).1 := hc; show c + 1 + (lrR (n - (r + 1)) (lrn a.1 (loS a.1))).1 = _; omega) hs ha (by omega) (hF.trans hf3)
      · have h35c : ¬ chg a.1 (loS a.1) := by rw [hR2.1.1] at h35; exact h35
        rw [if_neg h35c] at hc hs
        refine z_goto (pc := 38) hC 50 dX4_learnRounds_38 rfl ?_
        exact K c _ (aSet a (lrn a.1 (loS a.1))) r (by have hc1 : c + 0 = (lrR n a0.1).1 := hc; omega) hs hR3 ha (hF.trans hf3)
set_option maxHeartbeats 4000000 in
set_option maxRecDepth 100000 in
theorem c_X4_learnRounds (l : Launch) (w : zP) (hw : zOK w) (Ω : Mem) (a : As) (h : RC Ω a) (n : Nat) (hn : n ≤ 20) : zM l w yX4_learnRounds wsX4_learnRounds 41 1142 [.ref (wa w 0), .int (zI (n : Int))] Ω (zi (fun r Ω1 => r = (lrR n a.1).1 ∧ RC Ω1 (aSet a (lrR n a.1).2) ∧ frD Ω Ω1)) := by
  refine zM_of cX4_learnRounds 4 (some .int) RX4 [some (.ref (wa w 0)), some (.int (zI (n : Int))), none, none] hw (by decide +kernel) rfl rfl (Nat.le_of_ble_eq_true rfl) rfl (fun E hC => ?_)
  refine z_iconst (pc := 0) hC dX4_learnRounds_0 ?_
  refine z_istore_n (pc := 1) hC (i := 2) dX4_learnRounds_1 rfl (by decide) rfl (zS_s (zS_s zS_0)) ?_
  refine z_iconst (pc := 2) hC dX4_learnRounds_2 ?_
  refine z_istore_n (pc := 3) hC (i := 3) dX4_learnRounds_3 rfl (by decide) rfl (zS_s (zS_s (zS_s zS_0))) ?_
  refine L_X4_learnRounds_4 hw hC n hn a Ω (fun c Ω1 a1 r hc hs hR ha hF => ?_) (n + 1) 0 0 Ω a (by omega) (by omega) h (by rw [Nat.sub_zero]; omega) (by rw [Nat.sub_zero]) rfl (by omega) (frD.refl _)
  refine z_iload_n (pc := 50) hC (i := 2) dX4_learnRounds_50 rfl rfl ?_
  exact z_iret (pc := 51) hC rfl ⟨_, rfl, hc, by rw [show aSet a (lrR n a.1).2 = a1 by rw [← hs]; show (a1.1, a.2) = a1; rw [← ha]]; exact hR, hF⟩ dX4_learnRounds_51
theorem fl_X4_learns_19 : Cond.fieldLink RX4 19 "StrokeCuts" "past" "LStrokeCuts$History;" ∈ wsX4_learns := by decide +kernel
theorem in_X4_learns_X4 : ∀ x ∈ u_ws RX4 TX4 7, x ∈ wsX4_learns := by decide +kernel
theorem fl_X4_learns_12 : Cond.fieldLink RX4 12 "StrokeCuts" "scene" "LStrokeCuts$Scene;" ∈ wsX4_learns := by decide +kernel
set_option maxHeartbeats 4000000 in
set_option maxRecDepth 100000 in
theorem c_X4_learns (l : Launch) (w : zP) (hw : zOK w) (Ω : Mem) (a : As) (h : RC Ω a) (n : Int) (hn : zb n) : zM l w yX4_learns wsX4_learns 42 1165 [.ref (wa w 0), .int (zI n)] Ω (zi (fun r Ω1 => r = (aLearns a n).1 ∧ RC Ω1 (aLearns a n).2 ∧ frC Ω Ω1)) := by
  refine zM_of cX4_learns 2 (some .int) RX4 [some (.ref (wa w 0)), some (.int (zI n))] hw (by decide +kernel) rfl rfl (Nat.le_of_ble_eq_true rfl) rfl (fun E hC => ?_)
  have hv := h.1.2
  have hv1 : scok (scC Ω) := by rw [h.1.1]; exact h.1.2
  have q0 : gt Ω 13 0 = a.1 0 := by rw [← scC_0, h.1.1]
  have q1 : gt Ω 13 1 = a.1 1 := by rw [← scC_1, h.1.1]
  have hN := sdots_le hv
  have hw01 := hv.1
  have hh01 := hv.2.1
  refine z_iload_n (pc := 0) hC (i := 1) dX4_learns_0 rfl rfl ?_
  refine z_iconst (pc := 1) hC dX4_learns_1 ?_
  refine z_bipush (pc := 2) hC dX4_learns_2 rfl ?_
  refine z_callS (n := 3) (pc := 4) hC (c_X4_isWithin l w hw _ _ _ _ (by first | assumption | exact zb_gt _ _ _ | exact zcmp_zb _ _ | exact bI_zb _ | exact ⟨by omega, by omega⟩) (by first | assumption | exact zb_gt _ _ _ | exact zcmp_zb _ _ | exact bI_zb _ | exact ⟨by omega, by omega⟩) (by first | assumption | exact zb_gt _ _ _ | exact zcmp_zb _ _ | exact bI_zb _ | exact ⟨by omega, by omega⟩)) gX4_learns_X4_isWithin rfl (by decide +kernel) (by decide) (by decide) rfl rfl (Nat.le_of_ble_eq_true rfl) dX4_learns_4 (zb_k fun r4 Ω4 h4 => ?_)
  obtain ⟨rfl, hM4⟩ := h4
  obtain rfl := hM4.symm
  refine z_ifd_ne (pc := 7) hC 15 dX4_learns_7 rfl (fun h7 => ?_) (fun h7 => ?_)
  · obtain ⟨j, hj⟩ := nat_of (show 0 ≤ n by omega)
    rw [hj]
    refine z_aload_n (pc := 15) hC (i := 0) dX4_learns_15 rfl rfl ?_
    refine z_getR (C := RX4) (T := TX4) (N := 7) (ci := 4) (pc := 16) hC _ _ 1 in_X4_learns_X4 rfl (by decide) (fun _ => rfl) (by decide) fl_X4_learns_19 (fun _ => rfl) dX4_learns_16 ?_
    refine z_aload_n (pc := 19) hC (i := 0) dX4_learns_19 rfl rfl ?_
    refine z_getR (C := RX4) (T := TX4) (N := 7) (ci := 4) (pc := 20) hC _ _ 0 in_X4_learns_X4 rfl (by decide) (fun _ => rfl) (by decide) fl_X4_learns_12 (fun _ => rfl) dX4_learns_20 ?_
    refine z_callV (n := 1) (T := TX0) (N := 3) (ci := 0) (pc := 23) hC (c_X0_remember l w hw _ h.2.1.2.2.1.1 h.2.1.2.2.1.2 (by rw [h.2.1.1]; omega) (by rw [h.2.1.1]; have := h.2.1.2.1; omega)) gX4_learns_X0_remember rfl (by decide +kernel) (by decide) (by decide) rfl (by decide) (fun _ => rfl) rfl rfl (Nat.le_of_ble_eq_true rfl) dX4_learns_23 (zv_k fun Ω23 h23 => ?_)
    obtain ⟨g1, g2, g3, g4⟩ := h23
    obtain ⟨hR, hfr, hs⟩ := h.rem g1 g2 g3 g4
    have q0R : gt Ω23 13 0 = a.1 0 := by rw [← scC_0, hs]
    have q1R : gt Ω23 13 1 = a.1 1 := by rw [← scC_1, hs]
    refine z_aload_n (pc := 26) hC (i := 0) dX4_learns_26 rfl rfl ?_
    refine z_iload_n (pc := 27) hC (i := 1) dX4_learns_27 rfl rfl ?_
    refine z_callV (n := 1) (T := TX4) (N := 7) (ci := 4) (pc := 28) hC (c_X4_learnRounds l w hw _ (aRem a) hR j (by omega)) gX4_learns_X4_learnRounds rfl (by decide +kernel) (by decide) (by decide) rfl (by decide) (fun _ => rfl) rfl rfl (Nat.le_of_ble_eq_true rfl) dX4_learns_28 (zi_k fun r28 Ω28 h28 => ?_)
    obtain ⟨t0, t1, t2⟩ := h28
    subst t0
    exact z_iret (pc := 31) hC rfl ⟨_, rfl, ok_ret (by unfold aLearns; rw [if_pos (by omega), hj, Int.toNat_natCast]; rfl) t1 (hfr.trans t2.C)⟩ dX4_learns_31
  · refine z_aload_n (pc := 10) hC (i := 0) dX4_learns_10 rfl rfl ?_
    refine z_callV (n := 0) (T := TX4) (N := 7) (ci := 4) (pc := 11) hC (c_X4_refuseBad l w hw _) gX4_learns_X4_refuseBad rfl (by decide +kernel) (by decide) (by decide) rfl (by decide) (fun _ => rfl) rfl rfl (Nat.le_of_ble_eq_true rfl) dX4_learns_11 (zi_k fun r11 Ω11 h11 => ?_)
    obtain ⟨rfl, rfl⟩ := h11
    exact z_iret (pc := 14) hC rfl ⟨_, rfl, bad_ret h (if_neg (by omega))⟩ dX4_learns_14
