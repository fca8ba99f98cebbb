noncomputable def aCost (a : As) : Int × As := (lcV a.1, a)
noncomputable def aSide (a : As) (k : Int) : Int64 × As := if 0 ≤ k ∧ k ≤ 1 then (if k = 0 then loS a.1 else hiS a.1, a) else ((zI (-2)).toInt64, aInc a 0)
noncomputable def sureV (σ : Sg) (n : Nat) : Int := if tb (loS σ) n = true then 1 else if tb (hiS σ) n = true then 2 else 0
noncomputable def aSure (a : As) (x y : Int) : Int × As := if dIn a.1 x y then (sureV a.1 (nO a.1 x y), a) else (-2, aInc a 0)
noncomputable def aWere (a : As) (x y v : Int) : Int × As := if dIn a.1 x y ∧ (0 ≤ v ∧ v ≤ 2) then (lcV (sup a.1 (44 + nO a.1 x y) v), a) else (-2, aInc a 0)
noncomputable def aStrain (a : As) (x y d v : Int) : Int × As := if (dIn a.1 x y ∧ (0 ≤ d ∧ d ≤ 3)) ∧ (0 ≤ v ∧ v ≤ 99) then (if lk a.1 (nO a.1 x y) d.toNat = -1 then -1 else lcW a.1 (oms a.1 (nO a.1 x y) d.toNat v), a) else (-2, aInc a 0)
noncomputable def tightV (σ : Sg) (n o : Nat) : Int := @ite Int (∀ T, best σ T → T n ≠ T o) (Classical.propDecidable _) 2 (@ite Int (∃ T, best σ T ∧ T n ≠ T o) (Classical.propDecidable _) 1 0)
noncomputable def aTight (a : As) (x y d : Int) : Int × As := if dIn a.1 x y ∧ (0 ≤ d ∧ d ≤ 3) then (if lk a.1 (nO a.1 x y) d.toNat = -1 then -1 else tightV a.1 (nO a.1 x y) (lk a.1 (nO a.1 x y) d.toNat).toNat, a) else (-2, aInc a 0)
theorem ok_retL {Ω Ω1 : Mem} {a1 : As} {r : Int64} {F : Int64 × As} (e : F = (r, a1)) (h : RC Ω1 a1) (hf : frC Ω Ω1) : r = F.1 ∧ RC Ω1 F.2 ∧ frC Ω Ω1 := by
  rw [e]; exact ⟨rfl, h, hf⟩

theorem fl_X4_cost_26 : Cond.fieldLink RX4 26 "StrokeCuts" "network" "LStrokeCuts$Network;" ∈ wsX4_cost := by decide +kernel
theorem in_X4_cost_X4 : ∀ x ∈ u_ws RX4 TX4 7, x ∈ wsX4_cost := by decide +kernel
theorem fl_X4_cost_12 : Cond.fieldLink RX4 12 "StrokeCuts" "scene" "LStrokeCuts$Scene;" ∈ wsX4_cost := by decide +kernel
set_option maxHeartbeats 4000000 in
set_option maxRecDepth 100000 in
theorem c_X4_cost (l : Launch) (w : zP) (hw : zOK w) (Ω : Mem) (a : As) (h : RC Ω a) : zM l w yX4_cost wsX4_cost 41 1142 [.ref (wa w 0)] Ω (zi (fun r Ω1 => r = (aCost a).1 ∧ RC Ω1 (aCost a).2 ∧ frC Ω Ω1)) := by
  refine zM_of cX4_cost 1 (some .int) RX4 [some (.ref (wa w 0))] hw (by decide +kernel) rfl rfl (Nat.le_of_ble_eq_true rfl) rfl (fun E hC => ?_)
  have hv := h.1.2
  have hv1 : scok (scC Ω) := by rw [h.1.1]; exact h.1.2
  have q0 : gt Ω 13 0 = a.1 0 := by rw [← scC_0, h.1.1]
  have q1 : gt Ω 13 1 = a.1 1 := by rw [← scC_1, h.1.1]
  have hN := sdots_le hv
  have hw01 := hv.1
  have hh01 := hv.2.1
  refine z_aload_n (pc := 0) hC (i := 0) dX4_cost_0 rfl rfl ?_
  refine z_getR (C := RX4) (T := TX4) (N := 7) (ci := 4) (pc := 1) hC _ _ 2 in_X4_cost_X4 rfl (by decide) (fun _ => rfl) (by decide) fl_X4_cost_26 (fun _ => rfl) dX4_cost_1 ?_
  refine z_aload_n (pc := 4) hC (i := 0) dX4_cost_4 rfl rfl ?_
  refine z_getR (C := RX4) (T := TX4) (N := 7) (ci := 4) (pc := 5) hC _ _ 0 in_X4_cost_X4 rfl (by decide) (fun _ => rfl) (by decide) fl_X4_cost_12 (fun _ => rfl) dX4_cost_5 ?_
  refine z_callV (n := 1) (T := TX1) (N := 8) (ci := 1) (pc := 8) hC (c_X1_solve l w hw _ hv1) gX4_cost_X1_solve rfl (by decide +kernel) (by decide) (by decide) rfl (by decide) (fun _ => rfl) rfl rfl (Nat.le_of_ble_eq_true rfl) dX4_cost_8 (zi_k fun r8 Ω8 h8 => ?_)
  obtain ⟨hS, hSf⟩ := h8
  rw [h.1.1] at hS
  have hR := h.same hSf
  have hfS : frC Ω Ω8 := fun q hq => hSf q (by omega)
  have q0S : gt Ω8 13 0 = a.1 0 := by rw [← scC_0, hR.1.1]
  exact z_iret (pc := 11) hC rfl ⟨_, rfl, by rw [hS.lc hv]; exact ok_ret rfl hR hfS⟩ dX4_cost_11
theorem fl_X4_side_26 : Cond.fieldLink RX4 26 "StrokeCuts" "network" "LStrokeCuts$Network;" ∈ wsX4_side := by decide +kernel
theorem in_X4_side_X4 : ∀ x ∈ u_ws RX4 TX4 7, x ∈ wsX4_side := by decide +kernel
theorem fl_X4_side_12 : Cond.fieldLink RX4 12 "StrokeCuts" "scene" "LStrokeCuts$Scene;" ∈ wsX4_side := by decide +kernel
set_option maxHeartbeats 4000000 in
set_option maxRecDepth 100000 in
theorem c_X4_side (l : Launch) (w : zP) (hw : zOK w) (Ω : Mem) (a : As) (h : RC Ω a) (k : Int) (hk : zb k) : zM l w yX4_side wsX4_side 41 1142 [.ref (wa w 0), .int (zI k)] Ω (zlo (fun r Ω1 => r = (aSide a k).1 ∧ RC Ω1 (aSide a k).2 ∧ frC Ω Ω1)) := by
  refine zM_of cX4_side 2 (some .long) RX4 [some (.ref (wa w 0)), some (.int (zI k))] hw (by decide +kernel) rfl rfl (Nat.le_of_ble_eq_true rfl) rfl (fun E hC => ?_)
  have hv := h.1.2
  have hv1 : scok (scC Ω) := by rw [h.1.1]; exact h.1.2
  have q0 : gt Ω 13 0 = a.1 0 := by rw [← scC_0, h.1.1]
  have q1 : gt Ω 13 1 = a.1 1 := by rw [← scC_1, h.1.1]
  have hN := sdots_le hv
  have hw01 := hv.1
  have hh01 := hv.2.1
  refine z_iload_n (pc := 0) hC (i := 1) dX4_side_0 rfl rfl ?_
  refine z_iconst (pc := 1) hC dX4_side_1 ?_
  refine z_iconst (pc := 2) hC dX4_side_2 ?_
  refine z_callS (n := 3) (pc := 3) hC (c_X4_isWithin l w hw _ _ _ _ (by first | assumption | exact zb_gt _ _ _ | exact zcmp_zb _ _ | exact bI_zb _ | exact ⟨by omega, by omega⟩) (by first | assumption | exact zb_gt _ _ _ | exact zcmp_zb _ _ | exact bI_zb _ | exact ⟨by omega, by omega⟩) (by first | assumption | exact zb_gt _ _ _ | exact zcmp_zb _ _ | exact bI_zb _ | exact ⟨by omega, by omega⟩)) gX4_side_X4_isWithin rfl (by decide +kernel) (by decide) (by decide) rfl rfl (Nat.le_of_ble_eq_true rfl) dX4_side_3 (zb_k fun r3 Ω3 h3 => ?_)
  obtain ⟨rfl, hM3⟩ := h3
  obtain rfl := hM3.symm
  refine z_ifd_ne (pc := 6) hC 15 dX4_side_6 rfl (fun h6 => ?_) (fun h6 => ?_)
  · refine z_aload_n (pc := 15) hC (i := 0) dX4_side_15 rfl rfl ?_
    refine z_getR (C := RX4) (T := TX4) (N := 7) (ci := 4) (pc := 16) hC _ _ 2 in_X4_side_X4 rfl (by decide) (fun _ => rfl) (by decide) fl_X4_side_26 (fun _ => rfl) dX4_side_16 ?_
    refine z_aload_n (pc := 19) hC (i := 0) dX4_side_19 rfl rfl ?_
    refine z_getR (C := RX4) (T := TX4) (N := 7) (ci := 4) (pc := 20) hC _ _ 0 in_X4_side_X4 rfl (by decide) (fun _ => rfl) (by decide) fl_X4_side_12 (fun _ => rfl) dX4_side_20 ?_
    refine z_callV (n := 1) (T := TX1) (N := 8) (ci := 1) (pc := 23) hC (c_X1_solve l w hw _ hv1) gX4_side_X1_solve rfl (by decide +kernel) (by decide) (by decide) rfl (by decide) (fun _ => rfl) rfl rfl (Nat.le_of_ble_eq_true rfl) dX4_side_23 (zi_k fun r23 Ω23 h23 => ?_)
    obtain ⟨hS, hSf⟩ := h23
    rw [h.1.1] at hS
    have hR := h.same hSf
    have hfS : frC Ω Ω23 := fun q hq => hSf q (by omega)
    have q0S : gt Ω23 13 0 = a.1 0 := by rw [← scC_0, hR.1.1]
    refine z_pop (pc := 26) hC dX4_side_26 rfl ?_
    refine z_iload_n (pc := 27) hC (i := 1) dX4_side_27 rfl rfl ?_
    refine z_if_ne (pc := 28) hC 41 (by first | assumption | exact zb_gt _ _ _ | exact zcmp_zb _ _ | exact bI_zb _ | exact ⟨by omega, by omega⟩) dX4_side_28 rfl (fun h28 => ?_) (fun h28 => ?_)
    · refine z_aload_n (pc := 41) hC (i := 0) dX4_side_41 rfl rfl ?_
      refine z_getR (C := RX4) (T := TX4) (N := 7) (ci := 4) (pc := 42) hC _ _ 2 in_X4_side_X4 rfl (by decide) (fun _ => rfl) (by decide) fl_X4_side_26 (fun _ => rfl) dX4_side_42 ?_
      refine z_callV (n := 0) (T := TX1) (N := 8) (ci := 1) (pc := 45) hC (c_X1_greatestSet l w hw _ a.1 _ hv hS) gX4_side_X1_greatestSet rfl (by decide +kernel) (by decide) (by decide) rfl (by decide) (fun _ => rfl) rfl rfl (Nat.le_of_ble_eq_true rfl) dX4_side_45 (zl_k fun r45 Ω45 h45 => ?_)
      obtain ⟨k1, k2, k3, k4⟩ := h45
      obtain rfl := hS.hi hv k1 k2 k3
      exact z_lret (pc := 48) hC rfl ⟨_, rfl, ok_retL (by unfold aSide; rw [if_pos (by omega), if_neg (by omega)]) (hR.same k4.R) (hfS.trans k4.C)⟩ dX4_side_48
    · refine z_aload_n (pc := 31) hC (i := 0) dX4_side_31 rfl rfl ?_
      refine z_getR (C := RX4) (T := TX4) (N := 7) (ci := 4) (pc := 32) hC _ _ 2 in_X4_side_X4 rfl (by decide) (fun _ => rfl) (by decide) fl_X4_side_26 (fun _ => rfl) dX4_side_32 ?_
      refine z_callV (n := 0) (T := TX1) (N := 8) (ci := 1) (pc := 35) hC (c_X1_leastSet l w hw _ a.1 _ hv hS) gX4_side_X1_leastSet rfl (by decide +kernel) (by decide) (by decide) rfl (by decide) (fun _ => rfl) rfl rfl (Nat.le_of_ble_eq_true rfl) dX4_side_35 (zl_k fun r35 Ω35 h35 => ?_)
      obtain ⟨l1, l2, l3, l4⟩ := h35
      obtain rfl := hS.lo hv l1 l2 l3
      have hS2 := hS.moved l4
      have hR2 := hR.same l4.R
      refine z_goto (pc := 38) hC 48 dX4_side_38 rfl ?_
      exact z_lret (pc := 48) hC rfl ⟨_, rfl, ok_retL (by unfold aSide; rw [if_pos (by omega), if_pos (by omega)]) hR2 (hfS.trans l4.C)⟩ dX4_side_48
  · refine z_aload_n (pc := 9) hC (i := 0) dX4_side_9 rfl rfl ?_
    refine z_callV (n := 0) (T := TX4) (N := 7) (ci := 4) (pc := 10) hC (c_X4_refuseBad l w hw _) gX4_side_X4_refuseBad rfl (by decide +kernel) (by decide) (by decide) rfl (by decide) (fun _ => rfl) rfl rfl (Nat.le_of_ble_eq_true rfl) dX4_side_10 (zi_k fun r10 Ω10 h10 => ?_)
    obtain ⟨rfl, rfl⟩ := h10
    refine z_i2l (pc := 13) hC rfl dX4_side_13 ?_
    exact z_lret (pc := 14) hC rfl ⟨_, rfl, ok_retL (if_neg (by omega)) (h.inc (i := 0) (by decide) rfl) (frC_up _ _ _ (by decide))⟩ dX4_side_14
theorem fl_X4_sure_12 : Cond.fieldLink RX4 12 "StrokeCuts" "scene" "LStrokeCuts$Scene;" ∈ wsX4_sure := by decide +kernel
theorem in_X4_sure_X4 : ∀ x ∈ u_ws RX4 TX4 7, x ∈ wsX4_sure := by decide +kernel
theorem fl_X4_sure_26 : Cond.fieldLink RX4 26 "StrokeCuts" "network" "LStrokeCuts$Network;" ∈ wsX4_sure := by decide +kernel
set_option maxHeartbeats 4000000 in
set_option maxRecDepth 100000 in
theorem c_X4_sure (l : Launch) (w : zP) (hw : zOK w) (Ω : Mem) (a : As) (h : RC Ω a) (x y : Int) (hx : zb x) (hy : zb y) : zM l w yX4_sure wsX4_sure 41 1142 [.ref (wa w 0), .int (zI x), .int (zI y)] Ω (zi (fun r Ω1 => r = (aSure a x y).1 ∧ RC Ω1 (aSure a x y).2 ∧ frC Ω Ω1)) := by
  refine zM_of cX4_sure 4 (some .int) RX4 [some (.ref (wa w 0)), some (.int (zI x)), some (.int (zI y)), none] hw (by decide +kernel) rfl rfl (Nat.le_of_ble_eq_true rfl) rfl (fun E hC => ?_)
  have hv := h.1.2
  have hv1 : scok (scC Ω) := by rw [h.1.1]; exact h.1.2
  have q0 : gt Ω 13 0 = a.1 0 := by rw [← scC_0, h.1.1]
  have q1 : gt Ω 13 1 = a.1 1 := by rw [← scC_1, h.1.1]
  have hN := sdots_le hv
  have hw01 := hv.1
  have hh01 := hv.2.1
  refine z_aload_n (pc := 0) hC (i := 0) dX4_sure_0 rfl rfl ?_
  refine z_getR (C := RX4) (T := TX4) (N := 7) (ci := 4) (pc := 1) hC _ _ 0 in_X4_sure_X4 rfl (by decide) (fun _ => rfl) (by decide) fl_X4_sure_12 (fun _ => rfl) dX4_sure_1 ?_
  refine z_iload_n (pc := 4) hC (i := 1) dX4_sure_4 rfl rfl ?_
  refine z_iload_n (pc := 5) hC (i := 2) dX4_sure_5 rfl rfl ?_
  refine z_callV (n := 2) (T := TX2) (N := 5) (ci := 2) (pc := 6) hC (c_X2_hasDot l w hw _ _ _ (by first | assumption | exact zb_gt _ _ _ | exact zcmp_zb _ _ | exact bI_zb _ | exact ⟨by omega, by omega⟩) (by first | assumption | exact zb_gt _ _ _ | exact zcmp_zb _ _ | exact bI_zb _ | exact ⟨by omega, by omega⟩)) gX4_sure_X2_hasDot rfl (by decide +kernel) (by decide) (by decide) rfl (by decide) (fun _ => rfl) rfl rfl (Nat.le_of_ble_eq_true rfl) dX4_sure_6 (zb_k fun r6 Ω6 h6 => ?_)
  obtain ⟨rfl, hM6⟩ := h6
  obtain rfl := hM6.symm
  refine z_ifd_ne (pc := 9) hC 17 dX4_sure_9 rfl (fun h9 => ?_) (fun h9 => ?_)
  · refine z_aload_n (pc := 17) hC (i := 0) dX4_sure_17 rfl rfl ?_
    refine z_getR (C := RX4) (T := TX4) (N := 7) (ci := 4) (pc := 18) hC _ _ 2 in_X4_sure_X4 rfl (by decide) (fun _ => rfl) (by decide) fl_X4_sure_26 (fun _ => rfl) dX4_sure_18 ?_
    refine z_aload_n (pc := 21) hC (i := 0) dX4_sure_21 rfl rfl ?_
    refine z_getR (C := RX4) (T := TX4) (N := 7) (ci := 4) (pc := 22) hC _ _ 0 in_X4_sure_X4 rfl (by decide) (fun _ => rfl) (by decide) fl_X4_sure_12 (fun _ => rfl) dX4_sure_22 ?_
    refine z_callV (n := 1) (T := TX1) (N := 8) (ci := 1) (pc := 25) hC (c_X1_solve l w hw _ hv1) gX4_sure_X1_solve rfl (by decide +kernel) (by decide) (by decide) rfl (by decide) (fun _ => rfl) rfl rfl (Nat.le_of_ble_eq_true rfl) dX4_sure_25 (zi_k fun r25 Ω25 h25 => ?_)
    obtain ⟨hS, hSf⟩ := h25
    rw [h.1.1] at hS
    have hR := h.same hSf
    have hfS : frC Ω Ω25 := fun q hq => hSf q (by omega)
    have q0S : gt Ω25 13 0 = a.1 0 := by rw [← scC_0, hR.1.1]
    refine z_pop (pc := 28) hC dX4_sure_28 rfl ?_
    refine z_aload_n (pc := 29) hC (i := 0) dX4_sure_29 rfl rfl ?_
    refine z_getR (C := RX4) (T := TX4) (N := 7) (ci := 4) (pc := 30) hC _ _ 0 in_X4_sure_X4 rfl (by decide) (fun _ => rfl) (by decide) fl_X4_sure_12 (fun _ => rfl) dX4_sure_30 ?_
    refine z_iload_n (pc := 33) hC (i := 1) dX4_sure_33 rfl rfl ?_
    refine z_iload_n (pc := 34) hC (i := 2) dX4_sure_34 rfl rfl ?_
    refine z_callV (n := 2) (T := TX2) (N := 5) (ci := 2) (pc := 35) hC (c_X2_numberOf l w hw _ _ _) gX4_sure_X2_numberOf rfl (by decide +kernel) (by decide) (by decide) rfl (by decide) (fun _ => rfl) rfl rfl (Nat.le_of_ble_eq_true rfl) dX4_sure_35 (zi_k fun r35 Ω35 h35 => ?_)
    obtain ⟨hr35, hm35⟩ := h35
    have hm35 := hm35.symm
    subst hm35
    obtain ⟨hn1, hn2⟩ := nO_lt hv (x := x) (y := y) (by unfold dIn; omega)
    rw [q0S, hn1] at hr35
    subst hr35
    refine z_istore_n (pc := 38) hC (i := 3) dX4_sure_38 rfl (by decide) rfl (zS_s (zS_s (zS_s zS_0))) ?_
    refine z_aload_n (pc := 39) hC (i := 0) dX4_sure_39 rfl rfl ?_
    refine z_getR (C := RX4) (T := TX4) (N := 7) (ci := 4) (pc := 40) hC _ _ 2 in_X4_sure_X4 rfl (by decide) (fun _ => rfl) (by decide) fl_X4_sure_26 (fun _ => rfl) dX4_sure_40 ?_
    refine z_callV (n := 0) (T := TX1) (N := 8) (ci := 1) (pc := 43) hC (c_X1_leastSet l w hw _ a.1 _ hv hS) gX4_sure_X1_leastSet rfl (by decide +kernel) (by decide) (by decide) rfl (by decide) (fun _ => rfl) rfl rfl (Nat.le_of_ble_eq_true rfl) dX4_sure_43 (zl_k fun r43 Ω43 h43 => ?_)
    obtain ⟨l1, l2, l3, l4⟩ := h43
    obtain rfl := hS.lo hv l1 l2 l3
    have hS2 := hS.moved l4
    have hR2 := hR.same l4.R
    refine z_iload_n (pc := 46) hC (i := 3) dX4_sure_46 rfl rfl ?_
    refine z_callS (n := 2) (pc := 47) hC (c_X4_has l w hw _ _ (nO a.1 x y) (by omega)) gX4_sure_X4_has rfl (by decide +kernel) (by decide) (by decide) rfl rfl (Nat.le_of_ble_eq_true rfl) dX4_sure_47 (zb_k fun r47 Ω47 h47 => ?_)
    obtain ⟨rfl, hM47⟩ := h47
    obtain rfl := hM47.symm
    refine z_ifd_eq (pc := 50) hC 55 dX4_sure_50 rfl (fun h50 => ?_) (fun h50 => ?_)
    · refine z_aload_n (pc := 55) hC (i := 0) dX4_sure_55 rfl rfl ?_
      refine z_getR (C := RX4) (T := TX4) (N := 7) (ci := 4) (pc := 56) hC _ _ 2 in_X4_sure_X4 rfl (by decide) (fun _ => rfl) (by decide) fl_X4_sure_26 (fun _ => rfl) dX4_sure_56 ?_
      refine z_callV (n := 0) (T := TX1) (N := 8) (ci := 1) (pc := 59) hC (c_X1_greatestSet l w hw _ a.1 _ hv hS2) gX4_sure_X1_greatestSet rfl (by decide +kernel) (by decide) (by decide) rfl (by decide) (fun _ => rfl) rfl rfl (Nat.le_of_ble_eq_true rfl) dX4_sure_59 (zl_k fun r59 Ω59 h59 => ?_)
      obtain ⟨k1, k2, k3, k4⟩ := h59
      obtain rfl := hS.hi hv k1 k2 k3
      refine z_iload_n (pc := 62) hC (i := 3) dX4_sure_62 rfl rfl ?_
      refine z_callS (n := 2) (pc := 63) hC (c_X4_has l w hw _ _ (nO a.1 x y) (by omega)) gX4_sure_X4_has rfl (by decide +kernel) (by decide) (by decide) rfl rfl (Nat.le_of_ble_eq_true rfl) dX4_sure_63 (zb_k fun r63 Ω63 h63 => ?_)
      obtain ⟨rfl, hM63⟩ := h63
      obtain rfl := hM63.symm
      refine z_ifd_eq (pc := 66) hC 73 dX4_sure_66 rfl (fun h66 => ?_) (fun h66 => ?_)
      · refine z_iconst (pc := 73) hC dX4_sure_73 ?_
        exact z_iret (pc := 74) hC rfl ⟨_, rfl, ok_ret (by unfold aSure sureV; rw [if_pos (by unfold dIn; omega), if_neg h50, if_neg h66]) (hR2.same k4.R) ((hfS.trans l4.C).trans k4.C)⟩ dX4_sure_74
      · refine z_iconst (pc := 69) hC dX4_sure_69 ?_
        refine z_goto (pc := 70) hC 74 dX4_sure_70 rfl ?_
        exact z_iret (pc := 74) hC rfl ⟨_, rfl, ok_ret (by unfold aSure sureV; rw [if_pos (by unfold dIn; omega), if_neg h50, if_pos h66]) (hR2.same k4.R) ((hfS.trans l4.C).trans k4.C)⟩ dX4_sure_74
    · refine z_iconst (pc := 53) hC dX4_sure_53 ?_
      exact z_iret (pc := 54) hC rfl ⟨_, rfl, ok_ret (by unfold aSure sureV; rw [if_pos (by unfold dIn; omega), if_pos h50]) hR2 (hfS.trans l4.C)⟩ dX4_sure_54
  · refine z_aload_n (pc := 12) hC (i := 0) dX4_sure_12 rfl rfl ?_
    refine z_callV (n := 0) (T := TX4) (N := 7) (ci := 4) (pc := 13) hC (c_X4_refuseBad l w hw _) gX4_sure_X4_refuseBad rfl (by decide +kernel) (by decide) (by decide) rfl (by decide) (fun _ => rfl) rfl rfl (Nat.le_of_ble_eq_true rfl) dX4_sure_13 (zi_k fun r13 Ω13 h13 => ?_)
    obtain ⟨rfl, rfl⟩ := h13
    exact z_iret (pc := 16) hC rfl ⟨_, rfl, bad_ret h (if_neg (by unfold dIn; omega))⟩ dX4_sure_16
theorem fl_X4_were_12 : Cond.fieldLink RX4 12 "StrokeCuts" "scene" "LStrokeCuts$Scene;" ∈ wsX4_were := by decide +kernel
theorem in_X4_were_X4 : ∀ x ∈ u_ws RX4 TX4 7, x ∈ wsX4_were := by decide +kernel
theorem fl_X4_were_26 : Cond.fieldLink RX4 26 "StrokeCuts" "network" "LStrokeCuts$Network;" ∈ wsX4_were := by decide +kernel
set_option maxHeartbeats 4000000 in
set_option maxRecDepth 100000 in
theorem c_X4_were (l : Launch) (w : zP) (hw : zOK w) (Ω : Mem) (a : As) (h : RC Ω a) (x y v : Int) (hx : zb x) (hy : zb y) (hz : zb v) : zM l w yX4_were wsX4_were 40 1121 [.ref (wa w 0), .int (zI x), .int (zI y), .int (zI v)] Ω (zi (fun r Ω1 => r = (aWere a x y v).1 ∧ RC Ω1 (aWere a x y v).2 ∧ frC Ω Ω1)) := by
  refine zM_of cX4_were 4 (some .int) RX4 [some (.ref (wa w 0)), some (.int (zI x)), some (.int (zI y)), some (.int (zI v))] hw (by decide +kernel) rfl rfl (Nat.le_of_ble_eq_true rfl) rfl (fun E hC => ?_)
  have hv := h.1.2
  have hv1 : scok (scC Ω) := by rw [h.1.1]; exact h.1.2
  have q0 : gt Ω 13 0 = a.1 0 := by rw [← scC_0, h.1.1]
  have q1 : gt Ω 13 1 = a.1 1 := by rw [← scC_1, h.1.1]
  have hN := sdots_le hv
  have hw01 := hv.1
  have hh01 := hv.2.1
  refine z_aload_n (pc := 0) hC (i := 0) dX4_were_0 rfl rfl ?_
  refine z_getR (C := RX4) (T := TX4) (N := 7) (ci := 4) (pc := 1) hC _ _ 0 in_X4_were_X4 rfl (by decide) (fun _ => rfl) (by decide) fl_X4_were_12 (fun _ => rfl) dX4_were_1 ?_
  refine z_iload_n (pc := 4) hC (i := 1) dX4_were_4 rfl rfl ?_
  refine z_iload_n (pc := 5) hC (i := 2) dX4_were_5 rfl rfl ?_
  refine z_callV (n := 2) (T := TX2) (N := 5) (ci := 2) (pc := 6) hC (c_X2_hasDot l w hw _ _ _ (by first | assumption | exact zb_gt _ _ _ | exact zcmp_zb _ _ | exact bI_zb _ | exact ⟨by omega, by omega⟩) (by first | assumption | exact zb_gt _ _ _ | exact zcmp_zb _ _ | exact bI_zb _ | exact ⟨by omega, by omega⟩)) gX4_were_X2_hasDot rfl (by decide +kernel) (by decide) (by decide) rfl (by decide) (fun _ => rfl) rfl rfl (Nat.le_of_ble_eq_true rfl) dX4_were_6 (zb_k fun r6 Ω6 h6 => ?_)
  obtain ⟨rfl, hM6⟩ := h6
  obtain rfl := hM6.symm
  refine z_ifd_eq (pc := 9) hC 21 dX4_were_9 rfl (fun h9 => ?_) (fun h9 => ?_)
  · refine z_aload_n (pc := 21) hC (i := 0) dX4_were_21 rfl rfl ?_
    refine z_callV (n := 0) (T := TX4) (N := 7) (ci := 4) (pc := 22) hC (c_X4_refuseBad l w hw _) gX4_were_X4_refuseBad rfl (by decide +kernel) (by decide) (by decide) rfl (by decide) (fun _ => rfl) rfl rfl (Nat.le_of_ble_eq_true rfl) dX4_were_22 (zi_k fun r22 Ω22 h22 => ?_)
    obtain ⟨rfl, rfl⟩ := h22
    exact z_iret (pc := 25) hC rfl ⟨_, rfl, bad_ret h (if_neg (by unfold dIn; omega))⟩ dX4_were_25
  · refine z_iload_n (pc := 12) hC (i := 3) dX4_were_12 rfl rfl ?_
    refine z_iconst (pc := 13) hC dX4_were_13 ?_
    refine z_iconst (pc := 14) hC dX4_were_14 ?_
    refine z_callS (n := 3) (pc := 15) hC (c_X4_isWithin l w hw _ _ _ _ (by first | assumption | exact zb_gt _ _ _ | exact zcmp_zb _ _ | exact bI_zb _ | exact ⟨by omega, by omega⟩) (by first | assumption | exact zb_gt _ _ _ | exact zcmp_zb _ _ | exact bI_zb _ | exact ⟨by omega, by omega⟩) (by first | assumption | exact zb_gt _ _ _ | exact zcmp_zb _ _ | exact bI_zb _ | exact ⟨by omega, by omega⟩)) gX4_were_X4_isWithin rfl (by decide +kernel) (by decide) (by decide) rfl rfl (Nat.le_of_ble_eq_true rfl) dX4_were_15 (zb_k fun r15 Ω15 h15 => ?_)
    obtain ⟨rfl, hM15⟩ := h15
    obtain rfl := hM15.symm
    refine z_ifd_ne (pc := 18) hC 26 dX4_were_18 rfl (fun h18 => ?_) (fun h18 => ?_)
    · refine z_aload_n (pc := 26) hC (i := 0) dX4_were_26 rfl rfl ?_
      refine z_getR (C := RX4) (T := TX4) (N := 7) (ci := 4) (pc := 27) hC _ _ 2 in_X4_were_X4 rfl (by decide) (fun _ => rfl) (by decide) fl_X4_were_26 (fun _ => rfl) dX4_were_27 ?_
      refine z_aload_n (pc := 30) hC (i := 0) dX4_were_30 rfl rfl ?_
      refine z_getR (C := RX4) (T := TX4) (N := 7) (ci := 4) (pc := 31) hC _ _ 0 in_X4_were_X4 rfl (by decide) (fun _ => rfl) (by decide) fl_X4_were_12 (fun _ => rfl) dX4_were_31 ?_
      refine z_callV (n := 1) (T := TX1) (N := 8) (ci := 1) (pc := 34) hC (c_X1_load l w hw _ hv1) gX4_were_X1_load rfl (by decide +kernel) (by decide) (by decide) rfl (by decide) (fun _ => rfl) rfl rfl (Nat.le_of_ble_eq_true rfl) dX4_were_34 (zv_k fun Ω34 h34 => ?_)
      obtain ⟨hn, h3N, hLf⟩ := h34
      rw [h.1.1] at hn h3N
      have hscL : scC Ω34 = a.1 := (scC_cong (hLf 13 (by decide) (by decide) (by decide) (by decide) (by decide)) (hLf 14 (by decide) (by decide) (by decide) (by decide) (by decide)) (hLf 15 (by decide) (by decide) (by decide) (by decide) (by decide)) (hLf 16 (by decide) (by decide) (by decide) (by decide) (by decide))).trans h.1.1
      have q0L : gt Ω34 13 0 = a.1 0 := by rw [← scC_0, hscL]
      refine z_aload_n (pc := 37) hC (i := 0) dX4_were_37 rfl rfl ?_
      refine z_getR (C := RX4) (T := TX4) (N := 7) (ci := 4) (pc := 38) hC _ _ 2 in_X4_were_X4 rfl (by decide) (fun _ => rfl) (by decide) fl_X4_were_26 (fun _ => rfl) dX4_were_38 ?_
      refine z_aload_n (pc := 41) hC (i := 0) dX4_were_41 rfl rfl ?_
      refine z_getR (C := RX4) (T := TX4) (N := 7) (ci := 4) (pc := 42) hC _ _ 0 in_X4_were_X4 rfl (by decide) (fun _ => rfl) (by decide) fl_X4_were_12 (fun _ => rfl) dX4_were_42 ?_
      refine z_aload_n (pc := 45) hC (i := 0) dX4_were_45 rfl rfl ?_
      refine z_getR (C := RX4) (T := TX4) (N := 7) (ci := 4) (pc := 46) hC _ _ 0 in_X4_were_X4 rfl (by decide) (fun _ => rfl) (by decide) fl_X4_were_12 (fun _ => rfl) dX4_were_46 ?_
      refine z_iload_n (pc := 49) hC (i := 1) dX4_were_49 rfl rfl ?_
      refine z_iload_n (pc := 50) hC (i := 2) dX4_were_50 rfl rfl ?_
      refine z_callV (n := 2) (T := TX2) (N := 5) (ci := 2) (pc := 51) hC (c_X2_numberOf l w hw _ _ _) gX4_were_X2_numberOf rfl (by decide +kernel) (by decide) (by decide) rfl (by decide) (fun _ => rfl) rfl rfl (Nat.le_of_ble_eq_true rfl) dX4_were_51 (zi_k fun r51 Ω51 h51 => ?_)
      obtain ⟨hr51, hm51⟩ := h51
      have hm51 := hm51.symm
      subst hm51
      obtain ⟨hn1, hn2⟩ := nO_lt hv (x := x) (y := y) (by unfold dIn; omega)
      rw [q0L, hn1] at hr51
      subst hr51
      refine z_iload_n (pc := 54) hC (i := 3) dX4_were_54 rfl rfl ?_
      refine z_callV (n := 3) (T := TX1) (N := 8) (ci := 1) (pc := 55) hC (c_X1_loadPulls l w hw _ (nO a.1 x y) v (by rw [hscL]; exact hv) (by omega) (by assumption)) gX4_were_X1_loadPulls rfl (by decide +kernel) (by decide) (by decide) rfl (by decide) (fun _ => rfl) rfl rfl (Nat.le_of_ble_eq_true rfl) dX4_were_55 (zv_k fun Ω55 h55 => ?_)
      rw [hscL] at h55
      have z1 := sPl_b hv (a := nO a.1 x y) (t := 4) (by omega) (Or.inr rfl)
      have z2 := sPl_b hv (a := nO a.1 x y) (t := 3) (by omega) (Or.inl rfl)
      have y1 : zb (sPl a.1 (nO a.1 x y) 4 + if v = 1 then 1000000 else 0) := by split <;> exact ⟨by omega, by omega⟩
      have y2 : zb (sPl a.1 (nO a.1 x y) 3 + if v = 2 then 1000000 else 0) := by split <;> exact ⟨by omega, by omega⟩
      have x4 : gt Ω55 4 = fup (gt Ω34 4) (nO a.1 x y) (sPl a.1 (nO a.1 x y) 4 + if v = 1 then 1000000 else 0) := by rw [h55, gt_nf _ _ _ (by decide), gt_fup _ _ _ y1]
      have x5 : gt Ω55 5 = fup (gt Ω34 5) (nO a.1 x y) (sPl a.1 (nO a.1 x y) 3 + if v = 2 then 1000000 else 0) := by rw [h55, gt_fup _ _ _ y2, gt_nf _ _ _ (by decide)]
      have x6 : gt Ω55 6 = gt Ω34 6 := by rw [h55, gt_nf _ _ _ (by decide), gt_nf _ _ _ (by decide)]
      have x7 : gt Ω55 7 = gt Ω34 7 := by rw [h55, gt_nf _ _ _ (by decide), gt_nf _ _ _ (by decide)]
      have x3 : gt Ω55 3 0 = gt Ω34 3 0 := by rw [h55, gt_n _ _ _ _ (by decide), gt_n _ _ _ _ (by decide)]
      have hvm : scok (sup a.1 (44 + nO a.1 x y) v) := scok_mk hv (by omega) (by omega) (by omega)
      have hnm : netok (sup a.1 (44 + nO a.1 x y) v) (gt Ω55 4) (gt Ω55 5) (gt Ω55 6) (gt Ω55 7) := by rw [x6, x7]; exact hn.mark hv hn2 x4 x5
      have hdm : sdots (sup a.1 (44 + nO a.1 x y) v) = sdots a.1 := (pic_cong (fun i hi => if_neg (by omega))).1
      obtain ⟨hI, hb⟩ := hnm.FI hvm (by rw [hdm, x3]; exact h3N)
      have hfr : ∀ q, q < 3 ∨ 9 < q → Ω55 q = Ω q := fun q hq => by rw [h55, ups_n _ _ _ (by omega), ups_n _ _ _ (by omega)]; exact hLf q (by omega) (by omega) (by omega) (by omega) (by omega)
      refine z_aload_n (pc := 58) hC (i := 0) dX4_were_58 rfl rfl ?_
      refine z_getR (C := RX4) (T := TX4) (N := 7) (ci := 4) (pc := 59) hC _ _ 2 in_X4_were_X4 rfl (by decide) (fun _ => rfl) (by decide) fl_X4_were_26 (fun _ => rfl) dX4_were_59 ?_
      refine z_callV (n := 0) (T := TX1) (N := 8) (ci := 1) (pc := 62) hC (c_X1_fill l w hw _ _ _ _ (by rw [hdm]; exact hN.2.1) (hnm.grph hvm) hb hI) gX4_were_X1_fill rfl (by decide +kernel) (by decide) (by decide) rfl (by decide) (fun _ => rfl) rfl rfl (Nat.le_of_ble_eq_true rfl) dX4_were_62 (zi_k fun r62 Ω62 h62 => ?_)
      obtain ⟨i1, i2, i3, i4⟩ := h62
      have hS : SV (sup a.1 (44 + nO a.1 x y) v) r62 Ω62 := ⟨_, hnm.grph hvm, i1, i3, i4⟩
      have hfr2 : ∀ q, q < 3 ∨ 9 < q → Ω62 q = Ω q := fun q hq => (i2.1 q (by omega) (by omega) (by omega) (by omega) (by omega) (by omega)).trans (hfr q hq)
      exact z_iret (pc := 65) hC rfl ⟨_, rfl, by rw [hS.lc hvm]; exact ok_ret (if_pos ⟨by unfold dIn; omega, by omega⟩) (h.same hfr2) (fun q hq => hfr2 q (by omega))⟩ dX4_were_65
    · refine z_aload_n (pc := 21) hC (i := 0) dX4_were_21 rfl rfl ?_
      refine z_callV (n := 0) (T := TX4) (N := 7) (ci := 4) (pc := 22) hC (c_X4_refuseBad l w hw _) gX4_were_X4_refuseBad rfl (by decide +kernel) (by decide) (by decide) rfl (by decide) (fun _ => rfl) rfl rfl (Nat.le_of_ble_eq_true rfl) dX4_were_22 (zi_k fun r22 Ω22 h22 => ?_)
      obtain ⟨rfl, rfl⟩ := h22
      exact z_iret (pc := 25) hC rfl ⟨_, rfl, bad_ret h (if_neg (by unfold dIn; omega))⟩ dX4_were_25
theorem fl_X4_strain_12 : Cond.fieldLink RX4 12 "StrokeCuts" "scene" "LStrokeCuts$Scene;" ∈ wsX4_strain := by decide +kernel
theorem in_X4_strain_X4 : ∀ x ∈ u_ws RX4 TX4 7, x ∈ wsX4_strain := by decide +kernel
theorem fl_X4_strain_26 : Cond.fieldLink RX4 26 "StrokeCuts" "network" "LStrokeCuts$Network;" ∈ wsX4_strain := by decide +kernel
set_option maxHeartbeats 4000000 in
set_option maxRecDepth 100000 in
theorem c_X4_strain (l : Launch) (w : zP) (hw : zOK w) (Ω : Mem) (a : As) (h : RC Ω a) (x y d v : Int) (hx : zb x) (hy : zb y) (hd : zb d) (hz : zb v) : zM l w yX4_strain wsX4_strain 40 1121 [.ref (wa w 0), .int (zI x), .int (zI y), .int (zI d), .int (zI v)] Ω (zi (fun r Ω1 => r = (aStrain a x y d v).1 ∧ RC Ω1 (aStrain a x y d v).2 ∧ frC Ω Ω1)) := by
  refine zM_of cX4_strain 6 (some .int) RX4 [some (.ref (wa w 0)), some (.int (zI x)), some (.int (zI y)), some (.int (zI d)), some (.int (zI v)), none] hw (by decide +kernel) rfl rfl (Nat.le_of_ble_eq_true rfl) rfl (fun E hC => ?_)
  have hv := h.1.2
  have hv1 : scok (scC Ω) := by rw [h.1.1]; exact h.1.2
  have q0 : gt Ω 13 0 = a.1 0 := by rw [← scC_0, h.1.1]
  have q1 : gt Ω 13 1 = a.1 1 := by rw [← scC_1, h.1.1]
  have hN := sdots_le hv
  have hw01 := hv.1
  have hh01 := hv.2.1
  refine z_aload_n (pc := 0) hC (i := 0) dX4_strain_0 rfl rfl ?_
  refine z_iload_n (pc := 1) hC (i := 1) dX4_strain_1 rfl rfl ?_
  refine z_iload_n (pc := 2) hC (i := 2) dX4_strain_2 rfl rfl ?_
  refine z_iload_n (pc := 3) hC (i := 3) dX4_strain_3 rfl rfl ?_
  refine z_callV (n := 3) (T := TX4) (N := 7) (ci := 4) (pc := 4) hC (c_X4_isLinkPlace l w hw _ _ _ _ (by assumption) (by assumption) (by assumption)) gX4_strain_X4_isLinkPlace rfl (by decide +kernel) (by decide) (by decide) rfl (by decide) (fun _ => rfl) rfl rfl (Nat.le_of_ble_eq_true rfl) dX4_strain_4 (zb_k fun r4 Ω4 h4 => ?_)
  obtain ⟨rfl, hM4⟩ := h4
  obtain rfl := hM4.symm
  refine z_ifd_eq (pc := 7) hC 21 dX4_strain_7 rfl (fun h7 => ?_) (fun h7 => ?_)
  · refine z_aload_n (pc := 21) hC (i := 0) dX4_strain_21 rfl rfl ?_
    refine z_callV (n := 0) (T := TX4) (N := 7) (ci := 4) (pc := 22) hC (c_X4_refuseBad l w hw _) gX4_strain_X4_refuseBad rfl (by decide +kernel) (by decide) (by decide) rfl (by decide) (fun _ => rfl) rfl rfl (Nat.le_of_ble_eq_true rfl) dX4_strain_22 (zi_k fun r22 Ω22 h22 => ?_)
    obtain ⟨rfl, rfl⟩ := h22
    exact z_iret (pc := 25) hC rfl ⟨_, rfl, bad_ret h (if_neg (by unfold dIn; omega))⟩ dX4_strain_25
  · refine z_iload (pc := 10) hC (i := 4) dX4_strain_10 rfl ?_
    refine z_iconst (pc := 12) hC dX4_strain_12 ?_
    refine z_bipush (pc := 13) hC dX4_strain_13 rfl ?_
    refine z_callS (n := 3) (pc := 15) hC (c_X4_isWithin l w hw _ _ _ _ (by first | assumption | exact zb_gt _ _ _ | exact zcmp_zb _ _ | exact bI_zb _ | exact ⟨by omega, by omega⟩) (by first | assumption | exact zb_gt _ _ _ | exact zcmp_zb _ _ | exact bI_zb _ | exact ⟨by omega, by omega⟩) (by first | assumption | exact zb_gt _ _ _ | exact zcmp_zb _ _ | exact bI_zb _ | exact ⟨by omega, by omega⟩)) gX4_strain_X4_isWithin rfl (by decide +kernel) (by decide) (by decide) rfl rfl (Nat.le_of_ble_eq_true rfl) dX4_strain_15 (zb_k fun r15 Ω15 h15 => ?_)
    obtain ⟨rfl, hM15⟩ := h15
    obtain rfl := hM15.symm
    refine z_ifd_ne (pc := 18) hC 26 dX4_strain_18 rfl (fun h18 => ?_) (fun h18 => ?_)
    · refine z_aload_n (pc := 26) hC (i := 0) dX4_strain_26 rfl rfl ?_
      refine z_getR (C := RX4) (T := TX4) (N := 7) (ci := 4) (pc := 27) hC _ _ 0 in_X4_strain_X4 rfl (by decide) (fun _ => rfl) (by decide) fl_X4_strain_12 (fun _ => rfl) dX4_strain_27 ?_
      have hde : d = ((d.toNat : Nat) : Int) := by omega
      rw [hde]
      refine z_iload_n (pc := 30) hC (i := 1) dX4_strain_30 rfl rfl ?_
      refine z_iload_n (pc := 31) hC (i := 2) dX4_strain_31 rfl rfl ?_
      refine z_iload_n (pc := 32) hC (i := 3) dX4_strain_32 rfl rfl ?_
      refine z_callV (n := 3) (T := TX2) (N := 5) (ci := 2) (pc := 33) hC (c_X2_linkedTo l w hw _ x y d.toNat hv1 (by omega) (by omega) (by omega)) gX4_strain_X2_linkedTo rfl (by decide +kernel) (by decide) (by decide) rfl (by decide) (fun _ => rfl) rfl rfl (Nat.le_of_ble_eq_true rfl) dX4_strain_33 (zi_k fun r33 Ω33 h33 => ?_)
      obtain ⟨hr33, hm33⟩ := h33
      have hm33 := hm33.symm
      subst hm33
      rw [h.1.1, ← lk_xy hv (by unfold dIn; omega)] at hr33
      subst hr33
      have hlb := sLk_b hv ((nO a.1 x y % sw a.1 : Nat) : Int) ((nO a.1 x y / sw a.1 : Nat) : Int) d.toNat
      have hlb2 : -1 ≤ lk a.1 (nO a.1 x y) d.toNat ∧ lk a.1 (nO a.1 x y) d.toNat ≤ 36 := by unfold lk; omega
      refine z_istore (pc := 36) hC (i := 5) dX4_strain_36 (by decide) rfl (zS_s (zS_s (zS_s (zS_s (zS_s zS_0))))) ?_
      refine z_iload (pc := 38) hC (i := 5) dX4_strain_38 rfl ?_
      refine z_iconst (pc := 40) hC dX4_strain_40 ?_
      refine z_icmp_ne (pc := 41) hC 46 (by first | assumption | exact zb_gt _ _ _ | exact zcmp_zb _ _ | exact bI_zb _ | exact ⟨by omega, by omega⟩) (by first | assumption | exact zb_gt _ _ _ | exact zcmp_zb _ _ | exact bI_zb _ | exact ⟨by omega, by omega⟩) dX4_strain_41 rfl (fun h41 => ?_) (fun h41 => ?_)
      · obtain ⟨hn1, hn2⟩ := nO_lt hv (x := x) (y := y) (by unfold dIn; omega)
        obtain ⟨o, ho, hoN, -, hon⟩ := lk_inv hv hn2 (show d.toNat < 4 by omega) h41
        rw [ho]
        refine z_aload_n (pc := 46) hC (i := 0) dX4_strain_46 rfl rfl ?_
        refine z_getR (C := RX4) (T := TX4) (N := 7) (ci := 4) (pc := 47) hC _ _ 2 in_X4_strain_X4 rfl (by decide) (fun _ => rfl) (by decide) fl_X4_strain_26 (fun _ => rfl) dX4_strain_47 ?_
        refine z_aload_n (pc := 50) hC (i := 0) dX4_strain_50 rfl rfl ?_
        refine z_getR (C := RX4) (T := TX4) (N := 7) (ci := 4) (pc := 51) hC _ _ 0 in_X4_strain_X4 rfl (by decide) (fun _ => rfl) (by decide) fl_X4_strain_12 (fun _ => rfl) dX4_strain_51 ?_
        refine z_callV (n := 1) (T := TX1) (N := 8) (ci := 1) (pc := 54) hC (c_X1_load l w hw _ hv1) gX4_strain_X1_load rfl (by decide +kernel) (by decide) (by decide) rfl (by decide) (fun _ => rfl) rfl rfl (Nat.le_of_ble_eq_true rfl) dX4_strain_54 (zv_k fun Ω54 h54 => ?_)
        obtain ⟨hn, h3N, hLf⟩ := h54
        rw [h.1.1] at hn h3N
        have hscL : scC Ω54 = a.1 := (scC_cong (hLf 13 (by decide) (by decide) (by decide) (by decide) (by decide)) (hLf 14 (by decide) (by decide) (by decide) (by decide) (by decide)) (hLf 15 (by decide) (by decide) (by decide) (by decide) (by decide)) (hLf 16 (by decide) (by decide) (by decide) (by decide) (by decide))).trans h.1.1
        have q0L : gt Ω54 13 0 = a.1 0 := by rw [← scC_0, hscL]
        refine z_aload_n (pc := 57) hC (i := 0) dX4_strain_57 rfl rfl ?_
        refine z_getR (C := RX4) (T := TX4) (N := 7) (ci := 4) (pc := 58) hC _ _ 2 in_X4_strain_X4 rfl (by decide) (fun _ => rfl) (by decide) fl_X4_strain_26 (fun _ => rfl) dX4_strain_58 ?_
        refine z_aload_n (pc := 61) hC (i := 0) dX4_strain_61 rfl rfl ?_
        refine z_getR (C := RX4) (T := TX4) (N := 7) (ci := 4) (pc := 62) hC _ _ 0 in_X4_strain_X4 rfl (by decide) (fun _ => rfl) (by decide) fl_X4_strain_12 (fun _ => rfl) dX4_strain_62 ?_
        refine z_iload_n (pc := 65) hC (i := 1) dX4_strain_65 rfl rfl ?_
        refine z_iload_n (pc := 66) hC (i := 2) dX4_strain_66 rfl rfl ?_
        refine z_callV (n := 2) (T := TX2) (N := 5) (ci := 2) (pc := 67) hC (c_X2_numberOf l w hw _ _ _) gX4_strain_X2_numberOf rfl (by decide +kernel) (by decide) (by decide) rfl (by decide) (fun _ => rfl) rfl rfl (Nat.le_of_ble_eq_true rfl) dX4_strain_67 (zi_k fun r67 Ω67 h67 => ?_)
        obtain ⟨hr67, hm67⟩ := h67
        have hm67 := hm67.symm
        subst hm67
        rw [q0L, hn1] at hr67
        subst hr67
        refine z_iload (pc := 70) hC (i := 5) dX4_strain_70 rfl ?_
        refine z_iload_n (pc := 72) hC (i := 3) dX4_strain_72 rfl rfl ?_
        refine z_iload (pc := 73) hC (i := 4) dX4_strain_73 rfl ?_
        refine z_callV (n := 4) (T := TX1) (N := 8) (ci := 1) (pc := 75) hC (c_X1_join l w hw _ (nO a.1 x y) o d.toNat v (by omega) (by omega) (by omega)) gX4_strain_X1_join rfl (by decide +kernel) (by decide) (by decide) rfl (by decide) (fun _ => rfl) rfl rfl (Nat.le_of_ble_eq_true rfl) dX4_strain_75 (zv_k fun Ω75 h75 => ?_)
        obtain ⟨hg, hI⟩ := netok_strain hv hn h3N hn2 (show d.toNat < 4 by omega) ho (show 0 ≤ v by omega) (by omega) h75
        have hfr : ∀ q, q < 3 ∨ 9 < q → Ω75 q = Ω q := fun q hq => by rw [h75, ups_n _ _ _ (by omega), ups_n _ _ _ (by omega), ups_n _ _ _ (by omega), ups_n _ _ _ (by omega)]; exact hLf q (by omega) (by omega) (by omega) (by omega) (by omega)
        have hω : ∀ u e, u < sdots a.1 → e < 4 → lk a.1 u e ≠ -1 → 0 ≤ oms a.1 (nO a.1 x y) d.toNat v u e ∧ oms a.1 (nO a.1 x y) d.toNat v u e ≤ 99 := fun u e hu he hl => by
          unfold oms om
          split
          · omega
          · obtain ⟨o2, e1, e2, -⟩ := lk_inv hv hu he hl
            rw [e1, Int.toNat_natCast]
            have := sWt_b hv e (show u < 36 by omega) (show o2 < 36 by omega)
            omega
        have hb : cW a.1 (oms a.1 (nO a.1 x y) d.toNat v) (fun _ => false) + 1000000 * cnb a.1 (fun _ => false) ≤ 1000000000 := by
          have c1 := cW_b hv hω (fun _ => false)
          have c2 := sm_bd (f := bad a.1 (fun _ => false)) (a := 0) (b := 1) (n := sdots a.1) (fun v _ => bad_b a.1 _ v)
          have c3 : cnb a.1 (fun _ => false) = sm (bad a.1 (fun _ => false)) (sdots a.1) := rfl
          omega
        refine z_aload_n (pc := 78) hC (i := 0) dX4_strain_78 rfl rfl ?_
        refine z_getR (C := RX4) (T := TX4) (N := 7) (ci := 4) (pc := 79) hC _ _ 2 in_X4_strain_X4 rfl (by decide) (fun _ => rfl) (by decide) fl_X4_strain_26 (fun _ => rfl) dX4_strain_79 ?_
        refine z_callV (n := 0) (T := TX1) (N := 8) (ci := 1) (pc := 82) hC (c_X1_fill l w hw _ _ _ _ hN.2.1 hg hb hI) gX4_strain_X1_fill rfl (by decide +kernel) (by decide) (by decide) rfl (by decide) (fun _ => rfl) rfl rfl (Nat.le_of_ble_eq_true rfl) dX4_strain_82 (zi_k fun r82 Ω82 h82 => ?_)
        obtain ⟨i1, i2, i3, L, i4, i5⟩ := h82
        obtain ⟨j1, j2⟩ := fin_min hg i1 i4 i5
        have hm := minW hv hω j1 ⟨_, j2⟩
        have hfr2 : ∀ q, q < 3 ∨ 9 < q → Ω82 q = Ω q := fun q hq => (i2.1 q (by omega) (by omega) (by omega) (by omega) (by omega) (by omega)).trans (hfr q hq)
        exact z_iret (pc := 85) hC rfl ⟨_, rfl, by rw [lcW_eq hm]; exact ok_ret (by unfold aStrain; rw [if_pos ⟨⟨by unfold dIn; omega, by omega⟩, by omega⟩, if_neg (by omega)]) (h.same hfr2) (fun q hq => hfr2 q (by omega))⟩ dX4_strain_85
      · refine z_iconst (pc := 44) hC dX4_strain_44 ?_
        exact z_iret (pc := 45) hC rfl ⟨_, rfl, ok_ret (by unfold aStrain; rw [if_pos ⟨⟨by unfold dIn; omega, by omega⟩, by omega⟩, if_pos (by omega)]) h (frC.refl _)⟩ dX4_strain_45
    · refine z_aload_n (pc := 21) hC (i := 0) dX4_strain_21 rfl rfl ?_
      refine z_callV (n := 0) (T := TX4) (N := 7) (ci := 4) (pc := 22) hC (c_X4_refuseBad l w hw _) gX4_strain_X4_refuseBad rfl (by decide +kernel) (by decide) (by decide) rfl (by decide) (fun _ => rfl) rfl rfl (Nat.le_of_ble_eq_true rfl) dX4_strain_22 (zi_k fun r22 Ω22 h22 => ?_)
      obtain ⟨rfl, rfl⟩ := h22
      exact z_iret (pc := 25) hC rfl ⟨_, rfl, bad_ret h (if_neg (by unfold dIn; omega))⟩ dX4_strain_25
theorem tight_2 {σ : Sg} (hv : scok σ) {f : Int} {Ω : Mem} (h : SV σ f Ω) (n o : Nat) : ((∀ T, Best σ f T → T n = true ∧ T o = false) ∨ (∀ T, Best σ f T → T o = true ∧ T n = false)) ↔ ∀ T, best σ T → T n ≠ T o := by
  have hb := (h.mn hv).2
  constructor
  · rintro (q | q) T hT
    · obtain ⟨a, b⟩ := q T ((hb T).mpr hT)
      rw [a, b]; decide
    · obtain ⟨a, b⟩ := q T ((hb T).mpr hT)
      rw [a, b]; decide
  · intro q
    have h2 := h
    obtain ⟨nb, hg, hI, -, L, hl, hF⟩ := h2
    have hz := (hb _).mp (best_zero hg hI hl hF)
    by_cases c : ∀ T, best σ T → T n = true
    · left
      intro T hT
      have t1 := c T ((hb T).mp hT)
      have t2 := q T ((hb T).mp hT)
      rw [t1] at t2
      refine ⟨t1, ?_⟩
      cases e : T o
      · rfl
      · rw [e] at t2; exact absurd rfl t2
    · right
      have c' : ∃ T, best σ T ∧ T n = false := Classical.byContradiction (fun k => c (fun T hT => by
        cases e : T n
        · exact absurd ⟨T, hT, e⟩ k
        · rfl))
      obtain ⟨U, hU, hUn⟩ := c'
      intro T hT
      have hT' := (hb T).mp hT
      have hi := best_both hv h hT' hU
      have e1 := q _ hi
      have e2 := q T hT'
      simp only [hUn, Bool.and_false] at e1
      have e3 : (T o && U o) = true := by
        cases e : (T o && U o)
        · rw [e] at e1; exact absurd rfl e1
        · rfl
      rw [Bool.and_eq_true] at e3
      rw [e3.1] at e2
      refine ⟨e3.1, ?_⟩
      cases e : T n
      · rfl
      · rw [e] at e2; exact absurd rfl e2
theorem tight_1 {σ : Sg} (hv : scok σ) {f : Int} {Ω : Mem} (h : SV σ f Ω) (n o : Nat) : ((∃ T, Best σ f T ∧ T n = true ∧ T o = false) ∨ (∃ T, Best σ f T ∧ T o = true ∧ T n = false)) ↔ ∃ T, best σ T ∧ T n ≠ T o := by
  have hb := (h.mn hv).2
  constructor
  · rintro (⟨T, h1, h2, h3⟩ | ⟨T, h1, h2, h3⟩)
    · exact ⟨T, (hb T).mp h1, by rw [h2, h3]; decide⟩
    · exact ⟨T, (hb T).mp h1, by rw [h2, h3]; decide⟩
  · rintro ⟨T, h1, h2⟩
    cases e1 : T n <;> cases e2 : T o <;> rw [e1, e2] at h2
    · exact absurd rfl h2
    · exact Or.inr ⟨T, (hb T).mpr h1, e2, e1⟩
    · exact Or.inl ⟨T, (hb T).mpr h1, e1, e2⟩
    · exact absurd rfl h2
theorem fl_X4_tight_12 : Cond.fieldLink RX4 12 "StrokeCuts" "scene" "LStrokeCuts$Scene;" ∈ wsX4_tight := by decide +kernel
theorem in_X4_tight_X4 : ∀ x ∈ u_ws RX4 TX4 7, x ∈ wsX4_tight := by decide +kernel
theorem fl_X4_tight_26 : Cond.fieldLink RX4 26 "StrokeCuts" "network" "LStrokeCuts$Network;" ∈ wsX4_tight := by decide +kernel
set_option maxHeartbeats 4000000 in
set_option maxRecDepth 100000 in
theorem c_X4_tight (l : Launch) (w : zP) (hw : zOK w) (Ω : Mem) (a : As) (h : RC Ω a) (x y d : Int) (hx : zb x) (hy : zb y) (hd : zb d) : zM l w yX4_tight wsX4_tight 41 1142 [.ref (wa w 0), .int (zI x), .int (zI y), .int (zI d)] Ω (zi (fun r Ω1 => r = (aTight a x y d).1 ∧ RC Ω1 (aTight a x y d).2 ∧ frC Ω Ω1)) := by
  refine zM_of cX4_tight 6 (some .int) RX4 [some (.ref (wa w 0)), some (.int (zI x)), some (.int (zI y)), some (.int (zI d)), none, none] hw (by decide +kernel) rfl rfl (Nat.le_of_ble_eq_true rfl) rfl (fun E hC => ?_)
  have hv := h.1.2
  have hv1 : scok (scC Ω) := by rw [h.1.1]; exact h.1.2
  have q0 : gt Ω 13 0 = a.1 0 := by rw [← scC_0, h.1.1]
  have q1 : gt Ω 13 1 = a.1 1 := by rw [← scC_1, h.1.1]
  have hN := sdots_le hv
  have hw01 := hv.1
  have hh01 := hv.2.1
  refine z_aload_n (pc := 0) hC (i := 0) dX4_tight_0 rfl rfl ?_
  refine z_iload_n (pc := 1) hC (i := 1) dX4_tight_1 rfl rfl ?_
  refine z_iload_n (pc := 2) hC (i := 2) dX4_tight_2 rfl rfl ?_
  refine z_iload_n (pc := 3) hC (i := 3) dX4_tight_3 rfl rfl ?_
  refine z_callV (n := 3) (T := TX4) (N := 7) (ci := 4) (pc := 4) hC (c_X4_isLinkPlace l w hw _ _ _ _ (by assumption) (by assumption) (by assumption)) gX4_tight_X4_isLinkPlace rfl (by decide +kernel) (by decide) (by decide) rfl (by decide) (fun _ => rfl) rfl rfl (Nat.le_of_ble_eq_true rfl) dX4_tight_4 (zb_k fun r4 Ω4 h4 => ?_)
  obtain ⟨rfl, hM4⟩ := h4
  obtain rfl := hM4.symm
  refine z_ifd_ne (pc := 7) hC 15 dX4_tight_7 rfl (fun h7 => ?_) (fun h7 => ?_)
  · refine z_aload_n (pc := 15) hC (i := 0) dX4_tight_15 rfl rfl ?_
    refine z_getR (C := RX4) (T := TX4) (N := 7) (ci := 4) (pc := 16) hC _ _ 0 in_X4_tight_X4 rfl (by decide) (fun _ => rfl) (by decide) fl_X4_tight_12 (fun _ => rfl) dX4_tight_16 ?_
    have hde : d = ((d.toNat : Nat) : Int) := by omega
    rw [hde]
    refine z_iload_n (pc := 19) hC (i := 1) dX4_tight_19 rfl rfl ?_
    refine z_iload_n (pc := 20) hC (i := 2) dX4_tight_20 rfl rfl ?_
    refine z_iload_n (pc := 21) hC (i := 3) dX4_tight_21 rfl rfl ?_
    refine z_callV (n := 3) (T := TX2) (N := 5) (ci := 2) (pc := 22) hC (c_X2_linkedTo l w hw _ x y d.toNat hv1 (by omega) (by omega) (by omega)) gX4_tight_X2_linkedTo rfl (by decide +kernel) (by decide) (by decide) rfl (by decide) (fun _ => rfl) rfl rfl (Nat.le_of_ble_eq_true rfl) dX4_tight_22 (zi_k fun r22 Ω22 h22 => ?_)
    obtain ⟨hr22, hm22⟩ := h22
    have hm22 := hm22.symm
    subst hm22
    rw [h.1.1, ← lk_xy hv (by unfold dIn; omega)] at hr22
    subst hr22
    have hlb := sLk_b hv ((nO a.1 x y % sw a.1 : Nat) : Int) ((nO a.1 x y / sw a.1 : Nat) : Int) d.toNat
    have hlb2 : -1 ≤ lk a.1 (nO a.1 x y) d.toNat ∧ lk a.1 (nO a.1 x y) d.toNat ≤ 36 := by unfold lk; omega
    refine z_istore (pc := 25) hC (i := 4) dX4_tight_25 (by decide) rfl (zS_s (zS_s (zS_s (zS_s zS_0)))) ?_
    refine z_iload (pc := 27) hC (i := 4) dX4_tight_27 rfl ?_
    refine z_iconst (pc := 29) hC dX4_tight_29 ?_
    refine z_icmp_ne (pc := 30) hC 35 (by first | assumption | exact zb_gt _ _ _ | exact zcmp_zb _ _ | exact bI_zb _ | exact ⟨by omega, by omega⟩) (by first | assumption | exact zb_gt _ _ _ | exact zcmp_zb _ _ | exact bI_zb _ | exact ⟨by omega, by omega⟩) dX4_tight_30 rfl (fun h30 => ?_) (fun h30 => ?_)
    · obtain ⟨hn1, hn2⟩ := nO_lt hv (x := x) (y := y) (by unfold dIn; omega)
      obtain ⟨o, ho, hoN, -, hon⟩ := lk_inv hv hn2 (show d.toNat < 4 by omega) h30
      rw [ho]
      refine z_aload_n (pc := 35) hC (i := 0) dX4_tight_35 rfl rfl ?_
      refine z_getR (C := RX4) (T := TX4) (N := 7) (ci := 4) (pc := 36) hC _ _ 0 in_X4_tight_X4 rfl (by decide) (fun _ => rfl) (by decide) fl_X4_tight_12 (fun _ => rfl) dX4_tight_36 ?_
      refine z_iload_n (pc := 39) hC (i := 1) dX4_tight_39 rfl rfl ?_
      refine z_iload_n (pc := 40) hC (i := 2) dX4_tight_40 rfl rfl ?_
      refine z_callV (n := 2) (T := TX2) (N := 5) (ci := 2) (pc := 41) hC (c_X2_numberOf l w hw _ _ _) gX4_tight_X2_numberOf rfl (by decide +kernel) (by decide) (by decide) rfl (by decide) (fun _ => rfl) rfl rfl (Nat.le_of_ble_eq_true rfl) dX4_tight_41 (zi_k fun r41 Ω41 h41 => ?_)
      obtain ⟨hr41, hm41⟩ := h41
      have hm41 := hm41.symm
      subst hm41
      rw [q0, hn1] at hr41
      subst hr41
      refine z_istore (pc := 44) hC (i := 5) dX4_tight_44 (by decide) rfl (zS_s (zS_s (zS_s (zS_s (zS_s zS_0))))) ?_
      refine z_aload_n (pc := 46) hC (i := 0) dX4_tight_46 rfl rfl ?_
      refine z_getR (C := RX4) (T := TX4) (N := 7) (ci := 4) (pc := 47) hC _ _ 2 in_X4_tight_X4 rfl (by decide) (fun _ => rfl) (by decide) fl_X4_tight_26 (fun _ => rfl) dX4_tight_47 ?_
      refine z_aload_n (pc := 50) hC (i := 0) dX4_tight_50 rfl rfl ?_
      refine z_getR (C := RX4) (T := TX4) (N := 7) (ci := 4) (pc := 51) hC _ _ 0 in_X4_tight_X4 rfl (by decide) (fun _ => rfl) (by decide) fl_X4_tight_12 (fun _ => rfl) dX4_tight_51 ?_
      refine z_callV (n := 1) (T := TX1) (N := 8) (ci := 1) (pc := 54) hC (c_X1_solve l w hw _ hv1) gX4_tight_X1_solve rfl (by decide +kernel) (by decide) (by decide) rfl (by decide) (fun _ => rfl) rfl rfl (Nat.le_of_ble_eq_true rfl) dX4_tight_54 (zi_k fun r54 Ω54 h54 => ?_)
      obtain ⟨hS, hSf⟩ := h54
      rw [h.1.1] at hS
      have hR := h.same hSf
      have hfS : frC Ω Ω54 := fun q hq => hSf q (by omega)
      have q0S : gt Ω54 13 0 = a.1 0 := by rw [← scC_0, hR.1.1]
      have i1 : Decidable (∀ T, Best a.1 r54 T → T (nO a.1 x y) = true ∧ T o = false) := Classical.propDecidable _
      have i2 : Decidable (∀ T, Best a.1 r54 T → T o = true ∧ T (nO a.1 x y) = false) := Classical.propDecidable _
      have i3 : Decidable (∃ T, Best a.1 r54 T ∧ T (nO a.1 x y) = true ∧ T o = false) := Classical.propDecidable _
      have i4 : Decidable (∃ T, Best a.1 r54 T ∧ T o = true ∧ T (nO a.1 x y) = false) := Classical.propDecidable _
      refine z_pop (pc := 57) hC dX4_tight_57 rfl ?_
      refine z_aload_n (pc := 58) hC (i := 0) dX4_tight_58 rfl rfl ?_
      refine z_getR (C := RX4) (T := TX4) (N := 7) (ci := 4) (pc := 59) hC _ _ 2 in_X4_tight_X4 rfl (by decide) (fun _ => rfl) (by decide) fl_X4_tight_26 (fun _ => rfl) dX4_tight_59 ?_
      refine z_iload (pc := 62) hC (i := 5) dX4_tight_62 rfl ?_
      refine z_iload (pc := 64) hC (i := 4) dX4_tight_64 rfl ?_
      refine z_callV (n := 2) (T := TX1) (N := 8) (ci := 1) (pc := 66) hC (@c_X1_alwaysParts l w hw _ a.1 _ hv hS (nO a.1 x y) o (by omega) (by omega) i1) gX4_tight_X1_alwaysParts rfl (by decide +kernel) (by decide) (by decide) rfl (by decide) (fun _ => rfl) rfl rfl (Nat.le_of_ble_eq_true rfl) dX4_tight_66 (zb_k fun r66 Ω66 h66 => ?_)
      obtain ⟨rfl, hF66⟩ := h66
      refine z_ifd_ne (pc := 69) hC 86 dX4_tight_69 rfl (fun h69 => ?_) (fun h69 => ?_)
      · refine z_iconst (pc := 86) hC dX4_tight_86 ?_
        exact z_iret (pc := 87) hC rfl ⟨_, rfl, ok_ret (by unfold aTight; rw [if_pos ⟨by unfold dIn; omega, by omega⟩, if_neg (by omega), ho, Int.toNat_natCast]; unfold tightV; rw [if_pos ((tight_2 hv hS (nO a.1 x y) o).mp (Or.inl h69))]) (hR.same hF66.R) (hfS.trans hF66.C)⟩ dX4_tight_87
      · refine z_aload_n (pc := 72) hC (i := 0) dX4_tight_72 rfl rfl ?_
        refine z_getR (C := RX4) (T := TX4) (N := 7) (ci := 4) (pc := 73) hC _ _ 2 in_X4_tight_X4 rfl (by decide) (fun _ => rfl) (by decide) fl_X4_tight_26 (fun _ => rfl) dX4_tight_73 ?_
        refine z_iload (pc := 76) hC (i := 4) dX4_tight_76 rfl ?_
        refine z_iload (pc := 78) hC (i := 5) dX4_tight_78 rfl ?_
        refine z_callV (n := 2) (T := TX1) (N := 8) (ci := 1) (pc := 80) hC (@c_X1_alwaysParts l w hw _ a.1 _ hv (hS.moved hF66) o (nO a.1 x y) (by omega) (by omega) i2) gX4_tight_X1_alwaysParts rfl (by decide +kernel) (by decide) (by decide) rfl (by decide) (fun _ => rfl) rfl rfl (Nat.le_of_ble_eq_true rfl) dX4_tight_80 (zb_k fun r80 Ω80 h80 => ?_)
        obtain ⟨rfl, hF80⟩ := h80
        refine z_ifd_eq (pc := 83) hC 88 dX4_tight_83 rfl (fun h83 => ?_) (fun h83 => ?_)
        · refine z_aload_n (pc := 88) hC (i := 0) dX4_tight_88 rfl rfl ?_
          refine z_getR (C := RX4) (T := TX4) (N := 7) (ci := 4) (pc := 89) hC _ _ 2 in_X4_tight_X4 rfl (by decide) (fun _ => rfl) (by decide) fl_X4_tight_26 (fun _ => rfl) dX4_tight_89 ?_
          refine z_iload (pc := 92) hC (i := 5) dX4_tight_92 rfl ?_
          refine z_iload (pc := 94) hC (i := 4) dX4_tight_94 rfl ?_
          refine z_callV (n := 2) (T := TX1) (N := 8) (ci := 1) (pc := 96) hC (@c_X1_mayPart l w hw _ a.1 _ hv ((hS.moved hF66).moved hF80) (nO a.1 x y) o (by omega) (by omega) i3) gX4_tight_X1_mayPart rfl (by decide +kernel) (by decide) (by decide) rfl (by decide) (fun _ => rfl) rfl rfl (Nat.le_of_ble_eq_true rfl) dX4_tight_96 (zb_k fun r96 Ω96 h96 => ?_)
          obtain ⟨rfl, hF96⟩ := h96
          refine z_ifd_ne (pc := 99) hC 116 dX4_tight_99 rfl (fun h99 => ?_) (fun h99 => ?_)
          · refine z_iconst (pc := 116) hC dX4_tight_116 ?_
            refine z_goto (pc := 117) hC 121 dX4_tight_117 rfl ?_
            exact z_iret (pc := 121) hC rfl ⟨_, rfl, ok_ret (by unfold aTight; rw [if_pos ⟨by unfold dIn; omega, by omega⟩, if_neg (by omega), ho, Int.toNat_natCast]; unfold tightV; rw [if_neg (fun q => by rcases (tight_2 hv hS (nO a.1 x y) o).mpr q with q | q; exact h69 q; exact h83 q), if_pos ((tight_1 hv hS (nO a.1 x y) o).mp (Or.inl h99))]) (((hR.same hF66.R).same hF80.R).same hF96.R) (((hfS.trans hF66.C).trans hF80.C).trans hF96.C)⟩ dX4_tight_121
          · refine z_aload_n (pc := 102) hC (i := 0) dX4_tight_102 rfl rfl ?_
            refine z_getR (C := RX4) (T := TX4) (N := 7) (ci := 4) (pc := 103) hC _ _ 2 in_X4_tight_X4 rfl (by decide) (fun _ => rfl) (by decide) fl_X4_tight_26 (fun _ => rfl) dX4_tight_103 ?_
            refine z_iload (pc := 106) hC (i := 4) dX4_tight_106 rfl ?_
            refine z_iload (pc := 108) hC (i := 5) dX4_tight_108 rfl ?_
            refine z_callV (n := 2) (T := TX1) (N := 8) (ci := 1) (pc := 110) hC (@c_X1_mayPart l w hw _ a.1 _ hv (((hS.moved hF66).moved hF80).moved hF96) o (nO a.1 x y) (by omega) (by omega) i4) gX4_tight_X1_mayPart rfl (by decide +kernel) (by decide) (by decide) rfl (by decide) (fun _ => rfl) rfl rfl (Nat.le_of_ble_eq_true rfl) dX4_tight_110 (zb_k fun r110 Ω110 h110 => ?_)
            obtain ⟨rfl, hF110⟩ := h110
            refine z_ifd_eq (pc := 113) hC 120 dX4_tight_113 rfl (fun h113 => ?_) (fun h113 => ?_)
            · refine z_iconst (pc := 120) hC dX4_tight_120 ?_
              exact z_iret (pc := 121) hC rfl ⟨_, rfl, ok_ret (by unfold aTight; rw [if_pos ⟨by unfold dIn; omega, by omega⟩, if_neg (by omega), ho, Int.toNat_natCast]; unfold tightV; rw [if_neg (fun q => by rcases (tight_2 hv hS (nO a.1 x y) o).mpr q with q | q; exact h69 q; exact h83 q), if_neg (fun q => by rcases (tight_1 hv hS (nO a.1 x y) o).mpr q with q | q; exact h99 q; exact h113 q)]) ((((hR.same hF66.R).same hF80.R).same hF96.R).same hF110.R) ((((hfS.trans hF66.C).trans hF80.C).trans hF96.C).trans hF110.C)⟩ dX4_tight_121
            · refine z_iconst (pc := 116) hC dX4_tight_116 ?_
              refine z_goto (pc := 117) hC 121 dX4_tight_117 rfl ?_
              exact z_iret (pc := 121) hC rfl ⟨_, rfl, ok_ret (by unfold aTight; rw [if_pos ⟨by unfold dIn; omega, by omega⟩, if_neg (by omega), ho, Int.toNat_natCast]; unfold tightV; rw [if_neg (fun q => by rcases (tight_2 hv hS (nO a.1 x y) o).mpr q with q | q; exact h69 q; exact h83 q), if_pos ((tight_1 hv hS (nO a.1 x y) o).mp (Or.inr h113))]) ((((hR.same hF66.R).same hF80.R).same hF96.R).same hF110.R) ((((hfS.trans hF66.C).trans hF80.C).trans hF96.C).trans hF110.C)⟩ dX4_tight_121
        · refine z_iconst (pc := 86) hC dX4_tight_86 ?_
          exact z_iret (pc := 87) hC rfl ⟨_, rfl, ok_ret (by unfold aTight; rw [if_pos ⟨by unfold dIn; omega, by omega⟩, if_neg (by omega), ho, Int.toNat_natCast]; unfold tightV; rw [if_pos ((tight_2 hv hS (nO a.1 x y) o).mp (Or.inr h83))]) ((hR.same hF66.R).same hF80.R) ((hfS.trans hF66.C).trans hF80.C)⟩ dX4_tight_87
    · refine z_iconst (pc := 33) hC dX4_tight_33 ?_
      exact z_iret (pc := 34) hC rfl ⟨_, rfl, ok_ret (by unfold aTight; rw [if_pos ⟨by unfold dIn; omega, by omega⟩, if_pos (by omega)]) h (frC.refl _)⟩ dX4_tight_34
  · refine z_aload_n (pc := 10) hC (i := 0) dX4_tight_10 rfl rfl ?_
    refine z_callV (n := 0) (T := TX4) (N := 7) (ci := 4) (pc := 11) hC (c_X4_refuseBad l w hw _) gX4_tight_X4_refuseBad rfl (by decide +kernel) (by decide) (by decide) rfl (by decide) (fun _ => rfl) rfl rfl (Nat.le_of_ble_eq_true rfl) dX4_tight_11 (zi_k fun r11 Ω11 h11 => ?_)
    obtain ⟨rfl, rfl⟩ := h11
    exact z_iret (pc := 14) hC rfl ⟨_, rfl, bad_ret h (if_neg (by unfold dIn; omega))⟩ dX4_tight_14
