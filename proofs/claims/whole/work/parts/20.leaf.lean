theorem fl_X2_dots_21 : Cond.fieldLink RX2 21 "StrokeCuts$Scene" "width" "I" ∈ wsX2_dots := by decide +kernel
theorem in_X2_dots_X2 : ∀ x ∈ u_ws RX2 TX2 5, x ∈ wsX2_dots := by decide +kernel
theorem fl_X2_dots_25 : Cond.fieldLink RX2 25 "StrokeCuts$Scene" "height" "I" ∈ wsX2_dots := by decide +kernel
set_option maxHeartbeats 4000000 in
set_option maxRecDepth 100000 in
theorem c_X2_dots (l : Launch) (w : zP) (hw : zOK w) (Ω : Mem) : zM l w yX2_dots wsX2_dots 0 0 [.ref (wa w 13)] Ω (zi (fun r Ω1 => r = gt Ω 13 0 * gt Ω 13 1 ∧ Ω1 = Ω)) := by
  refine zM_of cX2_dots 1 (some .int) RX2 [some (.ref (wa w 13))] hw (by decide +kernel) rfl rfl (Nat.le_of_ble_eq_true rfl) rfl (fun E hC => ?_)
  refine z_aload_n (pc := 0) hC (i := 0) dX2_dots_0 rfl rfl ?_
  refine z_getI (C := RX2) (T := TX2) (N := 5) (ci := 2) (pc := 1) hC _ 0 in_X2_dots_X2 rfl (by decide) (fun _ => rfl) (by decide) fl_X2_dots_21 (fun _ => rfl) dX2_dots_1 ?_
  refine z_aload_n (pc := 4) hC (i := 0) dX2_dots_4 rfl rfl ?_
  refine z_getI (C := RX2) (T := TX2) (N := 5) (ci := 2) (pc := 5) hC _ 1 in_X2_dots_X2 rfl (by decide) (fun _ => rfl) (by decide) fl_X2_dots_25 (fun _ => rfl) dX2_dots_5 ?_
  refine z_imul (pc := 8) hC dX2_dots_8 ?_
  exact z_iret (pc := 9) hC rfl ⟨_, rfl, ⟨rfl, rfl⟩⟩ dX2_dots_9
theorem fl_X2_numberOf_21 : Cond.fieldLink RX2 21 "StrokeCuts$Scene" "width" "I" ∈ wsX2_numberOf := by decide +kernel
theorem in_X2_numberOf_X2 : ∀ x ∈ u_ws RX2 TX2 5, x ∈ wsX2_numberOf := by decide +kernel
set_option maxHeartbeats 4000000 in
set_option maxRecDepth 100000 in
theorem c_X2_numberOf (l : Launch) (w : zP) (hw : zOK w) (Ω : Mem) (x y : Int) : zM l w yX2_numberOf wsX2_numberOf 0 0 [.ref (wa w 13), .int (zI x), .int (zI y)] Ω (zi (fun r Ω1 => r = gt Ω 13 0 * y + x ∧ Ω1 = Ω)) := by
  refine zM_of cX2_numberOf 3 (some .int) RX2 [some (.ref (wa w 13)), some (.int (zI x)), some (.int (zI y))] hw (by decide +kernel) rfl rfl (Nat.le_of_ble_eq_true rfl) rfl (fun E hC => ?_)
  refine z_aload_n (pc := 0) hC (i := 0) dX2_numberOf_0 rfl rfl ?_
  refine z_getI (C := RX2) (T := TX2) (N := 5) (ci := 2) (pc := 1) hC _ 0 in_X2_numberOf_X2 rfl (by decide) (fun _ => rfl) (by decide) fl_X2_numberOf_21 (fun _ => rfl) dX2_numberOf_1 ?_
  refine z_iload_n (pc := 4) hC (i := 2) dX2_numberOf_4 rfl rfl ?_
  refine z_imul (pc := 5) hC dX2_numberOf_5 ?_
  refine z_iload_n (pc := 6) hC (i := 1) dX2_numberOf_6 rfl rfl ?_
  refine z_iadd (pc := 7) hC dX2_numberOf_7 ?_
  exact z_iret (pc := 8) hC rfl ⟨_, rfl, ⟨rfl, rfl⟩⟩ dX2_numberOf_8
theorem fl_X2_hasDot_21 : Cond.fieldLink RX2 21 "StrokeCuts$Scene" "width" "I" ∈ wsX2_hasDot := by decide +kernel
theorem in_X2_hasDot_X2 : ∀ x ∈ u_ws RX2 TX2 5, x ∈ wsX2_hasDot := by decide +kernel
theorem fl_X2_hasDot_25 : Cond.fieldLink RX2 25 "StrokeCuts$Scene" "height" "I" ∈ wsX2_hasDot := by decide +kernel
set_option maxHeartbeats 4000000 in
set_option maxRecDepth 100000 in
theorem c_X2_hasDot (l : Launch) (w : zP) (hw : zOK w) (Ω : Mem) (x y : Int) (hx : zb x) (hy : zb y) : zM l w yX2_hasDot wsX2_hasDot 0 0 [.ref (wa w 13), .int (zI x), .int (zI y)] Ω (zbo (fun b Ω1 => b = decide (0 ≤ x ∧ x < gt Ω 13 0 ∧ 0 ≤ y ∧ y < gt Ω 13 1) ∧ Ω1 = Ω)) := by
  refine zM_of cX2_hasDot 3 (some .boolean) RX2 [some (.ref (wa w 13)), some (.int (zI x)), some (.int (zI y))] hw (by decide +kernel) rfl rfl (Nat.le_of_ble_eq_true rfl) rfl (fun E hC => ?_)
  refine z_iload_n (pc := 0) hC (i := 1) dX2_hasDot_0 rfl rfl ?_
  refine z_if_lt (pc := 1) hC 28 (by first | assumption | exact zb_gt _ _ _ | exact zcmp_zb _ _ | exact bI_zb _ | exact ⟨by omega, by omega⟩) dX2_hasDot_1 rfl (fun h1 => ?_) (fun h1 => ?_)
  · refine z_iconst (pc := 28) hC dX2_hasDot_28 ?_
    exact z_zret (b := false) (pc := 29) hC rfl ⟨false, rfl, ⟨(decide_eq_false (by omega)).symm, rfl⟩⟩ dX2_hasDot_29
  · refine z_iload_n (pc := 4) hC (i := 1) dX2_hasDot_4 rfl rfl ?_
    refine z_aload_n (pc := 5) hC (i := 0) dX2_hasDot_5 rfl rfl ?_
    refine z_getI (C := RX2) (T := TX2) (N := 5) (ci := 2) (pc := 6) hC _ 0 in_X2_hasDot_X2 rfl (by decide) (fun _ => rfl) (by decide) fl_X2_hasDot_21 (fun _ => rfl) dX2_hasDot_6 ?_
    refine z_icmp_ge (pc := 9) hC 28 (by first | assumption | exact zb_gt _ _ _ | exact zcmp_zb _ _ | exact bI_zb _ | exact ⟨by omega, by omega⟩) (by first | assumption | exact zb_gt _ _ _ | exact zcmp_zb _ _ | exact bI_zb _ | exact ⟨by omega, by omega⟩) dX2_hasDot_9 rfl (fun h9 => ?_) (fun h9 => ?_)
    · refine z_iconst (pc := 28) hC dX2_hasDot_28 ?_
      exact z_zret (b := false) (pc := 29) hC rfl ⟨false, rfl, ⟨(decide_eq_false (by omega)).symm, rfl⟩⟩ dX2_hasDot_29
    · refine z_iload_n (pc := 12) hC (i := 2) dX2_hasDot_12 rfl rfl ?_
      refine z_if_lt (pc := 13) hC 28 (by first | assumption | exact zb_gt _ _ _ | exact zcmp_zb _ _ | exact bI_zb _ | exact ⟨by omega, by omega⟩) dX2_hasDot_13 rfl (fun h13 => ?_) (fun h13 => ?_)
      · refine z_iconst (pc := 28) hC dX2_hasDot_28 ?_
        exact z_zret (b := false) (pc := 29) hC rfl ⟨false, rfl, ⟨(decide_eq_false (by omega)).symm, rfl⟩⟩ dX2_hasDot_29
      · refine z_iload_n (pc := 16) hC (i := 2) dX2_hasDot_16 rfl rfl ?_
        refine z_aload_n (pc := 17) hC (i := 0) dX2_hasDot_17 rfl rfl ?_
        refine z_getI (C := RX2) (T := TX2) (N := 5) (ci := 2) (pc := 18) hC _ 1 in_X2_hasDot_X2 rfl (by decide) (fun _ => rfl) (by decide) fl_X2_hasDot_25 (fun _ => rfl) dX2_hasDot_18 ?_
        refine z_icmp_ge (pc := 21) hC 28 (by first | assumption | exact zb_gt _ _ _ | exact zcmp_zb _ _ | exact bI_zb _ | exact ⟨by omega, by omega⟩) (by first | assumption | exact zb_gt _ _ _ | exact zcmp_zb _ _ | exact bI_zb _ | exact ⟨by omega, by omega⟩) dX2_hasDot_21 rfl (fun h21 => ?_) (fun h21 => ?_)
        · refine z_iconst (pc := 28) hC dX2_hasDot_28 ?_
          exact z_zret (b := false) (pc := 29) hC rfl ⟨false, rfl, ⟨(decide_eq_false (by omega)).symm, rfl⟩⟩ dX2_hasDot_29
        · refine z_iconst (pc := 24) hC dX2_hasDot_24 ?_
          refine z_goto (pc := 25) hC 29 dX2_hasDot_25 rfl ?_
          exact z_zret (b := true) (pc := 29) hC rfl ⟨true, rfl, ⟨(decide_eq_true (by omega)).symm, rfl⟩⟩ dX2_hasDot_29
set_option maxHeartbeats 4000000 in
set_option maxRecDepth 100000 in
theorem c_X4_isWithin (l : Launch) (w : zP) (hw : zOK w) (Ω : Mem) (v a c : Int) (hv : zb v) (ha : zb a) (hc : zb c) : zM l w yX4_isWithin wsX4_isWithin 0 0 [.int (zI v), .int (zI a), .int (zI c)] Ω (zbo (fun b Ω1 => b = decide (a ≤ v ∧ v ≤ c) ∧ Ω1 = Ω)) := by
  refine zM_of cX4_isWithin 3 (some .boolean) RX4 [some (.int (zI v)), some (.int (zI a)), some (.int (zI c))] hw (by decide +kernel) rfl rfl (Nat.le_of_ble_eq_true rfl) rfl (fun E hC => ?_)
  refine z_iload_n (pc := 0) hC (i := 0) dX4_isWithin_0 rfl rfl ?_
  refine z_iload_n (pc := 1) hC (i := 1) dX4_isWithin_1 rfl rfl ?_
  refine z_icmp_lt (pc := 2) hC 14 (by first | assumption | exact zb_gt _ _ _ | exact zcmp_zb _ _ | exact bI_zb _ | exact ⟨by omega, by omega⟩) (by first | assumption | exact zb_gt _ _ _ | exact zcmp_zb _ _ | exact bI_zb _ | exact ⟨by omega, by omega⟩) dX4_isWithin_2 rfl (fun h2 => ?_) (fun h2 => ?_)
  · refine z_iconst (pc := 14) hC dX4_isWithin_14 ?_
    exact z_zret (b := false) (pc := 15) hC rfl ⟨false, rfl, ⟨(decide_eq_false (by omega)).symm, rfl⟩⟩ dX4_isWithin_15
  · refine z_iload_n (pc := 5) hC (i := 0) dX4_isWithin_5 rfl rfl ?_
    refine z_iload_n (pc := 6) hC (i := 2) dX4_isWithin_6 rfl rfl ?_
    refine z_icmp_gt (pc := 7) hC 14 (by first | assumption | exact zb_gt _ _ _ | exact zcmp_zb _ _ | exact bI_zb _ | exact ⟨by omega, by omega⟩) (by first | assumption | exact zb_gt _ _ _ | exact zcmp_zb _ _ | exact bI_zb _ | exact ⟨by omega, by omega⟩) dX4_isWithin_7 rfl (fun h7 => ?_) (fun h7 => ?_)
    · refine z_iconst (pc := 14) hC dX4_isWithin_14 ?_
      exact z_zret (b := false) (pc := 15) hC rfl ⟨false, rfl, ⟨(decide_eq_false (by omega)).symm, rfl⟩⟩ dX4_isWithin_15
    · refine z_iconst (pc := 10) hC dX4_isWithin_10 ?_
      refine z_goto (pc := 11) hC 15 dX4_isWithin_11 rfl ?_
      exact z_zret (b := true) (pc := 15) hC rfl ⟨true, rfl, ⟨(decide_eq_true (by omega)).symm, rfl⟩⟩ dX4_isWithin_15
set_option maxHeartbeats 4000000 in
set_option maxRecDepth 100000 in
theorem c_X5_in (l : Launch) (w : zP) (hw : zOK w) (Ω : Mem) (v a c : Int) (hv : zb v) (ha : zb a) (hc : zb c) : zM l w yX5_in wsX5_in 0 0 [.int (zI v), .int (zI a), .int (zI c)] Ω (zbo (fun b Ω1 => b = decide (a ≤ v ∧ v ≤ c) ∧ Ω1 = Ω)) := by
  refine zM_of cX5_in 3 (some .boolean) RX5 [some (.int (zI v)), some (.int (zI a)), some (.int (zI c))] hw (by decide +kernel) rfl rfl (Nat.le_of_ble_eq_true rfl) rfl (fun E hC => ?_)
  refine z_iload_n (pc := 0) hC (i := 0) dX5_in_0 rfl rfl ?_
  refine z_iload_n (pc := 1) hC (i := 1) dX5_in_1 rfl rfl ?_
  refine z_icmp_lt (pc := 2) hC 14 (by first | assumption | exact zb_gt _ _ _ | exact zcmp_zb _ _ | exact bI_zb _ | exact ⟨by omega, by omega⟩) (by first | assumption | exact zb_gt _ _ _ | exact zcmp_zb _ _ | exact bI_zb _ | exact ⟨by omega, by omega⟩) dX5_in_2 rfl (fun h2 => ?_) (fun h2 => ?_)
  · refine z_iconst (pc := 14) hC dX5_in_14 ?_
    exact z_zret (b := false) (pc := 15) hC rfl ⟨false, rfl, ⟨(decide_eq_false (by omega)).symm, rfl⟩⟩ dX5_in_15
  · refine z_iload_n (pc := 5) hC (i := 0) dX5_in_5 rfl rfl ?_
    refine z_iload_n (pc := 6) hC (i := 2) dX5_in_6 rfl rfl ?_
    refine z_icmp_gt (pc := 7) hC 14 (by first | assumption | exact zb_gt _ _ _ | exact zcmp_zb _ _ | exact bI_zb _ | exact ⟨by omega, by omega⟩) (by first | assumption | exact zb_gt _ _ _ | exact zcmp_zb _ _ | exact bI_zb _ | exact ⟨by omega, by omega⟩) dX5_in_7 rfl (fun h7 => ?_) (fun h7 => ?_)
    · refine z_iconst (pc := 14) hC dX5_in_14 ?_
      exact z_zret (b := false) (pc := 15) hC rfl ⟨false, rfl, ⟨(decide_eq_false (by omega)).symm, rfl⟩⟩ dX5_in_15
    · refine z_iconst (pc := 10) hC dX5_in_10 ?_
      refine z_goto (pc := 11) hC 15 dX5_in_11 rfl ?_
      exact z_zret (b := true) (pc := 15) hC rfl ⟨true, rfl, ⟨(decide_eq_true (by omega)).symm, rfl⟩⟩ dX5_in_15
set_option maxHeartbeats 4000000 in
set_option maxRecDepth 100000 in
theorem c_X5_far (l : Launch) (w : zP) (hw : zOK w) (Ω : Mem) (a b : Int) (ha : zb a) (hb : zb b) : zM l w yX5_far wsX5_far 0 0 [.int (zI a), .int (zI b)] Ω (zi (fun r Ω1 => r = zabs (a - b) ∧ Ω1 = Ω)) := by
  refine zM_of cX5_far 2 (some .int) RX5 [some (.int (zI a)), some (.int (zI b))] hw (by decide +kernel) rfl rfl (Nat.le_of_ble_eq_true rfl) rfl (fun E hC => ?_)
  refine z_iload_n (pc := 0) hC (i := 0) dX5_far_0 rfl rfl ?_
  refine z_iload_n (pc := 1) hC (i := 1) dX5_far_1 rfl rfl ?_
  refine z_icmp_ge (pc := 2) hC 11 (by first | assumption | exact zb_gt _ _ _ | exact zcmp_zb _ _ | exact bI_zb _ | exact ⟨by omega, by omega⟩) (by first | assumption | exact zb_gt _ _ _ | exact zcmp_zb _ _ | exact bI_zb _ | exact ⟨by omega, by omega⟩) dX5_far_2 rfl (fun h2 => ?_) (fun h2 => ?_)
  · refine z_iload_n (pc := 11) hC (i := 0) dX5_far_11 rfl rfl ?_
    refine z_iload_n (pc := 12) hC (i := 1) dX5_far_12 rfl rfl ?_
    refine z_isub (pc := 13) hC dX5_far_13 ?_
    exact z_iret (pc := 14) hC rfl ⟨_, rfl, ⟨by unfold zabs; omega, rfl⟩⟩ dX5_far_14
  · refine z_iload_n (pc := 5) hC (i := 1) dX5_far_5 rfl rfl ?_
    refine z_iload_n (pc := 6) hC (i := 0) dX5_far_6 rfl rfl ?_
    refine z_isub (pc := 7) hC dX5_far_7 ?_
    refine z_goto (pc := 8) hC 14 dX5_far_8 rfl ?_
    exact z_iret (pc := 14) hC rfl ⟨_, rfl, ⟨by unfold zabs; omega, rfl⟩⟩ dX5_far_14
theorem fl_X5_dots_7 : Cond.fieldLink RX5 7 "StrokeCutsModel" "st" "[I" ∈ wsX5_dots := by decide +kernel
theorem in_X5_dots_X5 : ∀ x ∈ u_ws RX5 TX5 15, x ∈ wsX5_dots := by decide +kernel
set_option maxHeartbeats 4000000 in
set_option maxRecDepth 100000 in
theorem c_X5_dots (l : Launch) (w : zP) (hw : zOK w) (Ω : Mem) : zM l w yX5_dots wsX5_dots 0 0 [.ref (wa w 49)] Ω (zi (fun r Ω1 => r = gt Ω 50 0 * gt Ω 50 1 ∧ Ω1 = Ω)) := by
  refine zM_of cX5_dots 1 (some .int) RX5 [some (.ref (wa w 49))] hw (by decide +kernel) rfl rfl (Nat.le_of_ble_eq_true rfl) rfl (fun E hC => ?_)
  refine z_aload_n (pc := 0) hC (i := 0) dX5_dots_0 rfl rfl ?_
  refine z_getR (C := RX5) (T := TX5) (N := 15) (ci := 5) (pc := 1) hC _ _ 0 in_X5_dots_X5 rfl (by decide) (fun _ => rfl) (by decide) fl_X5_dots_7 (fun _ => rfl) dX5_dots_1 ?_
  refine z_iconst (pc := 4) hC dX5_dots_4 ?_
  refine z_ialk (pc := 5) hC _ 0 (by decide) (fun _ => rfl) rfl (by decide) (by decide) dX5_dots_5 ?_
  refine z_aload_n (pc := 6) hC (i := 0) dX5_dots_6 rfl rfl ?_
  refine z_getR (C := RX5) (T := TX5) (N := 15) (ci := 5) (pc := 7) hC _ _ 0 in_X5_dots_X5 rfl (by decide) (fun _ => rfl) (by decide) fl_X5_dots_7 (fun _ => rfl) dX5_dots_7 ?_
  refine z_iconst (pc := 10) hC dX5_dots_10 ?_
  refine z_ialk (pc := 11) hC _ 1 (by decide) (fun _ => rfl) rfl (by decide) (by decide) dX5_dots_11 ?_
  refine z_imul (pc := 12) hC dX5_dots_12 ?_
  exact z_iret (pc := 13) hC rfl ⟨_, rfl, ⟨rfl, rfl⟩⟩ dX5_dots_13
theorem fl_X5_numberOf_7 : Cond.fieldLink RX5 7 "StrokeCutsModel" "st" "[I" ∈ wsX5_numberOf := by decide +kernel
theorem in_X5_numberOf_X5 : ∀ x ∈ u_ws RX5 TX5 15, x ∈ wsX5_numberOf := by decide +kernel
set_option maxHeartbeats 4000000 in
set_option maxRecDepth 100000 in
theorem c_X5_numberOf (l : Launch) (w : zP) (hw : zOK w) (Ω : Mem) (x y : Int) : zM l w yX5_numberOf wsX5_numberOf 0 0 [.ref (wa w 49), .int (zI x), .int (zI y)] Ω (zi (fun r Ω1 => r = gt Ω 50 0 * y + x ∧ Ω1 = Ω)) := by
  refine zM_of cX5_numberOf 3 (some .int) RX5 [some (.ref (wa w 49)), some (.int (zI x)), some (.int (zI y))] hw (by decide +kernel) rfl rfl (Nat.le_of_ble_eq_true rfl) rfl (fun E hC => ?_)
  refine z_aload_n (pc := 0) hC (i := 0) dX5_numberOf_0 rfl rfl ?_
  refine z_getR (C := RX5) (T := TX5) (N := 15) (ci := 5) (pc := 1) hC _ _ 0 in_X5_numberOf_X5 rfl (by decide) (fun _ => rfl) (by decide) fl_X5_numberOf_7 (fun _ => rfl) dX5_numberOf_1 ?_
  refine z_iconst (pc := 4) hC dX5_numberOf_4 ?_
  refine z_ialk (pc := 5) hC _ 0 (by decide) (fun _ => rfl) rfl (by decide) (by decide) dX5_numberOf_5 ?_
  refine z_iload_n (pc := 6) hC (i := 2) dX5_numberOf_6 rfl rfl ?_
  refine z_imul (pc := 7) hC dX5_numberOf_7 ?_
  refine z_iload_n (pc := 8) hC (i := 1) dX5_numberOf_8 rfl rfl ?_
  refine z_iadd (pc := 9) hC dX5_numberOf_9 ?_
  exact z_iret (pc := 10) hC rfl ⟨_, rfl, ⟨rfl, rfl⟩⟩ dX5_numberOf_10
