theorem fl_X4_blot_12 : Cond.fieldLink RX4 12 "StrokeCuts" "scene" "LStrokeCuts$Scene;" ∈ wsX4_blot := by decide +kernel
theorem in_X4_blot_X4 : ∀ x ∈ u_ws RX4 TX4 7, x ∈ wsX4_blot := by decide +kernel
theorem fl_X4_blot_19 : Cond.fieldLink RX4 19 "StrokeCuts" "past" "LStrokeCuts$History;" ∈ wsX4_blot := by decide +kernel
set_option maxHeartbeats 4000000 in
set_option maxRecDepth 100000 in
theorem c_X4_blot (l : Launch) (w : zP) (hw : zOK w) (Ω : Mem) (a : As) (h : RC Ω a) (x y rr v : Int) (hx : zb x) (hy : zb y) (hrz : zb rr) (hz : zb v) : zM l w yX4_blot wsX4_blot 3 103 [.ref (wa w 0), .int (zI x), .int (zI y), .int (zI rr), .int (zI v)] Ω (zi (fun r Ω1 => r = (aBlot a x y rr v).1 ∧ RC Ω1 (aBlot a x y rr v).2 ∧ frC Ω Ω1)) := by
  refine zM_of cX4_blot 5 (some .int) RX4 [some (.ref (wa w 0)), some (.int (zI x)), some (.int (zI y)), some (.int (zI rr)), some (.int (zI v))] hw (by decide +kernel) rfl rfl (Nat.le_of_ble_eq_true rfl) rfl (fun E hC => ?_)
  have hv := h.1.2
  have hv1 : scok (scC Ω) := by rw [h.1.1]; exact h.1.2
  have q0 : gt Ω 13 0 = a.1 0 := by rw [← scC_0, h.1.1]
  have q1 : gt Ω 13 1 = a.1 1 := by rw [← scC_1, h.1.1]
  have hN := sdots_le hv
  have hw01 := hv.1
  have hh01 := hv.2.1
  refine z_aload_n (pc := 0) hC (i := 0) dX4_blot_0 rfl rfl ?_
  refine z_getR (C := RX4) (T := TX4) (N := 7) (ci := 4) (pc := 1) hC _ _ 0 in_X4_blot_X4 rfl (by decide) (fun _ => rfl) (by decide) fl_X4_blot_12 (fun _ => rfl) dX4_blot_1 ?_
  refine z_iload_n (pc := 4) hC (i := 1) dX4_blot_4 rfl rfl ?_
  refine z_iload_n (pc := 5) hC (i := 2) dX4_blot_5 rfl rfl ?_
  refine z_callV (n := 2) (T := TX2) (N := 5) (ci := 2) (pc := 6) hC (c_X2_hasDot l w hw _ _ _ (by first | assumption | exact zb_gt _ _ _ | exact zcmp_zb _ _ | exact bI_zb _ | exact ⟨by omega, by omega⟩) (by first | assumption | exact zb_gt _ _ _ | exact zcmp_zb _ _ | exact bI_zb _ | exact ⟨by omega, by omega⟩)) gX4_blot_X2_hasDot rfl (by decide +kernel) (by decide) (by decide) rfl (by decide) (fun _ => rfl) rfl rfl (Nat.le_of_ble_eq_true rfl) dX4_blot_6 (zb_k fun r6 Ω6 h6 => ?_)
  obtain ⟨rfl, hM6⟩ := h6
  obtain rfl := hM6.symm
  refine z_ifd_eq (pc := 9) hC 33 dX4_blot_9 rfl (fun h9 => ?_) (fun h9 => ?_)
  · refine z_aload_n (pc := 33) hC (i := 0) dX4_blot_33 rfl rfl ?_
    refine z_callV (n := 0) (T := TX4) (N := 7) (ci := 4) (pc := 34) hC (c_X4_refuseBad l w hw _) gX4_blot_X4_refuseBad rfl (by decide +kernel) (by decide) (by decide) rfl (by decide) (fun _ => rfl) rfl rfl (Nat.le_of_ble_eq_true rfl) dX4_blot_34 (zi_k fun r34 Ω34 h34 => ?_)
    obtain ⟨rfl, rfl⟩ := h34
    exact z_iret (pc := 37) hC rfl ⟨_, rfl, bad_ret h (if_neg (by unfold dIn; omega))⟩ dX4_blot_37
  · refine z_iload_n (pc := 12) hC (i := 3) dX4_blot_12 rfl rfl ?_
    refine z_iconst (pc := 13) hC dX4_blot_13 ?_
    refine z_bipush (pc := 14) hC dX4_blot_14 rfl ?_
    refine z_callS (n := 3) (pc := 16) hC (c_X4_isWithin l w hw _ _ _ _ (by first | assumption | exact zb_gt _ _ _ | exact zcmp_zb _ _ | exact bI_zb _ | exact ⟨by omega, by omega⟩) (by first | assumption | exact zb_gt _ _ _ | exact zcmp_zb _ _ | exact bI_zb _ | exact ⟨by omega, by omega⟩) (by first | assumption | exact zb_gt _ _ _ | exact zcmp_zb _ _ | exact bI_zb _ | exact ⟨by omega, by omega⟩)) gX4_blot_X4_isWithin rfl (by decide +kernel) (by decide) (by decide) rfl rfl (Nat.le_of_ble_eq_true rfl) dX4_blot_16 (zb_k fun r16 Ω16 h16 => ?_)
    obtain ⟨rfl, hM16⟩ := h16
    obtain rfl := hM16.symm
    refine z_ifd_eq (pc := 19) hC 33 dX4_blot_19 rfl (fun h19 => ?_) (fun h19 => ?_)
    · refine z_aload_n (pc := 33) hC (i := 0) dX4_blot_33 rfl rfl ?_
      refine z_callV (n := 0) (T := TX4) (N := 7) (ci := 4) (pc := 34) hC (c_X4_refuseBad l w hw _) gX4_blot_X4_refuseBad rfl (by decide +kernel) (by decide) (by decide) rfl (by decide) (fun _ => rfl) rfl rfl (Nat.le_of_ble_eq_true rfl) dX4_blot_34 (zi_k fun r34 Ω34 h34 => ?_)
      obtain ⟨rfl, rfl⟩ := h34
      exact z_iret (pc := 37) hC rfl ⟨_, rfl, bad_ret h (if_neg (by unfold dIn; omega))⟩ dX4_blot_37
    · refine z_iload (pc := 22) hC (i := 4) dX4_blot_22 rfl ?_
      refine z_iconst (pc := 24) hC dX4_blot_24 ?_
      refine z_bipush (pc := 25) hC dX4_blot_25 rfl ?_
      refine z_callS (n := 3) (pc := 27) hC (c_X4_isWithin l w hw _ _ _ _ (by first | assumption | exact zb_gt _ _ _ | exact zcmp_zb _ _ | exact bI_zb _ | exact ⟨by omega, by omega⟩) (by first | assumption | exact zb_gt _ _ _ | exact zcmp_zb _ _ | exact bI_zb _ | exact ⟨by omega, by omega⟩) (by first | assumption | exact zb_gt _ _ _ | exact zcmp_zb _ _ | exact bI_zb _ | exact ⟨by omega, by omega⟩)) gX4_blot_X4_isWithin rfl (by decide +kernel) (by decide) (by decide) rfl rfl (Nat.le_of_ble_eq_true rfl) dX4_blot_27 (zb_k fun r27 Ω27 h27 => ?_)
      obtain ⟨rfl, hM27⟩ := h27
      obtain rfl := hM27.symm
      refine z_ifd_ne (pc := 30) hC 38 dX4_blot_30 rfl (fun h30 => ?_) (fun h30 => ?_)
      · refine z_aload_n (pc := 38) hC (i := 0) dX4_blot_38 rfl rfl ?_
        refine z_getR (C := RX4) (T := TX4) (N := 7) (ci := 4) (pc := 39) hC _ _ 1 in_X4_blot_X4 rfl (by decide) (fun _ => rfl) (by decide) fl_X4_blot_19 (fun _ => rfl) dX4_blot_39 ?_
        refine z_aload_n (pc := 42) hC (i := 0) dX4_blot_42 rfl rfl ?_
        refine z_getR (C := RX4) (T := TX4) (N := 7) (ci := 4) (pc := 43) hC _ _ 0 in_X4_blot_X4 rfl (by decide) (fun _ => rfl) (by decide) fl_X4_blot_12 (fun _ => rfl) dX4_blot_43 ?_
        refine z_callV (n := 1) (T := TX0) (N := 3) (ci := 0) (pc := 46) hC (c_X0_remember l w hw _ h.2.1.2.2.1.1 h.2.1.2.2.1.2 (by rw [h.2.1.1]; omega) (by rw [h.2.1.1]; have := h.2.1.2.1; omega)) gX4_blot_X0_remember rfl (by decide +kernel) (by decide) (by decide) rfl (by decide) (fun _ => rfl) rfl rfl (Nat.le_of_ble_eq_true rfl) dX4_blot_46 (zv_k fun Ω46 h46 => ?_)
        obtain ⟨g1, g2, g3, g4⟩ := h46
        obtain ⟨hR, hfr, hs⟩ := h.rem g1 g2 g3 g4
        have q0R : gt Ω46 13 0 = a.1 0 := by rw [← scC_0, hs]
        have q1R : gt Ω46 13 1 = a.1 1 := by rw [← scC_1, hs]
        refine z_aload_n (pc := 49) hC (i := 0) dX4_blot_49 rfl rfl ?_
        refine z_getR (C := RX4) (T := TX4) (N := 7) (ci := 4) (pc := 50) hC _ _ 0 in_X4_blot_X4 rfl (by decide) (fun _ => rfl) (by decide) fl_X4_blot_12 (fun _ => rfl) dX4_blot_50 ?_
        refine z_iload_n (pc := 53) hC (i := 1) dX4_blot_53 rfl rfl ?_
        refine z_iload_n (pc := 54) hC (i := 2) dX4_blot_54 rfl rfl ?_
        refine z_iload_n (pc := 55) hC (i := 3) dX4_blot_55 rfl rfl ?_
        refine z_iload (pc := 56) hC (i := 4) dX4_blot_56 rfl ?_
        refine z_callV (n := 4) (T := TX2) (N := 5) (ci := 2) (pc := 58) hC (c_X2_shadeAround l w hw _ x y rr v (by rw [hs]; exact hv) (by omega) (by omega) (by omega) (by omega)) gX4_blot_X2_shadeAround rfl (by decide +kernel) (by decide) (by decide) rfl (by decide) (fun _ => rfl) rfl rfl (Nat.le_of_ble_eq_true rfl) dX4_blot_58 (zi_k fun r58 Ω58 h58 => ?_)
        obtain ⟨t0, t1, t2⟩ := h58
        rw [hs] at t0 t1
        subst t0
        exact z_iret (pc := 61) hC rfl ⟨_, rfl, ok_ret (if_pos ⟨by unfold dIn; omega, by omega, by omega⟩) (hR.set t1 (scok_sfH hv _ _ (by omega) (by omega) hN.2.1) (fun q u v => t2 q (by omega))) (hfr.trans (frC_of (by decide) t2))⟩ dX4_blot_61
      · refine z_aload_n (pc := 33) hC (i := 0) dX4_blot_33 rfl rfl ?_
        refine z_callV (n := 0) (T := TX4) (N := 7) (ci := 4) (pc := 34) hC (c_X4_refuseBad l w hw _) gX4_blot_X4_refuseBad rfl (by decide +kernel) (by decide) (by decide) rfl (by decide) (fun _ => rfl) rfl rfl (Nat.le_of_ble_eq_true rfl) dX4_blot_34 (zi_k fun r34 Ω34 h34 => ?_)
        obtain ⟨rfl, rfl⟩ := h34
        exact z_iret (pc := 37) hC rfl ⟨_, rfl, bad_ret h (if_neg (by unfold dIn; omega))⟩ dX4_blot_37
theorem fl_X4_stroke_12 : Cond.fieldLink RX4 12 "StrokeCuts" "scene" "LStrokeCuts$Scene;" ∈ wsX4_stroke := by decide +kernel
theorem in_X4_stroke_X4 : ∀ x ∈ u_ws RX4 TX4 7, x ∈ wsX4_stroke := by decide +kernel
theorem fl_X4_stroke_19 : Cond.fieldLink RX4 19 "StrokeCuts" "past" "LStrokeCuts$History;" ∈ wsX4_stroke := by decide +kernel
set_option maxHeartbeats 4000000 in
set_option maxRecDepth 100000 in
theorem c_X4_stroke (l : Launch) (w : zP) (hw : zOK w) (Ω : Mem) (a : As) (h : RC Ω a) (t x y tx ty : Int) (hz : zb t) (hx : zb x) (hy : zb y) (hx2 : zb tx) (hy2 : zb ty) : zM l w yX4_stroke wsX4_stroke 3 103 [.ref (wa w 0), .int (zI t), .int (zI x), .int (zI y), .int (zI tx), .int (zI ty)] Ω (zi (fun r Ω1 => r = (aStroke a t x y tx ty).1 ∧ RC Ω1 (aStroke a t x y tx ty).2 ∧ frC Ω Ω1)) := by
  refine zM_of cX4_stroke 6 (some .int) RX4 [some (.ref (wa w 0)), some (.int (zI t)), some (.int (zI x)), some (.int (zI y)), some (.int (zI tx)), some (.int (zI ty))] hw (by decide +kernel) rfl rfl (Nat.le_of_ble_eq_true rfl) rfl (fun E hC => ?_)
  have hv := h.1.2
  have hv1 : scok (scC Ω) := by rw [h.1.1]; exact h.1.2
  have q0 : gt Ω 13 0 = a.1 0 := by rw [← scC_0, h.1.1]
  have q1 : gt Ω 13 1 = a.1 1 := by rw [← scC_1, h.1.1]
  have hN := sdots_le hv
  have hw01 := hv.1
  have hh01 := hv.2.1
  refine z_iload_n (pc := 0) hC (i := 1) dX4_stroke_0 rfl rfl ?_
  refine z_iconst (pc := 1) hC dX4_stroke_1 ?_
  refine z_iconst (pc := 2) hC dX4_stroke_2 ?_
  refine z_callS (n := 3) (pc := 3) hC (c_X4_isWithin l w hw _ _ _ _ (by first | assumption | exact zb_gt _ _ _ | exact zcmp_zb _ _ | exact bI_zb _ | exact ⟨by omega, by omega⟩) (by first | assumption | exact zb_gt _ _ _ | exact zcmp_zb _ _ | exact bI_zb _ | exact ⟨by omega, by omega⟩) (by first | assumption | exact zb_gt _ _ _ | exact zcmp_zb _ _ | exact bI_zb _ | exact ⟨by omega, by omega⟩)) gX4_stroke_X4_isWithin rfl (by decide +kernel) (by decide) (by decide) rfl rfl (Nat.le_of_ble_eq_true rfl) dX4_stroke_3 (zb_k fun r3 Ω3 h3 => ?_)
  obtain ⟨rfl, hM3⟩ := h3
  obtain rfl := hM3.symm
  refine z_ifd_eq (pc := 6) hC 35 dX4_stroke_6 rfl (fun h6 => ?_) (fun h6 => ?_)
  · refine z_aload_n (pc := 35) hC (i := 0) dX4_stroke_35 rfl rfl ?_
    refine z_callV (n := 0) (T := TX4) (N := 7) (ci := 4) (pc := 36) hC (c_X4_refuseBad l w hw _) gX4_stroke_X4_refuseBad rfl (by decide +kernel) (by decide) (by decide) rfl (by decide) (fun _ => rfl) rfl rfl (Nat.le_of_ble_eq_true rfl) dX4_stroke_36 (zi_k fun r36 Ω36 h36 => ?_)
    obtain ⟨rfl, rfl⟩ := h36
    exact z_iret (pc := 39) hC rfl ⟨_, rfl, bad_ret h (if_neg (by unfold dIn; omega))⟩ dX4_stroke_39
  · refine z_aload_n (pc := 9) hC (i := 0) dX4_stroke_9 rfl rfl ?_
    refine z_getR (C := RX4) (T := TX4) (N := 7) (ci := 4) (pc := 10) hC _ _ 0 in_X4_stroke_X4 rfl (by decide) (fun _ => rfl) (by decide) fl_X4_stroke_12 (fun _ => rfl) dX4_stroke_10 ?_
    refine z_iload_n (pc := 13) hC (i := 2) dX4_stroke_13 rfl rfl ?_
    refine z_iload_n (pc := 14) hC (i := 3) dX4_stroke_14 rfl rfl ?_
    refine z_callV (n := 2) (T := TX2) (N := 5) (ci := 2) (pc := 15) hC (c_X2_hasDot l w hw _ _ _ (by first | assumption | exact zb_gt _ _ _ | exact zcmp_zb _ _ | exact bI_zb _ | exact ⟨by omega, by omega⟩) (by first | assumption | exact zb_gt _ _ _ | exact zcmp_zb _ _ | exact bI_zb _ | exact ⟨by omega, by omega⟩)) gX4_stroke_X2_hasDot rfl (by decide +kernel) (by decide) (by decide) rfl (by decide) (fun _ => rfl) rfl rfl (Nat.le_of_ble_eq_true rfl) dX4_stroke_15 (zb_k fun r15 Ω15 h15 => ?_)
    obtain ⟨rfl, hM15⟩ := h15
    obtain rfl := hM15.symm
    refine z_ifd_eq (pc := 18) hC 35 dX4_stroke_18 rfl (fun h18 => ?_) (fun h18 => ?_)
    · refine z_aload_n (pc := 35) hC (i := 0) dX4_stroke_35 rfl rfl ?_
      refine z_callV (n := 0) (T := TX4) (N := 7) (ci := 4) (pc := 36) hC (c_X4_refuseBad l w hw _) gX4_stroke_X4_refuseBad rfl (by decide +kernel) (by decide) (by decide) rfl (by decide) (fun _ => rfl) rfl rfl (Nat.le_of_ble_eq_true rfl) dX4_stroke_36 (zi_k fun r36 Ω36 h36 => ?_)
      obtain ⟨rfl, rfl⟩ := h36
      exact z_iret (pc := 39) hC rfl ⟨_, rfl, bad_ret h (if_neg (by unfold dIn; omega))⟩ dX4_stroke_39
    · refine z_aload_n (pc := 21) hC (i := 0) dX4_stroke_21 rfl rfl ?_
      refine z_getR (C := RX4) (T := TX4) (N := 7) (ci := 4) (pc := 22) hC _ _ 0 in_X4_stroke_X4 rfl (by decide) (fun _ => rfl) (by decide) fl_X4_stroke_12 (fun _ => rfl) dX4_stroke_22 ?_
      refine z_iload (pc := 25) hC (i := 4) dX4_stroke_25 rfl ?_
      refine z_iload (pc := 27) hC (i := 5) dX4_stroke_27 rfl ?_
      refine z_callV (n := 2) (T := TX2) (N := 5) (ci := 2) (pc := 29) hC (c_X2_hasDot l w hw _ _ _ (by first | assumption | exact zb_gt _ _ _ | exact zcmp_zb _ _ | exact bI_zb _ | exact ⟨by omega, by omega⟩) (by first | assumption | exact zb_gt _ _ _ | exact zcmp_zb _ _ | exact bI_zb _ | exact ⟨by omega, by omega⟩)) gX4_stroke_X2_hasDot rfl (by decide +kernel) (by decide) (by decide) rfl (by decide) (fun _ => rfl) rfl rfl (Nat.le_of_ble_eq_true rfl) dX4_stroke_29 (zb_k fun r29 Ω29 h29 => ?_)
      obtain ⟨rfl, hM29⟩ := h29
      obtain rfl := hM29.symm
      refine z_ifd_ne (pc := 32) hC 40 dX4_stroke_32 rfl (fun h32 => ?_) (fun h32 => ?_)
      · refine z_aload_n (pc := 40) hC (i := 0) dX4_stroke_40 rfl rfl ?_
        refine z_getR (C := RX4) (T := TX4) (N := 7) (ci := 4) (pc := 41) hC _ _ 1 in_X4_stroke_X4 rfl (by decide) (fun _ => rfl) (by decide) fl_X4_stroke_19 (fun _ => rfl) dX4_stroke_41 ?_
        refine z_aload_n (pc := 44) hC (i := 0) dX4_stroke_44 rfl rfl ?_
        refine z_getR (C := RX4) (T := TX4) (N := 7) (ci := 4) (pc := 45) hC _ _ 0 in_X4_stroke_X4 rfl (by decide) (fun _ => rfl) (by decide) fl_X4_stroke_12 (fun _ => rfl) dX4_stroke_45 ?_
        refine z_callV (n := 1) (T := TX0) (N := 3) (ci := 0) (pc := 48) hC (c_X0_remember l w hw _ h.2.1.2.2.1.1 h.2.1.2.2.1.2 (by rw [h.2.1.1]; omega) (by rw [h.2.1.1]; have := h.2.1.2.1; omega)) gX4_stroke_X0_remember rfl (by decide +kernel) (by decide) (by decide) rfl (by decide) (fun _ => rfl) rfl rfl (Nat.le_of_ble_eq_true rfl) dX4_stroke_48 (zv_k fun Ω48 h48 => ?_)
        obtain ⟨g1, g2, g3, g4⟩ := h48
        obtain ⟨hR, hfr, hs⟩ := h.rem g1 g2 g3 g4
        have q0R : gt Ω48 13 0 = a.1 0 := by rw [← scC_0, hs]
        have q1R : gt Ω48 13 1 = a.1 1 := by rw [← scC_1, hs]
        refine z_aload_n (pc := 51) hC (i := 0) dX4_stroke_51 rfl rfl ?_
        refine z_getR (C := RX4) (T := TX4) (N := 7) (ci := 4) (pc := 52) hC _ _ 0 in_X4_stroke_X4 rfl (by decide) (fun _ => rfl) (by decide) fl_X4_stroke_12 (fun _ => rfl) dX4_stroke_52 ?_
        refine z_aload_n (pc := 55) hC (i := 0) dX4_stroke_55 rfl rfl ?_
        refine z_getR (C := RX4) (T := TX4) (N := 7) (ci := 4) (pc := 56) hC _ _ 0 in_X4_stroke_X4 rfl (by decide) (fun _ => rfl) (by decide) fl_X4_stroke_12 (fun _ => rfl) dX4_stroke_56 ?_
        refine z_iload_n (pc := 59) hC (i := 2) dX4_stroke_59 rfl rfl ?_
        refine z_iload_n (pc := 60) hC (i := 3) dX4_stroke_60 rfl rfl ?_
        refine z_iload (pc := 61) hC (i := 4) dX4_stroke_61 rfl ?_
        refine z_iload (pc := 63) hC (i := 5) dX4_stroke_63 rfl ?_
        refine z_callV (n := 4) (T := TX2) (N := 5) (ci := 2) (pc := 65) hC (c_X2_lineOf l w hw _ x y tx ty (by rw [hs]; exact hv) (by omega) (by omega) (by omega) (by omega)) gX4_stroke_X2_lineOf rfl (by decide +kernel) (by decide) (by decide) rfl (by decide) (fun _ => rfl) rfl rfl (Nat.le_of_ble_eq_true rfl) dX4_stroke_65 (zl_k fun r65 Ω65 h65 => ?_)
        obtain ⟨t0, hm65⟩ := h65
        have hm65 := hm65.symm
        subst hm65
        rw [hs] at t0
        refine z_iload_n (pc := 68) hC (i := 1) dX4_stroke_68 rfl rfl ?_
        refine z_callV (n := 2) (T := TX2) (N := 5) (ci := 2) (pc := 69) hC (c_X2_markAll l w hw _ r65 t (by rw [hs]; exact hv) (by assumption)) gX4_stroke_X2_markAll rfl (by decide +kernel) (by decide) (by decide) rfl (by decide) (fun _ => rfl) rfl rfl (Nat.le_of_ble_eq_true rfl) dX4_stroke_69 (zi_k fun r69 Ω69 h69 => ?_)
        obtain ⟨u0, u1, u2⟩ := h69
        rw [hs, t0] at u0 u1
        subst u0
        exact z_iret (pc := 72) hC rfl ⟨_, rfl, ok_ret (if_pos ⟨by omega, by unfold dIn; omega, by unfold dIn; omega⟩) (hR.set u1 (scok_sfA hv _ _ (by omega) (by omega)) (fun q u v => u2 q (by omega))) (hfr.trans (frC_of (by decide) u2))⟩ dX4_stroke_72
      · refine z_aload_n (pc := 35) hC (i := 0) dX4_stroke_35 rfl rfl ?_
        refine z_callV (n := 0) (T := TX4) (N := 7) (ci := 4) (pc := 36) hC (c_X4_refuseBad l w hw _) gX4_stroke_X4_refuseBad rfl (by decide +kernel) (by decide) (by decide) rfl (by decide) (fun _ => rfl) rfl rfl (Nat.le_of_ble_eq_true rfl) dX4_stroke_36 (zi_k fun r36 Ω36 h36 => ?_)
        obtain ⟨rfl, rfl⟩ := h36
        exact z_iret (pc := 39) hC rfl ⟨_, rfl, bad_ret h (if_neg (by unfold dIn; omega))⟩ dX4_stroke_39
theorem setT {j : Nat} (h : j ≤ 5) : (j = 0 ∧ zTv 0 j = 1 ∧ zTv 1 j = 50) ∨ (1 ≤ j ∧ j ≤ 4 ∧ zTv 0 j = 0 ∧ zTv 1 j = 9) ∨ (j = 5 ∧ zTv 0 j = 4 ∧ zTv 1 j = 8) := by
  obtain rfl | rfl | rfl | rfl | rfl | rfl : j = 0 ∨ j = 1 ∨ j = 2 ∨ j = 3 ∨ j = 4 ∨ j = 5 := by omega
  · exact Or.inl ⟨rfl, rfl, rfl⟩
  · exact Or.inr (Or.inl ⟨by omega, by omega, rfl, rfl⟩)
  · exact Or.inr (Or.inl ⟨by omega, by omega, rfl, rfl⟩)
  · exact Or.inr (Or.inl ⟨by omega, by omega, rfl, rfl⟩)
  · exact Or.inr (Or.inl ⟨by omega, by omega, rfl, rfl⟩)
  · exact Or.inr (Or.inr ⟨rfl, rfl, rfl⟩)
theorem fl_X4_isSettingOf_262 : Cond.fieldLink RX4 262 "StrokeCuts" "LEAST_SETTING" "[I" ∈ wsX4_isSettingOf := by decide +kernel
theorem fl_X4_isSettingOf_265 : Cond.fieldLink RX4 265 "StrokeCuts" "GREATEST_SETTING" "[I" ∈ wsX4_isSettingOf := by decide +kernel
set_option maxHeartbeats 4000000 in
set_option maxRecDepth 100000 in
theorem c_X4_isSettingOf (l : Launch) (w : zP) (hw : zOK w) (Ω : Mem) (k v : Int) (hk : zb k) (hv : zb v) : zM l w yX4_isSettingOf wsX4_isSettingOf 1 22 [.int (zI k), .int (zI v)] Ω (zbo (fun b Ω1 => b = decide (okSet k v) ∧ Ω1 = Ω)) := by
  refine zM_of cX4_isSettingOf 2 (some .boolean) RX4 [some (.int (zI k)), some (.int (zI v))] hw (by decide +kernel) rfl rfl (Nat.le_of_ble_eq_true rfl) rfl (fun E hC => ?_)
  have c1 : zTv 0 5 = 4 := rfl
  have c2 : zTv 1 5 = 8 := rfl
  refine z_iload_n (pc := 0) hC (i := 0) dX4_isSettingOf_0 rfl rfl ?_
  refine z_iconst (pc := 1) hC dX4_isSettingOf_1 ?_
  refine z_iconst (pc := 2) hC dX4_isSettingOf_2 ?_
  refine z_callS (n := 3) (pc := 3) hC (c_X4_isWithin l w hw _ _ _ _ (by first | assumption | exact zb_gt _ _ _ | exact zcmp_zb _ _ | exact bI_zb _ | exact ⟨by omega, by omega⟩) (by first | assumption | exact zb_gt _ _ _ | exact zcmp_zb _ _ | exact bI_zb _ | exact ⟨by omega, by omega⟩) (by first | assumption | exact zb_gt _ _ _ | exact zcmp_zb _ _ | exact bI_zb _ | exact ⟨by omega, by omega⟩)) gX4_isSettingOf_X4_isWithin rfl (by decide +kernel) (by decide) (by decide) rfl rfl (Nat.le_of_ble_eq_true rfl) dX4_isSettingOf_3 (zb_k fun r3 Ω3 h3 => ?_)
  obtain ⟨rfl, hM3⟩ := h3
  obtain rfl := hM3.symm
  refine z_ifd_eq (pc := 6) hC 26 dX4_isSettingOf_6 rfl (fun h6 => ?_) (fun h6 => ?_)
  · refine z_iconst (pc := 26) hC dX4_isSettingOf_26 ?_
    exact z_zret (b := false) (pc := 27) hC rfl ⟨false, rfl, ⟨(decide_eq_false (by omega)).symm, rfl⟩⟩ dX4_isSettingOf_27
  · obtain ⟨j, rfl⟩ := nat_of (show 0 ≤ k by omega)
    have hj := setT (j := j) (by omega)
    refine z_iload_n (pc := 9) hC (i := 1) dX4_isSettingOf_9 rfl rfl ?_
    refine z_gets (pc := 10) hC 0 (by decide) fl_X4_isSettingOf_262 dX4_isSettingOf_10 ?_
    refine z_iload_n (pc := 13) hC (i := 0) dX4_isSettingOf_13 rfl rfl ?_
    refine z_talk (pc := 14) hC 0 j (by decide) rfl (by show _ < 6; omega) dX4_isSettingOf_14 ?_
    refine z_gets (pc := 15) hC 1 (by decide) fl_X4_isSettingOf_265 dX4_isSettingOf_15 ?_
    refine z_iload_n (pc := 18) hC (i := 0) dX4_isSettingOf_18 rfl rfl ?_
    refine z_talk (pc := 19) hC 1 j (by decide) rfl (by show _ < 6; omega) dX4_isSettingOf_19 ?_
    refine z_callS (n := 3) (pc := 20) hC (c_X4_isWithin l w hw _ _ _ _ (by first | assumption | exact zb_gt _ _ _ | exact zcmp_zb _ _ | exact bI_zb _ | exact ⟨by omega, by omega⟩) (by first | assumption | exact zb_gt _ _ _ | exact zcmp_zb _ _ | exact bI_zb _ | exact ⟨by omega, by omega⟩) (by first | assumption | exact zb_gt _ _ _ | exact zcmp_zb _ _ | exact bI_zb _ | exact ⟨by omega, by omega⟩)) gX4_isSettingOf_X4_isWithin rfl (by decide +kernel) (by decide) (by decide) rfl rfl (Nat.le_of_ble_eq_true rfl) dX4_isSettingOf_20 (zb_k fun r20 Ω20 h20 => ?_)
    obtain ⟨rfl, hM20⟩ := h20
    obtain rfl := hM20.symm
    refine z_ifd_ne (pc := 23) hC 28 dX4_isSettingOf_23 rfl (fun h23 => ?_) (fun h23 => ?_)
    · refine z_iload_n (pc := 28) hC (i := 0) dX4_isSettingOf_28 rfl rfl ?_
      refine z_iconst (pc := 29) hC dX4_isSettingOf_29 ?_
      refine z_icmp_ne (pc := 30) hC 51 (by first | assumption | exact zb_gt _ _ _ | exact zcmp_zb _ _ | exact bI_zb _ | exact ⟨by omega, by omega⟩) (by first | assumption | exact zb_gt _ _ _ | exact zcmp_zb _ _ | exact bI_zb _ | exact ⟨by omega, by omega⟩) dX4_isSettingOf_30 rfl (fun h30 => ?_) (fun h30 => ?_)
      · refine z_iconst (pc := 51) hC dX4_isSettingOf_51 ?_
        refine z_goto (pc := 52) hC 56 dX4_isSettingOf_52 rfl ?_
        exact z_zret (b := true) (pc := 56) hC rfl ⟨true, rfl, ⟨(decide_eq_true (by omega)).symm, rfl⟩⟩ dX4_isSettingOf_56
      · refine z_iload_n (pc := 33) hC (i := 1) dX4_isSettingOf_33 rfl rfl ?_
        refine z_gets (pc := 34) hC 0 (by decide) fl_X4_isSettingOf_262 dX4_isSettingOf_34 ?_
        refine z_iconst (pc := 37) hC dX4_isSettingOf_37 ?_
        refine z_talk (pc := 38) hC 0 5 (by decide) rfl (by decide) dX4_isSettingOf_38 ?_
        refine z_icmp_eq (pc := 39) hC 51 (by first | assumption | exact zb_gt _ _ _ | exact zcmp_zb _ _ | exact bI_zb _ | exact ⟨by omega, by omega⟩) (by first | assumption | exact zb_gt _ _ _ | exact zcmp_zb _ _ | exact bI_zb _ | exact ⟨by omega, by omega⟩) dX4_isSettingOf_39 rfl (fun h39 => ?_) (fun h39 => ?_)
        · refine z_iconst (pc := 51) hC dX4_isSettingOf_51 ?_
          refine z_goto (pc := 52) hC 56 dX4_isSettingOf_52 rfl ?_
          exact z_zret (b := true) (pc := 56) hC rfl ⟨true, rfl, ⟨(decide_eq_true (by omega)).symm, rfl⟩⟩ dX4_isSettingOf_56
        · refine z_iload_n (pc := 42) hC (i := 1) dX4_isSettingOf_42 rfl rfl ?_
          refine z_gets (pc := 43) hC 1 (by decide) fl_X4_isSettingOf_265 dX4_isSettingOf_43 ?_
          refine z_iconst (pc := 46) hC dX4_isSettingOf_46 ?_
          refine z_talk (pc := 47) hC 1 5 (by decide) rfl (by decide) dX4_isSettingOf_47 ?_
          refine z_icmp_ne (pc := 48) hC 55 (by first | assumption | exact zb_gt _ _ _ | exact zcmp_zb _ _ | exact bI_zb _ | exact ⟨by omega, by omega⟩) (by first | assumption | exact zb_gt _ _ _ | exact zcmp_zb _ _ | exact bI_zb _ | exact ⟨by omega, by omega⟩) dX4_isSettingOf_48 rfl (fun h48 => ?_) (fun h48 => ?_)
          · refine z_iconst (pc := 55) hC dX4_isSettingOf_55 ?_
            exact z_zret (b := false) (pc := 56) hC rfl ⟨false, rfl, ⟨(decide_eq_false (by omega)).symm, rfl⟩⟩ dX4_isSettingOf_56
          · refine z_iconst (pc := 51) hC dX4_isSettingOf_51 ?_
            refine z_goto (pc := 52) hC 56 dX4_isSettingOf_52 rfl ?_
            exact z_zret (b := true) (pc := 56) hC rfl ⟨true, rfl, ⟨(decide_eq_true (by omega)).symm, rfl⟩⟩ dX4_isSettingOf_56
    · refine z_iconst (pc := 26) hC dX4_isSettingOf_26 ?_
      exact z_zret (b := false) (pc := 27) hC rfl ⟨false, rfl, ⟨(decide_eq_false (by omega)).symm, rfl⟩⟩ dX4_isSettingOf_27
theorem scok_set {σ : Sg} (h : scok σ) {k v : Int} (c : okSet k v) : scok (sup σ (2 + k.toNat) v) := by
  obtain ⟨a0, a1, a2, a3, a4, a5, a6, a7, a8, a9⟩ := h
  unfold okSet at c
  obtain ⟨j, rfl⟩ := nat_of (show 0 ≤ k by omega)
  rw [Int.toNat_natCast]
  have hj : j = 0 ∨ j = 1 ∨ j = 2 ∨ j = 3 ∨ j = 4 ∨ j = 5 := by omega
  have hsh : ∀ k, k < 36 → 0 ≤ sup σ (2 + j) v (8 + k) ∧ sup σ (2 + j) v (8 + k) ≤ 9 := fun k hk => by
    rw [show sup σ (2 + j) v (8 + k) = σ (8 + k) from if_neg (by omega)]; exact a8 k hk
  have hmk : ∀ k, k < 36 → 0 ≤ sup σ (2 + j) v (44 + k) ∧ sup σ (2 + j) v (44 + k) ≤ 2 := fun k hk => by
    rw [show sup σ (2 + j) v (44 + k) = σ (44 + k) from if_neg (by omega)]; exact a9 k hk
  rcases hj with rfl | rfl | rfl | rfl | rfl | rfl
  · exact ⟨a0, a1, show 1 ≤ v ∧ v ≤ 50 by omega, a3, a4, a5, a6, a7, hsh, hmk⟩
  · exact ⟨a0, a1, a2, show 0 ≤ v ∧ v ≤ 9 by omega, a4, a5, a6, a7, hsh, hmk⟩
  · exact ⟨a0, a1, a2, a3, show 0 ≤ v ∧ v ≤ 9 by omega, a5, a6, a7, hsh, hmk⟩
  · exact ⟨a0, a1, a2, a3, a4, show 0 ≤ v ∧ v ≤ 9 by omega, a6, a7, hsh, hmk⟩
  · exact ⟨a0, a1, a2, a3, a4, a5, show 0 ≤ v ∧ v ≤ 9 by omega, a7, hsh, hmk⟩
  · exact ⟨a0, a1, a2, a3, a4, a5, a6, show v = 4 ∨ v = 8 by omega, hsh, hmk⟩
theorem fl_X4_sets_19 : Cond.fieldLink RX4 19 "StrokeCuts" "past" "LStrokeCuts$History;" ∈ wsX4_sets := by decide +kernel
theorem in_X4_sets_X4 : ∀ x ∈ u_ws RX4 TX4 7, x ∈ wsX4_sets := by decide +kernel
theorem fl_X4_sets_12 : Cond.fieldLink RX4 12 "StrokeCuts" "scene" "LStrokeCuts$Scene;" ∈ wsX4_sets := by decide +kernel
theorem fl_X4_sets_95 : Cond.fieldLink RX4 95 "StrokeCuts$Scene" "settings" "[I" ∈ wsX4_sets := by decide +kernel
theorem in_X4_sets_X2 : ∀ x ∈ u_ws RX2 TX2 5, x ∈ wsX4_sets := by decide +kernel
set_option maxHeartbeats 4000000 in
set_option maxRecDepth 100000 in
theorem c_X4_sets (l : Launch) (w : zP) (hw : zOK w) (Ω : Mem) (a : As) (h : RC Ω a) (k v : Int) (hk : zb k) (hz : zb v) : zM l w yX4_sets wsX4_sets 3 103 [.ref (wa w 0), .int (zI k), .int (zI v)] Ω (zi (fun r Ω1 => r = (aSets a k v).1 ∧ RC Ω1 (aSets a k v).2 ∧ frC Ω Ω1)) := by
  refine zM_of cX4_sets 4 (some .int) RX4 [some (.ref (wa w 0)), some (.int (zI k)), some (.int (zI v)), none] hw (by decide +kernel) rfl rfl (Nat.le_of_ble_eq_true rfl) rfl (fun E hC => ?_)
  have hv := h.1.2
  have hv1 : scok (scC Ω) := by rw [h.1.1]; exact h.1.2
  have q0 : gt Ω 13 0 = a.1 0 := by rw [← scC_0, h.1.1]
  have q1 : gt Ω 13 1 = a.1 1 := by rw [← scC_1, h.1.1]
  have hN := sdots_le hv
  have hw01 := hv.1
  have hh01 := hv.2.1
  refine z_iload_n (pc := 0) hC (i := 1) dX4_sets_0 rfl rfl ?_
  refine z_iload_n (pc := 1) hC (i := 2) dX4_sets_1 rfl rfl ?_
  refine z_callS (n := 2) (pc := 2) hC (c_X4_isSettingOf l w hw _ _ _ (by assumption) (by assumption)) gX4_sets_X4_isSettingOf rfl (by decide +kernel) (by decide) (by decide) rfl rfl (Nat.le_of_ble_eq_true rfl) dX4_sets_2 (zb_k fun r2 Ω2 h2 => ?_)
  obtain ⟨rfl, hM2⟩ := h2
  obtain rfl := hM2.symm
  refine z_ifd_ne (pc := 5) hC 13 dX4_sets_5 rfl (fun h5 => ?_) (fun h5 => ?_)
  · refine z_aload_n (pc := 13) hC (i := 0) dX4_sets_13 rfl rfl ?_
    refine z_getR (C := RX4) (T := TX4) (N := 7) (ci := 4) (pc := 14) hC _ _ 1 in_X4_sets_X4 rfl (by decide) (fun _ => rfl) (by decide) fl_X4_sets_19 (fun _ => rfl) dX4_sets_14 ?_
    refine z_aload_n (pc := 17) hC (i := 0) dX4_sets_17 rfl rfl ?_
    refine z_getR (C := RX4) (T := TX4) (N := 7) (ci := 4) (pc := 18) hC _ _ 0 in_X4_sets_X4 rfl (by decide) (fun _ => rfl) (by decide) fl_X4_sets_12 (fun _ => rfl) dX4_sets_18 ?_
    refine z_callV (n := 1) (T := TX0) (N := 3) (ci := 0) (pc := 21) hC (c_X0_remember l w hw _ h.2.1.2.2.1.1 h.2.1.2.2.1.2 (by rw [h.2.1.1]; omega) (by rw [h.2.1.1]; have := h.2.1.2.1; omega)) gX4_sets_X0_remember rfl (by decide +kernel) (by decide) (by decide) rfl (by decide) (fun _ => rfl) rfl rfl (Nat.le_of_ble_eq_true rfl) dX4_sets_21 (zv_k fun Ω21 h21 => ?_)
    obtain ⟨g1, g2, g3, g4⟩ := h21
    obtain ⟨hR, hfr, hs⟩ := h.rem g1 g2 g3 g4
    have q0R : gt Ω21 13 0 = a.1 0 := by rw [← scC_0, hs]
    have q1R : gt Ω21 13 1 = a.1 1 := by rw [← scC_1, hs]
    have hc := h5
    unfold okSet at hc
    obtain ⟨j, hj⟩ := nat_of (show 0 ≤ k by omega)
    refine z_aload_n (pc := 24) hC (i := 0) dX4_sets_24 rfl rfl ?_
    refine z_getR (C := RX4) (T := TX4) (N := 7) (ci := 4) (pc := 25) hC _ _ 0 in_X4_sets_X4 rfl (by decide) (fun _ => rfl) (by decide) fl_X4_sets_12 (fun _ => rfl) dX4_sets_25 ?_
    refine z_getR (C := RX2) (T := TX2) (N := 5) (ci := 2) (pc := 28) hC (.ref (wa w 14)) _ 2 in_X4_sets_X2 rfl (by decide) (fun _ => rfl) (by decide) fl_X4_sets_95 (fun _ => rfl) dX4_sets_28 ?_
    refine z_iload_n (pc := 31) hC (i := 1) dX4_sets_31 rfl rfl ?_
    refine z_ialk (pc := 32) hC _ j (by decide) (fun _ => rfl) hj (by omega) (by decide) dX4_sets_32 ?_
    refine z_istore_n (pc := 33) hC (i := 3) dX4_sets_33 rfl (by decide) rfl (zS_s (zS_s (zS_s zS_0))) ?_
    refine z_aload_n (pc := 34) hC (i := 0) dX4_sets_34 rfl rfl ?_
    refine z_getR (C := RX4) (T := TX4) (N := 7) (ci := 4) (pc := 35) hC _ _ 0 in_X4_sets_X4 rfl (by decide) (fun _ => rfl) (by decide) fl_X4_sets_12 (fun _ => rfl) dX4_sets_35 ?_
    refine z_getR (C := RX2) (T := TX2) (N := 5) (ci := 2) (pc := 38) hC (.ref (wa w 14)) _ 2 in_X4_sets_X2 rfl (by decide) (fun _ => rfl) (by decide) fl_X4_sets_95 (fun _ => rfl) dX4_sets_38 ?_
    refine z_iload_n (pc := 41) hC (i := 1) dX4_sets_41 rfl rfl ?_
    refine z_iload_n (pc := 42) hC (i := 2) dX4_sets_42 rfl rfl ?_
    refine z_iask (pc := 43) hC _ j (by decide) (fun _ => rfl) hj (by omega) (by decide) dX4_sets_43 ?_
    refine z_iload_n (pc := 44) hC (i := 3) dX4_sets_44 rfl rfl ?_
    exact z_iret (pc := 45) hC rfl ⟨_, rfl, by
      rw [← scC_se Ω21 (k := j) (by omega), hs]
      exact ok_ret (by unfold aSets; rw [if_pos h5, hj, Int.toNat_natCast]) (hR.set (by rw [scC_upse _ (by omega) hz, hs]) (by have := scok_set hv h5; rw [hj, Int.toNat_natCast] at this; exact this) (fun q u v => ups_n _ _ _ (by omega))) (hfr.trans (frC_up _ _ _ (by decide)))⟩ dX4_sets_45
  · refine z_aload_n (pc := 8) hC (i := 0) dX4_sets_8 rfl rfl ?_
    refine z_callV (n := 0) (T := TX4) (N := 7) (ci := 4) (pc := 9) hC (c_X4_refuseBad l w hw _) gX4_sets_X4_refuseBad rfl (by decide +kernel) (by decide) (by decide) rfl (by decide) (fun _ => rfl) rfl rfl (Nat.le_of_ble_eq_true rfl) dX4_sets_9 (zi_k fun r9 Ω9 h9 => ?_)
    obtain ⟨rfl, rfl⟩ := h9
    exact z_iret (pc := 12) hC rfl ⟨_, rfl, bad_ret h (if_neg h5)⟩ dX4_sets_12
theorem fl_X4_isLinkPlace_12 : Cond.fieldLink RX4 12 "StrokeCuts" "scene" "LStrokeCuts$Scene;" ∈ wsX4_isLinkPlace := by decide +kernel
theorem in_X4_isLinkPlace_X4 : ∀ x ∈ u_ws RX4 TX4 7, x ∈ wsX4_isLinkPlace := by decide +kernel
set_option maxHeartbeats 4000000 in
set_option maxRecDepth 100000 in
theorem c_X4_isLinkPlace (l : Launch) (w : zP) (hw : zOK w) (Ω : Mem) (x y d : Int) (hx : zb x) (hy : zb y) (hd : zb d) : zM l w yX4_isLinkPlace wsX4_isLinkPlace 1 22 [.ref (wa w 0), .int (zI x), .int (zI y), .int (zI d)] Ω (zbo (fun b Ω1 => b = decide ((0 ≤ x ∧ x < gt Ω 13 0 ∧ 0 ≤ y ∧ y < gt Ω 13 1) ∧ (0 ≤ d ∧ d ≤ 3)) ∧ Ω1 = Ω)) := by
  refine zM_of cX4_isLinkPlace 4 (some .boolean) RX4 [some (.ref (wa w 0)), some (.int (zI x)), some (.int (zI y)), some (.int (zI d))] hw (by decide +kernel) rfl rfl (Nat.le_of_ble_eq_true rfl) rfl (fun E hC => ?_)
  refine z_aload_n (pc := 0) hC (i := 0) dX4_isLinkPlace_0 rfl rfl ?_
  refine z_getR (C := RX4) (T := TX4) (N := 7) (ci := 4) (pc := 1) hC _ _ 0 in_X4_isLinkPlace_X4 rfl (by decide) (fun _ => rfl) (by decide) fl_X4_isLinkPlace_12 (fun _ => rfl) dX4_isLinkPlace_1 ?_
  refine z_iload_n (pc := 4) hC (i := 1) dX4_isLinkPlace_4 rfl rfl ?_
  refine z_iload_n (pc := 5) hC (i := 2) dX4_isLinkPlace_5 rfl rfl ?_
  refine z_callV (n := 2) (T := TX2) (N := 5) (ci := 2) (pc := 6) hC (c_X2_hasDot l w hw _ _ _ (by first | assumption | exact zb_gt _ _ _ | exact zcmp_zb _ _ | exact bI_zb _ | exact ⟨by omega, by omega⟩) (by first | assumption | exact zb_gt _ _ _ | exact zcmp_zb _ _ | exact bI_zb _ | exact ⟨by omega, by omega⟩)) gX4_isLinkPlace_X2_hasDot rfl (by decide +kernel) (by decide) (by decide) rfl (by decide) (fun _ => rfl) rfl rfl (Nat.le_of_ble_eq_true rfl) dX4_isLinkPlace_6 (zb_k fun r6 Ω6 h6 => ?_)
  obtain ⟨rfl, hM6⟩ := h6
  obtain rfl := hM6.symm
  refine z_ifd_eq (pc := 9) hC 25 dX4_isLinkPlace_9 rfl (fun h9 => ?_) (fun h9 => ?_)
  · refine z_iconst (pc := 25) hC dX4_isLinkPlace_25 ?_
    exact z_zret (b := false) (pc := 26) hC rfl ⟨false, rfl, ⟨(decide_eq_false (by omega)).symm, rfl⟩⟩ dX4_isLinkPlace_26
  · refine z_iload_n (pc := 12) hC (i := 3) dX4_isLinkPlace_12 rfl rfl ?_
    refine z_iconst (pc := 13) hC dX4_isLinkPlace_13 ?_
    refine z_iconst (pc := 14) hC dX4_isLinkPlace_14 ?_
    refine z_callS (n := 3) (pc := 15) hC (c_X4_isWithin l w hw _ _ _ _ (by first | assumption | exact zb_gt _ _ _ | exact zcmp_zb _ _ | exact bI_zb _ | exact ⟨by omega, by omega⟩) (by first | assumption | exact zb_gt _ _ _ | exact zcmp_zb _ _ | exact bI_zb _ | exact ⟨by omega, by omega⟩) (by first | assumption | exact zb_gt _ _ _ | exact zcmp_zb _ _ | exact bI_zb _ | exact ⟨by omega, by omega⟩)) gX4_isLinkPlace_X4_isWithin rfl (by decide +kernel) (by decide) (by decide) rfl rfl (Nat.le_of_ble_eq_true rfl) dX4_isLinkPlace_15 (zb_k fun r15 Ω15 h15 => ?_)
    obtain ⟨rfl, hM15⟩ := h15
    obtain rfl := hM15.symm
    refine z_ifd_eq (pc := 18) hC 25 dX4_isLinkPlace_18 rfl (fun h18 => ?_) (fun h18 => ?_)
    · refine z_iconst (pc := 25) hC dX4_isLinkPlace_25 ?_
      exact z_zret (b := false) (pc := 26) hC rfl ⟨false, rfl, ⟨(decide_eq_false (by omega)).symm, rfl⟩⟩ dX4_isLinkPlace_26
    · refine z_iconst (pc := 21) hC dX4_isLinkPlace_21 ?_
      refine z_goto (pc := 22) hC 26 dX4_isLinkPlace_22 rfl ?_
      exact z_zret (b := true) (pc := 26) hC rfl ⟨true, rfl, ⟨(decide_eq_true (by omega)).symm, rfl⟩⟩ dX4_isLinkPlace_26
theorem fl_X4_link_12 : Cond.fieldLink RX4 12 "StrokeCuts" "scene" "LStrokeCuts$Scene;" ∈ wsX4_link := by decide +kernel
theorem in_X4_link_X4 : ∀ x ∈ u_ws RX4 TX4 7, x ∈ wsX4_link := by decide +kernel
set_option maxHeartbeats 4000000 in
set_option maxRecDepth 100000 in
theorem c_X4_link (l : Launch) (w : zP) (hw : zOK w) (Ω : Mem) (a : As) (h : RC Ω a) (x y d : Int) (hx : zb x) (hy : zb y) (hd : zb d) : zM l w yX4_link wsX4_link 2 47 [.ref (wa w 0), .int (zI x), .int (zI y), .int (zI d)] Ω (zi (fun r Ω1 => r = (aLink a x y d).1 ∧ RC Ω1 (aLink a x y d).2 ∧ frC Ω Ω1)) := by
  refine zM_of cX4_link 5 (some .int) RX4 [some (.ref (wa w 0)), some (.int (zI x)), some (.int (zI y)), some (.int (zI d)), none] hw (by decide +kernel) rfl rfl (Nat.le_of_ble_eq_true rfl) rfl (fun E hC => ?_)
  have hv := h.1.2
  have hv1 : scok (scC Ω) := by rw [h.1.1]; exact h.1.2
  have q0 : gt Ω 13 0 = a.1 0 := by rw [← scC_0, h.1.1]
  have q1 : gt Ω 13 1 = a.1 1 := by rw [← scC_1, h.1.1]
  have hN := sdots_le hv
  have hw01 := hv.1
  have hh01 := hv.2.1
  refine z_aload_n (pc := 0) hC (i := 0) dX4_link_0 rfl rfl ?_
  refine z_iload_n (pc := 1) hC (i := 1) dX4_link_1 rfl rfl ?_
  refine z_iload_n (pc := 2) hC (i := 2) dX4_link_2 rfl rfl ?_
  refine z_iload_n (pc := 3) hC (i := 3) dX4_link_3 rfl rfl ?_
  refine z_callV (n := 3) (T := TX4) (N := 7) (ci := 4) (pc := 4) hC (c_X4_isLinkPlace l w hw _ _ _ _ (by assumption) (by assumption) (by assumption)) gX4_link_X4_isLinkPlace rfl (by decide +kernel) (by decide) (by decide) rfl (by decide) (fun _ => rfl) rfl rfl (Nat.le_of_ble_eq_true rfl) dX4_link_4 (zb_k fun r4 Ω4 h4 => ?_)
  obtain ⟨rfl, hM4⟩ := h4
  obtain rfl := hM4.symm
  refine z_ifd_ne (pc := 7) hC 15 dX4_link_7 rfl (fun h7 => ?_) (fun h7 => ?_)
  · refine z_aload_n (pc := 15) hC (i := 0) dX4_link_15 rfl rfl ?_
    refine z_getR (C := RX4) (T := TX4) (N := 7) (ci := 4) (pc := 16) hC _ _ 0 in_X4_link_X4 rfl (by decide) (fun _ => rfl) (by decide) fl_X4_link_12 (fun _ => rfl) dX4_link_16 ?_
    have hde : d = ((d.toNat : Nat) : Int) := by omega
    rw [hde]
    refine z_iload_n (pc := 19) hC (i := 1) dX4_link_19 rfl rfl ?_
    refine z_iload_n (pc := 20) hC (i := 2) dX4_link_20 rfl rfl ?_
    refine z_iload_n (pc := 21) hC (i := 3) dX4_link_21 rfl rfl ?_
    refine z_callV (n := 3) (T := TX2) (N := 5) (ci := 2) (pc := 22) hC (c_X2_linkedTo l w hw _ x y d.toNat hv1 (by omega) (by omega) (by omega)) gX4_link_X2_linkedTo rfl (by decide +kernel) (by decide) (by decide) rfl (by decide) (fun _ => rfl) rfl rfl (Nat.le_of_ble_eq_true rfl) dX4_link_22 (zi_k fun r22 Ω22 h22 => ?_)
    obtain ⟨hr22, hm22⟩ := h22
    have hm22 := hm22.symm
    subst hm22
    rw [h.1.1, ← lk_xy hv (by unfold dIn; omega)] at hr22
    subst hr22
    have hlb := sLk_b hv ((nO a.1 x y % sw a.1 : Nat) : Int) ((nO a.1 x y / sw a.1 : Nat) : Int) d.toNat
    have hlb2 : -1 ≤ lk a.1 (nO a.1 x y) d.toNat ∧ lk a.1 (nO a.1 x y) d.toNat ≤ 36 := by unfold lk; omega
    refine z_istore (pc := 25) hC (i := 4) dX4_link_25 (by decide) rfl (zS_s (zS_s (zS_s (zS_s zS_0)))) ?_
    refine z_iload (pc := 27) hC (i := 4) dX4_link_27 rfl ?_
    refine z_iconst (pc := 29) hC dX4_link_29 ?_
    refine z_icmp_ne (pc := 30) hC 37 (by first | assumption | exact zb_gt _ _ _ | exact zcmp_zb _ _ | exact bI_zb _ | exact ⟨by omega, by omega⟩) (by first | assumption | exact zb_gt _ _ _ | exact zcmp_zb _ _ | exact bI_zb _ | exact ⟨by omega, by omega⟩) dX4_link_30 rfl (fun h30 => ?_) (fun h30 => ?_)
    · obtain ⟨hn1, hn2⟩ := nO_lt hv (x := x) (y := y) (by unfold dIn; omega)
      obtain ⟨o, ho, hoN, -, hon⟩ := lk_inv hv hn2 (show d.toNat < 4 by omega) h30
      rw [ho]
      refine z_aload_n (pc := 37) hC (i := 0) dX4_link_37 rfl rfl ?_
      refine z_getR (C := RX4) (T := TX4) (N := 7) (ci := 4) (pc := 38) hC _ _ 0 in_X4_link_X4 rfl (by decide) (fun _ => rfl) (by decide) fl_X4_link_12 (fun _ => rfl) dX4_link_38 ?_
      refine z_aload_n (pc := 41) hC (i := 0) dX4_link_41 rfl rfl ?_
      refine z_getR (C := RX4) (T := TX4) (N := 7) (ci := 4) (pc := 42) hC _ _ 0 in_X4_link_X4 rfl (by decide) (fun _ => rfl) (by decide) fl_X4_link_12 (fun _ => rfl) dX4_link_42 ?_
      refine z_iload_n (pc := 45) hC (i := 1) dX4_link_45 rfl rfl ?_
      refine z_iload_n (pc := 46) hC (i := 2) dX4_link_46 rfl rfl ?_
      refine z_callV (n := 2) (T := TX2) (N := 5) (ci := 2) (pc := 47) hC (c_X2_numberOf l w hw _ _ _) gX4_link_X2_numberOf rfl (by decide +kernel) (by decide) (by decide) rfl (by decide) (fun _ => rfl) rfl rfl (Nat.le_of_ble_eq_true rfl) dX4_link_47 (zi_k fun r47 Ω47 h47 => ?_)
      obtain ⟨hr47, hm47⟩ := h47
      have hm47 := hm47.symm
      subst hm47
      obtain ⟨hn1, hn2⟩ := nO_lt hv (x := x) (y := y) (by unfold dIn; omega)
      rw [q0, hn1] at hr47
      subst hr47
      refine z_iload (pc := 50) hC (i := 4) dX4_link_50 rfl ?_
      refine z_iload_n (pc := 52) hC (i := 3) dX4_link_52 rfl rfl ?_
      skip
      refine z_callV (n := 3) (T := TX2) (N := 5) (ci := 2) (pc := 53) hC (c_X2_weightOf l w hw _ (nO a.1 x y) o d.toNat hv1 (by omega) (by omega) (by omega)) gX4_link_X2_weightOf rfl (by decide +kernel) (by decide) (by decide) rfl (by decide) (fun _ => rfl) rfl rfl (Nat.le_of_ble_eq_true rfl) dX4_link_53 (zi_k fun r53 Ω53 h53 => ?_)
      obtain ⟨hr53, hm53⟩ := h53
      have hm53 := hm53.symm
      subst hm53
      rw [h.1.1] at hr53
      subst hr53
      exact z_iret (pc := 56) hC rfl ⟨_, rfl, ok_ret (by unfold aLink; rw [if_pos ⟨by unfold dIn; omega, by omega⟩, if_neg (by omega), ho, Int.toNat_natCast]) h (frC.refl _)⟩ dX4_link_56
    · refine z_iconst (pc := 33) hC dX4_link_33 ?_
      refine z_goto (pc := 34) hC 56 dX4_link_34 rfl ?_
      exact z_iret (pc := 56) hC rfl ⟨_, rfl, ok_ret (by unfold aLink; rw [if_pos ⟨by unfold dIn; omega, by omega⟩, if_pos (by omega)]) h (frC.refl _)⟩ dX4_link_56
  · refine z_aload_n (pc := 10) hC (i := 0) dX4_link_10 rfl rfl ?_
    refine z_callV (n := 0) (T := TX4) (N := 7) (ci := 4) (pc := 11) hC (c_X4_refuseBad l w hw _) gX4_link_X4_refuseBad rfl (by decide +kernel) (by decide) (by decide) rfl (by decide) (fun _ => rfl) rfl rfl (Nat.le_of_ble_eq_true rfl) dX4_link_11 (zi_k fun r11 Ω11 h11 => ?_)
    obtain ⟨rfl, rfl⟩ := h11
    exact z_iret (pc := 14) hC rfl ⟨_, rfl, bad_ret h (if_neg (by unfold dIn; omega))⟩ dX4_link_14
theorem ts_X4_dot_29 {a : Int} {tgt : Nat} (h : (0 ≤ a ∧ a ≤ 3 ∧ (#[31, 42, 53, 64] : Array Int)[(a - 0).toNat]? = some ((tgt : Int) - (29 : Nat))) ∨ ((a < 0 ∨ 3 < a) ∧ (tgt : Int) = (29 : Nat) + 75)) : (tgt = 60 ∧ (a = 0)) ∨ (tgt = 71 ∧ (a = 1)) ∨ (tgt = 82 ∧ (a = 2)) ∨ (tgt = 93 ∧ (a = 3)) ∨ (tgt = 104 ∧ (a < 0 ∨ 3 < a)) := by
  rcases h with ⟨h1, h2, h3⟩ | ⟨h1, h2⟩
  · obtain ⟨i, hi⟩ := nat_of (by omega : 0 ≤ a - 0)
    rw [hi, Int.toNat_natCast] at h3
    rcases (by omega : i = 0 ∨ i = 1 ∨ i = 2 ∨ i = 3) with rfl | rfl | rfl | rfl <;> simp at h3 <;> omega
  · omega
theorem fl_X4_dot_12 : Cond.fieldLink RX4 12 "StrokeCuts" "scene" "LStrokeCuts$Scene;" ∈ wsX4_dot := by decide +kernel
theorem in_X4_dot_X4 : ∀ x ∈ u_ws RX4 TX4 7, x ∈ wsX4_dot := by decide +kernel
theorem fl_X4_dot_64 : Cond.fieldLink RX4 64 "StrokeCuts$Scene" "shades" "[I" ∈ wsX4_dot := by decide +kernel
theorem in_X4_dot_X2 : ∀ x ∈ u_ws RX2 TX2 5, x ∈ wsX4_dot := by decide +kernel
theorem fl_X4_dot_81 : Cond.fieldLink RX4 81 "StrokeCuts$Scene" "marks" "[I" ∈ wsX4_dot := by decide +kernel
set_option maxHeartbeats 4000000 in
set_option maxRecDepth 100000 in
theorem c_X4_dot (l : Launch) (w : zP) (hw : zOK w) (Ω : Mem) (a : As) (h : RC Ω a) (x y k : Int) (hx : zb x) (hy : zb y) (hk : zb k) : zM l w yX4_dot wsX4_dot 2 43 [.ref (wa w 0), .int (zI x), .int (zI y), .int (zI k)] Ω (zi (fun r Ω1 => r = (aDot a x y k).1 ∧ RC Ω1 (aDot a x y k).2 ∧ frC Ω Ω1)) := by
  refine zM_of cX4_dot 5 (some .int) RX4 [some (.ref (wa w 0)), some (.int (zI x)), some (.int (zI y)), some (.int (zI k)), none] hw (by decide +kernel) rfl rfl (Nat.le_of_ble_eq_true rfl) rfl (fun E hC => ?_)
  have hv := h.1.2
  have hv1 : scok (scC Ω) := by rw [h.1.1]; exact h.1.2
  have q0 : gt Ω 13 0 = a.1 0 := by rw [← scC_0, h.1.1]
  have q1 : gt Ω 13 1 = a.1 1 := by rw [← scC_1, h.1.1]
  have hN := sdots_le hv
  have hw01 := hv.1
  have hh01 := hv.2.1
  refine z_aload_n (pc := 0) hC (i := 0) dX4_dot_0 rfl rfl ?_
  refine z_getR (C := RX4) (T := TX4) (N := 7) (ci := 4) (pc := 1) hC _ _ 0 in_X4_dot_X4 rfl (by decide) (fun _ => rfl) (by decide) fl_X4_dot_12 (fun _ => rfl) dX4_dot_1 ?_
  refine z_iload_n (pc := 4) hC (i := 1) dX4_dot_4 rfl rfl ?_
  refine z_iload_n (pc := 5) hC (i := 2) dX4_dot_5 rfl rfl ?_
  refine z_callV (n := 2) (T := TX2) (N := 5) (ci := 2) (pc := 6) hC (c_X2_hasDot l w hw _ _ _ (by first | assumption | exact zb_gt _ _ _ | exact zcmp_zb _ _ | exact bI_zb _ | exact ⟨by omega, by omega⟩) (by first | assumption | exact zb_gt _ _ _ | exact zcmp_zb _ _ | exact bI_zb _ | exact ⟨by omega, by omega⟩)) gX4_dot_X2_hasDot rfl (by decide +kernel) (by decide) (by decide) rfl (by decide) (fun _ => rfl) rfl rfl (Nat.le_of_ble_eq_true rfl) dX4_dot_6 (zb_k fun r6 Ω6 h6 => ?_)
  obtain ⟨rfl, hM6⟩ := h6
  obtain rfl := hM6.symm
  refine z_ifd_ne (pc := 9) hC 17 dX4_dot_9 rfl (fun h9 => ?_) (fun h9 => ?_)
  · refine z_aload_n (pc := 17) hC (i := 0) dX4_dot_17 rfl rfl ?_
    refine z_getR (C := RX4) (T := TX4) (N := 7) (ci := 4) (pc := 18) hC _ _ 0 in_X4_dot_X4 rfl (by decide) (fun _ => rfl) (by decide) fl_X4_dot_12 (fun _ => rfl) dX4_dot_18 ?_
    refine z_iload_n (pc := 21) hC (i := 1) dX4_dot_21 rfl rfl ?_
    refine z_iload_n (pc := 22) hC (i := 2) dX4_dot_22 rfl rfl ?_
    refine z_callV (n := 2) (T := TX2) (N := 5) (ci := 2) (pc := 23) hC (c_X2_numberOf l w hw _ _ _) gX4_dot_X2_numberOf rfl (by decide +kernel) (by decide) (by decide) rfl (by decide) (fun _ => rfl) rfl rfl (Nat.le_of_ble_eq_true rfl) dX4_dot_23 (zi_k fun r23 Ω23 h23 => ?_)
    obtain ⟨hr23, hm23⟩ := h23
    have hm23 := hm23.symm
    subst hm23
    obtain ⟨hn1, hn2⟩ := nO_lt hv (x := x) (y := y) (by unfold dIn; omega)
    rw [q0, hn1] at hr23
    subst hr23
    refine z_istore (pc := 26) hC (i := 4) dX4_dot_26 (by decide) rfl (zS_s (zS_s (zS_s (zS_s zS_0)))) ?_
    refine z_iload_n (pc := 28) hC (i := 3) dX4_dot_28 rfl rfl ?_
    refine z_ts (pc := 29) hC (by first | assumption | exact ⟨by omega, by omega⟩) dX4_dot_29 (by decide) (by decide) (by intro i hi; show i < 4; omega) (fun tgt ht => ?_)
    rcases ts_X4_dot_29 ht with ⟨rfl, hk29⟩ | ⟨rfl, hk29⟩ | ⟨rfl, hk29⟩ | ⟨rfl, hk29⟩ | ⟨rfl, hk29⟩
    · refine z_aload_n (pc := 60) hC (i := 0) dX4_dot_60 rfl rfl ?_
      refine z_getR (C := RX4) (T := TX4) (N := 7) (ci := 4) (pc := 61) hC _ _ 0 in_X4_dot_X4 rfl (by decide) (fun _ => rfl) (by decide) fl_X4_dot_12 (fun _ => rfl) dX4_dot_61 ?_
      refine z_getR (C := RX2) (T := TX2) (N := 5) (ci := 2) (pc := 64) hC (.ref (wa w 15)) _ 3 in_X4_dot_X2 rfl (by decide) (fun _ => rfl) (by decide) fl_X4_dot_64 (fun _ => rfl) dX4_dot_64 ?_
      refine z_iload (pc := 67) hC (i := 4) dX4_dot_67 rfl ?_
      refine z_ialk (pc := 69) hC _ (nO a.1 x y) (by decide) (fun _ => rfl) rfl (by omega) (by decide) dX4_dot_69 ?_
      exact z_iret (pc := 70) hC rfl ⟨_, rfl, by rw [← scC_sh Ω (k := nO a.1 x y) (by omega), h.1.1]; exact ok_ret (by unfold aDot dotV; rw [if_pos ⟨by unfold dIn; omega, by omega⟩, if_pos hk29]) h (frC.refl _)⟩ dX4_dot_70
    · refine z_aload_n (pc := 71) hC (i := 0) dX4_dot_71 rfl rfl ?_
      refine z_getR (C := RX4) (T := TX4) (N := 7) (ci := 4) (pc := 72) hC _ _ 0 in_X4_dot_X4 rfl (by decide) (fun _ => rfl) (by decide) fl_X4_dot_12 (fun _ => rfl) dX4_dot_72 ?_
      refine z_getR (C := RX2) (T := TX2) (N := 5) (ci := 2) (pc := 75) hC (.ref (wa w 16)) _ 4 in_X4_dot_X2 rfl (by decide) (fun _ => rfl) (by decide) fl_X4_dot_81 (fun _ => rfl) dX4_dot_75 ?_
      refine z_iload (pc := 78) hC (i := 4) dX4_dot_78 rfl ?_
      refine z_ialk (pc := 80) hC _ (nO a.1 x y) (by decide) (fun _ => rfl) rfl (by omega) (by decide) dX4_dot_80 ?_
      exact z_iret (pc := 81) hC rfl ⟨_, rfl, by rw [← scC_mk Ω (k := nO a.1 x y) (by omega), h.1.1]; exact ok_ret (by unfold aDot dotV; rw [if_pos ⟨by unfold dIn; omega, by omega⟩, if_neg (by omega), if_pos hk29]) h (frC.refl _)⟩ dX4_dot_81
    · refine z_aload_n (pc := 82) hC (i := 0) dX4_dot_82 rfl rfl ?_
      refine z_getR (C := RX4) (T := TX4) (N := 7) (ci := 4) (pc := 83) hC _ _ 0 in_X4_dot_X4 rfl (by decide) (fun _ => rfl) (by decide) fl_X4_dot_12 (fun _ => rfl) dX4_dot_83 ?_
      refine z_iload (pc := 86) hC (i := 4) dX4_dot_86 rfl ?_
      refine z_iconst (pc := 88) hC dX4_dot_88 ?_
      refine z_callV (n := 2) (T := TX2) (N := 5) (ci := 2) (pc := 89) hC (c_X2_pullFrom l w hw _ (nO a.1 x y) 3 hv1 (by omega) (by omega)) gX4_dot_X2_pullFrom rfl (by decide +kernel) (by decide) (by decide) rfl (by decide) (fun _ => rfl) rfl rfl (Nat.le_of_ble_eq_true rfl) dX4_dot_89 (zi_k fun r89 Ω89 h89 => ?_)
      obtain ⟨hr89, hm89⟩ := h89
      have hm89 := hm89.symm
      subst hm89
      rw [h.1.1] at hr89
      subst hr89
      exact z_iret (pc := 92) hC rfl ⟨_, rfl, ok_ret (by unfold aDot dotV; rw [if_pos ⟨by unfold dIn; omega, by omega⟩, if_neg (by omega), if_neg (by omega), if_pos hk29]) h (frC.refl _)⟩ dX4_dot_92
    · refine z_aload_n (pc := 93) hC (i := 0) dX4_dot_93 rfl rfl ?_
      refine z_getR (C := RX4) (T := TX4) (N := 7) (ci := 4) (pc := 94) hC _ _ 0 in_X4_dot_X4 rfl (by decide) (fun _ => rfl) (by decide) fl_X4_dot_12 (fun _ => rfl) dX4_dot_94 ?_
      refine z_iload (pc := 97) hC (i := 4) dX4_dot_97 rfl ?_
      refine z_iconst (pc := 99) hC dX4_dot_99 ?_
      refine z_callV (n := 2) (T := TX2) (N := 5) (ci := 2) (pc := 100) hC (c_X2_pullFrom l w hw _ (nO a.1 x y) 4 hv1 (by omega) (by omega)) gX4_dot_X2_pullFrom rfl (by decide +kernel) (by decide) (by decide) rfl (by decide) (fun _ => rfl) rfl rfl (Nat.le_of_ble_eq_true rfl) dX4_dot_100 (zi_k fun r100 Ω100 h100 => ?_)
      obtain ⟨hr100, hm100⟩ := h100
      have hm100 := hm100.symm
      subst hm100
      rw [h.1.1] at hr100
      subst hr100
      exact z_iret (pc := 103) hC rfl ⟨_, rfl, ok_ret (by unfold aDot dotV; rw [if_pos ⟨by unfold dIn; omega, by omega⟩, if_neg (by omega), if_neg (by omega), if_neg (by omega)]) h (frC.refl _)⟩ dX4_dot_103
    · refine z_aload_n (pc := 104) hC (i := 0) dX4_dot_104 rfl rfl ?_
      refine z_callV (n := 0) (T := TX4) (N := 7) (ci := 4) (pc := 105) hC (c_X4_refuseBad l w hw _) gX4_dot_X4_refuseBad rfl (by decide +kernel) (by decide) (by decide) rfl (by decide) (fun _ => rfl) rfl rfl (Nat.le_of_ble_eq_true rfl) dX4_dot_105 (zi_k fun r105 Ω105 h105 => ?_)
      obtain ⟨rfl, rfl⟩ := h105
      exact z_iret (pc := 108) hC rfl ⟨_, rfl, bad_ret h (if_neg (by unfold dIn; omega))⟩ dX4_dot_108
  · refine z_aload_n (pc := 12) hC (i := 0) dX4_dot_12 rfl rfl ?_
    refine z_callV (n := 0) (T := TX4) (N := 7) (ci := 4) (pc := 13) hC (c_X4_refuseBad l w hw _) gX4_dot_X4_refuseBad rfl (by decide +kernel) (by decide) (by decide) rfl (by decide) (fun _ => rfl) rfl rfl (Nat.le_of_ble_eq_true rfl) dX4_dot_13 (zi_k fun r13 Ω13 h13 => ?_)
    obtain ⟨rfl, rfl⟩ := h13
    exact z_iret (pc := 16) hC rfl ⟨_, rfl, bad_ret h (if_neg (by unfold dIn; omega))⟩ dX4_dot_16
