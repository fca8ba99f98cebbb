theorem fl_X4_keeps_19 : Cond.fieldLink RX4 19 "StrokeCuts" "past" "LStrokeCuts$History;" ∈ wsX4_keeps := by decide +kernel
theorem in_X4_keeps_X4 : ∀ x ∈ u_ws RX4 TX4 7, x ∈ wsX4_keeps := by decide +kernel
theorem fl_X4_keeps_12 : Cond.fieldLink RX4 12 "StrokeCuts" "scene" "LStrokeCuts$Scene;" ∈ wsX4_keeps := by decide +kernel
theorem fl_X4_keeps_26 : Cond.fieldLink RX4 26 "StrokeCuts" "network" "LStrokeCuts$Network;" ∈ wsX4_keeps := by decide +kernel
set_option maxHeartbeats 4000000 in
set_option maxRecDepth 100000 in
theorem c_X4_keeps (l : Launch) (w : zP) (hw : zOK w) (Ω : Mem) (a : As) (h : RC Ω a) : zM l w yX4_keeps wsX4_keeps 41 1142 [.ref (wa w 0)] Ω (zi (fun r Ω1 => r = (aKeeps a).1 ∧ RC Ω1 (aKeeps a).2 ∧ frC Ω Ω1)) := by
  refine zM_of cX4_keeps 1 (some .int) RX4 [some (.ref (wa w 0))] hw (by decide +kernel) rfl rfl (Nat.le_of_ble_eq_true rfl) rfl (fun E hC => ?_)
  have hv := h.1.2
  have hv1 : scok (scC Ω) := by rw [h.1.1]; exact h.1.2
  have q0 : gt Ω 13 0 = a.1 0 := by rw [← scC_0, h.1.1]
  have q1 : gt Ω 13 1 = a.1 1 := by rw [← scC_1, h.1.1]
  have hN := sdots_le hv
  have hw01 := hv.1
  have hh01 := hv.2.1
  refine z_aload_n (pc := 0) hC (i := 0) dX4_keeps_0 rfl rfl ?_
  refine z_getR (C := RX4) (T := TX4) (N := 7) (ci := 4) (pc := 1) hC _ _ 1 in_X4_keeps_X4 rfl (by decide) (fun _ => rfl) (by decide) fl_X4_keeps_19 (fun _ => rfl) dX4_keeps_1 ?_
  refine z_aload_n (pc := 4) hC (i := 0) dX4_keeps_4 rfl rfl ?_
  refine z_getR (C := RX4) (T := TX4) (N := 7) (ci := 4) (pc := 5) hC _ _ 0 in_X4_keeps_X4 rfl (by decide) (fun _ => rfl) (by decide) fl_X4_keeps_12 (fun _ => rfl) dX4_keeps_5 ?_
  refine z_callV (n := 1) (T := TX0) (N := 3) (ci := 0) (pc := 8) hC (c_X0_remember l w hw _ h.2.1.2.2.1.1 h.2.1.2.2.1.2 (by rw [h.2.1.1]; omega) (by rw [h.2.1.1]; have := h.2.1.2.1; omega)) gX4_keeps_X0_remember rfl (by decide +kernel) (by decide) (by decide) rfl (by decide) (fun _ => rfl) rfl rfl (Nat.le_of_ble_eq_true rfl) dX4_keeps_8 (zv_k fun Ω8 h8 => ?_)
  obtain ⟨g1, g2, g3, g4⟩ := h8
  obtain ⟨hR, hfr, hs⟩ := h.rem g1 g2 g3 g4
  have q0R : gt Ω8 13 0 = a.1 0 := by rw [← scC_0, hs]
  have q1R : gt Ω8 13 1 = a.1 1 := by rw [← scC_1, hs]
  refine z_aload_n (pc := 11) hC (i := 0) dX4_keeps_11 rfl rfl ?_
  refine z_getR (C := RX4) (T := TX4) (N := 7) (ci := 4) (pc := 12) hC _ _ 2 in_X4_keeps_X4 rfl (by decide) (fun _ => rfl) (by decide) fl_X4_keeps_26 (fun _ => rfl) dX4_keeps_12 ?_
  refine z_aload_n (pc := 15) hC (i := 0) dX4_keeps_15 rfl rfl ?_
  refine z_getR (C := RX4) (T := TX4) (N := 7) (ci := 4) (pc := 16) hC _ _ 0 in_X4_keeps_X4 rfl (by decide) (fun _ => rfl) (by decide) fl_X4_keeps_12 (fun _ => rfl) dX4_keeps_16 ?_
  refine z_callV (n := 1) (T := TX1) (N := 8) (ci := 1) (pc := 19) hC (c_X1_solve l w hw _ (by rw [hs]; exact hv)) gX4_keeps_X1_solve rfl (by decide +kernel) (by decide) (by decide) rfl (by decide) (fun _ => rfl) rfl rfl (Nat.le_of_ble_eq_true rfl) dX4_keeps_19 (zi_k fun r19 Ω19 h19 => ?_)
  obtain ⟨hS, hSf⟩ := h19
  rw [hs] at hS
  have hR1 := hR.same hSf
  have hfS : frC Ω Ω19 := hfr.trans (fun q hq => hSf q (by omega))
  refine z_pop (pc := 22) hC dX4_keeps_22 rfl ?_
  refine z_aload_n (pc := 23) hC (i := 0) dX4_keeps_23 rfl rfl ?_
  refine z_getR (C := RX4) (T := TX4) (N := 7) (ci := 4) (pc := 24) hC _ _ 0 in_X4_keeps_X4 rfl (by decide) (fun _ => rfl) (by decide) fl_X4_keeps_12 (fun _ => rfl) dX4_keeps_24 ?_
  refine z_aload_n (pc := 27) hC (i := 0) dX4_keeps_27 rfl rfl ?_
  refine z_getR (C := RX4) (T := TX4) (N := 7) (ci := 4) (pc := 28) hC _ _ 2 in_X4_keeps_X4 rfl (by decide) (fun _ => rfl) (by decide) fl_X4_keeps_26 (fun _ => rfl) dX4_keeps_28 ?_
  refine z_callV (n := 0) (T := TX1) (N := 8) (ci := 1) (pc := 31) hC (c_X1_leastSet l w hw _ a.1 _ hv hS) gX4_keeps_X1_leastSet rfl (by decide +kernel) (by decide) (by decide) rfl (by decide) (fun _ => rfl) rfl rfl (Nat.le_of_ble_eq_true rfl) dX4_keeps_31 (zl_k fun r31 Ω31 h31 => ?_)
  obtain ⟨l1, l2, l3, l4⟩ := h31
  obtain rfl := hS.lo hv l1 l2 l3
  have hS2 := hS.moved l4
  have hR2 := hR1.same l4.R
  refine z_callV (n := 1) (T := TX2) (N := 5) (ci := 2) (pc := 34) hC (c_X2_markRest l w hw _ _ (by rw [hR2.1.1]; exact hv)) gX4_keeps_X2_markRest rfl (by decide +kernel) (by decide) (by decide) rfl (by decide) (fun _ => rfl) rfl rfl (Nat.le_of_ble_eq_true rfl) dX4_keeps_34 (zi_k fun r34 Ω34 h34 => ?_)
  obtain ⟨t0, t1, t2⟩ := h34
  rw [show scC Ω31 = a.1 from hR2.1.1] at t0 t1
  subst t0
  exact z_iret (pc := 37) hC rfl ⟨_, rfl, ok_ret rfl (hR2.set t1 (scok_sfR hv _ _) (fun q u v => t2 q (by omega))) ((hfS.trans l4.C).trans (frC_of (by decide) t2))⟩ dX4_keeps_37
theorem fl_X4_turns_19 : Cond.fieldLink RX4 19 "StrokeCuts" "past" "LStrokeCuts$History;" ∈ wsX4_turns := by decide +kernel
theorem in_X4_turns_X4 : ∀ x ∈ u_ws RX4 TX4 7, x ∈ wsX4_turns := by decide +kernel
theorem fl_X4_turns_12 : Cond.fieldLink RX4 12 "StrokeCuts" "scene" "LStrokeCuts$Scene;" ∈ wsX4_turns := by decide +kernel
set_option maxHeartbeats 4000000 in
set_option maxRecDepth 100000 in
theorem c_X4_turns (l : Launch) (w : zP) (hw : zOK w) (Ω : Mem) (a : As) (h : RC Ω a) : zM l w yX4_turns wsX4_turns 3 103 [.ref (wa w 0)] Ω (zi (fun r Ω1 => r = (aTurns a).1 ∧ RC Ω1 (aTurns a).2 ∧ frC Ω Ω1)) := by
  refine zM_of cX4_turns 1 (some .int) RX4 [some (.ref (wa w 0))] hw (by decide +kernel) rfl rfl (Nat.le_of_ble_eq_true rfl) rfl (fun E hC => ?_)
  have hv := h.1.2
  have hv1 : scok (scC Ω) := by rw [h.1.1]; exact h.1.2
  have q0 : gt Ω 13 0 = a.1 0 := by rw [← scC_0, h.1.1]
  have q1 : gt Ω 13 1 = a.1 1 := by rw [← scC_1, h.1.1]
  have hN := sdots_le hv
  have hw01 := hv.1
  have hh01 := hv.2.1
  refine z_aload_n (pc := 0) hC (i := 0) dX4_turns_0 rfl rfl ?_
  refine z_getR (C := RX4) (T := TX4) (N := 7) (ci := 4) (pc := 1) hC _ _ 1 in_X4_turns_X4 rfl (by decide) (fun _ => rfl) (by decide) fl_X4_turns_19 (fun _ => rfl) dX4_turns_1 ?_
  refine z_aload_n (pc := 4) hC (i := 0) dX4_turns_4 rfl rfl ?_
  refine z_getR (C := RX4) (T := TX4) (N := 7) (ci := 4) (pc := 5) hC _ _ 0 in_X4_turns_X4 rfl (by decide) (fun _ => rfl) (by decide) fl_X4_turns_12 (fun _ => rfl) dX4_turns_5 ?_
  refine z_callV (n := 1) (T := TX0) (N := 3) (ci := 0) (pc := 8) hC (c_X0_remember l w hw _ h.2.1.2.2.1.1 h.2.1.2.2.1.2 (by rw [h.2.1.1]; omega) (by rw [h.2.1.1]; have := h.2.1.2.1; omega)) gX4_turns_X0_remember rfl (by decide +kernel) (by decide) (by decide) rfl (by decide) (fun _ => rfl) rfl rfl (Nat.le_of_ble_eq_true rfl) dX4_turns_8 (zv_k fun Ω8 h8 => ?_)
  obtain ⟨g1, g2, g3, g4⟩ := h8
  obtain ⟨hR, hfr, hs⟩ := h.rem g1 g2 g3 g4
  have q0R : gt Ω8 13 0 = a.1 0 := by rw [← scC_0, hs]
  have q1R : gt Ω8 13 1 = a.1 1 := by rw [← scC_1, hs]
  refine z_aload_n (pc := 11) hC (i := 0) dX4_turns_11 rfl rfl ?_
  refine z_getR (C := RX4) (T := TX4) (N := 7) (ci := 4) (pc := 12) hC _ _ 0 in_X4_turns_X4 rfl (by decide) (fun _ => rfl) (by decide) fl_X4_turns_12 (fun _ => rfl) dX4_turns_12 ?_
  refine z_callV (n := 0) (T := TX2) (N := 5) (ci := 2) (pc := 15) hC (c_X2_swapSides l w hw _ (by rw [hs]; exact hv)) gX4_turns_X2_swapSides rfl (by decide +kernel) (by decide) (by decide) rfl (by decide) (fun _ => rfl) rfl rfl (Nat.le_of_ble_eq_true rfl) dX4_turns_15 (zi_k fun r15 Ω15 h15 => ?_)
  obtain ⟨t0, t1, t2⟩ := h15
  rw [hs] at t0 t1
  subst t0
  exact z_iret (pc := 18) hC rfl ⟨_, rfl, ok_ret rfl (hR.set t1 (scok_turn hv _) (fun q u v => t2 q (by omega) (by omega))) (hfr.trans (fun q hq => t2 q (by omega) (by omega)))⟩ dX4_turns_18
theorem fl_X4_type_33 : Cond.fieldLink RX4 33 "StrokeCuts" "script" "LStrokeCuts$Script;" ∈ wsX4_type := by decide +kernel
theorem in_X4_type_X4 : ∀ x ∈ u_ws RX4 TX4 7, x ∈ wsX4_type := by decide +kernel
theorem fl_X4_type_206 : Cond.fieldLink RX4 206 "StrokeCuts$Script" "length" "I" ∈ wsX4_type := by decide +kernel
theorem in_X4_type_X3 : ∀ x ∈ u_ws RX3 TX3 7, x ∈ wsX4_type := by decide +kernel
theorem fl_X4_type_203 : Cond.fieldLink RX4 203 "StrokeCuts" "fullCalls" "I" ∈ wsX4_type := by decide +kernel
set_option maxHeartbeats 4000000 in
set_option maxRecDepth 100000 in
theorem c_X4_type (l : Launch) (w : zP) (hw : zOK w) (Ω : Mem) (a : As) (h : RC Ω a) (c : Int) (hc : zb c) : zM l w yX4_type wsX4_type 1 22 [.ref (wa w 0), .int (zI c)] Ω (zi (fun r Ω1 => r = (aType a c).1 ∧ RC Ω1 (aType a c).2 ∧ frC Ω Ω1)) := by
  refine zM_of cX4_type 2 (some .int) RX4 [some (.ref (wa w 0)), some (.int (zI c))] hw (by decide +kernel) rfl rfl (Nat.le_of_ble_eq_true rfl) rfl (fun E hC => ?_)
  have hv := h.1.2
  have hv1 : scok (scC Ω) := by rw [h.1.1]; exact h.1.2
  have q0 : gt Ω 13 0 = a.1 0 := by rw [← scC_0, h.1.1]
  have q1 : gt Ω 13 1 = a.1 1 := by rw [← scC_1, h.1.1]
  have hN := sdots_le hv
  have hw01 := hv.1
  have hh01 := hv.2.1
  have hL := h.2.2.2.1
  have hL1 := h.2.2.2.2.1
  refine z_iload_n (pc := 0) hC (i := 1) dX4_type_0 rfl rfl ?_
  refine z_iconst (pc := 1) hC dX4_type_1 ?_
  refine z_bipush (pc := 2) hC dX4_type_2 rfl ?_
  refine z_callS (n := 3) (pc := 4) hC (c_X4_isWithin l w hw _ _ _ _ (by first | assumption | exact zb_gt _ _ _ | exact zcmp_zb _ _ | exact bI_zb _ | exact ⟨by omega, by omega⟩) (by first | assumption | exact zb_gt _ _ _ | exact zcmp_zb _ _ | exact bI_zb _ | exact ⟨by omega, by omega⟩) (by first | assumption | exact zb_gt _ _ _ | exact zcmp_zb _ _ | exact bI_zb _ | exact ⟨by omega, by omega⟩)) gX4_type_X4_isWithin rfl (by decide +kernel) (by decide) (by decide) rfl rfl (Nat.le_of_ble_eq_true rfl) dX4_type_4 (zb_k fun r4 Ω4 h4 => ?_)
  obtain ⟨rfl, hM4⟩ := h4
  obtain rfl := hM4.symm
  refine z_ifd_ne (pc := 7) hC 15 dX4_type_7 rfl (fun h7 => ?_) (fun h7 => ?_)
  · refine z_aload_n (pc := 15) hC (i := 0) dX4_type_15 rfl rfl ?_
    refine z_getR (C := RX4) (T := TX4) (N := 7) (ci := 4) (pc := 16) hC _ _ 3 in_X4_type_X4 rfl (by decide) (fun _ => rfl) (by decide) fl_X4_type_33 (fun _ => rfl) dX4_type_16 ?_
    refine z_iload_n (pc := 19) hC (i := 1) dX4_type_19 rfl rfl ?_
    refine z_callV (n := 1) (T := TX3) (N := 7) (ci := 3) (pc := 20) hC (c_X3_takeByte l w hw _ c (by omega)) gX4_type_X3_takeByte rfl (by decide +kernel) (by decide) (by decide) rfl (by decide) (fun _ => rfl) rfl rfl (Nat.le_of_ble_eq_true rfl) dX4_type_20 (zb_k fun r20 Ω20 h20 => ?_)
    obtain ⟨rfl, hy, hz⟩ := h20
    refine z_ifd_ne (pc := 23) hC 39 dX4_type_23 rfl (fun h23 => ?_) (fun h23 => ?_)
    · have hM := hy h23
      rw [hL, Int.toNat_natCast] at hM
      have e2 : gt Ω20 10 2 = ((a.2.2.2.1 + 1 : Nat) : Int) := by rw [hM, gt_s _ _ _ ⟨by omega, by omega⟩]; omega
      refine z_aload_n (pc := 39) hC (i := 0) dX4_type_39 rfl rfl ?_
      refine z_getR (C := RX4) (T := TX4) (N := 7) (ci := 4) (pc := 40) hC _ _ 3 in_X4_type_X4 rfl (by decide) (fun _ => rfl) (by decide) fl_X4_type_33 (fun _ => rfl) dX4_type_40 ?_
      refine z_getI (C := RX3) (T := TX3) (N := 7) (ci := 3) (pc := 43) hC _ 2 in_X4_type_X3 rfl (by decide) (fun _ => rfl) (by decide) fl_X4_type_206 (fun _ => rfl) dX4_type_43 ?_
      rw [e2]
      exact z_iret (pc := 46) hC rfl ⟨_, rfl, ok_ret (by unfold aType; rw [if_pos (by omega), if_pos (by omega)]; rfl) (h.read (fun q u1 u2 u3 => by rw [hM, ups_n _ _ _ u1, ups_n _ _ _ u2]) e2 (by omega) (by rw [hM, gt_nf _ _ _ (by decide), gt_fup _ _ _ (by assumption), h.2.2.2.2.2.1]) (fun k hk => by
      by_cases e : k = a.2.2.2.1
      · subst e; rw [fup_s]; omega
      · rw [fup_n _ _ e]; exact h.2.2.2.2.2.2.1 k (by omega)) (by rw [hM, gt_sn _ _ _ (by decide), gt_n _ _ _ _ (by decide)]; exact h.2.2.2.2.2.2.2)) (fun q hq => by rw [hM, ups_n _ _ _ (by omega), ups_n _ _ _ (by omega)])⟩ dX4_type_46
    · have hM := (hz h23).symm
      subst hM
      refine z_aload_n (pc := 26) hC (i := 0) dX4_type_26 rfl rfl ?_
      refine z_dup (pc := 27) hC dX4_type_27 rfl ?_
      refine z_getI (C := RX4) (T := TX4) (N := 7) (ci := 4) (pc := 28) hC _ 6 in_X4_type_X4 rfl (by decide) (fun _ => rfl) (by decide) fl_X4_type_203 (fun _ => rfl) dX4_type_28 ?_
      refine z_iconst (pc := 31) hC dX4_type_31 ?_
      refine z_iadd (pc := 32) hC dX4_type_32 ?_
      refine z_putI (C := RX4) (T := TX4) (N := 7) (ci := 4) (pc := 33) hC _ 6 in_X4_type_X4 rfl (by decide) (fun _ => rfl) (by decide) fl_X4_type_203 tyX4_ok nmX4 rfl (by decide +kernel) (fun _ => Nat.le_of_ble_eq_true rfl) (fun _ _ => rfl) dX4_type_33 ?_
      refine z_bipush (pc := 36) hC dX4_type_36 rfl ?_
      exact z_iret (pc := 38) hC rfl ⟨_, rfl, ok_ret (by unfold aType; rw [if_pos (by omega), if_neg (by omega)]) (h.inc (i := 2) (by decide) rfl) (frC_up _ _ _ (by decide))⟩ dX4_type_38
  · refine z_aload_n (pc := 10) hC (i := 0) dX4_type_10 rfl rfl ?_
    refine z_callV (n := 0) (T := TX4) (N := 7) (ci := 4) (pc := 11) hC (c_X4_refuseBad l w hw _) gX4_type_X4_refuseBad rfl (by decide +kernel) (by decide) (by decide) rfl (by decide) (fun _ => rfl) rfl rfl (Nat.le_of_ble_eq_true rfl) dX4_type_11 (zi_k fun r11 Ω11 h11 => ?_)
    obtain ⟨rfl, rfl⟩ := h11
    exact z_iret (pc := 14) hC rfl ⟨_, rfl, bad_ret h (if_neg (by omega))⟩ dX4_type_14
theorem fl_X4_clear_33 : Cond.fieldLink RX4 33 "StrokeCuts" "script" "LStrokeCuts$Script;" ∈ wsX4_clear := by decide +kernel
theorem in_X4_clear_X4 : ∀ x ∈ u_ws RX4 TX4 7, x ∈ wsX4_clear := by decide +kernel
theorem fl_X4_clear_206 : Cond.fieldLink RX4 206 "StrokeCuts$Script" "length" "I" ∈ wsX4_clear := by decide +kernel
theorem in_X4_clear_X3 : ∀ x ∈ u_ws RX3 TX3 7, x ∈ wsX4_clear := by decide +kernel
set_option maxHeartbeats 4000000 in
set_option maxRecDepth 100000 in
theorem c_X4_clear (l : Launch) (w : zP) (hw : zOK w) (Ω : Mem) (a : As) (h : RC Ω a) : zM l w yX4_clear wsX4_clear 0 0 [.ref (wa w 0)] Ω (zi (fun r Ω1 => r = (aClear a).1 ∧ RC Ω1 (aClear a).2 ∧ frC Ω Ω1)) := by
  refine zM_of cX4_clear 2 (some .int) RX4 [some (.ref (wa w 0)), none] hw (by decide +kernel) rfl rfl (Nat.le_of_ble_eq_true rfl) rfl (fun E hC => ?_)
  have hL := h.2.2.2.1
  have hL1 := h.2.2.2.2.1
  refine z_aload_n (pc := 0) hC (i := 0) dX4_clear_0 rfl rfl ?_
  refine z_getR (C := RX4) (T := TX4) (N := 7) (ci := 4) (pc := 1) hC _ _ 3 in_X4_clear_X4 rfl (by decide) (fun _ => rfl) (by decide) fl_X4_clear_33 (fun _ => rfl) dX4_clear_1 ?_
  refine z_getI (C := RX3) (T := TX3) (N := 7) (ci := 3) (pc := 4) hC _ 2 in_X4_clear_X3 rfl (by decide) (fun _ => rfl) (by decide) fl_X4_clear_206 (fun _ => rfl) dX4_clear_4 ?_
  rw [hL]
  refine z_istore_n (pc := 7) hC (i := 1) dX4_clear_7 rfl (by decide) rfl (zS_s zS_0) ?_
  refine z_aload_n (pc := 8) hC (i := 0) dX4_clear_8 rfl rfl ?_
  refine z_getR (C := RX4) (T := TX4) (N := 7) (ci := 4) (pc := 9) hC _ _ 3 in_X4_clear_X4 rfl (by decide) (fun _ => rfl) (by decide) fl_X4_clear_33 (fun _ => rfl) dX4_clear_9 ?_
  refine z_iconst (pc := 12) hC dX4_clear_12 ?_
  refine z_putI (C := RX3) (T := TX3) (N := 7) (ci := 3) (pc := 13) hC _ 2 in_X4_clear_X3 rfl (by decide) (fun _ => rfl) (by decide) fl_X4_clear_206 tyX3_ok nmX3 rfl (by decide +kernel) (fun _ => Nat.le_of_ble_eq_true rfl) (fun _ _ => rfl) dX4_clear_13 ?_
  refine z_iload_n (pc := 16) hC (i := 1) dX4_clear_16 rfl rfl ?_
  exact z_iret (pc := 17) hC rfl ⟨_, rfl, ok_ret rfl (h.read (fun q u1 u2 u3 => ups_n _ _ _ u1) (gt_s _ _ _ zb_0) (by omega) (by rw [gt_nf _ _ _ (by decide)]; exact h.2.2.2.2.2.1) (fun k hk => absurd hk (Nat.not_lt_zero k)) (by rw [gt_sn _ _ _ (by decide)]; exact h.2.2.2.2.2.2.2)) (frC_up _ _ _ (by decide))⟩ dX4_clear_17
theorem fl_X4_back_19 : Cond.fieldLink RX4 19 "StrokeCuts" "past" "LStrokeCuts$History;" ∈ wsX4_back := by decide +kernel
theorem in_X4_back_X4 : ∀ x ∈ u_ws RX4 TX4 7, x ∈ wsX4_back := by decide +kernel
theorem fl_X4_back_230 : Cond.fieldLink RX4 230 "StrokeCuts$History" "count" "I" ∈ wsX4_back := by decide +kernel
theorem in_X4_back_X0 : ∀ x ∈ u_ws RX0 TX0 3, x ∈ wsX4_back := by decide +kernel
theorem fl_X4_back_12 : Cond.fieldLink RX4 12 "StrokeCuts" "scene" "LStrokeCuts$Scene;" ∈ wsX4_back := by decide +kernel
theorem fl_X4_back_155 : Cond.fieldLink RX4 155 "StrokeCuts" "noCalls" "I" ∈ wsX4_back := by decide +kernel
set_option maxHeartbeats 4000000 in
set_option maxRecDepth 100000 in
theorem c_X4_back (l : Launch) (w : zP) (hw : zOK w) (Ω : Mem) (a : As) (h : RC Ω a) : zM l w yX4_back wsX4_back 3 103 [.ref (wa w 0)] Ω (zi (fun r Ω1 => r = (aBck a).1 ∧ RC Ω1 (aBck a).2 ∧ frC Ω Ω1)) := by
  refine zM_of cX4_back 1 (some .int) RX4 [some (.ref (wa w 0))] hw (by decide +kernel) rfl rfl (Nat.le_of_ble_eq_true rfl) rfl (fun E hC => ?_)
  have hm := h.2.1.1
  have hm8 := h.2.1.2.1
  refine z_aload_n (pc := 0) hC (i := 0) dX4_back_0 rfl rfl ?_
  refine z_getR (C := RX4) (T := TX4) (N := 7) (ci := 4) (pc := 1) hC _ _ 1 in_X4_back_X4 rfl (by decide) (fun _ => rfl) (by decide) fl_X4_back_19 (fun _ => rfl) dX4_back_1 ?_
  refine z_getI (C := RX0) (T := TX0) (N := 3) (ci := 0) (pc := 4) hC _ 2 in_X4_back_X0 rfl (by decide) (fun _ => rfl) (by decide) fl_X4_back_230 (fun _ => rfl) dX4_back_4 ?_
  rw [hm]
  refine z_if_ne (pc := 7) hC 23 (by first | assumption | exact zb_gt _ _ _ | exact zcmp_zb _ _ | exact bI_zb _ | exact ⟨by omega, by omega⟩) dX4_back_7 rfl (fun h7 => ?_) (fun h7 => ?_)
  · refine z_aload_n (pc := 23) hC (i := 0) dX4_back_23 rfl rfl ?_
    refine z_getR (C := RX4) (T := TX4) (N := 7) (ci := 4) (pc := 24) hC _ _ 1 in_X4_back_X4 rfl (by decide) (fun _ => rfl) (by decide) fl_X4_back_19 (fun _ => rfl) dX4_back_24 ?_
    refine z_aload_n (pc := 27) hC (i := 0) dX4_back_27 rfl rfl ?_
    refine z_getR (C := RX4) (T := TX4) (N := 7) (ci := 4) (pc := 28) hC _ _ 0 in_X4_back_X4 rfl (by decide) (fun _ => rfl) (by decide) fl_X4_back_12 (fun _ => rfl) dX4_back_28 ?_
    refine z_callV (n := 1) (T := TX0) (N := 3) (ci := 0) (pc := 31) hC (c_X0_giveBack l w hw _ h.2.1.2.2.1.1 h.2.1.2.2.1.2 (by omega) (by omega)) gX4_back_X0_giveBack rfl (by decide +kernel) (by decide) (by decide) rfl (by decide) (fun _ => rfl) rfl rfl (Nat.le_of_ble_eq_true rfl) dX4_back_31 (zv_k fun Ω31 h31 => ?_)
    obtain ⟨g1, g2, g3, g4⟩ := h31
    obtain ⟨hR, hfr⟩ := h.back (by omega) g1 g2 g3 g4
    refine z_aload_n (pc := 34) hC (i := 0) dX4_back_34 rfl rfl ?_
    refine z_getR (C := RX4) (T := TX4) (N := 7) (ci := 4) (pc := 35) hC _ _ 1 in_X4_back_X4 rfl (by decide) (fun _ => rfl) (by decide) fl_X4_back_19 (fun _ => rfl) dX4_back_35 ?_
    refine z_getI (C := RX0) (T := TX0) (N := 3) (ci := 0) (pc := 38) hC _ 2 in_X4_back_X0 rfl (by decide) (fun _ => rfl) (by decide) fl_X4_back_230 (fun _ => rfl) dX4_back_38 ?_
    exact z_iret (pc := 41) hC rfl ⟨_, rfl, ok_ret (by rw [g2, hm]; exact if_neg (by omega)) hR hfr⟩ dX4_back_41
  · refine z_aload_n (pc := 10) hC (i := 0) dX4_back_10 rfl rfl ?_
    refine z_dup (pc := 11) hC dX4_back_11 rfl ?_
    refine z_getI (C := RX4) (T := TX4) (N := 7) (ci := 4) (pc := 12) hC _ 5 in_X4_back_X4 rfl (by decide) (fun _ => rfl) (by decide) fl_X4_back_155 (fun _ => rfl) dX4_back_12 ?_
    refine z_iconst (pc := 15) hC dX4_back_15 ?_
    refine z_iadd (pc := 16) hC dX4_back_16 ?_
    refine z_putI (C := RX4) (T := TX4) (N := 7) (ci := 4) (pc := 17) hC _ 5 in_X4_back_X4 rfl (by decide) (fun _ => rfl) (by decide) fl_X4_back_155 tyX4_ok nmX4 rfl (by decide +kernel) (fun _ => Nat.le_of_ble_eq_true rfl) (fun _ _ => rfl) dX4_back_17 ?_
    refine z_bipush (pc := 20) hC dX4_back_20 rfl ?_
    exact z_iret (pc := 22) hC rfl ⟨_, rfl, ok_ret (if_pos (by omega)) (h.inc (i := 1) (by decide) rfl) (frC_up _ _ _ (by decide))⟩ dX4_back_22
theorem ts_X4_told_16 {a : Int} {tgt : Nat} (h : (0 ≤ a ∧ a ≤ 12 ∧ (#[68, 73, 78, 83, 91, 115, 115, 115, 115, 115, 115, 99, 107] : Array Int)[(a - 0).toNat]? = some ((tgt : Int) - (16 : Nat))) ∨ ((a < 0 ∨ 12 < a) ∧ (tgt : Int) = (16 : Nat) + 115)) : (tgt = 84 ∧ (a = 0)) ∨ (tgt = 89 ∧ (a = 1)) ∨ (tgt = 94 ∧ (a = 2)) ∨ (tgt = 99 ∧ (a = 3)) ∨ (tgt = 107 ∧ (a = 4)) ∨ (tgt = 115 ∧ (a = 11)) ∨ (tgt = 123 ∧ (a = 12)) ∨ (tgt = 131 ∧ (a = 5 ∨ a = 6 ∨ a = 7 ∨ a = 8 ∨ a = 9 ∨ a = 10 ∨ a < 0 ∨ 12 < a)) := by
  rcases h with ⟨h1, h2, h3⟩ | ⟨h1, h2⟩
  · obtain ⟨i, hi⟩ := nat_of (by omega : 0 ≤ a - 0)
    rw [hi, Int.toNat_natCast] at h3
    rcases (by omega : i = 0 ∨ i = 1 ∨ i = 2 ∨ i = 3 ∨ i = 4 ∨ i = 5 ∨ i = 6 ∨ i = 7 ∨ i = 8 ∨ i = 9 ∨ i = 10 ∨ i = 11 ∨ i = 12) with rfl | rfl | rfl | rfl | rfl | rfl | rfl | rfl | rfl | rfl | rfl | rfl | rfl <;> simp at h3 <;> omega
  · omega
theorem fl_X4_told_236 : Cond.fieldLink RX4 236 "StrokeCuts" "badCalls" "I" ∈ wsX4_told := by decide +kernel
theorem in_X4_told_X4 : ∀ x ∈ u_ws RX4 TX4 7, x ∈ wsX4_told := by decide +kernel
theorem fl_X4_told_155 : Cond.fieldLink RX4 155 "StrokeCuts" "noCalls" "I" ∈ wsX4_told := by decide +kernel
theorem fl_X4_told_203 : Cond.fieldLink RX4 203 "StrokeCuts" "fullCalls" "I" ∈ wsX4_told := by decide +kernel
theorem fl_X4_told_12 : Cond.fieldLink RX4 12 "StrokeCuts" "scene" "LStrokeCuts$Scene;" ∈ wsX4_told := by decide +kernel
theorem fl_X4_told_209 : Cond.fieldLink RX4 209 "StrokeCuts$Scene" "width" "I" ∈ wsX4_told := by decide +kernel
theorem in_X4_told_X2 : ∀ x ∈ u_ws RX2 TX2 5, x ∈ wsX4_told := by decide +kernel
theorem fl_X4_told_212 : Cond.fieldLink RX4 212 "StrokeCuts$Scene" "height" "I" ∈ wsX4_told := by decide +kernel
theorem fl_X4_told_33 : Cond.fieldLink RX4 33 "StrokeCuts" "script" "LStrokeCuts$Script;" ∈ wsX4_told := by decide +kernel
theorem fl_X4_told_206 : Cond.fieldLink RX4 206 "StrokeCuts$Script" "length" "I" ∈ wsX4_told := by decide +kernel
theorem in_X4_told_X3 : ∀ x ∈ u_ws RX3 TX3 7, x ∈ wsX4_told := by decide +kernel
theorem fl_X4_told_19 : Cond.fieldLink RX4 19 "StrokeCuts" "past" "LStrokeCuts$History;" ∈ wsX4_told := by decide +kernel
theorem fl_X4_told_230 : Cond.fieldLink RX4 230 "StrokeCuts$History" "count" "I" ∈ wsX4_told := by decide +kernel
theorem in_X4_told_X0 : ∀ x ∈ u_ws RX0 TX0 3, x ∈ wsX4_told := by decide +kernel
theorem fl_X4_told_95 : Cond.fieldLink RX4 95 "StrokeCuts$Scene" "settings" "[I" ∈ wsX4_told := by decide +kernel
set_option maxHeartbeats 4000000 in
set_option maxRecDepth 100000 in
theorem c_X4_told (l : Launch) (w : zP) (hw : zOK w) (Ω : Mem) (a : As) (h : RC Ω a) (k : Int) (hk : zb k) : zM l w yX4_told wsX4_told 1 22 [.ref (wa w 0), .int (zI k)] Ω (zi (fun r Ω1 => r = (aTold a k).1 ∧ RC Ω1 (aTold a k).2 ∧ frC Ω Ω1)) := by
  refine zM_of cX4_told 2 (some .int) RX4 [some (.ref (wa w 0)), some (.int (zI k))] hw (by decide +kernel) rfl rfl (Nat.le_of_ble_eq_true rfl) rfl (fun E hC => ?_)
  have hv := h.1.2
  have hv1 : scok (scC Ω) := by rw [h.1.1]; exact h.1.2
  have q0 : gt Ω 13 0 = a.1 0 := by rw [← scC_0, h.1.1]
  have q1 : gt Ω 13 1 = a.1 1 := by rw [← scC_1, h.1.1]
  have hN := sdots_le hv
  have hw01 := hv.1
  have hh01 := hv.2.1
  refine z_iload_n (pc := 0) hC (i := 1) dX4_told_0 rfl rfl ?_
  refine z_iconst (pc := 1) hC dX4_told_1 ?_
  refine z_bipush (pc := 2) hC dX4_told_2 rfl ?_
  refine z_callS (n := 3) (pc := 4) hC (c_X4_isWithin l w hw _ _ _ _ (by first | assumption | exact zb_gt _ _ _ | exact zcmp_zb _ _ | exact bI_zb _ | exact ⟨by omega, by omega⟩) (by first | assumption | exact zb_gt _ _ _ | exact zcmp_zb _ _ | exact bI_zb _ | exact ⟨by omega, by omega⟩) (by first | assumption | exact zb_gt _ _ _ | exact zcmp_zb _ _ | exact bI_zb _ | exact ⟨by omega, by omega⟩)) gX4_told_X4_isWithin rfl (by decide +kernel) (by decide) (by decide) rfl rfl (Nat.le_of_ble_eq_true rfl) dX4_told_4 (zb_k fun r4 Ω4 h4 => ?_)
  obtain ⟨rfl, hM4⟩ := h4
  obtain rfl := hM4.symm
  refine z_ifd_ne (pc := 7) hC 15 dX4_told_7 rfl (fun h7 => ?_) (fun h7 => ?_)
  · refine z_iload_n (pc := 15) hC (i := 1) dX4_told_15 rfl rfl ?_
    refine z_ts (pc := 16) hC (by first | assumption | exact ⟨by omega, by omega⟩) dX4_told_16 (by decide) (by decide) (by intro i hi; show i < 13; omega) (fun tgt ht => ?_)
    rcases ts_X4_told_16 ht with ⟨rfl, hk16⟩ | ⟨rfl, hk16⟩ | ⟨rfl, hk16⟩ | ⟨rfl, hk16⟩ | ⟨rfl, hk16⟩ | ⟨rfl, hk16⟩ | ⟨rfl, hk16⟩ | ⟨rfl, hk16⟩
    · refine z_aload_n (pc := 84) hC (i := 0) dX4_told_84 rfl rfl ?_
      refine z_getI (C := RX4) (T := TX4) (N := 7) (ci := 4) (pc := 85) hC _ 4 in_X4_told_X4 rfl (by decide) (fun _ => rfl) (by decide) fl_X4_told_236 (fun _ => rfl) dX4_told_85 ?_
      exact z_iret (pc := 88) hC rfl ⟨_, rfl, by
            have e := congrArg Int32.toInt (h.2.2.1 0 (by decide))
            refine ok_ret ?_ h (frC.refl _)
            unfold aTold toldV; rw [if_pos (by omega), if_pos (by omega), show k.toNat = 0 by omega, ← e]; rfl⟩ dX4_told_88
    · refine z_aload_n (pc := 89) hC (i := 0) dX4_told_89 rfl rfl ?_
      refine z_getI (C := RX4) (T := TX4) (N := 7) (ci := 4) (pc := 90) hC _ 5 in_X4_told_X4 rfl (by decide) (fun _ => rfl) (by decide) fl_X4_told_155 (fun _ => rfl) dX4_told_90 ?_
      exact z_iret (pc := 93) hC rfl ⟨_, rfl, by
            have e := congrArg Int32.toInt (h.2.2.1 1 (by decide))
            refine ok_ret ?_ h (frC.refl _)
            unfold aTold toldV; rw [if_pos (by omega), if_pos (by omega), show k.toNat = 1 by omega, ← e]; rfl⟩ dX4_told_93
    · refine z_aload_n (pc := 94) hC (i := 0) dX4_told_94 rfl rfl ?_
      refine z_getI (C := RX4) (T := TX4) (N := 7) (ci := 4) (pc := 95) hC _ 6 in_X4_told_X4 rfl (by decide) (fun _ => rfl) (by decide) fl_X4_told_203 (fun _ => rfl) dX4_told_95 ?_
      exact z_iret (pc := 98) hC rfl ⟨_, rfl, by
            have e := congrArg Int32.toInt (h.2.2.1 2 (by decide))
            refine ok_ret ?_ h (frC.refl _)
            unfold aTold toldV; rw [if_pos (by omega), if_pos (by omega), show k.toNat = 2 by omega, ← e]; rfl⟩ dX4_told_98
    · refine z_aload_n (pc := 99) hC (i := 0) dX4_told_99 rfl rfl ?_
      refine z_getR (C := RX4) (T := TX4) (N := 7) (ci := 4) (pc := 100) hC _ _ 0 in_X4_told_X4 rfl (by decide) (fun _ => rfl) (by decide) fl_X4_told_12 (fun _ => rfl) dX4_told_100 ?_
      refine z_getI (C := RX2) (T := TX2) (N := 5) (ci := 2) (pc := 103) hC _ 0 in_X4_told_X2 rfl (by decide) (fun _ => rfl) (by decide) fl_X4_told_209 (fun _ => rfl) dX4_told_103 ?_
      exact z_iret (pc := 106) hC rfl ⟨_, rfl, by rw [q0]; exact ok_ret (by unfold aTold toldV; rw [if_pos (by omega), if_neg (by omega), if_pos (by omega), show k.toNat - 3 = 0 by omega]) h (frC.refl _)⟩ dX4_told_106
    · refine z_aload_n (pc := 107) hC (i := 0) dX4_told_107 rfl rfl ?_
      refine z_getR (C := RX4) (T := TX4) (N := 7) (ci := 4) (pc := 108) hC _ _ 0 in_X4_told_X4 rfl (by decide) (fun _ => rfl) (by decide) fl_X4_told_12 (fun _ => rfl) dX4_told_108 ?_
      refine z_getI (C := RX2) (T := TX2) (N := 5) (ci := 2) (pc := 111) hC _ 1 in_X4_told_X2 rfl (by decide) (fun _ => rfl) (by decide) fl_X4_told_212 (fun _ => rfl) dX4_told_111 ?_
      exact z_iret (pc := 114) hC rfl ⟨_, rfl, by rw [q1]; exact ok_ret (by unfold aTold toldV; rw [if_pos (by omega), if_neg (by omega), if_pos (by omega), show k.toNat - 3 = 1 by omega]) h (frC.refl _)⟩ dX4_told_114
    · refine z_aload_n (pc := 115) hC (i := 0) dX4_told_115 rfl rfl ?_
      refine z_getR (C := RX4) (T := TX4) (N := 7) (ci := 4) (pc := 116) hC _ _ 3 in_X4_told_X4 rfl (by decide) (fun _ => rfl) (by decide) fl_X4_told_33 (fun _ => rfl) dX4_told_116 ?_
      refine z_getI (C := RX3) (T := TX3) (N := 7) (ci := 3) (pc := 119) hC _ 2 in_X4_told_X3 rfl (by decide) (fun _ => rfl) (by decide) fl_X4_told_206 (fun _ => rfl) dX4_told_119 ?_
      exact z_iret (pc := 122) hC rfl ⟨_, rfl, by rw [h.2.2.2.1]; exact ok_ret (by unfold aTold toldV; rw [if_pos (by omega), if_neg (by omega), if_neg (by omega), if_pos (by omega)]) h (frC.refl _)⟩ dX4_told_122
    · refine z_aload_n (pc := 123) hC (i := 0) dX4_told_123 rfl rfl ?_
      refine z_getR (C := RX4) (T := TX4) (N := 7) (ci := 4) (pc := 124) hC _ _ 1 in_X4_told_X4 rfl (by decide) (fun _ => rfl) (by decide) fl_X4_told_19 (fun _ => rfl) dX4_told_124 ?_
      refine z_getI (C := RX0) (T := TX0) (N := 3) (ci := 0) (pc := 127) hC _ 2 in_X4_told_X0 rfl (by decide) (fun _ => rfl) (by decide) fl_X4_told_230 (fun _ => rfl) dX4_told_127 ?_
      exact z_iret (pc := 130) hC rfl ⟨_, rfl, by rw [h.2.1.1]; exact ok_ret (by unfold aTold toldV; rw [if_pos (by omega), if_neg (by omega), if_neg (by omega), if_neg (by omega)]) h (frC.refl _)⟩ dX4_told_130
    · refine z_aload_n (pc := 131) hC (i := 0) dX4_told_131 rfl rfl ?_
      refine z_getR (C := RX4) (T := TX4) (N := 7) (ci := 4) (pc := 132) hC _ _ 0 in_X4_told_X4 rfl (by decide) (fun _ => rfl) (by decide) fl_X4_told_12 (fun _ => rfl) dX4_told_132 ?_
      refine z_getR (C := RX2) (T := TX2) (N := 5) (ci := 2) (pc := 135) hC (.ref (wa w 14)) _ 2 in_X4_told_X2 rfl (by decide) (fun _ => rfl) (by decide) fl_X4_told_95 (fun _ => rfl) dX4_told_135 ?_
      refine z_iload_n (pc := 138) hC (i := 1) dX4_told_138 rfl rfl ?_
      refine z_iconst (pc := 139) hC dX4_told_139 ?_
      refine z_isub (pc := 140) hC dX4_told_140 ?_
      refine z_ialk (pc := 141) hC _ (k.toNat - 5) (by decide) (fun _ => rfl) (by omega) (by omega) (by decide) dX4_told_141 ?_
      exact z_iret (pc := 142) hC rfl ⟨_, rfl, by rw [← scC_se Ω (k := k.toNat - 5) (by omega), h.1.1]; exact ok_ret (by unfold aTold toldV; rw [if_pos (by omega), if_neg (by omega), if_pos (by omega), show 2 + (k.toNat - 5) = k.toNat - 3 by omega]) h (frC.refl _)⟩ dX4_told_142
  · refine z_aload_n (pc := 10) hC (i := 0) dX4_told_10 rfl rfl ?_
    refine z_callV (n := 0) (T := TX4) (N := 7) (ci := 4) (pc := 11) hC (c_X4_refuseBad l w hw _) gX4_told_X4_refuseBad rfl (by decide +kernel) (by decide) (by decide) rfl (by decide) (fun _ => rfl) rfl rfl (Nat.le_of_ble_eq_true rfl) dX4_told_11 (zi_k fun r11 Ω11 h11 => ?_)
    obtain ⟨rfl, rfl⟩ := h11
    exact z_iret (pc := 14) hC rfl ⟨_, rfl, bad_ret h (if_neg (by omega))⟩ dX4_told_14
