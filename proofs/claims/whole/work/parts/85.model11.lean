theorem fl_X5_dot_7 : Cond.fieldLink RX5 7 "StrokeCutsModel" "st" "[I" ∈ wsX5_dot := by decide +kernel
theorem in_X5_dot_X5 : ∀ x ∈ u_ws RX5 TX5 15, x ∈ wsX5_dot := by decide +kernel
set_option maxHeartbeats 4000000 in
set_option maxRecDepth 100000 in
theorem c_X5_dot (l : Launch) (w : zP) (hw : zOK w) (Ω : Mem) (a : As) (h : RM Ω a) (x y k : Int) (hx : zb x) (hy : zb y) (hk : zb k) : zM l w yX5_dot wsX5_dot 2 44 [.ref (wa w 49), .int (zI x), .int (zI y), .int (zI k)] Ω (zi (fun r Ω1 => r = (aDot a x y k).1 ∧ RM Ω1 (aDot a x y k).2 ∧ frG Ω Ω1)) := by
  refine zM_of cX5_dot 5 (some .int) RX5 [some (.ref (wa w 49)), some (.int (zI x)), some (.int (zI y)), some (.int (zI k)), none] hw (by decide +kernel) rfl rfl (Nat.le_of_ble_eq_true rfl) rfl (fun E hC => ?_)
  have hv := h.1.2
  have hσ := h.1.1
  have z0 : gt Ω 50 0 = a.1 0 := st_at hσ (by decide)
  have z1 : gt Ω 50 1 = a.1 1 := st_at hσ (by decide)
  have hN := sdots_le hv
  have hw01 := hv.1
  have hh01 := hv.2.1
  refine z_aload_n (pc := 0) hC (i := 0) dX5_dot_0 rfl rfl ?_
  refine z_iload_n (pc := 1) hC (i := 1) dX5_dot_1 rfl rfl ?_
  refine z_iload_n (pc := 2) hC (i := 2) dX5_dot_2 rfl rfl ?_
  refine z_callV (n := 2) (T := TX5) (N := 15) (ci := 5) (pc := 3) hC (c_X5_isDot l w hw _ _ _ (by first | assumption | exact ⟨by omega, by omega⟩) (by first | assumption | exact ⟨by omega, by omega⟩) (by omega) (by omega)) gX5_dot_X5_isDot rfl (by decide +kernel) (by decide) (by decide) rfl (by decide) (fun _ => rfl) rfl rfl (Nat.le_of_ble_eq_true rfl) dX5_dot_3 (zb_k fun r3 Ω3 h3 => ?_)
  obtain ⟨rfl, hM3⟩ := h3
  obtain rfl := hM3.symm
  refine z_ifd_eq (pc := 6) hC 18 dX5_dot_6 rfl (fun h6 => ?_) (fun h6 => ?_)
  · refine z_aload_n (pc := 18) hC (i := 0) dX5_dot_18 rfl rfl ?_
    refine z_callV (n := 0) (T := TX5) (N := 15) (ci := 5) (pc := 19) hC (c_X5_bad l w hw _) gX5_dot_X5_bad rfl (by decide +kernel) (by decide) (by decide) rfl (by decide) (fun _ => rfl) rfl rfl (Nat.le_of_ble_eq_true rfl) dX5_dot_19 (zi_k fun r19 Ω19 h19 => ?_)
    obtain ⟨rfl, rfl⟩ := h19
    exact z_iret (pc := 22) hC rfl ⟨_, rfl, bad_retM h (if_neg (by unfold dIn; omega))⟩ dX5_dot_22
  · refine z_iload_n (pc := 9) hC (i := 3) dX5_dot_9 rfl rfl ?_
    refine z_iconst (pc := 10) hC dX5_dot_10 ?_
    refine z_iconst (pc := 11) hC dX5_dot_11 ?_
    refine z_callS (n := 3) (pc := 12) hC (c_X5_in l w hw _ _ _ _ (by first | assumption | exact zb_gt _ _ _ | exact zcmp_zb _ _ | exact bI_zb _ | exact ⟨by omega, by omega⟩) (by first | assumption | exact zb_gt _ _ _ | exact zcmp_zb _ _ | exact bI_zb _ | exact ⟨by omega, by omega⟩) (by first | assumption | exact zb_gt _ _ _ | exact zcmp_zb _ _ | exact bI_zb _ | exact ⟨by omega, by omega⟩)) gX5_dot_X5_in rfl (by decide +kernel) (by decide) (by decide) rfl rfl (Nat.le_of_ble_eq_true rfl) dX5_dot_12 (zb_k fun r12 Ω12 h12 => ?_)
    obtain ⟨rfl, hM12⟩ := h12
    obtain rfl := hM12.symm
    refine z_ifd_ne (pc := 15) hC 23 dX5_dot_15 rfl (fun h15 => ?_) (fun h15 => ?_)
    · refine z_aload_n (pc := 23) hC (i := 0) dX5_dot_23 rfl rfl ?_
      refine z_iload_n (pc := 24) hC (i := 1) dX5_dot_24 rfl rfl ?_
      refine z_iload_n (pc := 25) hC (i := 2) dX5_dot_25 rfl rfl ?_
      refine z_callV (n := 2) (T := TX5) (N := 15) (ci := 5) (pc := 26) hC (c_X5_numberOf l w hw _ _ _) gX5_dot_X5_numberOf rfl (by decide +kernel) (by decide) (by decide) rfl (by decide) (fun _ => rfl) rfl rfl (Nat.le_of_ble_eq_true rfl) dX5_dot_26 (zi_k fun r26 Ω26 h26 => ?_)
      obtain ⟨hr26, hm26⟩ := h26
      have hm26 := hm26.symm
      subst hm26
      obtain ⟨hn1, hn2⟩ := nO_lt hv (x := x) (y := y) (by unfold dIn; omega)
      rw [z0, hn1] at hr26
      subst hr26
      refine z_istore (pc := 29) hC (i := 4) dX5_dot_29 (by decide) rfl (zS_s (zS_s (zS_s (zS_s zS_0)))) ?_
      refine z_iload_n (pc := 31) hC (i := 3) dX5_dot_31 rfl rfl ?_
      refine z_if_ne (pc := 32) hC 48 (by first | assumption | exact zb_gt _ _ _ | exact zcmp_zb _ _ | exact bI_zb _ | exact ⟨by omega, by omega⟩) dX5_dot_32 rfl (fun h32 => ?_) (fun h32 => ?_)
      · refine z_iload_n (pc := 48) hC (i := 3) dX5_dot_48 rfl rfl ?_
        refine z_iconst (pc := 49) hC dX5_dot_49 ?_
        refine z_icmp_ne (pc := 50) hC 66 (by first | assumption | exact zb_gt _ _ _ | exact zcmp_zb _ _ | exact bI_zb _ | exact ⟨by omega, by omega⟩) (by first | assumption | exact zb_gt _ _ _ | exact zcmp_zb _ _ | exact bI_zb _ | exact ⟨by omega, by omega⟩) dX5_dot_50 rfl (fun h50 => ?_) (fun h50 => ?_)
        · refine z_aload_n (pc := 66) hC (i := 0) dX5_dot_66 rfl rfl ?_
          refine z_iload (pc := 67) hC (i := 4) dX5_dot_67 rfl ?_
          refine z_iconst (pc := 69) hC dX5_dot_69 ?_
          refine z_iload_n (pc := 70) hC (i := 3) dX5_dot_70 rfl rfl ?_
          refine z_isub (pc := 71) hC dX5_dot_71 ?_
          refine z_callV (n := 2) (T := TX5) (N := 15) (ci := 5) (pc := 72) hC (c_X5_pull l w hw _ a.1 hσ (nO a.1 x y) (by omega) (3 - k) ⟨by omega, by omega⟩) gX5_dot_X5_pull rfl (by decide +kernel) (by decide) (by decide) rfl (by decide) (fun _ => rfl) rfl rfl (Nat.le_of_ble_eq_true rfl) dX5_dot_72 (zi_k fun r72 Ω72 h72 => ?_)
          obtain ⟨hr72, hm72⟩ := h72
          have hm72 := hm72.symm
          subst hm72
          exact z_iret (pc := 75) hC rfl ⟨_, rfl, by
      by_cases c : k = 2
      · rw [if_pos (by omega)] at hr72; subst hr72; exact ok_retM (by unfold aDot dotV; rw [if_pos ⟨by unfold dIn; omega, by omega⟩, if_neg (by omega), if_neg (by omega), if_pos c]) h (frG.refl _)
      · rw [if_neg (by omega)] at hr72; subst hr72; exact ok_retM (by unfold aDot dotV; rw [if_pos ⟨by unfold dIn; omega, by omega⟩, if_neg (by omega), if_neg (by omega), if_neg c]) h (frG.refl _)⟩ dX5_dot_75
        · refine z_aload_n (pc := 53) hC (i := 0) dX5_dot_53 rfl rfl ?_
          refine z_getR (C := RX5) (T := TX5) (N := 15) (ci := 5) (pc := 54) hC _ _ 0 in_X5_dot_X5 rfl (by decide) (fun _ => rfl) (by decide) fl_X5_dot_7 (fun _ => rfl) dX5_dot_54 ?_
          refine z_bipush (pc := 57) hC dX5_dot_57 rfl ?_
          refine z_iload (pc := 59) hC (i := 4) dX5_dot_59 rfl ?_
          refine z_iadd (pc := 61) hC dX5_dot_61 ?_
          refine z_ialk (pc := 62) hC _ (44 + nO a.1 x y) (by decide) (fun _ => rfl) (by omega) (by omega) (by decide) dX5_dot_62 ?_
          refine z_goto (pc := 63) hC 75 dX5_dot_63 rfl ?_
          exact z_iret (pc := 75) hC rfl ⟨_, rfl, by rw [st_at hσ (by omega)]; exact ok_retM (by unfold aDot dotV; rw [if_pos ⟨by unfold dIn; omega, by omega⟩, if_neg (by omega), if_pos (by omega)]) h (frG.refl _)⟩ dX5_dot_75
      · refine z_aload_n (pc := 35) hC (i := 0) dX5_dot_35 rfl rfl ?_
        refine z_getR (C := RX5) (T := TX5) (N := 15) (ci := 5) (pc := 36) hC _ _ 0 in_X5_dot_X5 rfl (by decide) (fun _ => rfl) (by decide) fl_X5_dot_7 (fun _ => rfl) dX5_dot_36 ?_
        refine z_bipush (pc := 39) hC dX5_dot_39 rfl ?_
        refine z_iload (pc := 41) hC (i := 4) dX5_dot_41 rfl ?_
        refine z_iadd (pc := 43) hC dX5_dot_43 ?_
        refine z_ialk (pc := 44) hC _ (8 + nO a.1 x y) (by decide) (fun _ => rfl) (by omega) (by omega) (by decide) dX5_dot_44 ?_
        refine z_goto (pc := 45) hC 75 dX5_dot_45 rfl ?_
        exact z_iret (pc := 75) hC rfl ⟨_, rfl, by rw [st_at hσ (by omega)]; exact ok_retM (by unfold aDot dotV; rw [if_pos ⟨by unfold dIn; omega, by omega⟩, if_pos (by omega)]) h (frG.refl _)⟩ dX5_dot_75
    · refine z_aload_n (pc := 18) hC (i := 0) dX5_dot_18 rfl rfl ?_
      refine z_callV (n := 0) (T := TX5) (N := 15) (ci := 5) (pc := 19) hC (c_X5_bad l w hw _) gX5_dot_X5_bad rfl (by decide +kernel) (by decide) (by decide) rfl (by decide) (fun _ => rfl) rfl rfl (Nat.le_of_ble_eq_true rfl) dX5_dot_19 (zi_k fun r19 Ω19 h19 => ?_)
      obtain ⟨rfl, rfl⟩ := h19
      exact z_iret (pc := 22) hC rfl ⟨_, rfl, bad_retM h (if_neg (by unfold dIn; omega))⟩ dX5_dot_22
theorem fl_X5_tells_45 : Cond.fieldLink RX5 45 "StrokeCutsModel" "states" "I" ∈ wsX5_tells := by decide +kernel
theorem in_X5_tells_X5 : ∀ x ∈ u_ws RX5 TX5 15, x ∈ wsX5_tells := by decide +kernel
theorem fl_X5_tells_189 : Cond.fieldLink RX5 189 "StrokeCutsModel" "letters" "I" ∈ wsX5_tells := by decide +kernel
theorem fl_X5_tells_7 : Cond.fieldLink RX5 7 "StrokeCutsModel" "st" "[I" ∈ wsX5_tells := by decide +kernel
theorem fl_X5_tells_16 : Cond.fieldLink RX5 16 "StrokeCutsModel" "refused" "[I" ∈ wsX5_tells := by decide +kernel
set_option maxHeartbeats 4000000 in
set_option maxRecDepth 100000 in
theorem c_X5_tells (l : Launch) (w : zP) (hw : zOK w) (Ω : Mem) (a : As) (h : RM Ω a) (k : Int) (hk : 0 ≤ k ∧ k ≤ 12) : zM l w yX5_tells wsX5_tells 0 0 [.ref (wa w 49), .int (zI k)] Ω (zi (fun r Ω1 => r = toldV a k ∧ Ω1 = Ω)) := by
  refine zM_of cX5_tells 2 (some .int) RX5 [some (.ref (wa w 49)), some (.int (zI k))] hw (by decide +kernel) rfl rfl (Nat.le_of_ble_eq_true rfl) rfl (fun E hC => ?_)
  have hσ := h.1.1
  refine z_iload_n (pc := 0) hC (i := 1) dX5_tells_0 rfl rfl ?_
  refine z_iconst (pc := 1) hC dX5_tells_1 ?_
  refine z_icmp_ge (pc := 2) hC 12 (by first | assumption | exact zb_gt _ _ _ | exact zcmp_zb _ _ | exact bI_zb _ | exact ⟨by omega, by omega⟩) (by first | assumption | exact zb_gt _ _ _ | exact zcmp_zb _ _ | exact bI_zb _ | exact ⟨by omega, by omega⟩) dX5_tells_2 rfl (fun h2 => ?_) (fun h2 => ?_)
  · refine z_iload_n (pc := 12) hC (i := 1) dX5_tells_12 rfl rfl ?_
    refine z_bipush (pc := 13) hC dX5_tells_13 rfl ?_
    refine z_icmp_ge (pc := 15) hC 29 (by first | assumption | exact zb_gt _ _ _ | exact zcmp_zb _ _ | exact bI_zb _ | exact ⟨by omega, by omega⟩) (by first | assumption | exact zb_gt _ _ _ | exact zcmp_zb _ _ | exact bI_zb _ | exact ⟨by omega, by omega⟩) dX5_tells_15 rfl (fun h15 => ?_) (fun h15 => ?_)
    · refine z_iload_n (pc := 29) hC (i := 1) dX5_tells_29 rfl rfl ?_
      refine z_bipush (pc := 30) hC dX5_tells_30 rfl ?_
      refine z_icmp_ne (pc := 32) hC 42 (by first | assumption | exact zb_gt _ _ _ | exact zcmp_zb _ _ | exact bI_zb _ | exact ⟨by omega, by omega⟩) (by first | assumption | exact zb_gt _ _ _ | exact zcmp_zb _ _ | exact bI_zb _ | exact ⟨by omega, by omega⟩) dX5_tells_32 rfl (fun h32 => ?_) (fun h32 => ?_)
      · refine z_aload_n (pc := 42) hC (i := 0) dX5_tells_42 rfl rfl ?_
        refine z_getI (C := RX5) (T := TX5) (N := 15) (ci := 5) (pc := 43) hC _ 2 in_X5_tells_X5 rfl (by decide) (fun _ => rfl) (by decide) fl_X5_tells_45 (fun _ => rfl) dX5_tells_43 ?_
        exact z_iret (pc := 46) hC rfl ⟨_, rfl, ⟨by unfold toldV; rw [if_neg (by omega), if_neg (by omega), if_neg (by omega)]; exact h.2.1.1, rfl⟩⟩ dX5_tells_46
      · refine z_aload_n (pc := 35) hC (i := 0) dX5_tells_35 rfl rfl ?_
        refine z_getI (C := RX5) (T := TX5) (N := 15) (ci := 5) (pc := 36) hC _ 5 in_X5_tells_X5 rfl (by decide) (fun _ => rfl) (by decide) fl_X5_tells_189 (fun _ => rfl) dX5_tells_36 ?_
        refine z_goto (pc := 39) hC 46 dX5_tells_39 rfl ?_
        exact z_iret (pc := 46) hC rfl ⟨_, rfl, ⟨by unfold toldV; rw [if_neg (by omega), if_neg (by omega), if_pos (by omega)]; exact h.2.2.2.1.1, rfl⟩⟩ dX5_tells_46
    · refine z_aload_n (pc := 18) hC (i := 0) dX5_tells_18 rfl rfl ?_
      refine z_getR (C := RX5) (T := TX5) (N := 15) (ci := 5) (pc := 19) hC _ _ 0 in_X5_tells_X5 rfl (by decide) (fun _ => rfl) (by decide) fl_X5_tells_7 (fun _ => rfl) dX5_tells_19 ?_
      refine z_iload_n (pc := 22) hC (i := 1) dX5_tells_22 rfl rfl ?_
      refine z_iconst (pc := 23) hC dX5_tells_23 ?_
      refine z_isub (pc := 24) hC dX5_tells_24 ?_
      refine z_ialk (pc := 25) hC _ (k.toNat - 3) (by decide) (fun _ => rfl) (by omega) (by omega) (by decide) dX5_tells_25 ?_
      refine z_goto (pc := 26) hC 46 dX5_tells_26 rfl ?_
      exact z_iret (pc := 46) hC rfl ⟨_, rfl, ⟨by unfold toldV; rw [if_neg (by omega), if_pos (by omega)]; exact st_at hσ (by omega), rfl⟩⟩ dX5_tells_46
  · refine z_aload_n (pc := 5) hC (i := 0) dX5_tells_5 rfl rfl ?_
    refine z_getR (C := RX5) (T := TX5) (N := 15) (ci := 5) (pc := 6) hC _ _ 3 in_X5_tells_X5 rfl (by decide) (fun _ => rfl) (by decide) fl_X5_tells_16 (fun _ => rfl) dX5_tells_6 ?_
    refine z_iload_n (pc := 9) hC (i := 1) dX5_tells_9 rfl rfl ?_
    refine z_ialk (pc := 10) hC _ k.toNat (by decide) (fun _ => rfl) (by omega) (by omega) (by decide) dX5_tells_10 ?_
    exact z_iret (pc := 11) hC rfl ⟨_, rfl, ⟨by unfold toldV; rw [if_pos (by omega)]; exact congrArg Int32.toInt (h.2.2.1 k.toNat (by omega)), rfl⟩⟩ dX5_tells_11
set_option maxHeartbeats 4000000 in
set_option maxRecDepth 100000 in
theorem c_X5_told (l : Launch) (w : zP) (hw : zOK w) (Ω : Mem) (a : As) (h : RM Ω a) (k : Int) (hk : zb k) : zM l w yX5_told wsX5_told 1 22 [.ref (wa w 49), .int (zI k)] Ω (zi (fun r Ω1 => r = (aTold a k).1 ∧ RM Ω1 (aTold a k).2 ∧ frG Ω Ω1)) := by
  refine zM_of cX5_told 2 (some .int) RX5 [some (.ref (wa w 49)), some (.int (zI k))] hw (by decide +kernel) rfl rfl (Nat.le_of_ble_eq_true rfl) rfl (fun E hC => ?_)
  refine z_iload_n (pc := 0) hC (i := 1) dX5_told_0 rfl rfl ?_
  refine z_iconst (pc := 1) hC dX5_told_1 ?_
  refine z_bipush (pc := 2) hC dX5_told_2 rfl ?_
  refine z_callS (n := 3) (pc := 4) hC (c_X5_in l w hw _ _ _ _ (by first | assumption | exact zb_gt _ _ _ | exact zcmp_zb _ _ | exact bI_zb _ | exact ⟨by omega, by omega⟩) (by first | assumption | exact zb_gt _ _ _ | exact zcmp_zb _ _ | exact bI_zb _ | exact ⟨by omega, by omega⟩) (by first | assumption | exact zb_gt _ _ _ | exact zcmp_zb _ _ | exact bI_zb _ | exact ⟨by omega, by omega⟩)) gX5_told_X5_in rfl (by decide +kernel) (by decide) (by decide) rfl rfl (Nat.le_of_ble_eq_true rfl) dX5_told_4 (zb_k fun r4 Ω4 h4 => ?_)
  obtain ⟨rfl, hM4⟩ := h4
  obtain rfl := hM4.symm
  refine z_ifd_eq (pc := 7) hC 18 dX5_told_7 rfl (fun h7 => ?_) (fun h7 => ?_)
  · refine z_aload_n (pc := 18) hC (i := 0) dX5_told_18 rfl rfl ?_
    refine z_callV (n := 0) (T := TX5) (N := 15) (ci := 5) (pc := 19) hC (c_X5_bad l w hw _) gX5_told_X5_bad rfl (by decide +kernel) (by decide) (by decide) rfl (by decide) (fun _ => rfl) rfl rfl (Nat.le_of_ble_eq_true rfl) dX5_told_19 (zi_k fun r19 Ω19 h19 => ?_)
    obtain ⟨rfl, rfl⟩ := h19
    exact z_iret (pc := 22) hC rfl ⟨_, rfl, bad_retM h (if_neg (by omega))⟩ dX5_told_22
  · refine z_aload_n (pc := 10) hC (i := 0) dX5_told_10 rfl rfl ?_
    refine z_iload_n (pc := 11) hC (i := 1) dX5_told_11 rfl rfl ?_
    refine z_callV (n := 1) (T := TX5) (N := 15) (ci := 5) (pc := 12) hC (c_X5_tells l w hw _ a h k (by omega)) gX5_told_X5_tells rfl (by decide +kernel) (by decide) (by decide) rfl (by decide) (fun _ => rfl) rfl rfl (Nat.le_of_ble_eq_true rfl) dX5_told_12 (zi_k fun r12 Ω12 h12 => ?_)
    obtain ⟨rfl, hM12⟩ := h12
    obtain rfl := hM12.symm
    refine z_goto (pc := 15) hC 22 dX5_told_15 rfl ?_
    exact z_iret (pc := 22) hC rfl ⟨_, rfl, ok_retM (if_pos (by omega)) h (frG.refl _)⟩ dX5_told_22
