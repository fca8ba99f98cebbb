set_option maxHeartbeats 4000000 in
set_option maxRecDepth 100000 in
theorem c_X4_has (l : Launch) (w : zP) (hw : zOK w) (Ω : Mem) (x : Int64) (k : Nat) (h1 : k < 64) : zM l w yX4_has wsX4_has 0 0 [.long x, .int (zI (k : Int))] Ω (zbo (fun b Ω1 => b = decide (tb x k = true) ∧ Ω1 = Ω)) := by
  refine zM_of cX4_has 3 (some .boolean) RX4 [some (.long x), none, some (.int (zI (k : Int)))] hw (by decide +kernel) rfl rfl (Nat.le_of_ble_eq_true rfl) rfl (fun E hC => ?_)
  refine z_lload_n (pc := 0) hC (i := 0) dX4_has_0 rfl rfl ?_
  refine z_iload_n (pc := 1) hC (i := 2) dX4_has_1 rfl rfl ?_
  refine z_lushr (pc := 2) hC rfl dX4_has_2 ?_
  refine z_lconst (pc := 3) hC (v := 1) dX4_has_3 rfl ?_
  refine z_land (pc := 4) hC dX4_has_4 ?_
  refine z_lconst (pc := 5) hC (v := 0) dX4_has_5 rfl ?_
  refine z_lcmp (pc := 6) hC dX4_has_6 ?_
  refine z_if_eq (pc := 7) hC 14 (by first | assumption | exact zb_gt _ _ _ | exact zcmp_zb _ _ | exact bI_zb _ | exact ⟨by omega, by omega⟩) dX4_has_7 rfl (fun h7 => ?_) (fun h7 => ?_)
  · refine z_iconst (pc := 14) hC dX4_has_14 ?_
    exact z_zret (b := false) (pc := 15) hC rfl ⟨false, rfl, ⟨(decide_eq_false (by have := (tb_test x (n := k) h1).mp h7; simp [this])).symm, rfl⟩⟩ dX4_has_15
  · refine z_iconst (pc := 10) hC dX4_has_10 ?_
    refine z_goto (pc := 11) hC 15 dX4_has_11 rfl ?_
    exact z_zret (b := true) (pc := 15) hC rfl ⟨true, rfl, ⟨(decide_eq_true (by have := mt (tb_test x (n := k) h1).mpr h7; simpa using this)).symm, rfl⟩⟩ dX4_has_15
def alld (n : Int) : Int64 := ((1 : Int64) <<< ((zI n).toInt64 &&& 63)) - 1
set_option maxHeartbeats 4000000 in
set_option maxRecDepth 100000 in
theorem c_X2_allDots (l : Launch) (w : zP) (hw : zOK w) (Ω : Mem) : zM l w yX2_allDots wsX2_allDots 1 20 [.ref (wa w 13)] Ω (zlo (fun r Ω1 => r = alld (gt Ω 13 0 * gt Ω 13 1) ∧ Ω1 = Ω)) := by
  refine zM_of cX2_allDots 1 (some .long) RX2 [some (.ref (wa w 13))] hw (by decide +kernel) rfl rfl (Nat.le_of_ble_eq_true rfl) rfl (fun E hC => ?_)
  refine z_lconst (pc := 0) hC (v := 1) dX2_allDots_0 rfl ?_
  refine z_aload_n (pc := 1) hC (i := 0) dX2_allDots_1 rfl rfl ?_
  refine z_callV (n := 0) (T := TX2) (N := 5) (ci := 2) (pc := 2) hC (c_X2_dots l w hw _) gX2_allDots_X2_dots rfl (by decide +kernel) (by decide) (by decide) rfl (by decide) (fun _ => rfl) rfl rfl (Nat.le_of_ble_eq_true rfl) dX2_allDots_2 (zi_k fun r2 Ω2 h2 => ?_)
  obtain ⟨rfl, hM2⟩ := h2
  obtain rfl := hM2.symm
  refine z_lshl (pc := 5) hC rfl dX2_allDots_5 ?_
  refine z_lconst (pc := 6) hC (v := 1) dX2_allDots_6 rfl ?_
  refine z_lsub (pc := 7) hC dX2_allDots_7 ?_
  exact z_lret (pc := 8) hC rfl ⟨_, rfl, ⟨rfl, rfl⟩⟩ dX2_allDots_8
theorem lk_le {d : Nat} (h : d < 4) : (-1 ≤ lkX d ∧ lkX d ≤ 1) ∧ (0 ≤ lkY d ∧ lkY d ≤ 1) := by
  rcases (by omega : d = 0 ∨ d = 1 ∨ d = 2 ∨ d = 3) with rfl | rfl | rfl | rfl <;> decide
theorem fl_X2_linkedTo_9 : Cond.fieldLink RX2 9 "StrokeCuts$Scene" "settings" "[I" ∈ wsX2_linkedTo := by decide +kernel
theorem in_X2_linkedTo_X2 : ∀ x ∈ u_ws RX2 TX2 5, x ∈ wsX2_linkedTo := by decide +kernel
set_option maxHeartbeats 4000000 in
set_option maxRecDepth 100000 in
theorem c_X2_linkedTo (l : Launch) (w : zP) (hw : zOK w) (Ω : Mem) (x y : Int) (d : Nat) (hv : scok (scC Ω)) (hx : 0 ≤ x ∧ x < gt Ω 13 0) (hy : 0 ≤ y ∧ y < gt Ω 13 1) (hd : d < 4) : zM l w yX2_linkedTo wsX2_linkedTo 1 22 [.ref (wa w 13), .int (zI x), .int (zI y), .int (zI (d : Int))] Ω (zi (fun r Ω1 => r = sLk (scC Ω) x y d ∧ Ω1 = Ω)) := by
  refine zM_of cX2_linkedTo 6 (some .int) RX2 [some (.ref (wa w 13)), some (.int (zI x)), some (.int (zI y)), some (.int (zI (d : Int))), none, none] hw (by decide +kernel) rfl rfl (Nat.le_of_ble_eq_true rfl) rfl (fun E hC => ?_)
  have hl := lk_le hd
  obtain ⟨⟨hW1, hW2⟩, ⟨hH1, hH2⟩, -⟩ := id hv
  rw [scC_0] at hW1 hW2
  rw [scC_1] at hH1 hH2
  refine z_iload_n (pc := 0) hC (i := 3) dX2_linkedTo_0 rfl rfl ?_
  refine z_iconst (pc := 1) hC dX2_linkedTo_1 ?_
  refine z_icmp_lt (pc := 2) hC 18 (by first | assumption | exact zb_gt _ _ _ | exact zcmp_zb _ _ | exact bI_zb _ | exact ⟨by omega, by omega⟩) (by first | assumption | exact zb_gt _ _ _ | exact zcmp_zb _ _ | exact bI_zb _ | exact ⟨by omega, by omega⟩) dX2_linkedTo_2 rfl (fun h2 => ?_) (fun h2 => ?_)
  · refine z_iload_n (pc := 18) hC (i := 1) dX2_linkedTo_18 rfl rfl ?_
    refine z_getsN (pc := 19) hC 2 (by decide) (hC.2.2.2.2.2.2.2.2.1.2.2.1) dX2_linkedTo_19 ?_
    refine z_iload_n (pc := 22) hC (i := 3) dX2_linkedTo_22 rfl rfl ?_
    refine z_talk (pc := 23) hC 2 _ (by decide) rfl (by show _ < 4; omega) dX2_linkedTo_23 ?_
    refine z_iadd (pc := 24) hC dX2_linkedTo_24 ?_
    refine z_istore (pc := 25) hC (i := 4) dX2_linkedTo_25 (by decide) rfl (zS_s (zS_s (zS_s (zS_s zS_0)))) ?_
    refine z_iload_n (pc := 27) hC (i := 2) dX2_linkedTo_27 rfl rfl ?_
    refine z_getsN (pc := 28) hC 3 (by decide) (hC.2.2.2.2.2.2.2.2.1.2.2.2) dX2_linkedTo_28 ?_
    refine z_iload_n (pc := 31) hC (i := 3) dX2_linkedTo_31 rfl rfl ?_
    refine z_talk (pc := 32) hC 3 _ (by decide) rfl (by show _ < 4; omega) dX2_linkedTo_32 ?_
    refine z_iadd (pc := 33) hC dX2_linkedTo_33 ?_
    refine z_istore (pc := 34) hC (i := 5) dX2_linkedTo_34 (by decide) rfl (zS_s (zS_s (zS_s (zS_s (zS_s zS_0))))) ?_
    refine z_aload_n (pc := 36) hC (i := 0) dX2_linkedTo_36 rfl rfl ?_
    refine z_iload (pc := 37) hC (i := 4) dX2_linkedTo_37 rfl ?_
    refine z_iload (pc := 39) hC (i := 5) dX2_linkedTo_39 rfl ?_
    refine z_callV (n := 2) (T := TX2) (N := 5) (ci := 2) (pc := 41) hC (c_X2_hasDot l w hw _ (x + lkX d) (y + lkY d) ⟨by omega, by omega⟩ ⟨by omega, by omega⟩) gX2_linkedTo_X2_hasDot rfl (by decide +kernel) (by decide) (by decide) rfl (by decide) (fun _ => rfl) rfl rfl (Nat.le_of_ble_eq_true rfl) dX2_linkedTo_41 (zb_k fun r41 Ω41 h41 => ?_)
    obtain ⟨rfl, hM41⟩ := h41
    obtain rfl := hM41.symm
    refine z_ifd_eq (pc := 44) hC 58 dX2_linkedTo_44 rfl (fun h44 => ?_) (fun h44 => ?_)
    · refine z_iconst (pc := 58) hC dX2_linkedTo_58 ?_
      exact z_iret (pc := 59) hC rfl ⟨_, rfl, ⟨by unfold sLk; rw [scC_7, scC_0, scC_1]; split <;> first | omega | rfl | (split <;> first | rfl | omega | (exfalso; omega)), rfl⟩⟩ dX2_linkedTo_59
    · refine z_aload_n (pc := 47) hC (i := 0) dX2_linkedTo_47 rfl rfl ?_
      refine z_iload (pc := 48) hC (i := 4) dX2_linkedTo_48 rfl ?_
      refine z_iload (pc := 50) hC (i := 5) dX2_linkedTo_50 rfl ?_
      refine z_callV (n := 2) (T := TX2) (N := 5) (ci := 2) (pc := 52) hC (c_X2_numberOf l w hw _ (x + lkX d) (y + lkY d)) gX2_linkedTo_X2_numberOf rfl (by decide +kernel) (by decide) (by decide) rfl (by decide) (fun _ => rfl) rfl rfl (Nat.le_of_ble_eq_true rfl) dX2_linkedTo_52 (zi_k fun r52 Ω52 h52 => ?_)
      obtain ⟨rfl, hM52⟩ := h52
      obtain rfl := hM52.symm
      refine z_goto (pc := 55) hC 59 dX2_linkedTo_55 rfl ?_
      exact z_iret (pc := 59) hC rfl ⟨_, rfl, ⟨by unfold sLk; rw [scC_7, scC_0, scC_1]; split <;> first | omega | rfl | (split <;> first | rfl | omega | (exfalso; omega)), rfl⟩⟩ dX2_linkedTo_59
  · refine z_aload_n (pc := 5) hC (i := 0) dX2_linkedTo_5 rfl rfl ?_
    refine z_getR (C := RX2) (T := TX2) (N := 5) (ci := 2) (pc := 6) hC (.ref (wa w 14)) _ 2 in_X2_linkedTo_X2 rfl (by decide) (fun _ => rfl) (by decide) fl_X2_linkedTo_9 (fun _ => rfl) dX2_linkedTo_6 ?_
    refine z_iconst (pc := 9) hC dX2_linkedTo_9 ?_
    refine z_ialk (pc := 10) hC _ 5 (by decide) (fun _ => rfl) rfl (by decide) (by decide) dX2_linkedTo_10 ?_
    refine z_bipush (pc := 11) hC dX2_linkedTo_11 rfl ?_
    refine z_icmp_eq (pc := 13) hC 18 (by first | assumption | exact zb_gt _ _ _ | exact zcmp_zb _ _ | exact bI_zb _ | exact ⟨by omega, by omega⟩) (by first | assumption | exact zb_gt _ _ _ | exact zcmp_zb _ _ | exact bI_zb _ | exact ⟨by omega, by omega⟩) dX2_linkedTo_13 rfl (fun h13 => ?_) (fun h13 => ?_)
    · refine z_iload_n (pc := 18) hC (i := 1) dX2_linkedTo_18 rfl rfl ?_
      refine z_getsN (pc := 19) hC 2 (by decide) (hC.2.2.2.2.2.2.2.2.1.2.2.1) dX2_linkedTo_19 ?_
      refine z_iload_n (pc := 22) hC (i := 3) dX2_linkedTo_22 rfl rfl ?_
      refine z_talk (pc := 23) hC 2 _ (by decide) rfl (by show _ < 4; omega) dX2_linkedTo_23 ?_
      refine z_iadd (pc := 24) hC dX2_linkedTo_24 ?_
      refine z_istore (pc := 25) hC (i := 4) dX2_linkedTo_25 (by decide) rfl (zS_s (zS_s (zS_s (zS_s zS_0)))) ?_
      refine z_iload_n (pc := 27) hC (i := 2) dX2_linkedTo_27 rfl rfl ?_
      refine z_getsN (pc := 28) hC 3 (by decide) (hC.2.2.2.2.2.2.2.2.1.2.2.2) dX2_linkedTo_28 ?_
      refine z_iload_n (pc := 31) hC (i := 3) dX2_linkedTo_31 rfl rfl ?_
      refine z_talk (pc := 32) hC 3 _ (by decide) rfl (by show _ < 4; omega) dX2_linkedTo_32 ?_
      refine z_iadd (pc := 33) hC dX2_linkedTo_33 ?_
      refine z_istore (pc := 34) hC (i := 5) dX2_linkedTo_34 (by decide) rfl (zS_s (zS_s (zS_s (zS_s (zS_s zS_0))))) ?_
      refine z_aload_n (pc := 36) hC (i := 0) dX2_linkedTo_36 rfl rfl ?_
      refine z_iload (pc := 37) hC (i := 4) dX2_linkedTo_37 rfl ?_
      refine z_iload (pc := 39) hC (i := 5) dX2_linkedTo_39 rfl ?_
      refine z_callV (n := 2) (T := TX2) (N := 5) (ci := 2) (pc := 41) hC (c_X2_hasDot l w hw _ (x + lkX d) (y + lkY d) ⟨by omega, by omega⟩ ⟨by omega, by omega⟩) gX2_linkedTo_X2_hasDot rfl (by decide +kernel) (by decide) (by decide) rfl (by decide) (fun _ => rfl) rfl rfl (Nat.le_of_ble_eq_true rfl) dX2_linkedTo_41 (zb_k fun r41 Ω41 h41 => ?_)
      obtain ⟨rfl, hM41⟩ := h41
      obtain rfl := hM41.symm
      refine z_ifd_eq (pc := 44) hC 58 dX2_linkedTo_44 rfl (fun h44 => ?_) (fun h44 => ?_)
      · refine z_iconst (pc := 58) hC dX2_linkedTo_58 ?_
        exact z_iret (pc := 59) hC rfl ⟨_, rfl, ⟨by unfold sLk; rw [scC_7, scC_0, scC_1]; split <;> first | omega | rfl | (split <;> first | rfl | omega | (exfalso; omega)), rfl⟩⟩ dX2_linkedTo_59
      · refine z_aload_n (pc := 47) hC (i := 0) dX2_linkedTo_47 rfl rfl ?_
        refine z_iload (pc := 48) hC (i := 4) dX2_linkedTo_48 rfl ?_
        refine z_iload (pc := 50) hC (i := 5) dX2_linkedTo_50 rfl ?_
        refine z_callV (n := 2) (T := TX2) (N := 5) (ci := 2) (pc := 52) hC (c_X2_numberOf l w hw _ (x + lkX d) (y + lkY d)) gX2_linkedTo_X2_numberOf rfl (by decide +kernel) (by decide) (by decide) rfl (by decide) (fun _ => rfl) rfl rfl (Nat.le_of_ble_eq_true rfl) dX2_linkedTo_52 (zi_k fun r52 Ω52 h52 => ?_)
        obtain ⟨rfl, hM52⟩ := h52
        obtain rfl := hM52.symm
        refine z_goto (pc := 55) hC 59 dX2_linkedTo_55 rfl ?_
        exact z_iret (pc := 59) hC rfl ⟨_, rfl, ⟨by unfold sLk; rw [scC_7, scC_0, scC_1]; split <;> first | omega | rfl | (split <;> first | rfl | omega | (exfalso; omega)), rfl⟩⟩ dX2_linkedTo_59
    · refine z_iconst (pc := 16) hC dX2_linkedTo_16 ?_
      exact z_iret (pc := 17) hC rfl ⟨_, rfl, ⟨by unfold sLk; rw [scC_7, if_pos ⟨by omega, h13⟩], rfl⟩⟩ dX2_linkedTo_17
theorem fl_X2_pullFrom_9 : Cond.fieldLink RX2 9 "StrokeCuts$Scene" "settings" "[I" ∈ wsX2_pullFrom := by decide +kernel
theorem in_X2_pullFrom_X2 : ∀ x ∈ u_ws RX2 TX2 5, x ∈ wsX2_pullFrom := by decide +kernel
theorem fl_X2_pullFrom_15 : Cond.fieldLink RX2 15 "StrokeCuts$Scene" "shades" "[I" ∈ wsX2_pullFrom := by decide +kernel
theorem ml_X2_pullFrom_52 : Cond.methodLink RX2 52 Lib.Math.abs.name ∈ wsX2_pullFrom := by decide +kernel
theorem ms_X2_pullFrom_abs : Cond.static Lib.Math.abs.name ∈ wsX2_pullFrom := by decide +kernel
theorem mi_X2_pullFrom_Math : Cond.initialized "java/lang/Math" ∈ wsX2_pullFrom := by decide +kernel
theorem mc_X2_pullFrom_abs : Cond.code Lib.Math.abs.name Lib.Math.abs.code 1 (some .int) ∈ wsX2_pullFrom := by decide +kernel
set_option maxHeartbeats 4000000 in
set_option maxRecDepth 100000 in
theorem c_X2_pullFrom (l : Launch) (w : zP) (hw : zOK w) (Ω : Mem) (k t : Nat) (hv : scok (scC Ω)) (hk : k < 36) (ht : t = 3 ∨ t = 4) : zM l w yX2_pullFrom wsX2_pullFrom 1 21 [.ref (wa w 13), .int (zI (k : Int)), .int (zI (t : Int))] Ω (zi (fun r Ω1 => r = sPl (scC Ω) k t ∧ Ω1 = Ω)) := by
  refine zM_of cX2_pullFrom 3 (some .int) RX2 [some (.ref (wa w 13)), some (.int (zI (k : Int))), some (.int (zI (t : Int)))] hw (by decide +kernel) rfl rfl (Nat.le_of_ble_eq_true rfl) rfl (fun E hC => ?_)
  have h1 := hv.2.2.2.2.2.2.2.2.1 k hk
  rw [scC_sh Ω hk] at h1
  have h2 : 0 ≤ gt Ω 14 t ∧ gt Ω 14 t ≤ 9 := by
    obtain ⟨-, -, -, -, -, h5, h6, -⟩ := hv
    rw [scC_5] at h5
    rw [scC_6] at h6
    rcases ht with rfl | rfl
    · exact h5
    · exact h6
  refine z_aload_n (pc := 0) hC (i := 0) dX2_pullFrom_0 rfl rfl ?_
  refine z_getR (C := RX2) (T := TX2) (N := 5) (ci := 2) (pc := 1) hC (.ref (wa w 14)) _ 2 in_X2_pullFrom_X2 rfl (by decide) (fun _ => rfl) (by decide) fl_X2_pullFrom_9 (fun _ => rfl) dX2_pullFrom_1 ?_
  refine z_iconst (pc := 4) hC dX2_pullFrom_4 ?_
  refine z_ialk (pc := 5) hC _ 2 (by decide) (fun _ => rfl) rfl (by decide) (by decide) dX2_pullFrom_5 ?_
  refine z_aload_n (pc := 6) hC (i := 0) dX2_pullFrom_6 rfl rfl ?_
  refine z_getR (C := RX2) (T := TX2) (N := 5) (ci := 2) (pc := 7) hC (.ref (wa w 15)) _ 3 in_X2_pullFrom_X2 rfl (by decide) (fun _ => rfl) (by decide) fl_X2_pullFrom_15 (fun _ => rfl) dX2_pullFrom_7 ?_
  refine z_iload_n (pc := 10) hC (i := 1) dX2_pullFrom_10 rfl rfl ?_
  refine z_ialk (pc := 11) hC _ _ (by decide) (fun _ => rfl) rfl (by omega) (by decide) dX2_pullFrom_11 ?_
  refine z_aload_n (pc := 12) hC (i := 0) dX2_pullFrom_12 rfl rfl ?_
  refine z_getR (C := RX2) (T := TX2) (N := 5) (ci := 2) (pc := 13) hC (.ref (wa w 14)) _ 2 in_X2_pullFrom_X2 rfl (by decide) (fun _ => rfl) (by decide) fl_X2_pullFrom_9 (fun _ => rfl) dX2_pullFrom_13 ?_
  refine z_iload_n (pc := 16) hC (i := 2) dX2_pullFrom_16 rfl rfl ?_
  refine z_ialk (pc := 17) hC _ t (by decide) (fun _ => rfl) rfl (by omega) (by decide) dX2_pullFrom_17 ?_
  refine z_isub (pc := 18) hC dX2_pullFrom_18 ?_
  refine z_mabs (pc := 19) hC (by first | assumption | exact zb_gt _ _ _ | exact zcmp_zb _ _ | exact bI_zb _ | exact ⟨by omega, by omega⟩) ml_X2_pullFrom_52 ms_X2_pullFrom_abs mi_X2_pullFrom_Math mc_X2_pullFrom_abs (by decide) (Nat.le_of_ble_eq_true rfl) dX2_pullFrom_19 ?_
  refine z_imul (pc := 22) hC dX2_pullFrom_22 ?_
  exact z_iret (pc := 23) hC rfl ⟨_, rfl, ⟨by unfold sPl; rw [scC_4, scC_sh Ω hk, scC_se Ω (by omega)], rfl⟩⟩ dX2_pullFrom_23
theorem fl_X2_weightOf_15 : Cond.fieldLink RX2 15 "StrokeCuts$Scene" "shades" "[I" ∈ wsX2_weightOf := by decide +kernel
theorem in_X2_weightOf_X2 : ∀ x ∈ u_ws RX2 TX2 5, x ∈ wsX2_weightOf := by decide +kernel
theorem ml_X2_weightOf_52 : Cond.methodLink RX2 52 Lib.Math.abs.name ∈ wsX2_weightOf := by decide +kernel
theorem ms_X2_weightOf_abs : Cond.static Lib.Math.abs.name ∈ wsX2_weightOf := by decide +kernel
theorem mi_X2_weightOf_Math : Cond.initialized "java/lang/Math" ∈ wsX2_weightOf := by decide +kernel
theorem mc_X2_weightOf_abs : Cond.code Lib.Math.abs.name Lib.Math.abs.code 1 (some .int) ∈ wsX2_weightOf := by decide +kernel
theorem fl_X2_weightOf_9 : Cond.fieldLink RX2 9 "StrokeCuts$Scene" "settings" "[I" ∈ wsX2_weightOf := by decide +kernel
theorem ml_X2_weightOf_58 : Cond.methodLink RX2 58 Lib.Math.max.name ∈ wsX2_weightOf := by decide +kernel
theorem ms_X2_weightOf_max : Cond.static Lib.Math.max.name ∈ wsX2_weightOf := by decide +kernel
theorem mc_X2_weightOf_max : Cond.code Lib.Math.max.name Lib.Math.max.code 2 (some .int) ∈ wsX2_weightOf := by decide +kernel
set_option maxHeartbeats 4000000 in
set_option maxRecDepth 100000 in
theorem c_X2_weightOf (l : Launch) (w : zP) (hw : zOK w) (Ω : Mem) (a c d : Nat) (hv : scok (scC Ω)) (ha : a < 36) (hc : c < 36) (hd : d < 4) : zM l w yX2_weightOf wsX2_weightOf 1 21 [.ref (wa w 13), .int (zI (a : Int)), .int (zI (c : Int)), .int (zI (d : Int))] Ω (zi (fun r Ω1 => r = sWt (scC Ω) a c d ∧ Ω1 = Ω)) := by
  refine zM_of cX2_weightOf 6 (some .int) RX2 [some (.ref (wa w 13)), some (.int (zI (a : Int))), some (.int (zI (c : Int))), some (.int (zI (d : Int))), none, none] hw (by decide +kernel) rfl rfl (Nat.le_of_ble_eq_true rfl) rfl (fun E hC => ?_)
  have h1 := hv.2.2.2.2.2.2.2.2.1 a ha
  rw [scC_sh Ω ha] at h1
  have h2 := hv.2.2.2.2.2.2.2.2.1 c hc
  rw [scC_sh Ω hc] at h2
  obtain ⟨-, -, h3, h4, -⟩ := id hv
  rw [scC_2] at h3
  rw [scC_3] at h4
  have h5 := zabs_le (a := gt Ω 15 a - gt Ω 15 c) (b := 9) (by omega) (by omega)
  have h6 := mul_le2 h4.1 h4.2 h5.1 h5.2
  refine z_aload_n (pc := 0) hC (i := 0) dX2_weightOf_0 rfl rfl ?_
  refine z_getR (C := RX2) (T := TX2) (N := 5) (ci := 2) (pc := 1) hC (.ref (wa w 15)) _ 3 in_X2_weightOf_X2 rfl (by decide) (fun _ => rfl) (by decide) fl_X2_weightOf_15 (fun _ => rfl) dX2_weightOf_1 ?_
  refine z_iload_n (pc := 4) hC (i := 1) dX2_weightOf_4 rfl rfl ?_
  refine z_ialk (pc := 5) hC _ _ (by decide) (fun _ => rfl) rfl (by omega) (by decide) dX2_weightOf_5 ?_
  refine z_aload_n (pc := 6) hC (i := 0) dX2_weightOf_6 rfl rfl ?_
  refine z_getR (C := RX2) (T := TX2) (N := 5) (ci := 2) (pc := 7) hC (.ref (wa w 15)) _ 3 in_X2_weightOf_X2 rfl (by decide) (fun _ => rfl) (by decide) fl_X2_weightOf_15 (fun _ => rfl) dX2_weightOf_7 ?_
  refine z_iload_n (pc := 10) hC (i := 2) dX2_weightOf_10 rfl rfl ?_
  refine z_ialk (pc := 11) hC _ _ (by decide) (fun _ => rfl) rfl (by omega) (by decide) dX2_weightOf_11 ?_
  refine z_isub (pc := 12) hC dX2_weightOf_12 ?_
  refine z_mabs (pc := 13) hC (by first | assumption | exact zb_gt _ _ _ | exact zcmp_zb _ _ | exact bI_zb _ | exact ⟨by omega, by omega⟩) ml_X2_weightOf_52 ms_X2_weightOf_abs mi_X2_weightOf_Math mc_X2_weightOf_abs (by decide) (Nat.le_of_ble_eq_true rfl) dX2_weightOf_13 ?_
  refine z_istore (pc := 16) hC (i := 4) dX2_weightOf_16 (by decide) rfl (zS_s (zS_s (zS_s (zS_s zS_0)))) ?_
  refine z_iconst (pc := 18) hC dX2_weightOf_18 ?_
  refine z_aload_n (pc := 19) hC (i := 0) dX2_weightOf_19 rfl rfl ?_
  refine z_getR (C := RX2) (T := TX2) (N := 5) (ci := 2) (pc := 20) hC (.ref (wa w 14)) _ 2 in_X2_weightOf_X2 rfl (by decide) (fun _ => rfl) (by decide) fl_X2_weightOf_9 (fun _ => rfl) dX2_weightOf_20 ?_
  refine z_iconst (pc := 23) hC dX2_weightOf_23 ?_
  refine z_ialk (pc := 24) hC _ 0 (by decide) (fun _ => rfl) rfl (by decide) (by decide) dX2_weightOf_24 ?_
  refine z_aload_n (pc := 25) hC (i := 0) dX2_weightOf_25 rfl rfl ?_
  refine z_getR (C := RX2) (T := TX2) (N := 5) (ci := 2) (pc := 26) hC (.ref (wa w 14)) _ 2 in_X2_weightOf_X2 rfl (by decide) (fun _ => rfl) (by decide) fl_X2_weightOf_9 (fun _ => rfl) dX2_weightOf_26 ?_
  refine z_iconst (pc := 29) hC dX2_weightOf_29 ?_
  refine z_ialk (pc := 30) hC _ 1 (by decide) (fun _ => rfl) rfl (by decide) (by decide) dX2_weightOf_30 ?_
  refine z_iload (pc := 31) hC (i := 4) dX2_weightOf_31 rfl ?_
  refine z_imul (pc := 33) hC dX2_weightOf_33 ?_
  refine z_isub (pc := 34) hC dX2_weightOf_34 ?_
  refine z_mmax (pc := 35) hC (by first | assumption | exact zb_gt _ _ _ | exact zcmp_zb _ _ | exact bI_zb _ | exact ⟨by omega, by omega⟩) (by first | assumption | exact zb_gt _ _ _ | exact zcmp_zb _ _ | exact bI_zb _ | exact ⟨by omega, by omega⟩) ml_X2_weightOf_58 ms_X2_weightOf_max mi_X2_weightOf_Math mc_X2_weightOf_max (by decide) (Nat.le_of_ble_eq_true rfl) dX2_weightOf_35 ?_
  refine z_istore (pc := 38) hC (i := 5) dX2_weightOf_38 (by decide) rfl (zS_s (zS_s (zS_s (zS_s (zS_s zS_0))))) ?_
  refine z_iload_n (pc := 40) hC (i := 3) dX2_weightOf_40 rfl rfl ?_
  refine z_iconst (pc := 41) hC dX2_weightOf_41 ?_
  refine z_icmp_ge (pc := 42) hC 50 (by first | assumption | exact zb_gt _ _ _ | exact zcmp_zb _ _ | exact bI_zb _ | exact ⟨by omega, by omega⟩) (by first | assumption | exact zb_gt _ _ _ | exact zcmp_zb _ _ | exact bI_zb _ | exact ⟨by omega, by omega⟩) dX2_weightOf_42 rfl (fun h42 => ?_) (fun h42 => ?_)
  · refine z_iconst (pc := 50) hC dX2_weightOf_50 ?_
    refine z_iload (pc := 51) hC (i := 5) dX2_weightOf_51 rfl ?_
    refine z_iconst (pc := 53) hC dX2_weightOf_53 ?_
    refine z_idiv (pc := 54) hC (by first | assumption | exact zb_gt _ _ _ | exact zcmp_zb _ _ | exact bI_zb _ | exact ⟨by omega, by omega⟩) (by first | assumption | exact zb_gt _ _ _ | exact zcmp_zb _ _ | exact bI_zb _ | exact ⟨by omega, by omega⟩) (by omega) dX2_weightOf_54 ?_
    rw [Int.tdiv_eq_ediv_of_nonneg (by omega)]
    refine z_mmax (pc := 55) hC (by first | assumption | exact zb_gt _ _ _ | exact zcmp_zb _ _ | exact bI_zb _ | exact ⟨by omega, by omega⟩) (by first | assumption | exact zb_gt _ _ _ | exact zcmp_zb _ _ | exact bI_zb _ | exact ⟨by omega, by omega⟩) ml_X2_weightOf_58 ms_X2_weightOf_max mi_X2_weightOf_Math mc_X2_weightOf_max (by decide) (Nat.le_of_ble_eq_true rfl) dX2_weightOf_55 ?_
    exact z_iret (pc := 58) hC rfl ⟨_, rfl, ⟨by unfold sWt; rw [scC_2, scC_3, scC_sh Ω ha, scC_sh Ω hc]; rw [if_neg (by omega)], rfl⟩⟩ dX2_weightOf_58
  · refine z_iload (pc := 45) hC (i := 5) dX2_weightOf_45 rfl ?_
    refine z_goto (pc := 47) hC 58 dX2_weightOf_47 rfl ?_
    exact z_iret (pc := 58) hC rfl ⟨_, rfl, ⟨by unfold sWt; rw [scC_2, scC_3, scC_sh Ω ha, scC_sh Ω hc]; rw [if_pos (by omega)], rfl⟩⟩ dX2_weightOf_58
