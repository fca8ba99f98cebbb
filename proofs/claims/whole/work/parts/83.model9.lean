theorem RM.st {Ω : Mem} {a : As} (h : RM Ω a) {i : Nat} {v : Int} (hi : i < 80) (hz : zb v) (ho : scok (sup a.1 i v)) : RM (ups Ω 50 i v) (aSet a (sup a.1 i v)) ∧ frG Ω (ups Ω 50 i v) :=
  ⟨h.set (by rw [scM_up Ω hi hz, h.1.1]) ho (fun k _ => gt_n _ _ _ _ (by decide)) (fun q a b => ups_n _ _ _ (by omega)), frG_up _ _ _ (by decide)⟩
theorem RM.txt {Ω Ω1 : Mem} {a : As} {L : Nat} {T : Nat → Int} (h : RM Ω a) (hq : ∀ q, q ≠ 49 → q ≠ 53 → Ω1 q = Ω q) (h2 : gt Ω1 49 2 = gt Ω 49 2) (h6 : gt Ω1 49 6 = gt Ω 49 6) (hL : gt Ω1 49 5 = (L : Int)) (hL1 : L ≤ 100) (hT : ∀ k, k < L → gt Ω1 53 k = T k ∧ 0 ≤ T k ∧ T k ≤ 127) : RM Ω1 (aTxt a L T) := by
  obtain ⟨h1, ⟨h2', h3, h4⟩, h5, -, h9⟩ := h
  refine ⟨⟨(scM_cong (hq 50 (by omega) (by omega))).trans h1.1, h1.2⟩, ⟨by rw [h2]; exact h2', h3, fun i hi => ⟨fun j hj => ?_, (h4 i hi).2⟩⟩, fun i hi => ?_, ⟨hL, hL1, hT⟩, by rw [h6]; exact h9⟩
  · rw [gt_fr (hq 51 (by omega) (by omega))]; exact (h4 i hi).1 j hj
  · rw [hq 52 (by omega) (by omega)]; exact h5 i hi

theorem fl_X5_shade_7 : Cond.fieldLink RX5 7 "StrokeCutsModel" "st" "[I" ∈ wsX5_shade := by decide +kernel
theorem in_X5_shade_X5 : ∀ x ∈ u_ws RX5 TX5 15, x ∈ wsX5_shade := by decide +kernel
set_option maxHeartbeats 4000000 in
set_option maxRecDepth 100000 in
theorem c_X5_shade (l : Launch) (w : zP) (hw : zOK w) (Ω : Mem) (a : As) (h : RM Ω a) (x y v : Int) (hx : zb x) (hy : zb y) (hz : zb v) : zM l w yX5_shade wsX5_shade 2 45 [.ref (wa w 49), .int (zI x), .int (zI y), .int (zI v)] Ω (zi (fun r Ω1 => r = (aShade a x y v).1 ∧ RM Ω1 (aShade a x y v).2 ∧ frG Ω Ω1)) := by
  refine zM_of cX5_shade 5 (some .int) RX5 [some (.ref (wa w 49)), some (.int (zI x)), some (.int (zI y)), some (.int (zI v)), none] hw (by decide +kernel) rfl rfl (Nat.le_of_ble_eq_true rfl) rfl (fun E hC => ?_)
  have hv := h.1.2
  have hσ := h.1.1
  have z0 : gt Ω 50 0 = a.1 0 := st_at hσ (by decide)
  have z1 : gt Ω 50 1 = a.1 1 := st_at hσ (by decide)
  have hN := sdots_le hv
  have hw01 := hv.1
  have hh01 := hv.2.1
  refine z_aload_n (pc := 0) hC (i := 0) dX5_shade_0 rfl rfl ?_
  refine z_iload_n (pc := 1) hC (i := 1) dX5_shade_1 rfl rfl ?_
  refine z_iload_n (pc := 2) hC (i := 2) dX5_shade_2 rfl rfl ?_
  refine z_callV (n := 2) (T := TX5) (N := 15) (ci := 5) (pc := 3) hC (c_X5_isDot l w hw _ _ _ (by first | assumption | exact ⟨by omega, by omega⟩) (by first | assumption | exact ⟨by omega, by omega⟩) (by omega) (by omega)) gX5_shade_X5_isDot rfl (by decide +kernel) (by decide) (by decide) rfl (by decide) (fun _ => rfl) rfl rfl (Nat.le_of_ble_eq_true rfl) dX5_shade_3 (zb_k fun r3 Ω3 h3 => ?_)
  obtain ⟨rfl, hM3⟩ := h3
  obtain rfl := hM3.symm
  refine z_ifd_eq (pc := 6) hC 19 dX5_shade_6 rfl (fun h6 => ?_) (fun h6 => ?_)
  · refine z_aload_n (pc := 19) hC (i := 0) dX5_shade_19 rfl rfl ?_
    refine z_callV (n := 0) (T := TX5) (N := 15) (ci := 5) (pc := 20) hC (c_X5_bad l w hw _) gX5_shade_X5_bad rfl (by decide +kernel) (by decide) (by decide) rfl (by decide) (fun _ => rfl) rfl rfl (Nat.le_of_ble_eq_true rfl) dX5_shade_20 (zi_k fun r20 Ω20 h20 => ?_)
    obtain ⟨rfl, rfl⟩ := h20
    exact z_iret (pc := 23) hC rfl ⟨_, rfl, bad_retM h (if_neg (by unfold dIn; omega))⟩ dX5_shade_23
  · refine z_iload_n (pc := 9) hC (i := 3) dX5_shade_9 rfl rfl ?_
    refine z_iconst (pc := 10) hC dX5_shade_10 ?_
    refine z_bipush (pc := 11) hC dX5_shade_11 rfl ?_
    refine z_callS (n := 3) (pc := 13) hC (c_X5_in l w hw _ _ _ _ (by first | assumption | exact zb_gt _ _ _ | exact zcmp_zb _ _ | exact bI_zb _ | exact ⟨by omega, by omega⟩) (by first | assumption | exact zb_gt _ _ _ | exact zcmp_zb _ _ | exact bI_zb _ | exact ⟨by omega, by omega⟩) (by first | assumption | exact zb_gt _ _ _ | exact zcmp_zb _ _ | exact bI_zb _ | exact ⟨by omega, by omega⟩)) gX5_shade_X5_in rfl (by decide +kernel) (by decide) (by decide) rfl rfl (Nat.le_of_ble_eq_true rfl) dX5_shade_13 (zb_k fun r13 Ω13 h13 => ?_)
    obtain ⟨rfl, hM13⟩ := h13
    obtain rfl := hM13.symm
    refine z_ifd_ne (pc := 16) hC 24 dX5_shade_16 rfl (fun h16 => ?_) (fun h16 => ?_)
    · refine z_aload_n (pc := 24) hC (i := 0) dX5_shade_24 rfl rfl ?_
      refine z_callV (n := 0) (T := TX5) (N := 15) (ci := 5) (pc := 25) hC (c_X5_leaves l w hw _ a h) gX5_shade_X5_leaves rfl (by decide +kernel) (by decide) (by decide) rfl (by decide) (fun _ => rfl) rfl rfl (Nat.le_of_ble_eq_true rfl) dX5_shade_25 (zv_k fun Ω25 h25 => ?_)
      obtain ⟨hR, hfr⟩ := h25
      have hsR := hR.1.1
      have z0R : gt Ω25 50 0 = a.1 0 := st_at hsR (by decide)
      have z1R : gt Ω25 50 1 = a.1 1 := st_at hsR (by decide)
      obtain ⟨hn1, hn2⟩ := nO_lt hv (x := x) (y := y) (by unfold dIn; omega)
      refine z_aload_n (pc := 28) hC (i := 0) dX5_shade_28 rfl rfl ?_
      refine z_getR (C := RX5) (T := TX5) (N := 15) (ci := 5) (pc := 29) hC _ _ 0 in_X5_shade_X5 rfl (by decide) (fun _ => rfl) (by decide) fl_X5_shade_7 (fun _ => rfl) dX5_shade_29 ?_
      refine z_bipush (pc := 32) hC dX5_shade_32 rfl ?_
      refine z_aload_n (pc := 34) hC (i := 0) dX5_shade_34 rfl rfl ?_
      refine z_iload_n (pc := 35) hC (i := 1) dX5_shade_35 rfl rfl ?_
      refine z_iload_n (pc := 36) hC (i := 2) dX5_shade_36 rfl rfl ?_
      refine z_callV (n := 2) (T := TX5) (N := 15) (ci := 5) (pc := 37) hC (c_X5_numberOf l w hw _ _ _) gX5_shade_X5_numberOf rfl (by decide +kernel) (by decide) (by decide) rfl (by decide) (fun _ => rfl) rfl rfl (Nat.le_of_ble_eq_true rfl) dX5_shade_37 (zi_k fun r37 Ω37 h37 => ?_)
      obtain ⟨hr37, hm37⟩ := h37
      have hm37 := hm37.symm
      subst hm37
      rw [z0R, hn1] at hr37
      subst hr37
      refine z_iadd (pc := 40) hC dX5_shade_40 ?_
      refine z_ialk (pc := 41) hC _ (8 + nO a.1 x y) (by decide) (fun _ => rfl) (by omega) (by omega) (by decide) dX5_shade_41 ?_
      refine z_istore (pc := 42) hC (i := 4) dX5_shade_42 (by decide) rfl (zS_s (zS_s (zS_s (zS_s zS_0)))) ?_
      refine z_aload_n (pc := 44) hC (i := 0) dX5_shade_44 rfl rfl ?_
      refine z_getR (C := RX5) (T := TX5) (N := 15) (ci := 5) (pc := 45) hC _ _ 0 in_X5_shade_X5 rfl (by decide) (fun _ => rfl) (by decide) fl_X5_shade_7 (fun _ => rfl) dX5_shade_45 ?_
      refine z_bipush (pc := 48) hC dX5_shade_48 rfl ?_
      refine z_aload_n (pc := 50) hC (i := 0) dX5_shade_50 rfl rfl ?_
      refine z_iload_n (pc := 51) hC (i := 1) dX5_shade_51 rfl rfl ?_
      refine z_iload_n (pc := 52) hC (i := 2) dX5_shade_52 rfl rfl ?_
      refine z_callV (n := 2) (T := TX5) (N := 15) (ci := 5) (pc := 53) hC (c_X5_numberOf l w hw _ _ _) gX5_shade_X5_numberOf rfl (by decide +kernel) (by decide) (by decide) rfl (by decide) (fun _ => rfl) rfl rfl (Nat.le_of_ble_eq_true rfl) dX5_shade_53 (zi_k fun r53 Ω53 h53 => ?_)
      obtain ⟨hr53, hm53⟩ := h53
      have hm53 := hm53.symm
      subst hm53
      rw [z0R, hn1] at hr53
      subst hr53
      refine z_iadd (pc := 56) hC dX5_shade_56 ?_
      refine z_iload_n (pc := 57) hC (i := 3) dX5_shade_57 rfl rfl ?_
      refine z_iask (pc := 58) hC _ (8 + nO a.1 x y) (by decide) (fun _ => rfl) (by omega) (by omega) (by decide) dX5_shade_58 ?_
      refine z_iload (pc := 59) hC (i := 4) dX5_shade_59 rfl ?_
      exact z_iret (pc := 61) hC rfl ⟨_, rfl, by
      have hst := hR.st (i := 8 + nO a.1 x y) (v := v) (by omega) (by assumption) (scok_sh hv (by omega) (by omega) (by omega))
      rw [st_at hsR (by omega)]
      exact ok_retM (if_pos ⟨by unfold dIn; omega, by omega⟩) hst.1 (hfr.trans hst.2)⟩ dX5_shade_61
    · refine z_aload_n (pc := 19) hC (i := 0) dX5_shade_19 rfl rfl ?_
      refine z_callV (n := 0) (T := TX5) (N := 15) (ci := 5) (pc := 20) hC (c_X5_bad l w hw _) gX5_shade_X5_bad rfl (by decide +kernel) (by decide) (by decide) rfl (by decide) (fun _ => rfl) rfl rfl (Nat.le_of_ble_eq_true rfl) dX5_shade_20 (zi_k fun r20 Ω20 h20 => ?_)
      obtain ⟨rfl, rfl⟩ := h20
      exact z_iret (pc := 23) hC rfl ⟨_, rfl, bad_retM h (if_neg (by unfold dIn; omega))⟩ dX5_shade_23
theorem fl_X5_mark_7 : Cond.fieldLink RX5 7 "StrokeCutsModel" "st" "[I" ∈ wsX5_mark := by decide +kernel
theorem in_X5_mark_X5 : ∀ x ∈ u_ws RX5 TX5 15, x ∈ wsX5_mark := by decide +kernel
set_option maxHeartbeats 4000000 in
set_option maxRecDepth 100000 in
theorem c_X5_mark (l : Launch) (w : zP) (hw : zOK w) (Ω : Mem) (a : As) (h : RM Ω a) (x y v : Int) (hx : zb x) (hy : zb y) (hz : zb v) : zM l w yX5_mark wsX5_mark 2 45 [.ref (wa w 49), .int (zI x), .int (zI y), .int (zI v)] Ω (zi (fun r Ω1 => r = (aMark a x y v).1 ∧ RM Ω1 (aMark a x y v).2 ∧ frG Ω Ω1)) := by
  refine zM_of cX5_mark 5 (some .int) RX5 [some (.ref (wa w 49)), some (.int (zI x)), some (.int (zI y)), some (.int (zI v)), none] hw (by decide +kernel) rfl rfl (Nat.le_of_ble_eq_true rfl) rfl (fun E hC => ?_)
  have hv := h.1.2
  have hσ := h.1.1
  have z0 : gt Ω 50 0 = a.1 0 := st_at hσ (by decide)
  have z1 : gt Ω 50 1 = a.1 1 := st_at hσ (by decide)
  have hN := sdots_le hv
  have hw01 := hv.1
  have hh01 := hv.2.1
  refine z_aload_n (pc := 0) hC (i := 0) dX5_mark_0 rfl rfl ?_
  refine z_iload_n (pc := 1) hC (i := 1) dX5_mark_1 rfl rfl ?_
  refine z_iload_n (pc := 2) hC (i := 2) dX5_mark_2 rfl rfl ?_
  refine z_callV (n := 2) (T := TX5) (N := 15) (ci := 5) (pc := 3) hC (c_X5_isDot l w hw _ _ _ (by first | assumption | exact ⟨by omega, by omega⟩) (by first | assumption | exact ⟨by omega, by omega⟩) (by omega) (by omega)) gX5_mark_X5_isDot rfl (by decide +kernel) (by decide) (by decide) rfl (by decide) (fun _ => rfl) rfl rfl (Nat.le_of_ble_eq_true rfl) dX5_mark_3 (zb_k fun r3 Ω3 h3 => ?_)
  obtain ⟨rfl, hM3⟩ := h3
  obtain rfl := hM3.symm
  refine z_ifd_eq (pc := 6) hC 18 dX5_mark_6 rfl (fun h6 => ?_) (fun h6 => ?_)
  · refine z_aload_n (pc := 18) hC (i := 0) dX5_mark_18 rfl rfl ?_
    refine z_callV (n := 0) (T := TX5) (N := 15) (ci := 5) (pc := 19) hC (c_X5_bad l w hw _) gX5_mark_X5_bad rfl (by decide +kernel) (by decide) (by decide) rfl (by decide) (fun _ => rfl) rfl rfl (Nat.le_of_ble_eq_true rfl) dX5_mark_19 (zi_k fun r19 Ω19 h19 => ?_)
    obtain ⟨rfl, rfl⟩ := h19
    exact z_iret (pc := 22) hC rfl ⟨_, rfl, bad_retM h (if_neg (by unfold dIn; omega))⟩ dX5_mark_22
  · refine z_iload_n (pc := 9) hC (i := 3) dX5_mark_9 rfl rfl ?_
    refine z_iconst (pc := 10) hC dX5_mark_10 ?_
    refine z_iconst (pc := 11) hC dX5_mark_11 ?_
    refine z_callS (n := 3) (pc := 12) hC (c_X5_in l w hw _ _ _ _ (by first | assumption | exact zb_gt _ _ _ | exact zcmp_zb _ _ | exact bI_zb _ | exact ⟨by omega, by omega⟩) (by first | assumption | exact zb_gt _ _ _ | exact zcmp_zb _ _ | exact bI_zb _ | exact ⟨by omega, by omega⟩) (by first | assumption | exact zb_gt _ _ _ | exact zcmp_zb _ _ | exact bI_zb _ | exact ⟨by omega, by omega⟩)) gX5_mark_X5_in rfl (by decide +kernel) (by decide) (by decide) rfl rfl (Nat.le_of_ble_eq_true rfl) dX5_mark_12 (zb_k fun r12 Ω12 h12 => ?_)
    obtain ⟨rfl, hM12⟩ := h12
    obtain rfl := hM12.symm
    refine z_ifd_ne (pc := 15) hC 23 dX5_mark_15 rfl (fun h15 => ?_) (fun h15 => ?_)
    · refine z_aload_n (pc := 23) hC (i := 0) dX5_mark_23 rfl rfl ?_
      refine z_callV (n := 0) (T := TX5) (N := 15) (ci := 5) (pc := 24) hC (c_X5_leaves l w hw _ a h) gX5_mark_X5_leaves rfl (by decide +kernel) (by decide) (by decide) rfl (by decide) (fun _ => rfl) rfl rfl (Nat.le_of_ble_eq_true rfl) dX5_mark_24 (zv_k fun Ω24 h24 => ?_)
      obtain ⟨hR, hfr⟩ := h24
      have hsR := hR.1.1
      have z0R : gt Ω24 50 0 = a.1 0 := st_at hsR (by decide)
      have z1R : gt Ω24 50 1 = a.1 1 := st_at hsR (by decide)
      obtain ⟨hn1, hn2⟩ := nO_lt hv (x := x) (y := y) (by unfold dIn; omega)
      refine z_aload_n (pc := 27) hC (i := 0) dX5_mark_27 rfl rfl ?_
      refine z_getR (C := RX5) (T := TX5) (N := 15) (ci := 5) (pc := 28) hC _ _ 0 in_X5_mark_X5 rfl (by decide) (fun _ => rfl) (by decide) fl_X5_mark_7 (fun _ => rfl) dX5_mark_28 ?_
      refine z_bipush (pc := 31) hC dX5_mark_31 rfl ?_
      refine z_aload_n (pc := 33) hC (i := 0) dX5_mark_33 rfl rfl ?_
      refine z_iload_n (pc := 34) hC (i := 1) dX5_mark_34 rfl rfl ?_
      refine z_iload_n (pc := 35) hC (i := 2) dX5_mark_35 rfl rfl ?_
      refine z_callV (n := 2) (T := TX5) (N := 15) (ci := 5) (pc := 36) hC (c_X5_numberOf l w hw _ _ _) gX5_mark_X5_numberOf rfl (by decide +kernel) (by decide) (by decide) rfl (by decide) (fun _ => rfl) rfl rfl (Nat.le_of_ble_eq_true rfl) dX5_mark_36 (zi_k fun r36 Ω36 h36 => ?_)
      obtain ⟨hr36, hm36⟩ := h36
      have hm36 := hm36.symm
      subst hm36
      rw [z0R, hn1] at hr36
      subst hr36
      refine z_iadd (pc := 39) hC dX5_mark_39 ?_
      refine z_ialk (pc := 40) hC _ (44 + nO a.1 x y) (by decide) (fun _ => rfl) (by omega) (by omega) (by decide) dX5_mark_40 ?_
      refine z_istore (pc := 41) hC (i := 4) dX5_mark_41 (by decide) rfl (zS_s (zS_s (zS_s (zS_s zS_0)))) ?_
      refine z_aload_n (pc := 43) hC (i := 0) dX5_mark_43 rfl rfl ?_
      refine z_getR (C := RX5) (T := TX5) (N := 15) (ci := 5) (pc := 44) hC _ _ 0 in_X5_mark_X5 rfl (by decide) (fun _ => rfl) (by decide) fl_X5_mark_7 (fun _ => rfl) dX5_mark_44 ?_
      refine z_bipush (pc := 47) hC dX5_mark_47 rfl ?_
      refine z_aload_n (pc := 49) hC (i := 0) dX5_mark_49 rfl rfl ?_
      refine z_iload_n (pc := 50) hC (i := 1) dX5_mark_50 rfl rfl ?_
      refine z_iload_n (pc := 51) hC (i := 2) dX5_mark_51 rfl rfl ?_
      refine z_callV (n := 2) (T := TX5) (N := 15) (ci := 5) (pc := 52) hC (c_X5_numberOf l w hw _ _ _) gX5_mark_X5_numberOf rfl (by decide +kernel) (by decide) (by decide) rfl (by decide) (fun _ => rfl) rfl rfl (Nat.le_of_ble_eq_true rfl) dX5_mark_52 (zi_k fun r52 Ω52 h52 => ?_)
      obtain ⟨hr52, hm52⟩ := h52
      have hm52 := hm52.symm
      subst hm52
      rw [z0R, hn1] at hr52
      subst hr52
      refine z_iadd (pc := 55) hC dX5_mark_55 ?_
      refine z_iload_n (pc := 56) hC (i := 3) dX5_mark_56 rfl rfl ?_
      refine z_iask (pc := 57) hC _ (44 + nO a.1 x y) (by decide) (fun _ => rfl) (by omega) (by omega) (by decide) dX5_mark_57 ?_
      refine z_iload (pc := 58) hC (i := 4) dX5_mark_58 rfl ?_
      exact z_iret (pc := 60) hC rfl ⟨_, rfl, by
      have hst := hR.st (i := 44 + nO a.1 x y) (v := v) (by omega) (by assumption) (scok_mk hv (by omega) (by omega) (by omega))
      rw [st_at hsR (by omega)]
      exact ok_retM (if_pos ⟨by unfold dIn; omega, by omega⟩) hst.1 (hfr.trans hst.2)⟩ dX5_mark_60
    · refine z_aload_n (pc := 18) hC (i := 0) dX5_mark_18 rfl rfl ?_
      refine z_callV (n := 0) (T := TX5) (N := 15) (ci := 5) (pc := 19) hC (c_X5_bad l w hw _) gX5_mark_X5_bad rfl (by decide +kernel) (by decide) (by decide) rfl (by decide) (fun _ => rfl) rfl rfl (Nat.le_of_ble_eq_true rfl) dX5_mark_19 (zi_k fun r19 Ω19 h19 => ?_)
      obtain ⟨rfl, rfl⟩ := h19
      exact z_iret (pc := 22) hC rfl ⟨_, rfl, bad_retM h (if_neg (by unfold dIn; omega))⟩ dX5_mark_22
set_option maxHeartbeats 4000000 in
set_option maxRecDepth 100000 in
theorem c_X5_side (l : Launch) (w : zP) (hw : zOK w) (Ω : Mem) (a : As) (h : RM Ω a) (k : Int) (hk : zb k) : zM l w yX5_side wsX5_side 11 266 [.ref (wa w 49), .int (zI k)] Ω (zlo (fun r Ω1 => r = (aSide a k).1 ∧ RM Ω1 (aSide a k).2 ∧ frG Ω Ω1)) := by
  refine zM_of cX5_side 2 (some .long) RX5 [some (.ref (wa w 49)), some (.int (zI k))] hw (by decide +kernel) rfl rfl (Nat.le_of_ble_eq_true rfl) rfl (fun E hC => ?_)
  have hv := h.1.2
  have hσ := h.1.1
  have z0 : gt Ω 50 0 = a.1 0 := st_at hσ (by decide)
  have z1 : gt Ω 50 1 = a.1 1 := st_at hσ (by decide)
  have hN := sdots_le hv
  have hw01 := hv.1
  have hh01 := hv.2.1
  refine z_iload_n (pc := 0) hC (i := 1) dX5_side_0 rfl rfl ?_
  refine z_iconst (pc := 1) hC dX5_side_1 ?_
  refine z_iconst (pc := 2) hC dX5_side_2 ?_
  refine z_callS (n := 3) (pc := 3) hC (c_X5_in l w hw _ _ _ _ (by first | assumption | exact zb_gt _ _ _ | exact zcmp_zb _ _ | exact bI_zb _ | exact ⟨by omega, by omega⟩) (by first | assumption | exact zb_gt _ _ _ | exact zcmp_zb _ _ | exact bI_zb _ | exact ⟨by omega, by omega⟩) (by first | assumption | exact zb_gt _ _ _ | exact zcmp_zb _ _ | exact bI_zb _ | exact ⟨by omega, by omega⟩)) gX5_side_X5_in rfl (by decide +kernel) (by decide) (by decide) rfl rfl (Nat.le_of_ble_eq_true rfl) dX5_side_3 (zb_k fun r3 Ω3 h3 => ?_)
  obtain ⟨rfl, hM3⟩ := h3
  obtain rfl := hM3.symm
  refine z_ifd_eq (pc := 6) hC 17 dX5_side_6 rfl (fun h6 => ?_) (fun h6 => ?_)
  · refine z_aload_n (pc := 17) hC (i := 0) dX5_side_17 rfl rfl ?_
    refine z_callV (n := 0) (T := TX5) (N := 15) (ci := 5) (pc := 18) hC (c_X5_bad l w hw _) gX5_side_X5_bad rfl (by decide +kernel) (by decide) (by decide) rfl (by decide) (fun _ => rfl) rfl rfl (Nat.le_of_ble_eq_true rfl) dX5_side_18 (zi_k fun r18 Ω18 h18 => ?_)
    obtain ⟨rfl, rfl⟩ := h18
    refine z_i2l (pc := 21) hC rfl dX5_side_21 ?_
    exact z_lret (pc := 22) hC rfl ⟨_, rfl, ok_retML (if_neg (by omega)) (h.inc (i := 0) (by decide)) (frG_up _ _ _ (by decide))⟩ dX5_side_22
  · refine z_aload_n (pc := 9) hC (i := 0) dX5_side_9 rfl rfl ?_
    refine z_iload_n (pc := 10) hC (i := 1) dX5_side_10 rfl rfl ?_
    refine z_callV (n := 1) (T := TX5) (N := 15) (ci := 5) (pc := 11) hC (c_X5_sideOf l w hw _ a.1 hσ hv h.2.2.2.2 k (by omega)) gX5_side_X5_sideOf rfl (by decide +kernel) (by decide) (by decide) rfl (by decide) (fun _ => rfl) rfl rfl (Nat.le_of_ble_eq_true rfl) dX5_side_11 (zl_k fun r11 Ω11 h11 => ?_)
    obtain ⟨hr11, hF11⟩ := h11
    obtain ⟨g1, g2⟩ := h.scr hF11
    subst hr11
    refine z_goto (pc := 14) hC 22 dX5_side_14 rfl ?_
    exact z_lret (pc := 22) hC rfl ⟨_, rfl, ok_retML (if_pos (by omega)) g1 g2⟩ dX5_side_22
theorem fl_X5_clear_189 : Cond.fieldLink RX5 189 "StrokeCutsModel" "letters" "I" ∈ wsX5_clear := by decide +kernel
theorem in_X5_clear_X5 : ∀ x ∈ u_ws RX5 TX5 15, x ∈ wsX5_clear := by decide +kernel
set_option maxHeartbeats 4000000 in
set_option maxRecDepth 100000 in
theorem c_X5_clear (l : Launch) (w : zP) (hw : zOK w) (Ω : Mem) (a : As) (h : RM Ω a) : zM l w yX5_clear wsX5_clear 0 0 [.ref (wa w 49)] Ω (zi (fun r Ω1 => r = (aClear a).1 ∧ RM Ω1 (aClear a).2 ∧ frG Ω Ω1)) := by
  refine zM_of cX5_clear 2 (some .int) RX5 [some (.ref (wa w 49)), none] hw (by decide +kernel) rfl rfl (Nat.le_of_ble_eq_true rfl) rfl (fun E hC => ?_)
  have hL := h.2.2.2.1.1
  refine z_aload_n (pc := 0) hC (i := 0) dX5_clear_0 rfl rfl ?_
  refine z_getI (C := RX5) (T := TX5) (N := 15) (ci := 5) (pc := 1) hC _ 5 in_X5_clear_X5 rfl (by decide) (fun _ => rfl) (by decide) fl_X5_clear_189 (fun _ => rfl) dX5_clear_1 ?_
  rw [hL]
  refine z_istore_n (pc := 4) hC (i := 1) dX5_clear_4 rfl (by decide) rfl (zS_s zS_0) ?_
  refine z_aload_n (pc := 5) hC (i := 0) dX5_clear_5 rfl rfl ?_
  refine z_iconst (pc := 6) hC dX5_clear_6 ?_
  refine z_putI (C := RX5) (T := TX5) (N := 15) (ci := 5) (pc := 7) hC _ 5 in_X5_clear_X5 rfl (by decide) (fun _ => rfl) (by decide) fl_X5_clear_189 tyX5_ok nmX5 rfl (by decide +kernel) (fun _ => Nat.le_of_ble_eq_true rfl) (fun _ _ => rfl) dX5_clear_7 ?_
  refine z_iload_n (pc := 10) hC (i := 1) dX5_clear_10 rfl rfl ?_
  exact z_iret (pc := 11) hC rfl ⟨_, rfl, ok_retM rfl (h.txt (fun q u1 u2 => ups_n _ _ _ u1) (gt_sn _ _ _ (by decide)) (gt_sn _ _ _ (by decide)) (gt_s _ _ _ zb_0) (by omega) (fun k hk => absurd hk (Nat.not_lt_zero k))) (frG_up _ _ _ (by decide))⟩ dX5_clear_11
