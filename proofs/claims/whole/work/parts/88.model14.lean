theorem ls_told (a : Int) : Op.lookupswitch.offset (#[(0, 27), (5, 35)] : Array (Int × Int)).toList 52 a = if 0 = a then 27 else if 5 = a then 35 else 52 := rfl
theorem ls_told2 {a : Int} {tgt : Nat} (h : (tgt : Int) = (1 : Nat) + Op.lookupswitch.offset (#[(0, 27), (5, 35)] : Array (Int × Int)).toList 52 a) : (tgt = 28 ∧ a = 0) ∨ (tgt = 36 ∧ a = 5) ∨ (tgt = 53 ∧ ¬ (a = 0 ∨ a = 5)) := by
  rw [ls_told] at h
  by_cases c1 : 0 = a
  · rw [if_pos c1] at h; omega
  · rw [if_neg c1] at h
    by_cases c2 : 5 = a
    · rw [if_pos c2] at h; omega
    · rw [if_neg c2] at h; omega
set_option maxHeartbeats 4000000 in
set_option maxRecDepth 100000 in
theorem c_X5_isTold (l : Launch) (w : zP) (hw : zOK w) (Ω : Mem) (k v : Int) (hk : zb k) (hv : zb v) : zM l w yX5_isTold wsX5_isTold 1 22 [.int (zI k), .int (zI v)] Ω (zbo (fun b Ω1 => b = decide (okSet k v) ∧ Ω1 = Ω)) := by
  refine zM_of cX5_isTold 2 (some .boolean) RX5 [some (.int (zI k)), some (.int (zI v))] hw (by decide +kernel) rfl rfl (Nat.le_of_ble_eq_true rfl) rfl (fun E hC => ?_)
  refine z_iload_n (pc := 0) hC (i := 0) dX5_isTold_0 rfl rfl ?_
  refine z_ls (pc := 1) hC (by assumption) dX5_isTold_1 (by decide) (by rw [ls_told]; (repeat (split <;> try omega))) (fun tgt ht => ?_)
  rcases ls_told2 ht with ⟨rfl, hk1⟩ | ⟨rfl, hk1⟩ | ⟨rfl, hk1⟩
  · refine z_iload_n (pc := 28) hC (i := 1) dX5_isTold_28 rfl rfl ?_
    refine z_iconst (pc := 29) hC dX5_isTold_29 ?_
    refine z_bipush (pc := 30) hC dX5_isTold_30 rfl ?_
    refine z_callS (n := 3) (pc := 32) hC (c_X5_in l w hw _ _ _ _ (by first | assumption | exact zb_gt _ _ _ | exact zcmp_zb _ _ | exact bI_zb _ | exact ⟨by omega, by omega⟩) (by first | assumption | exact zb_gt _ _ _ | exact zcmp_zb _ _ | exact bI_zb _ | exact ⟨by omega, by omega⟩) (by first | assumption | exact zb_gt _ _ _ | exact zcmp_zb _ _ | exact bI_zb _ | exact ⟨by omega, by omega⟩)) gX5_isTold_X5_in rfl (by decide +kernel) (by decide) (by decide) rfl rfl (Nat.le_of_ble_eq_true rfl) dX5_isTold_32 (zb_k fun r32 Ω32 h32 => ?_)
    obtain ⟨rfl, hM32⟩ := h32
    obtain rfl := hM32.symm
    exact z_zret (pc := 35) hC rfl ⟨_, rfl, ⟨decide_eq_decide.mpr (by unfold okSet; omega), rfl⟩⟩ dX5_isTold_35
  · refine z_iload_n (pc := 36) hC (i := 1) dX5_isTold_36 rfl rfl ?_
    refine z_iconst (pc := 37) hC dX5_isTold_37 ?_
    refine z_icmp_eq (pc := 38) hC 47 (by first | assumption | exact zb_gt _ _ _ | exact zcmp_zb _ _ | exact bI_zb _ | exact ⟨by omega, by omega⟩) (by first | assumption | exact zb_gt _ _ _ | exact zcmp_zb _ _ | exact bI_zb _ | exact ⟨by omega, by omega⟩) dX5_isTold_38 rfl (fun h38 => ?_) (fun h38 => ?_)
    · refine z_iconst (pc := 47) hC dX5_isTold_47 ?_
      refine z_goto (pc := 48) hC 52 dX5_isTold_48 rfl ?_
      exact z_zret (b := true) (pc := 52) hC rfl ⟨true, rfl, ⟨(decide_eq_true (by unfold okSet; omega)).symm, rfl⟩⟩ dX5_isTold_52
    · refine z_iload_n (pc := 41) hC (i := 1) dX5_isTold_41 rfl rfl ?_
      refine z_bipush (pc := 42) hC dX5_isTold_42 rfl ?_
      refine z_icmp_ne (pc := 44) hC 51 (by first | assumption | exact zb_gt _ _ _ | exact zcmp_zb _ _ | exact bI_zb _ | exact ⟨by omega, by omega⟩) (by first | assumption | exact zb_gt _ _ _ | exact zcmp_zb _ _ | exact bI_zb _ | exact ⟨by omega, by omega⟩) dX5_isTold_44 rfl (fun h44 => ?_) (fun h44 => ?_)
      · refine z_iconst (pc := 51) hC dX5_isTold_51 ?_
        exact z_zret (b := false) (pc := 52) hC rfl ⟨false, rfl, ⟨(decide_eq_false (by unfold okSet; omega)).symm, rfl⟩⟩ dX5_isTold_52
      · refine z_iconst (pc := 47) hC dX5_isTold_47 ?_
        refine z_goto (pc := 48) hC 52 dX5_isTold_48 rfl ?_
        exact z_zret (b := true) (pc := 52) hC rfl ⟨true, rfl, ⟨(decide_eq_true (by unfold okSet; omega)).symm, rfl⟩⟩ dX5_isTold_52
  · refine z_iload_n (pc := 53) hC (i := 0) dX5_isTold_53 rfl rfl ?_
    refine z_iconst (pc := 54) hC dX5_isTold_54 ?_
    refine z_iconst (pc := 55) hC dX5_isTold_55 ?_
    refine z_callS (n := 3) (pc := 56) hC (c_X5_in l w hw _ _ _ _ (by first | assumption | exact zb_gt _ _ _ | exact zcmp_zb _ _ | exact bI_zb _ | exact ⟨by omega, by omega⟩) (by first | assumption | exact zb_gt _ _ _ | exact zcmp_zb _ _ | exact bI_zb _ | exact ⟨by omega, by omega⟩) (by first | assumption | exact zb_gt _ _ _ | exact zcmp_zb _ _ | exact bI_zb _ | exact ⟨by omega, by omega⟩)) gX5_isTold_X5_in rfl (by decide +kernel) (by decide) (by decide) rfl rfl (Nat.le_of_ble_eq_true rfl) dX5_isTold_56 (zb_k fun r56 Ω56 h56 => ?_)
    obtain ⟨rfl, hM56⟩ := h56
    obtain rfl := hM56.symm
    refine z_ifd_eq (pc := 59) hC 76 dX5_isTold_59 rfl (fun h59 => ?_) (fun h59 => ?_)
    · refine z_iconst (pc := 76) hC dX5_isTold_76 ?_
      exact z_zret (b := false) (pc := 77) hC rfl ⟨false, rfl, ⟨(decide_eq_false (by unfold okSet; omega)).symm, rfl⟩⟩ dX5_isTold_77
    · refine z_iload_n (pc := 62) hC (i := 1) dX5_isTold_62 rfl rfl ?_
      refine z_iconst (pc := 63) hC dX5_isTold_63 ?_
      refine z_bipush (pc := 64) hC dX5_isTold_64 rfl ?_
      refine z_callS (n := 3) (pc := 66) hC (c_X5_in l w hw _ _ _ _ (by first | assumption | exact zb_gt _ _ _ | exact zcmp_zb _ _ | exact bI_zb _ | exact ⟨by omega, by omega⟩) (by first | assumption | exact zb_gt _ _ _ | exact zcmp_zb _ _ | exact bI_zb _ | exact ⟨by omega, by omega⟩) (by first | assumption | exact zb_gt _ _ _ | exact zcmp_zb _ _ | exact bI_zb _ | exact ⟨by omega, by omega⟩)) gX5_isTold_X5_in rfl (by decide +kernel) (by decide) (by decide) rfl rfl (Nat.le_of_ble_eq_true rfl) dX5_isTold_66 (zb_k fun r66 Ω66 h66 => ?_)
      obtain ⟨rfl, hM66⟩ := h66
      obtain rfl := hM66.symm
      refine z_ifd_eq (pc := 69) hC 76 dX5_isTold_69 rfl (fun h69 => ?_) (fun h69 => ?_)
      · refine z_iconst (pc := 76) hC dX5_isTold_76 ?_
        exact z_zret (b := false) (pc := 77) hC rfl ⟨false, rfl, ⟨(decide_eq_false (by unfold okSet; omega)).symm, rfl⟩⟩ dX5_isTold_77
      · refine z_iconst (pc := 72) hC dX5_isTold_72 ?_
        refine z_goto (pc := 73) hC 77 dX5_isTold_73 rfl ?_
        exact z_zret (b := true) (pc := 77) hC rfl ⟨true, rfl, ⟨(decide_eq_true (by unfold okSet; omega)).symm, rfl⟩⟩ dX5_isTold_77
theorem fl_X5_sets_7 : Cond.fieldLink RX5 7 "StrokeCutsModel" "st" "[I" ∈ wsX5_sets := by decide +kernel
theorem in_X5_sets_X5 : ∀ x ∈ u_ws RX5 TX5 15, x ∈ wsX5_sets := by decide +kernel
set_option maxHeartbeats 4000000 in
set_option maxRecDepth 100000 in
theorem c_X5_sets (l : Launch) (w : zP) (hw : zOK w) (Ω : Mem) (a : As) (h : RM Ω a) (k v : Int) (hk : zb k) (hz : zb v) : zM l w yX5_sets wsX5_sets 2 45 [.ref (wa w 49), .int (zI k), .int (zI v)] Ω (zi (fun r Ω1 => r = (aSets a k v).1 ∧ RM Ω1 (aSets a k v).2 ∧ frG Ω Ω1)) := by
  refine zM_of cX5_sets 4 (some .int) RX5 [some (.ref (wa w 49)), some (.int (zI k)), some (.int (zI v)), none] hw (by decide +kernel) rfl rfl (Nat.le_of_ble_eq_true rfl) rfl (fun E hC => ?_)
  have hv := h.1.2
  have hσ := h.1.1
  have z0 : gt Ω 50 0 = a.1 0 := st_at hσ (by decide)
  have z1 : gt Ω 50 1 = a.1 1 := st_at hσ (by decide)
  have hN := sdots_le hv
  have hw01 := hv.1
  have hh01 := hv.2.1
  refine z_iload_n (pc := 0) hC (i := 1) dX5_sets_0 rfl rfl ?_
  refine z_iload_n (pc := 1) hC (i := 2) dX5_sets_1 rfl rfl ?_
  refine z_callS (n := 2) (pc := 2) hC (c_X5_isTold l w hw _ _ _ (by assumption) (by assumption)) gX5_sets_X5_isTold rfl (by decide +kernel) (by decide) (by decide) rfl rfl (Nat.le_of_ble_eq_true rfl) dX5_sets_2 (zb_k fun r2 Ω2 h2 => ?_)
  obtain ⟨rfl, hM2⟩ := h2
  obtain rfl := hM2.symm
  refine z_ifd_ne (pc := 5) hC 13 dX5_sets_5 rfl (fun h5 => ?_) (fun h5 => ?_)
  · refine z_aload_n (pc := 13) hC (i := 0) dX5_sets_13 rfl rfl ?_
    refine z_callV (n := 0) (T := TX5) (N := 15) (ci := 5) (pc := 14) hC (c_X5_leaves l w hw _ a h) gX5_sets_X5_leaves rfl (by decide +kernel) (by decide) (by decide) rfl (by decide) (fun _ => rfl) rfl rfl (Nat.le_of_ble_eq_true rfl) dX5_sets_14 (zv_k fun Ω14 h14 => ?_)
    obtain ⟨hR, hfr⟩ := h14
    have hsR := hR.1.1
    have z0R : gt Ω14 50 0 = a.1 0 := st_at hsR (by decide)
    have z1R : gt Ω14 50 1 = a.1 1 := st_at hsR (by decide)
    have hc := h5
    unfold okSet at hc
    obtain ⟨j, hj⟩ := nat_of (show 0 ≤ k by omega)
    refine z_aload_n (pc := 17) hC (i := 0) dX5_sets_17 rfl rfl ?_
    refine z_getR (C := RX5) (T := TX5) (N := 15) (ci := 5) (pc := 18) hC _ _ 0 in_X5_sets_X5 rfl (by decide) (fun _ => rfl) (by decide) fl_X5_sets_7 (fun _ => rfl) dX5_sets_18 ?_
    refine z_iconst (pc := 21) hC dX5_sets_21 ?_
    refine z_iload_n (pc := 22) hC (i := 1) dX5_sets_22 rfl rfl ?_
    refine z_iadd (pc := 23) hC dX5_sets_23 ?_
    refine z_ialk (pc := 24) hC _ (2 + j) (by decide) (fun _ => rfl) (by omega) (by omega) (by decide) dX5_sets_24 ?_
    refine z_istore_n (pc := 25) hC (i := 3) dX5_sets_25 rfl (by decide) rfl (zS_s (zS_s (zS_s zS_0))) ?_
    refine z_aload_n (pc := 26) hC (i := 0) dX5_sets_26 rfl rfl ?_
    refine z_getR (C := RX5) (T := TX5) (N := 15) (ci := 5) (pc := 27) hC _ _ 0 in_X5_sets_X5 rfl (by decide) (fun _ => rfl) (by decide) fl_X5_sets_7 (fun _ => rfl) dX5_sets_27 ?_
    refine z_iconst (pc := 30) hC dX5_sets_30 ?_
    refine z_iload_n (pc := 31) hC (i := 1) dX5_sets_31 rfl rfl ?_
    refine z_iadd (pc := 32) hC dX5_sets_32 ?_
    refine z_iload_n (pc := 33) hC (i := 2) dX5_sets_33 rfl rfl ?_
    refine z_iask (pc := 34) hC _ (2 + j) (by decide) (fun _ => rfl) (by omega) (by omega) (by decide) dX5_sets_34 ?_
    refine z_iload_n (pc := 35) hC (i := 3) dX5_sets_35 rfl rfl ?_
    exact z_iret (pc := 36) hC rfl ⟨_, rfl, by
      have hsk := scok_set hv h5
      rw [hj, Int.toNat_natCast] at hsk
      have hst := hR.st (i := 2 + j) (v := v) (by omega) (by assumption) hsk
      rw [st_at hsR (by omega)]
      exact ok_retM (by unfold aSets; rw [if_pos h5, hj, Int.toNat_natCast]; rfl) hst.1 (hfr.trans hst.2)⟩ dX5_sets_36
  · refine z_aload_n (pc := 8) hC (i := 0) dX5_sets_8 rfl rfl ?_
    refine z_callV (n := 0) (T := TX5) (N := 15) (ci := 5) (pc := 9) hC (c_X5_bad l w hw _) gX5_sets_X5_bad rfl (by decide +kernel) (by decide) (by decide) rfl (by decide) (fun _ => rfl) rfl rfl (Nat.le_of_ble_eq_true rfl) dX5_sets_9 (zi_k fun r9 Ω9 h9 => ?_)
    obtain ⟨rfl, rfl⟩ := h9
    exact z_iret (pc := 12) hC rfl ⟨_, rfl, bad_retM h (if_neg h5)⟩ dX5_sets_12
