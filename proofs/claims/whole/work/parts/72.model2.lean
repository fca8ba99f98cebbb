theorem over_eq {σ : Sg} (v d : Nat) (hd : d < 4) {X1 Y1 : Int} (hX : X1 = ((v % sw σ : Nat) : Int) + lkX d) (hY : Y1 = ((v / sw σ : Nat) : Int) + lkY d) : lk σ v d = if (0 ≤ X1 ∧ X1 < σ 0 ∧ 0 ≤ Y1 ∧ Y1 < σ 1) ∧ (d < 2 ∨ σ 7 = 8) then σ 0 * Y1 + X1 else -1 := by
  subst hX hY
  unfold lk sLk
  by_cases c : 2 ≤ d ∧ σ 7 ≠ 8
  · rw [if_pos c, if_neg (fun q => by omega)]
  · rw [if_neg c]
    by_cases c2 : 0 ≤ ((v % sw σ : Nat) : Int) + lkX d ∧ ((v % sw σ : Nat) : Int) + lkX d < σ 0 ∧ 0 ≤ ((v / sw σ : Nat) : Int) + lkY d ∧ ((v / sw σ : Nat) : Int) + lkY d < σ 1
    · rw [if_pos c2, if_pos ⟨c2, by omega⟩]
    · rw [if_neg c2, if_neg (fun q => c2 q.1)]
theorem lk0 {d : Nat} (h : d < 4) : (d = 0 ∧ lkX d = 1 ∧ lkY d = 0) ∨ (d = 1 ∧ lkX d = 0 ∧ lkY d = 1) ∨ (d = 2 ∧ lkX d = 1 ∧ lkY d = 1) ∨ (d = 3 ∧ lkX d = -1 ∧ lkY d = 1) := by
  obtain rfl | rfl | rfl | rfl : d = 0 ∨ d = 1 ∨ d = 2 ∨ d = 3 := by omega
  · exact Or.inl ⟨rfl, rfl, rfl⟩
  · exact Or.inr (Or.inl ⟨rfl, rfl, rfl⟩)
  · exact Or.inr (Or.inr (Or.inl ⟨rfl, rfl, rfl⟩))
  · exact Or.inr (Or.inr (Or.inr ⟨rfl, rfl, rfl⟩))
theorem fl_X5_over_7 : Cond.fieldLink RX5 7 "StrokeCutsModel" "st" "[I" ∈ wsX5_over := by decide +kernel
theorem in_X5_over_X5 : ∀ x ∈ u_ws RX5 TX5 15, x ∈ wsX5_over := by decide +kernel
set_option maxHeartbeats 4000000 in
set_option maxRecDepth 100000 in
theorem S_X5_over_49 {E : zE} {w : zP} {l : Launch} {Post : Option Value → Mem → Prop} (hw : zOK w) (hC : zC E w l RX5 wsX5_over cX5_over 5 2 44 (some .int) Post) {Ω : Mem} (σ : Sg) (hσ : scM Ω = σ) (hv : scok σ) (v d : Nat) (hvN : v < sdots σ) (hd : d < 4) (X1 Y1 : Int) (hX : X1 = ((v % sw σ : Nat) : Int) + lkX d) (hY : Y1 = ((v / sw σ : Nat) : Int) + lkY d) (K : ∀ r : Int, r = lk σ v d → Post (some (.int (zI r))) Ω)  : X E Ω 49 [some (.ref (wa w 49)), some (.int (zI (v : Int))), some (.int (zI (d : Int))), some (.int (zI X1)), some (.int (zI Y1))] [] := by
  have z0 : gt Ω 50 0 = σ 0 := st_at hσ (by decide)
  have z1 : gt Ω 50 1 = σ 1 := st_at hσ (by decide)
  have z7 : gt Ω 50 7 = σ 7 := st_at hσ (by decide)
  have hW := sw_eq hv
  have hH := sh_eq hv
  have hN := sdots_le hv
  have hxy := dot_xy hv hvN
  have hq1 : (0 : Int) ≤ ((v % sw σ : Nat) : Int) := Int.natCast_nonneg _
  have hq2 : (0 : Int) ≤ ((v / sw σ : Nat) : Int) := Int.natCast_nonneg _
  have hc := lk0 hd
  have hov := over_eq (σ := σ) v d hd hX hY
  refine z_aload_n (pc := 49) hC (i := 0) dX5_over_49 rfl rfl ?_
  refine z_iload_n (pc := 50) hC (i := 3) dX5_over_50 rfl rfl ?_
  refine z_iload (pc := 51) hC (i := 4) dX5_over_51 rfl ?_
  refine z_callV (n := 2) (T := TX5) (N := 15) (ci := 5) (pc := 53) hC (c_X5_isDot l w hw _ _ _ (by first | assumption | exact ⟨by omega, by omega⟩) (by first | assumption | exact ⟨by omega, by omega⟩) (by omega) (by omega)) gX5_over_X5_isDot rfl (by decide +kernel) (by decide) (by decide) rfl (by decide) (fun _ => rfl) rfl rfl (Nat.le_of_ble_eq_true rfl) dX5_over_53 (zb_k fun r53 Ω53 h53 => ?_)
  obtain ⟨rfl, hM53⟩ := h53
  obtain rfl := hM53.symm
  refine z_ifd_eq (pc := 56) hC 86 dX5_over_56 rfl (fun h56 => ?_) (fun h56 => ?_)
  · refine z_iconst (pc := 86) hC dX5_over_86 ?_
    refine z_iret (pc := 87) hC rfl (K _ (by rw [hov]; exact (if_neg (by omega)).symm)) dX5_over_87
  · refine z_iload_n (pc := 59) hC (i := 2) dX5_over_59 rfl rfl ?_
    refine z_iconst (pc := 60) hC dX5_over_60 ?_
    refine z_icmp_lt (pc := 61) hC 76 (by first | assumption | exact zb_gt _ _ _ | exact zcmp_zb _ _ | exact bI_zb _ | exact ⟨by omega, by omega⟩) (by first | assumption | exact zb_gt _ _ _ | exact zcmp_zb _ _ | exact bI_zb _ | exact ⟨by omega, by omega⟩) dX5_over_61 rfl (fun h61 => ?_) (fun h61 => ?_)
    · refine z_aload_n (pc := 76) hC (i := 0) dX5_over_76 rfl rfl ?_
      refine z_iload_n (pc := 77) hC (i := 3) dX5_over_77 rfl rfl ?_
      refine z_iload (pc := 78) hC (i := 4) dX5_over_78 rfl ?_
      refine z_callV (n := 2) (T := TX5) (N := 15) (ci := 5) (pc := 80) hC (c_X5_numberOf l w hw _ _ _) gX5_over_X5_numberOf rfl (by decide +kernel) (by decide) (by decide) rfl (by decide) (fun _ => rfl) rfl rfl (Nat.le_of_ble_eq_true rfl) dX5_over_80 (zi_k fun r80 Ω80 h80 => ?_)
      obtain ⟨rfl, hM80⟩ := h80
      obtain rfl := hM80.symm
      refine z_goto (pc := 83) hC 87 dX5_over_83 rfl ?_
      refine z_iret (pc := 87) hC rfl (K _ (by rw [hov, z0]; exact (if_pos ⟨by omega, by omega⟩).symm)) dX5_over_87
    · refine z_aload_n (pc := 64) hC (i := 0) dX5_over_64 rfl rfl ?_
      refine z_getR (C := RX5) (T := TX5) (N := 15) (ci := 5) (pc := 65) hC _ _ 0 in_X5_over_X5 rfl (by decide) (fun _ => rfl) (by decide) fl_X5_over_7 (fun _ => rfl) dX5_over_65 ?_
      refine z_bipush (pc := 68) hC dX5_over_68 rfl ?_
      refine z_ialk (pc := 70) hC _ 7 (by decide) (fun _ => rfl) rfl (by decide) (by decide) dX5_over_70 ?_
      refine z_bipush (pc := 71) hC dX5_over_71 rfl ?_
      refine z_icmp_ne (pc := 73) hC 86 (by first | assumption | exact zb_gt _ _ _ | exact zcmp_zb _ _ | exact bI_zb _ | exact ⟨by omega, by omega⟩) (by first | assumption | exact zb_gt _ _ _ | exact zcmp_zb _ _ | exact bI_zb _ | exact ⟨by omega, by omega⟩) dX5_over_73 rfl (fun h73 => ?_) (fun h73 => ?_)
      · refine z_iconst (pc := 86) hC dX5_over_86 ?_
        refine z_iret (pc := 87) hC rfl (K _ (by rw [hov]; exact (if_neg (by omega)).symm)) dX5_over_87
      · refine z_aload_n (pc := 76) hC (i := 0) dX5_over_76 rfl rfl ?_
        refine z_iload_n (pc := 77) hC (i := 3) dX5_over_77 rfl rfl ?_
        refine z_iload (pc := 78) hC (i := 4) dX5_over_78 rfl ?_
        refine z_callV (n := 2) (T := TX5) (N := 15) (ci := 5) (pc := 80) hC (c_X5_numberOf l w hw _ _ _) gX5_over_X5_numberOf rfl (by decide +kernel) (by decide) (by decide) rfl (by decide) (fun _ => rfl) rfl rfl (Nat.le_of_ble_eq_true rfl) dX5_over_80 (zi_k fun r80 Ω80 h80 => ?_)
        obtain ⟨rfl, hM80⟩ := h80
        obtain rfl := hM80.symm
        refine z_goto (pc := 83) hC 87 dX5_over_83 rfl ?_
        refine z_iret (pc := 87) hC rfl (K _ (by rw [hov, z0]; exact (if_pos ⟨by omega, by omega⟩).symm)) dX5_over_87
set_option maxHeartbeats 4000000 in
set_option maxRecDepth 100000 in
theorem S_X5_over_29 {E : zE} {w : zP} {l : Launch} {Post : Option Value → Mem → Prop} (hw : zOK w) (hC : zC E w l RX5 wsX5_over cX5_over 5 2 44 (some .int) Post) {Ω : Mem} (σ : Sg) (hσ : scM Ω = σ) (hv : scok σ) (v d : Nat) (hvN : v < sdots σ) (hd : d < 4) (X1 : Int) (hX : X1 = ((v % sw σ : Nat) : Int) + lkX d) (K : ∀ r : Int, r = lk σ v d → Post (some (.int (zI r))) Ω)  : X E Ω 29 [some (.ref (wa w 49)), some (.int (zI (v : Int))), some (.int (zI (d : Int))), some (.int (zI X1)), none] [] := by
  have z0 : gt Ω 50 0 = σ 0 := st_at hσ (by decide)
  have z1 : gt Ω 50 1 = σ 1 := st_at hσ (by decide)
  have z7 : gt Ω 50 7 = σ 7 := st_at hσ (by decide)
  have hW := sw_eq hv
  have hH := sh_eq hv
  have hN := sdots_le hv
  have hxy := dot_xy hv hvN
  have hq1 : (0 : Int) ≤ ((v % sw σ : Nat) : Int) := Int.natCast_nonneg _
  have hq2 : (0 : Int) ≤ ((v / sw σ : Nat) : Int) := Int.natCast_nonneg _
  have hc := lk0 hd
  refine z_iload_n (pc := 29) hC (i := 1) dX5_over_29 rfl rfl ?_
  refine z_aload_n (pc := 30) hC (i := 0) dX5_over_30 rfl rfl ?_
  refine z_getR (C := RX5) (T := TX5) (N := 15) (ci := 5) (pc := 31) hC _ _ 0 in_X5_over_X5 rfl (by decide) (fun _ => rfl) (by decide) fl_X5_over_7 (fun _ => rfl) dX5_over_31 ?_
  refine z_iconst (pc := 34) hC dX5_over_34 ?_
  refine z_ialk (pc := 35) hC _ 0 (by decide) (fun _ => rfl) rfl (by decide) (by decide) dX5_over_35 ?_
  refine z_idiv (pc := 36) hC ⟨by omega, by omega⟩ (zb_gt _ _ _) (by omega) dX5_over_36 ?_
  rw [z0, Int.tdiv_eq_ediv_of_nonneg (by omega), ← hW.1, ← Int.natCast_ediv]
  refine z_iload_n (pc := 37) hC (i := 2) dX5_over_37 rfl rfl ?_
  refine z_if_ne (pc := 38) hC 45 (by first | assumption | exact zb_gt _ _ _ | exact zcmp_zb _ _ | exact bI_zb _ | exact ⟨by omega, by omega⟩) dX5_over_38 rfl (fun h38 => ?_) (fun h38 => ?_)
  · refine z_iconst (pc := 45) hC dX5_over_45 ?_
    refine z_iadd (pc := 46) hC dX5_over_46 ?_
    refine z_istore (pc := 47) hC (i := 4) dX5_over_47 (by decide) rfl (zS_s (zS_s (zS_s (zS_s zS_0)))) ?_
    exact S_X5_over_49 hw hC σ hσ hv v d hvN hd X1 _ hX (by omega) K
  · refine z_iconst (pc := 41) hC dX5_over_41 ?_
    refine z_goto (pc := 42) hC 46 dX5_over_42 rfl ?_
    refine z_iadd (pc := 46) hC dX5_over_46 ?_
    refine z_istore (pc := 47) hC (i := 4) dX5_over_47 (by decide) rfl (zS_s (zS_s (zS_s (zS_s zS_0)))) ?_
    exact S_X5_over_49 hw hC σ hσ hv v d hvN hd X1 _ hX (by omega) K
set_option maxHeartbeats 4000000 in
set_option maxRecDepth 100000 in
theorem c_X5_over (l : Launch) (w : zP) (hw : zOK w) (Ω : Mem) (σ : Sg) (hσ : scM Ω = σ) (hv : scok σ) (v d : Nat) (hvN : v < sdots σ) (hd : d < 4) : zM l w yX5_over wsX5_over 2 44 [.ref (wa w 49), .int (zI (v : Int)), .int (zI (d : Int))] Ω (zi (fun r Ω1 => r = lk σ v d ∧ Ω1 = Ω)) := by
  refine zM_of cX5_over 5 (some .int) RX5 [some (.ref (wa w 49)), some (.int (zI (v : Int))), some (.int (zI (d : Int))), none, none] hw (by decide +kernel) rfl rfl (Nat.le_of_ble_eq_true rfl) rfl (fun E hC => ?_)
  have z0 : gt Ω 50 0 = σ 0 := st_at hσ (by decide)
  have z1 : gt Ω 50 1 = σ 1 := st_at hσ (by decide)
  have z7 : gt Ω 50 7 = σ 7 := st_at hσ (by decide)
  have hW := sw_eq hv
  have hH := sh_eq hv
  have hN := sdots_le hv
  have hc := lk0 hd
  refine z_iload_n (pc := 0) hC (i := 1) dX5_over_0 rfl rfl ?_
  refine z_aload_n (pc := 1) hC (i := 0) dX5_over_1 rfl rfl ?_
  refine z_getR (C := RX5) (T := TX5) (N := 15) (ci := 5) (pc := 2) hC _ _ 0 in_X5_over_X5 rfl (by decide) (fun _ => rfl) (by decide) fl_X5_over_7 (fun _ => rfl) dX5_over_2 ?_
  refine z_iconst (pc := 5) hC dX5_over_5 ?_
  refine z_ialk (pc := 6) hC _ 0 (by decide) (fun _ => rfl) rfl (by decide) (by decide) dX5_over_6 ?_
  refine z_irem (pc := 7) hC ⟨by omega, by omega⟩ (zb_gt _ _ _) (by omega) dX5_over_7 ?_
  rw [z0, Int.tmod_eq_emod_of_nonneg (by omega), ← hW.1, ← Int.natCast_emod]
  refine z_iload_n (pc := 8) hC (i := 2) dX5_over_8 rfl rfl ?_
  refine z_iconst (pc := 9) hC dX5_over_9 ?_
  refine z_icmp_ne (pc := 10) hC 17 (by first | assumption | exact zb_gt _ _ _ | exact zcmp_zb _ _ | exact bI_zb _ | exact ⟨by omega, by omega⟩) (by first | assumption | exact zb_gt _ _ _ | exact zcmp_zb _ _ | exact bI_zb _ | exact ⟨by omega, by omega⟩) dX5_over_10 rfl (fun h10 => ?_) (fun h10 => ?_)
  · refine z_iload_n (pc := 17) hC (i := 2) dX5_over_17 rfl rfl ?_
    refine z_iconst (pc := 18) hC dX5_over_18 ?_
    refine z_icmp_ne (pc := 19) hC 26 (by first | assumption | exact zb_gt _ _ _ | exact zcmp_zb _ _ | exact bI_zb _ | exact ⟨by omega, by omega⟩) (by first | assumption | exact zb_gt _ _ _ | exact zcmp_zb _ _ | exact bI_zb _ | exact ⟨by omega, by omega⟩) dX5_over_19 rfl (fun h19 => ?_) (fun h19 => ?_)
    · refine z_iconst (pc := 26) hC dX5_over_26 ?_
      refine z_iadd (pc := 27) hC dX5_over_27 ?_
      refine z_istore_n (pc := 28) hC (i := 3) dX5_over_28 rfl (by decide) rfl (zS_s (zS_s (zS_s zS_0))) ?_
      exact S_X5_over_29 hw hC σ hσ hv v d hvN hd _ (by omega) (fun r hr => ⟨r, rfl, hr, rfl⟩)
    · refine z_iconst (pc := 22) hC dX5_over_22 ?_
      refine z_goto (pc := 23) hC 27 dX5_over_23 rfl ?_
      refine z_iadd (pc := 27) hC dX5_over_27 ?_
      refine z_istore_n (pc := 28) hC (i := 3) dX5_over_28 rfl (by decide) rfl (zS_s (zS_s (zS_s zS_0))) ?_
      exact S_X5_over_29 hw hC σ hσ hv v d hvN hd _ (by omega) (fun r hr => ⟨r, rfl, hr, rfl⟩)
  · refine z_iconst (pc := 13) hC dX5_over_13 ?_
    refine z_goto (pc := 14) hC 27 dX5_over_14 rfl ?_
    refine z_iadd (pc := 27) hC dX5_over_27 ?_
    refine z_istore_n (pc := 28) hC (i := 3) dX5_over_28 rfl (by decide) rfl (zS_s (zS_s (zS_s zS_0))) ?_
    exact S_X5_over_29 hw hC σ hσ hv v d hvN hd _ (by omega) (fun r hr => ⟨r, rfl, hr, rfl⟩)
theorem fl_X5_pull_7 : Cond.fieldLink RX5 7 "StrokeCutsModel" "st" "[I" ∈ wsX5_pull := by decide +kernel
theorem in_X5_pull_X5 : ∀ x ∈ u_ws RX5 TX5 15, x ∈ wsX5_pull := by decide +kernel
set_option maxHeartbeats 4000000 in
set_option maxRecDepth 100000 in
theorem c_X5_pull (l : Launch) (w : zP) (hw : zOK w) (Ω : Mem) (σ : Sg) (hσ : scM Ω = σ) (v : Nat) (hvN : v < 36) (k : Int) (hk : zb k) : zM l w yX5_pull wsX5_pull 1 21 [.ref (wa w 49), .int (zI (v : Int)), .int (zI k)] Ω (zi (fun r Ω1 => r = sPl σ v (if k = 1 then 3 else 4) ∧ Ω1 = Ω)) := by
  refine zM_of cX5_pull 3 (some .int) RX5 [some (.ref (wa w 49)), some (.int (zI (v : Int))), some (.int (zI k))] hw (by decide +kernel) rfl rfl (Nat.le_of_ble_eq_true rfl) rfl (fun E hC => ?_)
  have z4 : gt Ω 50 4 = σ 4 := st_at hσ (by decide)
  have z5 : gt Ω 50 5 = σ 5 := st_at hσ (by decide)
  have z6 : gt Ω 50 6 = σ 6 := st_at hσ (by decide)
  have zv : gt Ω 50 (8 + v) = σ (8 + v) := st_at hσ (by omega)
  refine z_aload_n (pc := 0) hC (i := 0) dX5_pull_0 rfl rfl ?_
  refine z_getR (C := RX5) (T := TX5) (N := 15) (ci := 5) (pc := 1) hC _ _ 0 in_X5_pull_X5 rfl (by decide) (fun _ => rfl) (by decide) fl_X5_pull_7 (fun _ => rfl) dX5_pull_1 ?_
  refine z_iconst (pc := 4) hC dX5_pull_4 ?_
  refine z_ialk (pc := 5) hC _ 4 (by decide) (fun _ => rfl) rfl (by decide) (by decide) dX5_pull_5 ?_
  refine z_aload_n (pc := 6) hC (i := 0) dX5_pull_6 rfl rfl ?_
  refine z_getR (C := RX5) (T := TX5) (N := 15) (ci := 5) (pc := 7) hC _ _ 0 in_X5_pull_X5 rfl (by decide) (fun _ => rfl) (by decide) fl_X5_pull_7 (fun _ => rfl) dX5_pull_7 ?_
  refine z_bipush (pc := 10) hC dX5_pull_10 rfl ?_
  refine z_iload_n (pc := 12) hC (i := 1) dX5_pull_12 rfl rfl ?_
  refine z_iadd (pc := 13) hC dX5_pull_13 ?_
  refine z_ialk (pc := 14) hC _ (8 + v) (by decide) (fun _ => rfl) (by omega) (by omega) (by decide) dX5_pull_14 ?_
  refine z_aload_n (pc := 15) hC (i := 0) dX5_pull_15 rfl rfl ?_
  refine z_getR (C := RX5) (T := TX5) (N := 15) (ci := 5) (pc := 16) hC _ _ 0 in_X5_pull_X5 rfl (by decide) (fun _ => rfl) (by decide) fl_X5_pull_7 (fun _ => rfl) dX5_pull_16 ?_
  refine z_iload_n (pc := 19) hC (i := 2) dX5_pull_19 rfl rfl ?_
  refine z_iconst (pc := 20) hC dX5_pull_20 ?_
  refine z_icmp_ne (pc := 21) hC 28 (by first | assumption | exact zb_gt _ _ _ | exact zcmp_zb _ _ | exact bI_zb _ | exact ⟨by omega, by omega⟩) (by first | assumption | exact zb_gt _ _ _ | exact zcmp_zb _ _ | exact bI_zb _ | exact ⟨by omega, by omega⟩) dX5_pull_21 rfl (fun h21 => ?_) (fun h21 => ?_)
  · refine z_bipush (pc := 28) hC dX5_pull_28 rfl ?_
    refine z_ialk (pc := 30) hC _ 6 (by decide) (fun _ => rfl) rfl (by decide) (by decide) dX5_pull_30 ?_
    refine z_callS (n := 2) (pc := 31) hC (c_X5_far l w hw _ _ _ (by first | assumption | exact zb_gt _ _ _ | exact zcmp_zb _ _ | exact bI_zb _ | exact ⟨by omega, by omega⟩) (by first | assumption | exact zb_gt _ _ _ | exact zcmp_zb _ _ | exact bI_zb _ | exact ⟨by omega, by omega⟩)) gX5_pull_X5_far rfl (by decide +kernel) (by decide) (by decide) rfl rfl (Nat.le_of_ble_eq_true rfl) dX5_pull_31 (zi_k fun r31 Ω31 h31 => ?_)
    obtain ⟨rfl, hM31⟩ := h31
    obtain rfl := hM31.symm
    refine z_imul (pc := 34) hC dX5_pull_34 ?_
    exact z_iret (pc := 35) hC rfl ⟨_, rfl, ⟨by rw [z4, zv, z6]; unfold sPl; rw [if_neg (by omega)], rfl⟩⟩ dX5_pull_35
  · refine z_iconst (pc := 24) hC dX5_pull_24 ?_
    refine z_goto (pc := 25) hC 30 dX5_pull_25 rfl ?_
    refine z_ialk (pc := 30) hC _ 5 (by decide) (fun _ => rfl) rfl (by decide) (by decide) dX5_pull_30 ?_
    refine z_callS (n := 2) (pc := 31) hC (c_X5_far l w hw _ _ _ (by first | assumption | exact zb_gt _ _ _ | exact zcmp_zb _ _ | exact bI_zb _ | exact ⟨by omega, by omega⟩) (by first | assumption | exact zb_gt _ _ _ | exact zcmp_zb _ _ | exact bI_zb _ | exact ⟨by omega, by omega⟩)) gX5_pull_X5_far rfl (by decide +kernel) (by decide) (by decide) rfl rfl (Nat.le_of_ble_eq_true rfl) dX5_pull_31 (zi_k fun r31 Ω31 h31 => ?_)
    obtain ⟨rfl, hM31⟩ := h31
    obtain rfl := hM31.symm
    refine z_imul (pc := 34) hC dX5_pull_34 ?_
    exact z_iret (pc := 35) hC rfl ⟨_, rfl, ⟨by rw [z4, zv, z5]; unfold sPl; rw [if_pos (by omega)], rfl⟩⟩ dX5_pull_35
theorem fl_X5_weight_22 : Cond.fieldLink RX5 22 "StrokeCutsModel" "strained" "I" ∈ wsX5_weight := by decide +kernel
theorem in_X5_weight_X5 : ∀ x ∈ u_ws RX5 TX5 15, x ∈ wsX5_weight := by decide +kernel
theorem fl_X5_weight_7 : Cond.fieldLink RX5 7 "StrokeCutsModel" "st" "[I" ∈ wsX5_weight := by decide +kernel
theorem fl_X5_weight_60 : Cond.fieldLink RX5 60 "StrokeCutsModel" "strainedTo" "I" ∈ wsX5_weight := by decide +kernel
set_option maxHeartbeats 4000000 in
set_option maxRecDepth 100000 in
theorem c_X5_weight (l : Launch) (w : zP) (hw : zOK w) (Ω : Mem) (σ : Sg) (hσ : scM Ω = σ) (hv : scok σ) (v d : Nat) (hvN : v < sdots σ) (hd : d < 4) (hl : lk σ v d ≠ -1) : zM l w yX5_weight wsX5_weight 3 68 [.ref (wa w 49), .int (zI (v : Int)), .int (zI (d : Int))] Ω (zi (fun r Ω1 => r = (if gt Ω 49 6 = 4 * (v : Int) + (d : Int) then gt Ω 49 7 else om σ v d) ∧ Ω1 = Ω)) := by
  refine zM_of cX5_weight 5 (some .int) RX5 [some (.ref (wa w 49)), some (.int (zI (v : Int))), some (.int (zI (d : Int))), none, none] hw (by decide +kernel) rfl rfl (Nat.le_of_ble_eq_true rfl) rfl (fun E hC => ?_)
  have z0 : gt Ω 50 0 = σ 0 := st_at hσ (by decide)
  have z1 : gt Ω 50 1 = σ 1 := st_at hσ (by decide)
  have z7 : gt Ω 50 7 = σ 7 := st_at hσ (by decide)
  have hW := sw_eq hv
  have hH := sh_eq hv
  have hN := sdots_le hv
  obtain ⟨o, ho, hoN, -, -⟩ := lk_inv hv hvN hd hl
  have z2 : gt Ω 50 2 = σ 2 := st_at hσ (by decide)
  have z3 : gt Ω 50 3 = σ 3 := st_at hσ (by decide)
  have zv : gt Ω 50 (8 + v) = σ (8 + v) := st_at hσ (by omega)
  have zo : gt Ω 50 (8 + o) = σ (8 + o) := st_at hσ (by omega)
  have s2 := hv.2.2.1
  have s3 := hv.2.2.2.1
  have sa := hv.2.2.2.2.2.2.2.2.1 v (by omega)
  have sb := hv.2.2.2.2.2.2.2.2.1 o (by omega)
  have hz := zabs_le (a := σ (8 + v) - σ (8 + o)) (b := 9) (by omega) (by omega)
  have hm := mul_le2 s3.1 s3.2 hz.1 hz.2
  refine z_aload_n (pc := 0) hC (i := 0) dX5_weight_0 rfl rfl ?_
  refine z_getI (C := RX5) (T := TX5) (N := 15) (ci := 5) (pc := 1) hC _ 6 in_X5_weight_X5 rfl (by decide) (fun _ => rfl) (by decide) fl_X5_weight_22 (fun _ => rfl) dX5_weight_1 ?_
  refine z_iconst (pc := 4) hC dX5_weight_4 ?_
  refine z_iload_n (pc := 5) hC (i := 1) dX5_weight_5 rfl rfl ?_
  refine z_imul (pc := 6) hC dX5_weight_6 ?_
  refine z_iload_n (pc := 7) hC (i := 2) dX5_weight_7 rfl rfl ?_
  refine z_iadd (pc := 8) hC dX5_weight_8 ?_
  refine z_icmp_ne (pc := 9) hC 17 (by first | assumption | exact zb_gt _ _ _ | exact zcmp_zb _ _ | exact bI_zb _ | exact ⟨by omega, by omega⟩) (by first | assumption | exact zb_gt _ _ _ | exact zcmp_zb _ _ | exact bI_zb _ | exact ⟨by omega, by omega⟩) dX5_weight_9 rfl (fun h9 => ?_) (fun h9 => ?_)
  · refine z_aload_n (pc := 17) hC (i := 0) dX5_weight_17 rfl rfl ?_
    refine z_iload_n (pc := 18) hC (i := 1) dX5_weight_18 rfl rfl ?_
    refine z_iload_n (pc := 19) hC (i := 2) dX5_weight_19 rfl rfl ?_
    refine z_callV (n := 2) (T := TX5) (N := 15) (ci := 5) (pc := 20) hC (c_X5_over l w hw _ σ hσ hv v d hvN hd) gX5_weight_X5_over rfl (by decide +kernel) (by decide) (by decide) rfl (by decide) (fun _ => rfl) rfl rfl (Nat.le_of_ble_eq_true rfl) dX5_weight_20 (zi_k fun r20 Ω20 h20 => ?_)
    obtain ⟨hr20, hm20⟩ := h20
    have hm20 := hm20.symm
    subst hm20
    rw [ho] at hr20
    subst hr20
    refine z_istore_n (pc := 23) hC (i := 3) dX5_weight_23 rfl (by decide) rfl (zS_s (zS_s (zS_s zS_0))) ?_
    refine z_aload_n (pc := 24) hC (i := 0) dX5_weight_24 rfl rfl ?_
    refine z_getR (C := RX5) (T := TX5) (N := 15) (ci := 5) (pc := 25) hC _ _ 0 in_X5_weight_X5 rfl (by decide) (fun _ => rfl) (by decide) fl_X5_weight_7 (fun _ => rfl) dX5_weight_25 ?_
    refine z_iconst (pc := 28) hC dX5_weight_28 ?_
    refine z_ialk (pc := 29) hC _ 2 (by decide) (fun _ => rfl) rfl (by decide) (by decide) dX5_weight_29 ?_
    refine z_aload_n (pc := 30) hC (i := 0) dX5_weight_30 rfl rfl ?_
    refine z_getR (C := RX5) (T := TX5) (N := 15) (ci := 5) (pc := 31) hC _ _ 0 in_X5_weight_X5 rfl (by decide) (fun _ => rfl) (by decide) fl_X5_weight_7 (fun _ => rfl) dX5_weight_31 ?_
    refine z_iconst (pc := 34) hC dX5_weight_34 ?_
    refine z_ialk (pc := 35) hC _ 3 (by decide) (fun _ => rfl) rfl (by decide) (by decide) dX5_weight_35 ?_
    refine z_aload_n (pc := 36) hC (i := 0) dX5_weight_36 rfl rfl ?_
    refine z_getR (C := RX5) (T := TX5) (N := 15) (ci := 5) (pc := 37) hC _ _ 0 in_X5_weight_X5 rfl (by decide) (fun _ => rfl) (by decide) fl_X5_weight_7 (fun _ => rfl) dX5_weight_37 ?_
    refine z_bipush (pc := 40) hC dX5_weight_40 rfl ?_
    refine z_iload_n (pc := 42) hC (i := 1) dX5_weight_42 rfl rfl ?_
    refine z_iadd (pc := 43) hC dX5_weight_43 ?_
    refine z_ialk (pc := 44) hC _ (8 + v) (by decide) (fun _ => rfl) (by omega) (by omega) (by decide) dX5_weight_44 ?_
    refine z_aload_n (pc := 45) hC (i := 0) dX5_weight_45 rfl rfl ?_
    refine z_getR (C := RX5) (T := TX5) (N := 15) (ci := 5) (pc := 46) hC _ _ 0 in_X5_weight_X5 rfl (by decide) (fun _ => rfl) (by decide) fl_X5_weight_7 (fun _ => rfl) dX5_weight_46 ?_
    refine z_bipush (pc := 49) hC dX5_weight_49 rfl ?_
    refine z_iload_n (pc := 51) hC (i := 3) dX5_weight_51 rfl rfl ?_
    refine z_iadd (pc := 52) hC dX5_weight_52 ?_
    refine z_ialk (pc := 53) hC _ (8 + o) (by decide) (fun _ => rfl) (by omega) (by omega) (by decide) dX5_weight_53 ?_
    refine z_callS (n := 2) (pc := 54) hC (c_X5_far l w hw _ _ _ (by first | assumption | exact zb_gt _ _ _ | exact zcmp_zb _ _ | exact bI_zb _ | exact ⟨by omega, by omega⟩) (by first | assumption | exact zb_gt _ _ _ | exact zcmp_zb _ _ | exact bI_zb _ | exact ⟨by omega, by omega⟩)) gX5_weight_X5_far rfl (by decide +kernel) (by decide) (by decide) rfl rfl (Nat.le_of_ble_eq_true rfl) dX5_weight_54 (zi_k fun r54 Ω54 h54 => ?_)
    obtain ⟨rfl, hM54⟩ := h54
    obtain rfl := hM54.symm
    refine z_imul (pc := 57) hC dX5_weight_57 ?_
    refine z_isub (pc := 58) hC dX5_weight_58 ?_
    rw [z2, z3, zv, zo]
    refine z_istore (pc := 59) hC (i := 4) dX5_weight_59 (by decide) rfl (zS_s (zS_s (zS_s (zS_s zS_0)))) ?_
    refine z_iload (pc := 61) hC (i := 4) dX5_weight_61 rfl ?_
    refine z_iconst (pc := 63) hC dX5_weight_63 ?_
    refine z_icmp_ge (pc := 64) hC 71 (by first | assumption | exact zb_gt _ _ _ | exact zcmp_zb _ _ | exact bI_zb _ | exact ⟨by omega, by omega⟩) (by first | assumption | exact zb_gt _ _ _ | exact zcmp_zb _ _ | exact bI_zb _ | exact ⟨by omega, by omega⟩) dX5_weight_64 rfl (fun h64 => ?_) (fun h64 => ?_)
    · refine z_iload (pc := 71) hC (i := 4) dX5_weight_71 rfl ?_
      refine z_istore (pc := 73) hC (i := 4) dX5_weight_73 (by decide) rfl (zS_s (zS_s (zS_s (zS_s zS_0)))) ?_
      refine z_iload_n (pc := 75) hC (i := 2) dX5_weight_75 rfl rfl ?_
      refine z_iconst (pc := 76) hC dX5_weight_76 ?_
      refine z_icmp_le (pc := 77) hC 96 (by first | assumption | exact zb_gt _ _ _ | exact zcmp_zb _ _ | exact bI_zb _ | exact ⟨by omega, by omega⟩) (by first | assumption | exact zb_gt _ _ _ | exact zcmp_zb _ _ | exact bI_zb _ | exact ⟨by omega, by omega⟩) dX5_weight_77 rfl (fun h77 => ?_) (fun h77 => ?_)
      · refine z_iload (pc := 96) hC (i := 4) dX5_weight_96 rfl ?_
        exact z_iret (pc := 98) hC rfl ⟨_, rfl, ⟨by rw [if_neg (by omega)]; unfold om; rw [ho, Int.toNat_natCast]; unfold sWt; (first | rw [if_pos (by omega)] | rw [if_neg (by omega)]); (try rw [Int.tdiv_eq_ediv_of_nonneg (by omega)]); omega, rfl⟩⟩ dX5_weight_98
      · refine z_iload (pc := 80) hC (i := 4) dX5_weight_80 rfl ?_
        refine z_iconst (pc := 82) hC dX5_weight_82 ?_
        refine z_icmp_ge (pc := 83) hC 90 (by first | assumption | exact zb_gt _ _ _ | exact zcmp_zb _ _ | exact bI_zb _ | exact ⟨by omega, by omega⟩) (by first | assumption | exact zb_gt _ _ _ | exact zcmp_zb _ _ | exact bI_zb _ | exact ⟨by omega, by omega⟩) dX5_weight_83 rfl (fun h83 => ?_) (fun h83 => ?_)
        · refine z_iload (pc := 90) hC (i := 4) dX5_weight_90 rfl ?_
          refine z_iconst (pc := 92) hC dX5_weight_92 ?_
          refine z_idiv (pc := 93) hC ⟨by omega, by omega⟩ ⟨by decide, by decide⟩ (by decide) dX5_weight_93 ?_
          refine z_istore (pc := 94) hC (i := 4) dX5_weight_94 (by decide) rfl (zS_s (zS_s (zS_s (zS_s zS_0)))) ?_
          refine z_iload (pc := 96) hC (i := 4) dX5_weight_96 rfl ?_
          exact z_iret (pc := 98) hC rfl ⟨_, rfl, ⟨by rw [if_neg (by omega)]; unfold om; rw [ho, Int.toNat_natCast]; unfold sWt; (first | rw [if_pos (by omega)] | rw [if_neg (by omega)]); (try rw [Int.tdiv_eq_ediv_of_nonneg (by omega)]); omega, rfl⟩⟩ dX5_weight_98
        · refine z_iconst (pc := 86) hC dX5_weight_86 ?_
          refine z_goto (pc := 87) hC 94 dX5_weight_87 rfl ?_
          refine z_istore (pc := 94) hC (i := 4) dX5_weight_94 (by decide) rfl (zS_s (zS_s (zS_s (zS_s zS_0)))) ?_
          refine z_iload (pc := 96) hC (i := 4) dX5_weight_96 rfl ?_
          exact z_iret (pc := 98) hC rfl ⟨_, rfl, ⟨by rw [if_neg (by omega)]; unfold om; rw [ho, Int.toNat_natCast]; unfold sWt; (first | rw [if_pos (by omega)] | rw [if_neg (by omega)]); (try rw [Int.tdiv_eq_ediv_of_nonneg (by omega)]); omega, rfl⟩⟩ dX5_weight_98
    · refine z_iconst (pc := 67) hC dX5_weight_67 ?_
      refine z_goto (pc := 68) hC 73 dX5_weight_68 rfl ?_
      refine z_istore (pc := 73) hC (i := 4) dX5_weight_73 (by decide) rfl (zS_s (zS_s (zS_s (zS_s zS_0)))) ?_
      refine z_iload_n (pc := 75) hC (i := 2) dX5_weight_75 rfl rfl ?_
      refine z_iconst (pc := 76) hC dX5_weight_76 ?_
      refine z_icmp_le (pc := 77) hC 96 (by first | assumption | exact zb_gt _ _ _ | exact zcmp_zb _ _ | exact bI_zb _ | exact ⟨by omega, by omega⟩) (by first | assumption | exact zb_gt _ _ _ | exact zcmp_zb _ _ | exact bI_zb _ | exact ⟨by omega, by omega⟩) dX5_weight_77 rfl (fun h77 => ?_) (fun h77 => ?_)
      · refine z_iload (pc := 96) hC (i := 4) dX5_weight_96 rfl ?_
        exact z_iret (pc := 98) hC rfl ⟨_, rfl, ⟨by rw [if_neg (by omega)]; unfold om; rw [ho, Int.toNat_natCast]; unfold sWt; (first | rw [if_pos (by omega)] | rw [if_neg (by omega)]); (try rw [Int.tdiv_eq_ediv_of_nonneg (by omega)]); omega, rfl⟩⟩ dX5_weight_98
      · refine z_iload (pc := 80) hC (i := 4) dX5_weight_80 rfl ?_
        refine z_iconst (pc := 82) hC dX5_weight_82 ?_
        refine z_icmp_ge (pc := 83) hC 90 (by first | assumption | exact zb_gt _ _ _ | exact zcmp_zb _ _ | exact bI_zb _ | exact ⟨by omega, by omega⟩) (by first | assumption | exact zb_gt _ _ _ | exact zcmp_zb _ _ | exact bI_zb _ | exact ⟨by omega, by omega⟩) dX5_weight_83 rfl (fun h83 => ?_) (fun h83 => ?_)
        · refine z_iload (pc := 90) hC (i := 4) dX5_weight_90 rfl ?_
          refine z_iconst (pc := 92) hC dX5_weight_92 ?_
          refine z_idiv (pc := 93) hC ⟨by omega, by omega⟩ ⟨by decide, by decide⟩ (by decide) dX5_weight_93 ?_
          refine z_istore (pc := 94) hC (i := 4) dX5_weight_94 (by decide) rfl (zS_s (zS_s (zS_s (zS_s zS_0)))) ?_
          refine z_iload (pc := 96) hC (i := 4) dX5_weight_96 rfl ?_
          exact z_iret (pc := 98) hC rfl ⟨_, rfl, ⟨by rw [if_neg (by omega)]; unfold om; rw [ho, Int.toNat_natCast]; unfold sWt; (first | rw [if_pos (by omega)] | rw [if_neg (by omega)]); (try rw [Int.tdiv_eq_ediv_of_nonneg (by omega)]); omega, rfl⟩⟩ dX5_weight_98
        · refine z_iconst (pc := 86) hC dX5_weight_86 ?_
          refine z_goto (pc := 87) hC 94 dX5_weight_87 rfl ?_
          refine z_istore (pc := 94) hC (i := 4) dX5_weight_94 (by decide) rfl (zS_s (zS_s (zS_s (zS_s zS_0)))) ?_
          refine z_iload (pc := 96) hC (i := 4) dX5_weight_96 rfl ?_
          exact z_iret (pc := 98) hC rfl ⟨_, rfl, ⟨by rw [if_neg (by omega)]; unfold om; rw [ho, Int.toNat_natCast]; unfold sWt; (first | rw [if_pos (by omega)] | rw [if_neg (by omega)]); (try rw [Int.tdiv_eq_ediv_of_nonneg (by omega)]); omega, rfl⟩⟩ dX5_weight_98
  · refine z_aload_n (pc := 12) hC (i := 0) dX5_weight_12 rfl rfl ?_
    refine z_getI (C := RX5) (T := TX5) (N := 15) (ci := 5) (pc := 13) hC _ 7 in_X5_weight_X5 rfl (by decide) (fun _ => rfl) (by decide) fl_X5_weight_60 (fun _ => rfl) dX5_weight_13 ?_
    exact z_iret (pc := 16) hC rfl ⟨_, rfl, ⟨(if_pos (by omega)).symm, rfl⟩⟩ dX5_weight_16
