theorem fl_X4_draws_12 : Cond.fieldLink RX4 12 "StrokeCuts" "scene" "LStrokeCuts$Scene;" ∈ wsX4_draws := by decide +kernel
theorem in_X4_draws_X4 : ∀ x ∈ u_ws RX4 TX4 7, x ∈ wsX4_draws := by decide +kernel
theorem kc_X4_draws_69 : Cond.constantLong RX4 69 (1103515245) ∈ wsX4_draws := by decide +kernel
theorem kc_X4_draws_71 : Cond.constantLong RX4 71 (12345) ∈ wsX4_draws := by decide +kernel
theorem kc_X4_draws_73 : Cond.constantLong RX4 73 (2147483648) ∈ wsX4_draws := by decide +kernel
theorem fl_X4_draws_64 : Cond.fieldLink RX4 64 "StrokeCuts$Scene" "shades" "[I" ∈ wsX4_draws := by decide +kernel
theorem in_X4_draws_X2 : ∀ x ∈ u_ws RX2 TX2 5, x ∈ wsX4_draws := by decide +kernel
theorem kc_X4_draws_75 : Cond.constantLong RX4 75 (65536) ∈ wsX4_draws := by decide +kernel
set_option maxHeartbeats 4000000 in
set_option maxRecDepth 100000 in
theorem L_X4_draws_45 {E : zE} {w : zP} {l : Launch} {Post : Option Value → Mem → Prop} (hw : zOK w) (hC : zC E w l RX4 wsX4_draws cX4_draws 7 3 103 (some .int) Post) (s n : Int) (hs0 : 0 ≤ s) (hs1 : s ≤ 999999) (hn0 : 1 ≤ n) (hn1 : n ≤ 10) (a : As) (hv0 : scok a.1) (Ω0 : Mem) (hN36 : sdots a.1 ≤ 36) (hdd : ∀ k, (sdots a.1 : Int) = sfD a.1 (drv s n) k 0 * sfD a.1 (drv s n) k 1) (K : ∀ Ω : Mem, RC Ω (aSet a (sfD a.1 (drv s n) (sdots a.1))) → frC Ω0 Ω → X E Ω 111 [some (.ref (wa w 0)), some (.int (zI s)), some (.int (zI n)), some (.long (lnI (drI s (sdots a.1)))), none, some (.int (zI (sm (drv s n) (sdots a.1)))), some (.int (zI (sdots a.1 : Int)))] []) : ∀ (j : Nat) (k : Nat) (Ω : Mem), sdots a.1 < k + j → (k ≤ sdots a.1) → (RC Ω (aSet a (sfD a.1 (drv s n) k))) → (frC Ω0 Ω) → X E Ω 45 [some (.ref (wa w 0)), some (.int (zI s)), some (.int (zI n)), some (.long (lnI (drI s k))), none, some (.int (zI (sm (drv s n) k))), some (.int (zI (k : Int)))] [] := by
  intro j
  induction j with
  | zero =>
    intro k Ω hfu hk h hF
    exact absurd hfu (by omega)
  | succ j ih =>
    intro k Ω hfu hk h hF
    have hv := h.1.2
    have hk36 : sdots a.1 ≤ 36 := hN36
    have hd := drI_b hs0 hs1 k
    have hd1 := drI_b hs0 hs1 (k + 1)
    have hvb := drv_b hs0 hs1 hn0 hn1
    have q0 : gt Ω 13 0 * gt Ω 13 1 = (sdots a.1 : Int) := by rw [← scC_0, ← scC_1, h.1.1]; exact (hdd k).symm
    have hsum := sm_bd (f := drv s n) (a := 0) (b := 9) (n := k) (fun j _ => hvb j)
    refine z_iload (pc := 45) hC (i := 6) dX4_draws_45 rfl ?_
    refine z_aload_n (pc := 47) hC (i := 0) dX4_draws_47 rfl rfl ?_
    refine z_getR (C := RX4) (T := TX4) (N := 7) (ci := 4) (pc := 48) hC _ _ 0 in_X4_draws_X4 rfl (by decide) (fun _ => rfl) (by decide) fl_X4_draws_12 (fun _ => rfl) dX4_draws_48 ?_
    refine z_callV (n := 0) (T := TX2) (N := 5) (ci := 2) (pc := 51) hC (c_X2_dots l w hw _) gX4_draws_X2_dots rfl (by decide +kernel) (by decide) (by decide) rfl (by decide) (fun _ => rfl) rfl rfl (Nat.le_of_ble_eq_true rfl) dX4_draws_51 (zi_k fun r51 Ω51 h51 => ?_)
    obtain ⟨rfl, hM51⟩ := h51
    obtain rfl := hM51.symm
    rw [q0]
    refine z_icmp_ge (pc := 54) hC 111 (by first | assumption | exact zb_gt _ _ _ | exact zcmp_zb _ _ | exact bI_zb _ | exact ⟨by omega, by omega⟩) (by first | assumption | exact zb_gt _ _ _ | exact zcmp_zb _ _ | exact bI_zb _ | exact ⟨by omega, by omega⟩) dX4_draws_54 rfl (fun h54 => ?_) (fun h54 => ?_)
    · obtain rfl : k = sdots a.1 := by omega
      exact K Ω h hF
    · refine z_lload_n (pc := 57) hC (i := 3) dX4_draws_57 rfl rfl ?_
      refine z_ldc2 (pc := 58) hC kc_X4_draws_69 dX4_draws_58 ?_
      refine z_lmul (pc := 61) hC dX4_draws_61 ?_
      refine z_ldc2 (pc := 62) hC kc_X4_draws_71 dX4_draws_62 ?_
      refine z_ladd (pc := 65) hC dX4_draws_65 ?_
      refine z_ldc2 (pc := 66) hC kc_X4_draws_73 dX4_draws_66 ?_
      refine z_lrem (pc := 69) hC (by decide) dX4_draws_69 ?_
      rw [dr_step hd.1 hd.2]
      change X E Ω 70 _ (Value.long (lnI (drI s (k + 1))) :: _)
      refine z_lstore_n (pc := 70) hC (i := 3) dX4_draws_70 rfl (by decide) rfl (zS2_s (zS2_s (zS2_s zS2_0))) ?_
      refine z_aload_n (pc := 71) hC (i := 0) dX4_draws_71 rfl rfl ?_
      refine z_getR (C := RX4) (T := TX4) (N := 7) (ci := 4) (pc := 72) hC _ _ 0 in_X4_draws_X4 rfl (by decide) (fun _ => rfl) (by decide) fl_X4_draws_12 (fun _ => rfl) dX4_draws_72 ?_
      refine z_getR (C := RX2) (T := TX2) (N := 5) (ci := 2) (pc := 75) hC (.ref (wa w 15)) _ 3 in_X4_draws_X2 rfl (by decide) (fun _ => rfl) (by decide) fl_X4_draws_64 (fun _ => rfl) dX4_draws_75 ?_
      refine z_iload (pc := 78) hC (i := 6) dX4_draws_78 rfl ?_
      refine z_lload_n (pc := 80) hC (i := 3) dX4_draws_80 rfl rfl ?_
      refine z_ldc2 (pc := 81) hC kc_X4_draws_75 dX4_draws_81 ?_
      refine z_ldiv (pc := 84) hC (by decide) dX4_draws_84 ?_
      refine z_iload_n (pc := 85) hC (i := 2) dX4_draws_85 rfl rfl ?_
      refine z_i2l (pc := 86) hC rfl dX4_draws_86 ?_
      refine z_lrem (pc := 87) hC (dr_nz hn0 hn1) dX4_draws_87 ?_
      refine z_l2i (pc := 88) hC (drv s n k) (dr_val hd1.1 hd1.2 hn0 hn1) dX4_draws_88 ?_
      refine z_iask (pc := 89) hC _ k (by decide) (fun _ => rfl) rfl (by omega) (by decide) dX4_draws_89 ?_
      refine z_iload (pc := 90) hC (i := 5) dX4_draws_90 rfl ?_
      refine z_aload_n (pc := 92) hC (i := 0) dX4_draws_92 rfl rfl ?_
      refine z_getR (C := RX4) (T := TX4) (N := 7) (ci := 4) (pc := 93) hC _ _ 0 in_X4_draws_X4 rfl (by decide) (fun _ => rfl) (by decide) fl_X4_draws_12 (fun _ => rfl) dX4_draws_93 ?_
      refine z_getR (C := RX2) (T := TX2) (N := 5) (ci := 2) (pc := 96) hC (.ref (wa w 15)) _ 3 in_X4_draws_X2 rfl (by decide) (fun _ => rfl) (by decide) fl_X4_draws_64 (fun _ => rfl) dX4_draws_96 ?_
      refine z_iload (pc := 99) hC (i := 6) dX4_draws_99 rfl ?_
      refine z_ialk (pc := 101) hC _ k (by decide) (fun _ => rfl) rfl (by omega) (by decide) dX4_draws_101 ?_
      rw [gt_s _ _ _ ⟨by have := (hvb k).1; omega, by have := (hvb k).2; omega⟩]
      refine z_iadd (pc := 102) hC dX4_draws_102 ?_
      refine z_istore (pc := 103) hC (i := 5) dX4_draws_103 (by decide) rfl (zS_s (zS_s (zS_s (zS_s (zS_s zS_0))))) ?_
      refine z_iinc (pc := 105) hC (i := 6) dX4_draws_105 rfl (by decide) rfl (zS_s (zS_s (zS_s (zS_s (zS_s (zS_s zS_0)))))) ?_
      refine z_goto (pc := 108) hC 45 dX4_draws_108 rfl ?_
      have e1 : scC (ups Ω 15 k (drv s n k)) = sfD a.1 (drv s n) (k + 1) := by
        rw [scC_upsh Ω (k := k) (v := drv s n k) (by omega) ⟨by have := (hvb k).1; omega, by have := (hvb k).2; omega⟩, h.1.1]
        exact sfD_s a.1 (drv s n) k
      exact ih (k + 1) _ (by omega) (by omega) (RC.set (a := aSet a (sfD a.1 (drv s n) k)) h e1 (sfD_ok hv0 hvb (by omega)) (fun q u v => ups_n _ _ _ (by omega))) (hF.trans (frC_up _ _ _ (by decide)))
theorem kc_X4_draws_68 : Cond.constant RX4 68 (999999) ∈ wsX4_draws := by decide +kernel
theorem fl_X4_draws_19 : Cond.fieldLink RX4 19 "StrokeCuts" "past" "LStrokeCuts$History;" ∈ wsX4_draws := by decide +kernel
set_option maxHeartbeats 4000000 in
set_option maxRecDepth 100000 in
theorem c_X4_draws (l : Launch) (w : zP) (hw : zOK w) (Ω : Mem) (a : As) (h : RC Ω a) (s n : Int) (hs : zb s) (hn : zb n) : zM l w yX4_draws wsX4_draws 3 103 [.ref (wa w 0), .int (zI s), .int (zI n)] Ω (zi (fun r Ω1 => r = (aDraws a s n).1 ∧ RC Ω1 (aDraws a s n).2 ∧ frC Ω Ω1)) := by
  refine zM_of cX4_draws 7 (some .int) RX4 [some (.ref (wa w 0)), some (.int (zI s)), some (.int (zI n)), none, none, none, none] hw (by decide +kernel) rfl rfl (Nat.le_of_ble_eq_true rfl) rfl (fun E hC => ?_)
  have hv := h.1.2
  have hv1 : scok (scC Ω) := by rw [h.1.1]; exact h.1.2
  have q0 : gt Ω 13 0 = a.1 0 := by rw [← scC_0, h.1.1]
  have q1 : gt Ω 13 1 = a.1 1 := by rw [← scC_1, h.1.1]
  have hN := sdots_le hv
  have hw01 := hv.1
  have hh01 := hv.2.1
  refine z_iload_n (pc := 0) hC (i := 1) dX4_draws_0 rfl rfl ?_
  refine z_iconst (pc := 1) hC dX4_draws_1 ?_
  refine z_ldc (pc := 2) hC (n := 999999) kc_X4_draws_68 rfl dX4_draws_2 ?_
  refine z_callS (n := 3) (pc := 4) hC (c_X4_isWithin l w hw _ _ _ _ (by first | assumption | exact zb_gt _ _ _ | exact zcmp_zb _ _ | exact bI_zb _ | exact ⟨by omega, by omega⟩) (by first | assumption | exact zb_gt _ _ _ | exact zcmp_zb _ _ | exact bI_zb _ | exact ⟨by omega, by omega⟩) (by first | assumption | exact zb_gt _ _ _ | exact zcmp_zb _ _ | exact bI_zb _ | exact ⟨by omega, by omega⟩)) gX4_draws_X4_isWithin rfl (by decide +kernel) (by decide) (by decide) rfl rfl (Nat.le_of_ble_eq_true rfl) dX4_draws_4 (zb_k fun r4 Ω4 h4 => ?_)
  obtain ⟨rfl, hM4⟩ := h4
  obtain rfl := hM4.symm
  refine z_ifd_eq (pc := 7) hC 20 dX4_draws_7 rfl (fun h7 => ?_) (fun h7 => ?_)
  · refine z_aload_n (pc := 20) hC (i := 0) dX4_draws_20 rfl rfl ?_
    refine z_callV (n := 0) (T := TX4) (N := 7) (ci := 4) (pc := 21) hC (c_X4_refuseBad l w hw _) gX4_draws_X4_refuseBad rfl (by decide +kernel) (by decide) (by decide) rfl (by decide) (fun _ => rfl) rfl rfl (Nat.le_of_ble_eq_true rfl) dX4_draws_21 (zi_k fun r21 Ω21 h21 => ?_)
    obtain ⟨rfl, rfl⟩ := h21
    exact z_iret (pc := 24) hC rfl ⟨_, rfl, bad_ret h (if_neg (by omega))⟩ dX4_draws_24
  · refine z_iload_n (pc := 10) hC (i := 2) dX4_draws_10 rfl rfl ?_
    refine z_iconst (pc := 11) hC dX4_draws_11 ?_
    refine z_bipush (pc := 12) hC dX4_draws_12 rfl ?_
    refine z_callS (n := 3) (pc := 14) hC (c_X4_isWithin l w hw _ _ _ _ (by first | assumption | exact zb_gt _ _ _ | exact zcmp_zb _ _ | exact bI_zb _ | exact ⟨by omega, by omega⟩) (by first | assumption | exact zb_gt _ _ _ | exact zcmp_zb _ _ | exact bI_zb _ | exact ⟨by omega, by omega⟩) (by first | assumption | exact zb_gt _ _ _ | exact zcmp_zb _ _ | exact bI_zb _ | exact ⟨by omega, by omega⟩)) gX4_draws_X4_isWithin rfl (by decide +kernel) (by decide) (by decide) rfl rfl (Nat.le_of_ble_eq_true rfl) dX4_draws_14 (zb_k fun r14 Ω14 h14 => ?_)
    obtain ⟨rfl, hM14⟩ := h14
    obtain rfl := hM14.symm
    refine z_ifd_ne (pc := 17) hC 25 dX4_draws_17 rfl (fun h17 => ?_) (fun h17 => ?_)
    · refine z_aload_n (pc := 25) hC (i := 0) dX4_draws_25 rfl rfl ?_
      refine z_getR (C := RX4) (T := TX4) (N := 7) (ci := 4) (pc := 26) hC _ _ 1 in_X4_draws_X4 rfl (by decide) (fun _ => rfl) (by decide) fl_X4_draws_19 (fun _ => rfl) dX4_draws_26 ?_
      refine z_aload_n (pc := 29) hC (i := 0) dX4_draws_29 rfl rfl ?_
      refine z_getR (C := RX4) (T := TX4) (N := 7) (ci := 4) (pc := 30) hC _ _ 0 in_X4_draws_X4 rfl (by decide) (fun _ => rfl) (by decide) fl_X4_draws_12 (fun _ => rfl) dX4_draws_30 ?_
      refine z_callV (n := 1) (T := TX0) (N := 3) (ci := 0) (pc := 33) hC (c_X0_remember l w hw _ h.2.1.2.2.1.1 h.2.1.2.2.1.2 (by rw [h.2.1.1]; omega) (by rw [h.2.1.1]; have := h.2.1.2.1; omega)) gX4_draws_X0_remember rfl (by decide +kernel) (by decide) (by decide) rfl (by decide) (fun _ => rfl) rfl rfl (Nat.le_of_ble_eq_true rfl) dX4_draws_33 (zv_k fun Ω33 h33 => ?_)
      obtain ⟨g1, g2, g3, g4⟩ := h33
      obtain ⟨hR, hfr, hsR⟩ := h.rem g1 g2 g3 g4
      have q0R : gt Ω33 13 0 = a.1 0 := by rw [← scC_0, hsR]
      have q1R : gt Ω33 13 1 = a.1 1 := by rw [← scC_1, hsR]
      refine z_iload_n (pc := 36) hC (i := 1) dX4_draws_36 rfl rfl ?_
      refine z_i2l (pc := 37) hC (lnI_i2l hs) dX4_draws_37 ?_
      refine z_lstore_n (pc := 38) hC (i := 3) dX4_draws_38 rfl (by decide) rfl (zS2_s (zS2_s (zS2_s zS2_0))) ?_
      refine z_iconst (pc := 39) hC dX4_draws_39 ?_
      refine z_istore (pc := 40) hC (i := 5) dX4_draws_40 (by decide) rfl (zS_s (zS_s (zS_s (zS_s (zS_s zS_0))))) ?_
      refine z_iconst (pc := 42) hC dX4_draws_42 ?_
      refine z_istore (pc := 43) hC (i := 6) dX4_draws_43 (by decide) rfl (zS_s (zS_s (zS_s (zS_s (zS_s (zS_s zS_0)))))) ?_
      have hdd : ∀ k, (sdots a.1 : Int) = sfD a.1 (drv s n) k 0 * sfD a.1 (drv s n) k 1 := fun k => by rw [show sfD a.1 (drv s n) k 0 = a.1 0 from if_neg (by omega), show sfD a.1 (drv s n) k 1 = a.1 1 from if_neg (by omega)]; exact hN.2.2
      refine L_X4_draws_45 hw hC s n (by omega) (by omega) (by omega) (by omega) (aRem a) hv Ω hN.2.1 hdd (fun Ω1 hR1 hf1 => ?_) (sdots a.1 + 1) 0 _ (by show sdots a.1 < _; omega) (by omega) (by rw [sfD_0]; exact hR) hfr
      refine z_iload (pc := 111) hC (i := 5) dX4_draws_111 rfl ?_
      exact z_iret (pc := 113) hC rfl ⟨_, rfl, ok_ret (if_pos ⟨by omega, by omega⟩) hR1 hf1⟩ dX4_draws_113
    · refine z_aload_n (pc := 20) hC (i := 0) dX4_draws_20 rfl rfl ?_
      refine z_callV (n := 0) (T := TX4) (N := 7) (ci := 4) (pc := 21) hC (c_X4_refuseBad l w hw _) gX4_draws_X4_refuseBad rfl (by decide +kernel) (by decide) (by decide) rfl (by decide) (fun _ => rfl) rfl rfl (Nat.le_of_ble_eq_true rfl) dX4_draws_21 (zi_k fun r21 Ω21 h21 => ?_)
      obtain ⟨rfl, rfl⟩ := h21
      exact z_iret (pc := 24) hC rfl ⟨_, rfl, bad_ret h (if_neg (by omega))⟩ dX4_draws_24
theorem kc_X4_digest_241 : Cond.constantLong RX4 241 (31) ∈ wsX4_digest := by decide +kernel
set_option maxHeartbeats 4000000 in
set_option maxRecDepth 100000 in
theorem L_X4_digest_6 {E : zE} {w : zP} {l : Launch} {Post : Option Value → Mem → Prop} (hw : zOK w) (hC : zC E w l RX4 wsX4_digest cX4_digest 4 41 1142 (some .long) Post) (a : As) (Ω0 : Mem) (K : ∀ Ω : Mem, RC Ω a → frC Ω0 Ω → X E Ω 31 [some (.ref (wa w 0)), some (.long (dgf (fun k => toldV a (k : Int)) 13)), none, some (.int (zI ((13 : Nat) : Int)))] []) : ∀ (n : Nat) (k : Nat) (Ω : Mem), 13 < k + n → (k ≤ 13) → (RC Ω a) → (frC Ω0 Ω) → X E Ω 6 [some (.ref (wa w 0)), some (.long (dgf (fun k => toldV a (k : Int)) k)), none, some (.int (zI (k : Int)))] [] := by
  intro n
  induction n with
  | zero =>
    intro k Ω hfu hk h hF
    exact absurd hfu (by omega)
  | succ n ih =>
    intro k Ω hfu hk h hF
    refine z_iload_n (pc := 6) hC (i := 3) dX4_digest_6 rfl rfl ?_
    refine z_bipush (pc := 7) hC dX4_digest_7 rfl ?_
    refine z_icmp_ge (pc := 9) hC 31 (by first | assumption | exact zb_gt _ _ _ | exact zcmp_zb _ _ | exact bI_zb _ | exact ⟨by omega, by omega⟩) (by first | assumption | exact zb_gt _ _ _ | exact zcmp_zb _ _ | exact bI_zb _ | exact ⟨by omega, by omega⟩) dX4_digest_9 rfl (fun h9 => ?_) (fun h9 => ?_)
    · obtain rfl : k = 13 := by omega
      exact K Ω h hF
    · refine z_ldc2 (pc := 12) hC kc_X4_digest_241 dX4_digest_12 ?_
      refine z_lload_n (pc := 15) hC (i := 1) dX4_digest_15 rfl rfl ?_
      refine z_lmul (pc := 16) hC dX4_digest_16 ?_
      refine z_aload_n (pc := 17) hC (i := 0) dX4_digest_17 rfl rfl ?_
      refine z_iload_n (pc := 18) hC (i := 3) dX4_digest_18 rfl rfl ?_
      refine z_callV (n := 1) (T := TX4) (N := 7) (ci := 4) (pc := 19) hC (c_X4_told l w hw _ a h (k : Int) ⟨by omega, by omega⟩) gX4_digest_X4_told rfl (by decide +kernel) (by decide) (by decide) rfl (by decide) (fun _ => rfl) rfl rfl (Nat.le_of_ble_eq_true rfl) dX4_digest_19 (zi_k fun r19 Ω19 h19 => ?_)
      obtain ⟨t0, t1, t2⟩ := h19
      rw [show aTold a (k : Int) = (toldV a (k : Int), a) from if_pos ⟨by omega, by omega⟩] at t0 t1
      have t0 : r19 = toldV a (k : Int) := t0
      subst t0
      refine z_i2l (pc := 22) hC rfl dX4_digest_22 ?_
      refine z_ladd (pc := 23) hC dX4_digest_23 ?_
      refine z_lstore_n (pc := 24) hC (i := 1) dX4_digest_24 rfl (by decide) rfl (zS2_s zS2_0) ?_
      refine z_iinc (pc := 25) hC (i := 3) dX4_digest_25 rfl (by decide) rfl (zS_s (zS_s (zS_s zS_0))) ?_
      refine z_goto (pc := 28) hC 6 dX4_digest_28 rfl ?_
      exact ih (k + 1) _ (by omega) (by omega) t1 (hF.trans t2)
theorem fl_X4_digest_12 : Cond.fieldLink RX4 12 "StrokeCuts" "scene" "LStrokeCuts$Scene;" ∈ wsX4_digest := by decide +kernel
theorem in_X4_digest_X4 : ∀ x ∈ u_ws RX4 TX4 7, x ∈ wsX4_digest := by decide +kernel
theorem fl_X4_digest_64 : Cond.fieldLink RX4 64 "StrokeCuts$Scene" "shades" "[I" ∈ wsX4_digest := by decide +kernel
theorem in_X4_digest_X2 : ∀ x ∈ u_ws RX2 TX2 5, x ∈ wsX4_digest := by decide +kernel
theorem fl_X4_digest_81 : Cond.fieldLink RX4 81 "StrokeCuts$Scene" "marks" "[I" ∈ wsX4_digest := by decide +kernel
set_option maxHeartbeats 4000000 in
set_option maxRecDepth 100000 in
theorem L_X4_digest_33 {E : zE} {w : zP} {l : Launch} {Post : Option Value → Mem → Prop} (hw : zOK w) (hC : zC E w l RX4 wsX4_digest cX4_digest 4 41 1142 (some .long) Post) (a : As) (Ω : Mem) (h : RC Ω a) (h0 : Int64) (K : X E Ω 84 [some (.ref (wa w 0)), some (.long (dgs a.1 h0 (sdots a.1))), none, some (.int (zI (sdots a.1 : Int)))] []) : ∀ (n : Nat) (k : Nat), sdots a.1 < k + n → (k ≤ sdots a.1) → X E Ω 33 [some (.ref (wa w 0)), some (.long (dgs a.1 h0 k)), none, some (.int (zI (k : Int)))] [] := by
  intro n
  induction n with
  | zero =>
    intro k hfu hk
    exact absurd hfu (by omega)
  | succ n ih =>
    intro k hfu hk
    have hN := sdots_le h.1.2
    have q0 : gt Ω 13 0 * gt Ω 13 1 = (sdots a.1 : Int) := by rw [← scC_0, ← scC_1, h.1.1]; exact hN.2.2.symm
    refine z_iload_n (pc := 33) hC (i := 3) dX4_digest_33 rfl rfl ?_
    refine z_aload_n (pc := 34) hC (i := 0) dX4_digest_34 rfl rfl ?_
    refine z_getR (C := RX4) (T := TX4) (N := 7) (ci := 4) (pc := 35) hC _ _ 0 in_X4_digest_X4 rfl (by decide) (fun _ => rfl) (by decide) fl_X4_digest_12 (fun _ => rfl) dX4_digest_35 ?_
    refine z_callV (n := 0) (T := TX2) (N := 5) (ci := 2) (pc := 38) hC (c_X2_dots l w hw _) gX4_digest_X2_dots rfl (by decide +kernel) (by decide) (by decide) rfl (by decide) (fun _ => rfl) rfl rfl (Nat.le_of_ble_eq_true rfl) dX4_digest_38 (zi_k fun r38 Ω38 h38 => ?_)
    obtain ⟨rfl, hM38⟩ := h38
    obtain rfl := hM38.symm
    rw [q0]
    refine z_icmp_ge (pc := 41) hC 84 (by first | assumption | exact zb_gt _ _ _ | exact zcmp_zb _ _ | exact bI_zb _ | exact ⟨by omega, by omega⟩) (by first | assumption | exact zb_gt _ _ _ | exact zcmp_zb _ _ | exact bI_zb _ | exact ⟨by omega, by omega⟩) dX4_digest_41 rfl (fun h41 => ?_) (fun h41 => ?_)
    · obtain rfl : k = sdots a.1 := by omega
      exact K
    · refine z_ldc2 (pc := 44) hC kc_X4_digest_241 dX4_digest_44 ?_
      refine z_lload_n (pc := 47) hC (i := 1) dX4_digest_47 rfl rfl ?_
      refine z_lmul (pc := 48) hC dX4_digest_48 ?_
      refine z_aload_n (pc := 49) hC (i := 0) dX4_digest_49 rfl rfl ?_
      refine z_getR (C := RX4) (T := TX4) (N := 7) (ci := 4) (pc := 50) hC _ _ 0 in_X4_digest_X4 rfl (by decide) (fun _ => rfl) (by decide) fl_X4_digest_12 (fun _ => rfl) dX4_digest_50 ?_
      refine z_getR (C := RX2) (T := TX2) (N := 5) (ci := 2) (pc := 53) hC (.ref (wa w 15)) _ 3 in_X4_digest_X2 rfl (by decide) (fun _ => rfl) (by decide) fl_X4_digest_64 (fun _ => rfl) dX4_digest_53 ?_
      refine z_iload_n (pc := 56) hC (i := 3) dX4_digest_56 rfl rfl ?_
      refine z_ialk (pc := 57) hC _ k (by decide) (fun _ => rfl) rfl (by omega) (by decide) dX4_digest_57 ?_
      rw [← scC_sh Ω (k := k) (by omega), h.1.1]
      refine z_i2l (pc := 58) hC rfl dX4_digest_58 ?_
      refine z_ladd (pc := 59) hC dX4_digest_59 ?_
      refine z_lstore_n (pc := 60) hC (i := 1) dX4_digest_60 rfl (by decide) rfl (zS2_s zS2_0) ?_
      refine z_ldc2 (pc := 61) hC kc_X4_digest_241 dX4_digest_61 ?_
      refine z_lload_n (pc := 64) hC (i := 1) dX4_digest_64 rfl rfl ?_
      refine z_lmul (pc := 65) hC dX4_digest_65 ?_
      refine z_aload_n (pc := 66) hC (i := 0) dX4_digest_66 rfl rfl ?_
      refine z_getR (C := RX4) (T := TX4) (N := 7) (ci := 4) (pc := 67) hC _ _ 0 in_X4_digest_X4 rfl (by decide) (fun _ => rfl) (by decide) fl_X4_digest_12 (fun _ => rfl) dX4_digest_67 ?_
      refine z_getR (C := RX2) (T := TX2) (N := 5) (ci := 2) (pc := 70) hC (.ref (wa w 16)) _ 4 in_X4_digest_X2 rfl (by decide) (fun _ => rfl) (by decide) fl_X4_digest_81 (fun _ => rfl) dX4_digest_70 ?_
      refine z_iload_n (pc := 73) hC (i := 3) dX4_digest_73 rfl rfl ?_
      refine z_ialk (pc := 74) hC _ k (by decide) (fun _ => rfl) rfl (by omega) (by decide) dX4_digest_74 ?_
      rw [← scC_mk Ω (k := k) (by omega), h.1.1]
      refine z_i2l (pc := 75) hC rfl dX4_digest_75 ?_
      refine z_ladd (pc := 76) hC dX4_digest_76 ?_
      refine z_lstore_n (pc := 77) hC (i := 1) dX4_digest_77 rfl (by decide) rfl (zS2_s zS2_0) ?_
      refine z_iinc (pc := 78) hC (i := 3) dX4_digest_78 rfl (by decide) rfl (zS_s (zS_s (zS_s zS_0))) ?_
      refine z_goto (pc := 81) hC 33 dX4_digest_81 rfl ?_
      exact ih (k + 1) (by omega) (by omega)
theorem kc_X4_digest_239 : Cond.constantLong RX4 239 (1744) ∈ wsX4_digest := by decide +kernel
theorem fl_X4_digest_26 : Cond.fieldLink RX4 26 "StrokeCuts" "network" "LStrokeCuts$Network;" ∈ wsX4_digest := by decide +kernel
set_option maxHeartbeats 4000000 in
set_option maxRecDepth 100000 in
theorem c_X4_digest (l : Launch) (w : zP) (hw : zOK w) (Ω : Mem) (a : As) (h : RC Ω a) : zM l w yX4_digest wsX4_digest 41 1142 [.ref (wa w 0)] Ω (zlo (fun r Ω1 => r = (aDigest a).1 ∧ RC Ω1 (aDigest a).2 ∧ frC Ω Ω1)) := by
  refine zM_of cX4_digest 4 (some .long) RX4 [some (.ref (wa w 0)), none, none, none] hw (by decide +kernel) rfl rfl (Nat.le_of_ble_eq_true rfl) rfl (fun E hC => ?_)
  refine z_ldc2 (pc := 0) hC kc_X4_digest_239 dX4_digest_0 ?_
  refine z_lstore_n (pc := 3) hC (i := 1) dX4_digest_3 rfl (by decide) rfl (zS2_s zS2_0) ?_
  refine z_iconst (pc := 4) hC dX4_digest_4 ?_
  refine z_istore_n (pc := 5) hC (i := 3) dX4_digest_5 rfl (by decide) rfl (zS_s (zS_s (zS_s zS_0))) ?_
  refine L_X4_digest_6 hw hC a Ω (fun Ω1 h1 hf1 => ?_) 14 0 Ω (by omega) (by omega) h (frC.refl _)
  refine z_iconst (pc := 31) hC dX4_digest_31 ?_
  refine z_istore_n (pc := 32) hC (i := 3) dX4_digest_32 rfl (by decide) rfl (zS_s (zS_s (zS_s zS_0))) ?_
  refine L_X4_digest_33 hw hC a Ω1 h1 _ ?_ (sdots a.1 + 1) 0 (by omega) (by omega)
  have hv := h.1.2
  have hv1 : scok (scC Ω1) := by rw [h1.1.1]; exact hv
  refine z_ldc2 (pc := 84) hC kc_X4_digest_241 dX4_digest_84 ?_
  refine z_lload_n (pc := 87) hC (i := 1) dX4_digest_87 rfl rfl ?_
  refine z_lmul (pc := 88) hC dX4_digest_88 ?_
  refine z_aload_n (pc := 89) hC (i := 0) dX4_digest_89 rfl rfl ?_
  refine z_getR (C := RX4) (T := TX4) (N := 7) (ci := 4) (pc := 90) hC _ _ 2 in_X4_digest_X4 rfl (by decide) (fun _ => rfl) (by decide) fl_X4_digest_26 (fun _ => rfl) dX4_digest_90 ?_
  refine z_aload_n (pc := 93) hC (i := 0) dX4_digest_93 rfl rfl ?_
  refine z_getR (C := RX4) (T := TX4) (N := 7) (ci := 4) (pc := 94) hC _ _ 0 in_X4_digest_X4 rfl (by decide) (fun _ => rfl) (by decide) fl_X4_digest_12 (fun _ => rfl) dX4_digest_94 ?_
  refine z_callV (n := 1) (T := TX1) (N := 8) (ci := 1) (pc := 97) hC (c_X1_solve l w hw _ hv1) gX4_digest_X1_solve rfl (by decide +kernel) (by decide) (by decide) rfl (by decide) (fun _ => rfl) rfl rfl (Nat.le_of_ble_eq_true rfl) dX4_digest_97 (zi_k fun r97 Ω97 h97 => ?_)
  obtain ⟨hS, hSf⟩ := h97
  rw [h1.1.1] at hS
  have hR := h1.same hSf
  have hfS : frC Ω1 Ω97 := fun q hq => hSf q (by omega)
  have q0S : gt Ω97 13 0 = a.1 0 := by rw [← scC_0, hR.1.1]
  refine z_i2l (pc := 100) hC rfl dX4_digest_100 ?_
  refine z_ladd (pc := 101) hC dX4_digest_101 ?_
  refine z_lstore_n (pc := 102) hC (i := 1) dX4_digest_102 rfl (by decide) rfl (zS2_s zS2_0) ?_
  refine z_ldc2 (pc := 103) hC kc_X4_digest_241 dX4_digest_103 ?_
  refine z_lload_n (pc := 106) hC (i := 1) dX4_digest_106 rfl rfl ?_
  refine z_lmul (pc := 107) hC dX4_digest_107 ?_
  refine z_aload_n (pc := 108) hC (i := 0) dX4_digest_108 rfl rfl ?_
  refine z_getR (C := RX4) (T := TX4) (N := 7) (ci := 4) (pc := 109) hC _ _ 2 in_X4_digest_X4 rfl (by decide) (fun _ => rfl) (by decide) fl_X4_digest_26 (fun _ => rfl) dX4_digest_109 ?_
  refine z_callV (n := 0) (T := TX1) (N := 8) (ci := 1) (pc := 112) hC (c_X1_leastSet l w hw _ a.1 _ hv hS) gX4_digest_X1_leastSet rfl (by decide +kernel) (by decide) (by decide) rfl (by decide) (fun _ => rfl) rfl rfl (Nat.le_of_ble_eq_true rfl) dX4_digest_112 (zl_k fun r112 Ω112 h112 => ?_)
  obtain ⟨l1, l2, l3, l4⟩ := h112
  obtain rfl := hS.lo hv l1 l2 l3
  have hS2 := hS.moved l4
  have hR2 := hR.same l4.R
  refine z_ladd (pc := 115) hC dX4_digest_115 ?_
  refine z_lstore_n (pc := 116) hC (i := 1) dX4_digest_116 rfl (by decide) rfl (zS2_s zS2_0) ?_
  refine z_ldc2 (pc := 117) hC kc_X4_digest_241 dX4_digest_117 ?_
  refine z_lload_n (pc := 120) hC (i := 1) dX4_digest_120 rfl rfl ?_
  refine z_lmul (pc := 121) hC dX4_digest_121 ?_
  refine z_aload_n (pc := 122) hC (i := 0) dX4_digest_122 rfl rfl ?_
  refine z_getR (C := RX4) (T := TX4) (N := 7) (ci := 4) (pc := 123) hC _ _ 2 in_X4_digest_X4 rfl (by decide) (fun _ => rfl) (by decide) fl_X4_digest_26 (fun _ => rfl) dX4_digest_123 ?_
  refine z_callV (n := 0) (T := TX1) (N := 8) (ci := 1) (pc := 126) hC (c_X1_greatestSet l w hw _ a.1 _ hv hS2) gX4_digest_X1_greatestSet rfl (by decide +kernel) (by decide) (by decide) rfl (by decide) (fun _ => rfl) rfl rfl (Nat.le_of_ble_eq_true rfl) dX4_digest_126 (zl_k fun r126 Ω126 h126 => ?_)
  obtain ⟨k1, k2, k3, k4⟩ := h126
  obtain rfl := hS.hi hv k1 k2 k3
  refine z_ladd (pc := 129) hC dX4_digest_129 ?_
  exact z_lret (pc := 130) hC rfl ⟨_, rfl, by rw [hS.lc hv]; exact ok_retL rfl (hR2.same k4.R) (((hf1.trans hfS).trans l4.C).trans k4.C)⟩ dX4_digest_130
