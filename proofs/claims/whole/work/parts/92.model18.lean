theorem kc_X5_draws_114 : Cond.constantLong RX5 114 (1103515245) ∈ wsX5_draws := by decide +kernel
theorem kc_X5_draws_116 : Cond.constantLong RX5 116 (12345) ∈ wsX5_draws := by decide +kernel
theorem kc_X5_draws_118 : Cond.constantLong RX5 118 (2147483648) ∈ wsX5_draws := by decide +kernel
theorem kc_X5_draws_120 : Cond.constantLong RX5 120 (65536) ∈ wsX5_draws := by decide +kernel
theorem fl_X5_draws_7 : Cond.fieldLink RX5 7 "StrokeCutsModel" "st" "[I" ∈ wsX5_draws := by decide +kernel
theorem in_X5_draws_X5 : ∀ x ∈ u_ws RX5 TX5 15, x ∈ wsX5_draws := by decide +kernel
set_option maxHeartbeats 4000000 in
set_option maxRecDepth 100000 in
theorem L_X5_draws_38 {E : zE} {w : zP} {l : Launch} {Post : Option Value → Mem → Prop} (hw : zOK w) (hC : zC E w l RX5 wsX5_draws cX5_draws 8 2 45 (some .int) Post) (s n : Int) (hs0 : 0 ≤ s) (hs1 : s ≤ 999999) (hn0 : 1 ≤ n) (hn1 : n ≤ 10) (a : As) (hv0 : scok a.1) (Ω0 : Mem) (hN36 : sdots a.1 ≤ 36) (hdd : ∀ k, (sdots a.1 : Int) = sfD a.1 (drv s n) k 0 * sfD a.1 (drv s n) k 1) (K : ∀ (Ω : Mem) (o7 : Option Value), RM Ω (aSet a (sfD a.1 (drv s n) (sdots a.1))) → frG Ω0 Ω → X E Ω 97 [some (.ref (wa w 49)), some (.int (zI s)), some (.int (zI n)), some (.long (lnI (drI s (sdots a.1)))), none, some (.int (zI (sm (drv s n) (sdots a.1)))), some (.int (zI (sdots a.1 : Int))), o7] []) : ∀ (fu : Nat) (k : Nat) (Ω : Mem) (o7 : Option Value), sdots a.1 < k + fu → (k ≤ sdots a.1) → (RM Ω (aSet a (sfD a.1 (drv s n) k))) → (frG Ω0 Ω) → X E Ω 38 [some (.ref (wa w 49)), some (.int (zI s)), some (.int (zI n)), some (.long (lnI (drI s k))), none, some (.int (zI (sm (drv s n) k))), some (.int (zI (k : Int))), o7] [] := by
  intro fu
  induction fu with
  | zero =>
    intro k Ω o7 hfu hk h hF
    exact absurd hfu (by omega)
  | succ fu ih =>
    intro k Ω o7 hfu hk h hF
    have hv := h.1.2
    have hd := drI_b hs0 hs1 k
    have hd1 := drI_b hs0 hs1 (k + 1)
    have hvb := drv_b hs0 hs1 hn0 hn1
    have q0 : gt Ω 50 0 * gt Ω 50 1 = (sdots a.1 : Int) := by rw [st_at h.1.1 (by decide), st_at h.1.1 (by decide)]; exact (hdd k).symm
    have hsum := sm_bd (f := drv s n) (a := 0) (b := 9) (n := k) (fun j _ => hvb j)
    refine z_iload (pc := 38) hC (i := 6) dX5_draws_38 rfl ?_
    refine z_aload_n (pc := 40) hC (i := 0) dX5_draws_40 rfl rfl ?_
    refine z_callV (n := 0) (T := TX5) (N := 15) (ci := 5) (pc := 41) hC (c_X5_dots l w hw _) gX5_draws_X5_dots rfl (by decide +kernel) (by decide) (by decide) rfl (by decide) (fun _ => rfl) rfl rfl (Nat.le_of_ble_eq_true rfl) dX5_draws_41 (zi_k fun r41 Ω41 h41 => ?_)
    obtain ⟨rfl, hM41⟩ := h41
    obtain rfl := hM41.symm
    rw [q0]
    refine z_icmp_ge (pc := 44) hC 97 (by first | assumption | exact zb_gt _ _ _ | exact zcmp_zb _ _ | exact bI_zb _ | exact ⟨by omega, by omega⟩) (by first | assumption | exact zb_gt _ _ _ | exact zcmp_zb _ _ | exact bI_zb _ | exact ⟨by omega, by omega⟩) dX5_draws_44 rfl (fun h44 => ?_) (fun h44 => ?_)
    · obtain rfl : k = sdots a.1 := by omega
      exact K Ω _ h hF
    · refine z_lload_n (pc := 47) hC (i := 3) dX5_draws_47 rfl rfl ?_
      refine z_ldc2 (pc := 48) hC kc_X5_draws_114 dX5_draws_48 ?_
      refine z_lmul (pc := 51) hC dX5_draws_51 ?_
      refine z_ldc2 (pc := 52) hC kc_X5_draws_116 dX5_draws_52 ?_
      refine z_ladd (pc := 55) hC dX5_draws_55 ?_
      refine z_ldc2 (pc := 56) hC kc_X5_draws_118 dX5_draws_56 ?_
      refine z_lrem (pc := 59) hC (by decide) dX5_draws_59 ?_
      rw [dr_step hd.1 hd.2]
      change X E Ω 60 _ (Value.long (lnI (drI s (k + 1))) :: _)
      refine z_lstore_n (pc := 60) hC (i := 3) dX5_draws_60 rfl (by decide) rfl (zS2_s (zS2_s (zS2_s zS2_0))) ?_
      refine z_lload_n (pc := 61) hC (i := 3) dX5_draws_61 rfl rfl ?_
      refine z_ldc2 (pc := 62) hC kc_X5_draws_120 dX5_draws_62 ?_
      refine z_ldiv (pc := 65) hC (by decide) dX5_draws_65 ?_
      refine z_iload_n (pc := 66) hC (i := 2) dX5_draws_66 rfl rfl ?_
      refine z_i2l (pc := 67) hC rfl dX5_draws_67 ?_
      refine z_lrem (pc := 68) hC (dr_nz hn0 hn1) dX5_draws_68 ?_
      refine z_l2i (pc := 69) hC (drv s n k) (dr_val hd1.1 hd1.2 hn0 hn1) dX5_draws_69 ?_
      refine z_istore (pc := 70) hC (i := 7) dX5_draws_70 (by decide) rfl (zS_s (zS_s (zS_s (zS_s (zS_s (zS_s (zS_s zS_0))))))) ?_
      refine z_aload_n (pc := 72) hC (i := 0) dX5_draws_72 rfl rfl ?_
      refine z_getR (C := RX5) (T := TX5) (N := 15) (ci := 5) (pc := 73) hC _ _ 0 in_X5_draws_X5 rfl (by decide) (fun _ => rfl) (by decide) fl_X5_draws_7 (fun _ => rfl) dX5_draws_73 ?_
      refine z_bipush (pc := 76) hC dX5_draws_76 rfl ?_
      refine z_iload (pc := 78) hC (i := 6) dX5_draws_78 rfl ?_
      refine z_iadd (pc := 80) hC dX5_draws_80 ?_
      refine z_iload (pc := 81) hC (i := 7) dX5_draws_81 rfl ?_
      refine z_iask (pc := 83) hC _ (8 + k) (by decide) (fun _ => rfl) (by omega) (by omega) (by decide) dX5_draws_83 ?_
      refine z_iload (pc := 84) hC (i := 5) dX5_draws_84 rfl ?_
      refine z_iload (pc := 86) hC (i := 7) dX5_draws_86 rfl ?_
      refine z_iadd (pc := 88) hC dX5_draws_88 ?_
      refine z_istore (pc := 89) hC (i := 5) dX5_draws_89 (by decide) rfl (zS_s (zS_s (zS_s (zS_s (zS_s zS_0))))) ?_
      refine z_iinc (pc := 91) hC (i := 6) dX5_draws_91 rfl (by decide) rfl (zS_s (zS_s (zS_s (zS_s (zS_s (zS_s zS_0)))))) ?_
      refine z_goto (pc := 94) hC 38 dX5_draws_94 rfl ?_
      have hz : zb (drv s n k) := ⟨by have := (hvb k).1; omega, by have := (hvb k).2; omega⟩
      have hst := RM.st (a := aSet a (sfD a.1 (drv s n) k)) h (i := 8 + k) (v := drv s n k) (by omega) hz (by show scok (sup (sfD a.1 (drv s n) k) (8 + k) (drv s n k)); rw [sfD_s]; exact sfD_ok hv0 hvb (by omega))
      rw [show (aSet a (sfD a.1 (drv s n) k)).1 = sfD a.1 (drv s n) k from rfl, sfD_s] at hst
      exact ih (k + 1) _ _ (by omega) (by omega) hst.1 (hF.trans hst.2)
theorem kc_X5_draws_113 : Cond.constant RX5 113 (999999) ∈ wsX5_draws := by decide +kernel
set_option maxHeartbeats 4000000 in
set_option maxRecDepth 100000 in
theorem c_X5_draws (l : Launch) (w : zP) (hw : zOK w) (Ω : Mem) (a : As) (h : RM Ω a) (s n : Int) (hs : zb s) (hn : zb n) : zM l w yX5_draws wsX5_draws 2 45 [.ref (wa w 49), .int (zI s), .int (zI n)] Ω (zi (fun r Ω1 => r = (aDraws a s n).1 ∧ RM Ω1 (aDraws a s n).2 ∧ frG Ω Ω1)) := by
  refine zM_of cX5_draws 8 (some .int) RX5 [some (.ref (wa w 49)), some (.int (zI s)), some (.int (zI n)), none, none, none, none, none] hw (by decide +kernel) rfl rfl (Nat.le_of_ble_eq_true rfl) rfl (fun E hC => ?_)
  have hv := h.1.2
  have hσ := h.1.1
  have z0 : gt Ω 50 0 = a.1 0 := st_at hσ (by decide)
  have z1 : gt Ω 50 1 = a.1 1 := st_at hσ (by decide)
  have hN := sdots_le hv
  have hw01 := hv.1
  have hh01 := hv.2.1
  refine z_iload_n (pc := 0) hC (i := 1) dX5_draws_0 rfl rfl ?_
  refine z_iconst (pc := 1) hC dX5_draws_1 ?_
  refine z_ldc (pc := 2) hC (n := 999999) kc_X5_draws_113 rfl dX5_draws_2 ?_
  refine z_callS (n := 3) (pc := 4) hC (c_X5_in l w hw _ _ _ _ (by first | assumption | exact zb_gt _ _ _ | exact zcmp_zb _ _ | exact bI_zb _ | exact ⟨by omega, by omega⟩) (by first | assumption | exact zb_gt _ _ _ | exact zcmp_zb _ _ | exact bI_zb _ | exact ⟨by omega, by omega⟩) (by first | assumption | exact zb_gt _ _ _ | exact zcmp_zb _ _ | exact bI_zb _ | exact ⟨by omega, by omega⟩)) gX5_draws_X5_in rfl (by decide +kernel) (by decide) (by decide) rfl rfl (Nat.le_of_ble_eq_true rfl) dX5_draws_4 (zb_k fun r4 Ω4 h4 => ?_)
  obtain ⟨rfl, hM4⟩ := h4
  obtain rfl := hM4.symm
  refine z_ifd_eq (pc := 7) hC 20 dX5_draws_7 rfl (fun h7 => ?_) (fun h7 => ?_)
  · refine z_aload_n (pc := 20) hC (i := 0) dX5_draws_20 rfl rfl ?_
    refine z_callV (n := 0) (T := TX5) (N := 15) (ci := 5) (pc := 21) hC (c_X5_bad l w hw _) gX5_draws_X5_bad rfl (by decide +kernel) (by decide) (by decide) rfl (by decide) (fun _ => rfl) rfl rfl (Nat.le_of_ble_eq_true rfl) dX5_draws_21 (zi_k fun r21 Ω21 h21 => ?_)
    obtain ⟨rfl, rfl⟩ := h21
    exact z_iret (pc := 24) hC rfl ⟨_, rfl, bad_retM h (if_neg (by omega))⟩ dX5_draws_24
  · refine z_iload_n (pc := 10) hC (i := 2) dX5_draws_10 rfl rfl ?_
    refine z_iconst (pc := 11) hC dX5_draws_11 ?_
    refine z_bipush (pc := 12) hC dX5_draws_12 rfl ?_
    refine z_callS (n := 3) (pc := 14) hC (c_X5_in l w hw _ _ _ _ (by first | assumption | exact zb_gt _ _ _ | exact zcmp_zb _ _ | exact bI_zb _ | exact ⟨by omega, by omega⟩) (by first | assumption | exact zb_gt _ _ _ | exact zcmp_zb _ _ | exact bI_zb _ | exact ⟨by omega, by omega⟩) (by first | assumption | exact zb_gt _ _ _ | exact zcmp_zb _ _ | exact bI_zb _ | exact ⟨by omega, by omega⟩)) gX5_draws_X5_in rfl (by decide +kernel) (by decide) (by decide) rfl rfl (Nat.le_of_ble_eq_true rfl) dX5_draws_14 (zb_k fun r14 Ω14 h14 => ?_)
    obtain ⟨rfl, hM14⟩ := h14
    obtain rfl := hM14.symm
    refine z_ifd_ne (pc := 17) hC 25 dX5_draws_17 rfl (fun h17 => ?_) (fun h17 => ?_)
    · refine z_aload_n (pc := 25) hC (i := 0) dX5_draws_25 rfl rfl ?_
      refine z_callV (n := 0) (T := TX5) (N := 15) (ci := 5) (pc := 26) hC (c_X5_leaves l w hw _ a h) gX5_draws_X5_leaves rfl (by decide +kernel) (by decide) (by decide) rfl (by decide) (fun _ => rfl) rfl rfl (Nat.le_of_ble_eq_true rfl) dX5_draws_26 (zv_k fun Ω26 h26 => ?_)
      obtain ⟨hR, hfr⟩ := h26
      have hsR := hR.1.1
      have z0R : gt Ω26 50 0 = a.1 0 := st_at hsR (by decide)
      have z1R : gt Ω26 50 1 = a.1 1 := st_at hsR (by decide)
      refine z_iload_n (pc := 29) hC (i := 1) dX5_draws_29 rfl rfl ?_
      refine z_i2l (pc := 30) hC (lnI_i2l hs) dX5_draws_30 ?_
      refine z_lstore_n (pc := 31) hC (i := 3) dX5_draws_31 rfl (by decide) rfl (zS2_s (zS2_s (zS2_s zS2_0))) ?_
      refine z_iconst (pc := 32) hC dX5_draws_32 ?_
      refine z_istore (pc := 33) hC (i := 5) dX5_draws_33 (by decide) rfl (zS_s (zS_s (zS_s (zS_s (zS_s zS_0))))) ?_
      refine z_iconst (pc := 35) hC dX5_draws_35 ?_
      refine z_istore (pc := 36) hC (i := 6) dX5_draws_36 (by decide) rfl (zS_s (zS_s (zS_s (zS_s (zS_s (zS_s zS_0)))))) ?_
      have hdd : ∀ k, (sdots a.1 : Int) = sfD a.1 (drv s n) k 0 * sfD a.1 (drv s n) k 1 := fun k => by rw [show sfD a.1 (drv s n) k 0 = a.1 0 from if_neg (by omega), show sfD a.1 (drv s n) k 1 = a.1 1 from if_neg (by omega)]; exact hN.2.2
      refine L_X5_draws_38 hw hC s n (by omega) (by omega) (by omega) (by omega) (aRem a) hv Ω hN.2.1 hdd (fun Ω1 o7 hR1 hf1 => ?_) (sdots a.1 + 1) 0 _ none (by show sdots a.1 < _; omega) (by omega) (by rw [sfD_0]; exact hR) hfr
      refine z_iload (pc := 97) hC (i := 5) dX5_draws_97 rfl ?_
      exact z_iret (pc := 99) hC rfl ⟨_, rfl, ok_retM (if_pos ⟨by omega, by omega⟩) hR1 hf1⟩ dX5_draws_99
    · refine z_aload_n (pc := 20) hC (i := 0) dX5_draws_20 rfl rfl ?_
      refine z_callV (n := 0) (T := TX5) (N := 15) (ci := 5) (pc := 21) hC (c_X5_bad l w hw _) gX5_draws_X5_bad rfl (by decide +kernel) (by decide) (by decide) rfl (by decide) (fun _ => rfl) rfl rfl (Nat.le_of_ble_eq_true rfl) dX5_draws_21 (zi_k fun r21 Ω21 h21 => ?_)
      obtain ⟨rfl, rfl⟩ := h21
      exact z_iret (pc := 24) hC rfl ⟨_, rfl, bad_retM h (if_neg (by omega))⟩ dX5_draws_24
