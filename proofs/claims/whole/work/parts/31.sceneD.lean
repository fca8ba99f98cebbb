theorem fl_X2_costOf_21 : Cond.fieldLink RX2 21 "StrokeCuts$Scene" "width" "I" ∈ wsX2_costOf := by decide +kernel
theorem in_X2_costOf_X2 : ∀ x ∈ u_ws RX2 TX2 5, x ∈ wsX2_costOf := by decide +kernel
theorem ms_X2_costOf_X4_has : Cond.static yX4_has ∈ wsX2_costOf := by decide +kernel
theorem mi_X2_costOf_X4_has : Cond.initialized yX4_has.cls ∈ wsX2_costOf := by decide +kernel
set_option maxHeartbeats 4000000 in
set_option maxRecDepth 100000 in
theorem L_X2_costOf_17 {E : zE} {w : zP} {l : Launch} {Post : Option Value → Mem → Prop} (hw : zOK w) (hC : zC E w l RX2 wsX2_costOf cX2_costOf 7 3 75 (some .int) Post) (Ω : Mem) (s : Int64) (y : Nat) (hv : scok (scC Ω)) (hy : y < sh (scC Ω)) (K : ∀ o6 : Option Value, X E Ω 77 [some (.ref (wa w 13)), some (.long s), none, some (.int (zI (sm (sCv (scC Ω) s) (sw (scC Ω) * y + sw (scC Ω))))), some (.int (zI (y : Int))), some (.int (zI ((sw (scC Ω) : Nat) : Int))), o6] []) : ∀ (n : Nat) (x : Nat) (o6 : Option Value), sw (scC Ω) < x + n → (x ≤ sw (scC Ω)) → X E Ω 17 [some (.ref (wa w 13)), some (.long s), none, some (.int (zI (sm (sCv (scC Ω) s) (sw (scC Ω) * y + x)))), some (.int (zI (y : Int))), some (.int (zI (x : Int))), o6] [] := by
  intro n
  induction n with
  | zero =>
    intro x o6 hfu hx
    exact absurd hfu (by omega)
  | succ n ih =>
    intro x o6 hfu hx
    have hW := sw_eq hv
    have hH := sh_eq hv
    rw [scC_0] at hW
    rw [scC_1] at hH
    have hD := sdots_le hv
    refine z_iload (pc := 17) hC (i := 5) dX2_costOf_17 rfl ?_
    refine z_aload_n (pc := 19) hC (i := 0) dX2_costOf_19 rfl rfl ?_
    refine z_getI (C := RX2) (T := TX2) (N := 5) (ci := 2) (pc := 20) hC _ 0 in_X2_costOf_X2 rfl (by decide) (fun _ => rfl) (by decide) fl_X2_costOf_21 (fun _ => rfl) dX2_costOf_20 ?_
    refine z_icmp_ge (pc := 23) hC 77 (by first | assumption | exact zb_gt _ _ _ | exact zcmp_zb _ _ | exact bI_zb _ | exact ⟨by omega, by omega⟩) (by first | assumption | exact zb_gt _ _ _ | exact zcmp_zb _ _ | exact bI_zb _ | exact ⟨by omega, by omega⟩) dX2_costOf_23 rfl (fun h23 => ?_) (fun h23 => ?_)
    · obtain rfl : x = sw (scC Ω) := by omega
      exact K _
    · refine z_aload_n (pc := 26) hC (i := 0) dX2_costOf_26 rfl rfl ?_
      refine z_iload (pc := 27) hC (i := 5) dX2_costOf_27 rfl ?_
      refine z_iload (pc := 29) hC (i := 4) dX2_costOf_29 rfl ?_
      refine z_callV (n := 2) (T := TX2) (N := 5) (ci := 2) (pc := 31) hC (c_X2_numberOf l w hw _ _ _) gX2_costOf_X2_numberOf rfl (by decide +kernel) (by decide) (by decide) rfl (by decide) (fun _ => rfl) rfl rfl (Nat.le_of_ble_eq_true rfl) dX2_costOf_31 (zi_k fun r31 Ω31 h31 => ?_)
      obtain ⟨rfl, hM31⟩ := h31
      obtain rfl := hM31.symm
      rw [show gt Ω 13 0 * (y : Int) + (x : Int) = ((sw (scC Ω) * y + x : Nat) : Int) from sw_num hv x y]
      have hlt := sw_lt hv (x := x) (y := y) (by omega) hy
      have hmod := sw_mod (σ := scC Ω) (x := x) (y := y) (by omega)
      refine z_istore (pc := 34) hC (i := 6) dX2_costOf_34 (by decide) rfl (zS_s (zS_s (zS_s (zS_s (zS_s (zS_s zS_0)))))) ?_
      refine z_iload_n (pc := 36) hC (i := 3) dX2_costOf_36 rfl rfl ?_
      refine z_aload_n (pc := 37) hC (i := 0) dX2_costOf_37 rfl rfl ?_
      refine z_iload (pc := 38) hC (i := 6) dX2_costOf_38 rfl ?_
      refine z_lload_n (pc := 40) hC (i := 1) dX2_costOf_40 rfl rfl ?_
      refine z_iload (pc := 41) hC (i := 6) dX2_costOf_41 rfl ?_
      refine z_callSN (n := 2) (pc := 43) hC (c_X4_has l w hw _ _ (sw (scC Ω) * y + x) (by omega)) (fun h => h.2.1.2.1) gX2_costOf_X4_has_n64 ms_X2_costOf_X4_has mi_X2_costOf_X4_has rfl (by decide +kernel) (by decide) (by decide) rfl rfl (Nat.le_of_ble_eq_true rfl) dX2_costOf_43 (zb_k fun r43 Ω43 h43 => ?_)
      obtain ⟨rfl, hM43⟩ := h43
      obtain rfl := hM43.symm
      refine z_ifd_eq (pc := 46) hC 53 dX2_costOf_46 rfl (fun h46 => ?_) (fun h46 => ?_)
      · refine z_iconst (pc := 53) hC dX2_costOf_53 ?_
        refine z_callV (n := 2) (T := TX2) (N := 5) (ci := 2) (pc := 54) hC (c_X2_pullFrom l w hw _ _ 4 hv (by omega) (by omega)) gX2_costOf_X2_pullFrom rfl (by decide +kernel) (by decide) (by decide) rfl (by decide) (fun _ => rfl) rfl rfl (Nat.le_of_ble_eq_true rfl) dX2_costOf_54 (zi_k fun r54 Ω54 h54 => ?_)
        obtain ⟨rfl, hM54⟩ := h54
        obtain rfl := hM54.symm
        refine z_iadd (pc := 57) hC dX2_costOf_57 ?_
        refine z_istore_n (pc := 58) hC (i := 3) dX2_costOf_58 rfl (by decide) rfl (zS_s (zS_s (zS_s zS_0))) ?_
        refine z_iload_n (pc := 59) hC (i := 3) dX2_costOf_59 rfl rfl ?_
        refine z_aload_n (pc := 60) hC (i := 0) dX2_costOf_60 rfl rfl ?_
        refine z_lload_n (pc := 61) hC (i := 1) dX2_costOf_61 rfl rfl ?_
        refine z_iload (pc := 62) hC (i := 5) dX2_costOf_62 rfl ?_
        refine z_iload (pc := 64) hC (i := 4) dX2_costOf_64 rfl ?_
        refine z_callV (n := 3) (T := TX2) (N := 5) (ci := 2) (pc := 66) hC (c_X2_linkCosts l w hw _ s x y hv (by omega) hy) gX2_costOf_X2_linkCosts rfl (by decide +kernel) (by decide) (by decide) rfl (by decide) (fun _ => rfl) rfl rfl (Nat.le_of_ble_eq_true rfl) dX2_costOf_66 (zi_k fun r66 Ω66 h66 => ?_)
        obtain ⟨rfl, hM66⟩ := h66
        obtain rfl := hM66.symm
        refine z_iadd (pc := 69) hC dX2_costOf_69 ?_
        refine z_istore_n (pc := 70) hC (i := 3) dX2_costOf_70 rfl (by decide) rfl (zS_s (zS_s (zS_s zS_0))) ?_
        refine z_iinc (pc := 71) hC (i := 5) dX2_costOf_71 rfl (by decide) rfl (zS_s (zS_s (zS_s (zS_s (zS_s zS_0))))) ?_
        refine z_goto (pc := 74) hC 17 dX2_costOf_74 rfl ?_
        have hc : sm (sCv (scC Ω) s) (sw (scC Ω) * y + (x + 1)) = sm (sCv (scC Ω) s) (sw (scC Ω) * y + x) + sPl (scC Ω) (sw (scC Ω) * y + x) 4 + sm (sLcd (scC Ω) s x y) 4 := by
          rw [← Nat.add_assoc, sm_s]
          unfold sCv
          rw [hmod.1, hmod.2, if_neg h46]
          omega
        have hh := ih (x + 1) (some (.int (zI ((sw (scC Ω) * y + x : Nat) : Int)))) (by omega) (by omega)
        rw [hc] at hh
        exact hh
      · refine z_iconst (pc := 49) hC dX2_costOf_49 ?_
        refine z_goto (pc := 50) hC 54 dX2_costOf_50 rfl ?_
        refine z_callV (n := 2) (T := TX2) (N := 5) (ci := 2) (pc := 54) hC (c_X2_pullFrom l w hw _ _ 3 hv (by omega) (by omega)) gX2_costOf_X2_pullFrom rfl (by decide +kernel) (by decide) (by decide) rfl (by decide) (fun _ => rfl) rfl rfl (Nat.le_of_ble_eq_true rfl) dX2_costOf_54 (zi_k fun r54 Ω54 h54 => ?_)
        obtain ⟨rfl, hM54⟩ := h54
        obtain rfl := hM54.symm
        refine z_iadd (pc := 57) hC dX2_costOf_57 ?_
        refine z_istore_n (pc := 58) hC (i := 3) dX2_costOf_58 rfl (by decide) rfl (zS_s (zS_s (zS_s zS_0))) ?_
        refine z_iload_n (pc := 59) hC (i := 3) dX2_costOf_59 rfl rfl ?_
        refine z_aload_n (pc := 60) hC (i := 0) dX2_costOf_60 rfl rfl ?_
        refine z_lload_n (pc := 61) hC (i := 1) dX2_costOf_61 rfl rfl ?_
        refine z_iload (pc := 62) hC (i := 5) dX2_costOf_62 rfl ?_
        refine z_iload (pc := 64) hC (i := 4) dX2_costOf_64 rfl ?_
        refine z_callV (n := 3) (T := TX2) (N := 5) (ci := 2) (pc := 66) hC (c_X2_linkCosts l w hw _ s x y hv (by omega) hy) gX2_costOf_X2_linkCosts rfl (by decide +kernel) (by decide) (by decide) rfl (by decide) (fun _ => rfl) rfl rfl (Nat.le_of_ble_eq_true rfl) dX2_costOf_66 (zi_k fun r66 Ω66 h66 => ?_)
        obtain ⟨rfl, hM66⟩ := h66
        obtain rfl := hM66.symm
        refine z_iadd (pc := 69) hC dX2_costOf_69 ?_
        refine z_istore_n (pc := 70) hC (i := 3) dX2_costOf_70 rfl (by decide) rfl (zS_s (zS_s (zS_s zS_0))) ?_
        refine z_iinc (pc := 71) hC (i := 5) dX2_costOf_71 rfl (by decide) rfl (zS_s (zS_s (zS_s (zS_s (zS_s zS_0))))) ?_
        refine z_goto (pc := 74) hC 17 dX2_costOf_74 rfl ?_
        have hc : sm (sCv (scC Ω) s) (sw (scC Ω) * y + (x + 1)) = sm (sCv (scC Ω) s) (sw (scC Ω) * y + x) + sPl (scC Ω) (sw (scC Ω) * y + x) 3 + sm (sLcd (scC Ω) s x y) 4 := by
          rw [← Nat.add_assoc, sm_s]
          unfold sCv
          rw [hmod.1, hmod.2, if_pos h46]
          omega
        have hh := ih (x + 1) (some (.int (zI ((sw (scC Ω) * y + x : Nat) : Int)))) (by omega) (by omega)
        rw [hc] at hh
        exact hh
theorem fl_X2_costOf_25 : Cond.fieldLink RX2 25 "StrokeCuts$Scene" "height" "I" ∈ wsX2_costOf := by decide +kernel
set_option maxHeartbeats 4000000 in
set_option maxRecDepth 100000 in
theorem L_X2_costOf_5 {E : zE} {w : zP} {l : Launch} {Post : Option Value → Mem → Prop} (hw : zOK w) (hC : zC E w l RX2 wsX2_costOf cX2_costOf 7 3 75 (some .int) Post) (Ω : Mem) (s : Int64) (hv : scok (scC Ω)) (K : ∀ o5 o6 : Option Value, X E Ω 83 [some (.ref (wa w 13)), some (.long s), none, some (.int (zI (sm (sCv (scC Ω) s) (sw (scC Ω) * sh (scC Ω))))), some (.int (zI ((sh (scC Ω) : Nat) : Int))), o5, o6] []) : ∀ (n : Nat) (y : Nat) (o5 : Option Value) (o6 : Option Value), sh (scC Ω) < y + n → (y ≤ sh (scC Ω)) → X E Ω 5 [some (.ref (wa w 13)), some (.long s), none, some (.int (zI (sm (sCv (scC Ω) s) (sw (scC Ω) * y)))), some (.int (zI (y : Int))), o5, o6] [] := by
  intro n
  induction n with
  | zero =>
    intro y o5 o6 hfu hy
    exact absurd hfu (by omega)
  | succ n ih =>
    intro y o5 o6 hfu hy
    have hW := sw_eq hv
    have hH := sh_eq hv
    rw [scC_0] at hW
    rw [scC_1] at hH
    refine z_iload (pc := 5) hC (i := 4) dX2_costOf_5 rfl ?_
    refine z_aload_n (pc := 7) hC (i := 0) dX2_costOf_7 rfl rfl ?_
    refine z_getI (C := RX2) (T := TX2) (N := 5) (ci := 2) (pc := 8) hC _ 1 in_X2_costOf_X2 rfl (by decide) (fun _ => rfl) (by decide) fl_X2_costOf_25 (fun _ => rfl) dX2_costOf_8 ?_
    refine z_icmp_ge (pc := 11) hC 83 (by first | assumption | exact zb_gt _ _ _ | exact zcmp_zb _ _ | exact bI_zb _ | exact ⟨by omega, by omega⟩) (by first | assumption | exact zb_gt _ _ _ | exact zcmp_zb _ _ | exact bI_zb _ | exact ⟨by omega, by omega⟩) dX2_costOf_11 rfl (fun h11 => ?_) (fun h11 => ?_)
    · obtain rfl : y = sh (scC Ω) := by omega
      exact K _ _
    · refine z_iconst (pc := 14) hC dX2_costOf_14 ?_
      refine z_istore (pc := 15) hC (i := 5) dX2_costOf_15 (by decide) rfl (zS_s (zS_s (zS_s (zS_s (zS_s zS_0))))) ?_
      refine L_X2_costOf_17 hw hC Ω s y hv (by omega) (fun o6 => ?_) (sw (scC Ω) + 1) 0 o6 (by omega) (by omega)
      refine z_iinc (pc := 77) hC (i := 4) dX2_costOf_77 rfl (by decide) rfl (zS_s (zS_s (zS_s (zS_s zS_0)))) ?_
      refine z_goto (pc := 80) hC 5 dX2_costOf_80 rfl ?_
      have hh := ih (y + 1) (some (.int (zI ((sw (scC Ω) : Nat) : Int)))) o6 (by omega) (by omega)
      rw [Nat.mul_add, Nat.mul_one] at hh
      exact hh
set_option maxHeartbeats 4000000 in
set_option maxRecDepth 100000 in
theorem c_X2_costOf (l : Launch) (w : zP) (hw : zOK w) (Ω : Mem) (s : Int64) (hv : scok (scC Ω)) : zM l w yX2_costOf wsX2_costOf 3 75 [.ref (wa w 13), .long s] Ω (zi (fun r Ω1 => r = sm (sCv (scC Ω) s) (sdots (scC Ω)) ∧ Ω1 = Ω)) := by
  refine zM_of cX2_costOf 7 (some .int) RX2 [some (.ref (wa w 13)), some (.long s), none, none, none, none, none] hw (by decide +kernel) rfl rfl (Nat.le_of_ble_eq_true rfl) rfl (fun E hC => ?_)
  refine z_iconst (pc := 0) hC dX2_costOf_0 ?_
  refine z_istore_n (pc := 1) hC (i := 3) dX2_costOf_1 rfl (by decide) rfl (zS_s (zS_s (zS_s zS_0))) ?_
  refine z_iconst (pc := 2) hC dX2_costOf_2 ?_
  refine z_istore (pc := 3) hC (i := 4) dX2_costOf_3 (by decide) rfl (zS_s (zS_s (zS_s (zS_s zS_0)))) ?_
  refine L_X2_costOf_5 hw hC Ω s hv (fun o5 o6 => ?_) (sh (scC Ω) + 1) 0 none none (by omega) (by omega)
  refine z_iload_n (pc := 83) hC (i := 3) dX2_costOf_83 rfl rfl ?_
  exact z_iret (pc := 84) hC rfl ⟨_, rfl, ⟨by rw [sdots_mul hv], rfl⟩⟩ dX2_costOf_84
theorem ms_X2_learnTone_X4_has : Cond.static yX4_has ∈ wsX2_learnTone := by decide +kernel
theorem mi_X2_learnTone_X4_has : Cond.initialized yX4_has.cls ∈ wsX2_learnTone := by decide +kernel
theorem fl_X2_learnTone_15 : Cond.fieldLink RX2 15 "StrokeCuts$Scene" "shades" "[I" ∈ wsX2_learnTone := by decide +kernel
theorem in_X2_learnTone_X2 : ∀ x ∈ u_ws RX2 TX2 5, x ∈ wsX2_learnTone := by decide +kernel
set_option maxHeartbeats 4000000 in
set_option maxRecDepth 100000 in
theorem L_X2_learnTone_9 {E : zE} {w : zP} {l : Launch} {Post : Option Value → Mem → Prop} (hw : zOK w) (hC : zC E w l RX2 wsX2_learnTone cX2_learnTone 7 1 22 (some .boolean) Post) (Ω : Mem) (t : Nat) (x : Int64) (N : Nat) (hN : (N : Int) = gt Ω 13 0 * gt Ω 13 1) (hN36 : N ≤ 36) (K : X E Ω 48 [some (.ref (wa w 13)), some (.int (zI (t : Int))), some (.long x), none, some (.int (zI (lcnt x N))), some (.int (zI (lsum (scC Ω) x N))), some (.int (zI (N : Int)))] []) : ∀ (n : Nat) (k : Nat), N < k + n → (k ≤ N) → X E Ω 9 [some (.ref (wa w 13)), some (.int (zI (t : Int))), some (.long x), none, some (.int (zI (lcnt x k))), some (.int (zI (lsum (scC Ω) x k))), some (.int (zI (k : Int)))] [] := by
  intro n
  induction n with
  | zero =>
    intro k hfu hk
    exact absurd hfu (by omega)
  | succ n ih =>
    intro k hfu hk
    refine z_iload (pc := 9) hC (i := 6) dX2_learnTone_9 rfl ?_
    refine z_aload_n (pc := 11) hC (i := 0) dX2_learnTone_11 rfl rfl ?_
    refine z_callV (n := 0) (T := TX2) (N := 5) (ci := 2) (pc := 12) hC (c_X2_dots l w hw _) gX2_learnTone_X2_dots rfl (by decide +kernel) (by decide) (by decide) rfl (by decide) (fun _ => rfl) rfl rfl (Nat.le_of_ble_eq_true rfl) dX2_learnTone_12 (zi_k fun r12 Ω12 h12 => ?_)
    obtain ⟨rfl, hM12⟩ := h12
    obtain rfl := hM12.symm
    rw [← hN]
    refine z_icmp_ge (pc := 15) hC 48 (by first | assumption | exact zb_gt _ _ _ | exact zcmp_zb _ _ | exact bI_zb _ | exact ⟨by omega, by omega⟩) (by first | assumption | exact zb_gt _ _ _ | exact zcmp_zb _ _ | exact bI_zb _ | exact ⟨by omega, by omega⟩) dX2_learnTone_15 rfl (fun h15 => ?_) (fun h15 => ?_)
    · obtain rfl : k = N := by omega
      exact K
    · refine z_lload_n (pc := 18) hC (i := 2) dX2_learnTone_18 rfl rfl ?_
      refine z_iload (pc := 19) hC (i := 6) dX2_learnTone_19 rfl ?_
      refine z_callSN (n := 2) (pc := 21) hC (c_X4_has l w hw _ _ _ (by omega)) (fun h => h.2.1.2.1) gX2_learnTone_X4_has_n64 ms_X2_learnTone_X4_has mi_X2_learnTone_X4_has rfl (by decide +kernel) (by decide) (by decide) rfl rfl (Nat.le_of_ble_eq_true rfl) dX2_learnTone_21 (zb_k fun r21 Ω21 h21 => ?_)
      obtain ⟨rfl, hM21⟩ := h21
      obtain rfl := hM21.symm
      refine z_ifd_eq (pc := 24) hC 42 dX2_learnTone_24 rfl (fun h24 => ?_) (fun h24 => ?_)
      · refine z_iinc (pc := 42) hC (i := 6) dX2_learnTone_42 rfl (by decide) rfl (zS_s (zS_s (zS_s (zS_s (zS_s (zS_s zS_0)))))) ?_
        refine z_goto (pc := 45) hC 9 dX2_learnTone_45 rfl ?_
        have h1 : lcnt x (k + 1) = lcnt x k := by unfold lcnt; rw [sm_s, if_neg h24]; omega
        have h2 : lsum (scC Ω) x (k + 1) = lsum (scC Ω) x k := by unfold lsum; rw [sm_s, if_neg h24]; omega
        have hh := ih (k + 1) (by omega) (by omega)
        rw [h1, h2] at hh
        exact hh
      · refine z_iinc (pc := 27) hC (i := 4) dX2_learnTone_27 rfl (by decide) rfl (zS_s (zS_s (zS_s (zS_s zS_0)))) ?_
        refine z_iload (pc := 30) hC (i := 5) dX2_learnTone_30 rfl ?_
        refine z_aload_n (pc := 32) hC (i := 0) dX2_learnTone_32 rfl rfl ?_
        refine z_getR (C := RX2) (T := TX2) (N := 5) (ci := 2) (pc := 33) hC (.ref (wa w 15)) _ 3 in_X2_learnTone_X2 rfl (by decide) (fun _ => rfl) (by decide) fl_X2_learnTone_15 (fun _ => rfl) dX2_learnTone_33 ?_
        refine z_iload (pc := 36) hC (i := 6) dX2_learnTone_36 rfl ?_
        refine z_ialk (pc := 38) hC _ _ (by decide) (fun _ => rfl) rfl (by omega) (by decide) dX2_learnTone_38 ?_
        refine z_iadd (pc := 39) hC dX2_learnTone_39 ?_
        refine z_istore (pc := 40) hC (i := 5) dX2_learnTone_40 (by decide) rfl (zS_s (zS_s (zS_s (zS_s (zS_s zS_0))))) ?_
        refine z_iinc (pc := 42) hC (i := 6) dX2_learnTone_42 rfl (by decide) rfl (zS_s (zS_s (zS_s (zS_s (zS_s (zS_s zS_0)))))) ?_
        refine z_goto (pc := 45) hC 9 dX2_learnTone_45 rfl ?_
        have h1 : lcnt x (k + 1) = lcnt x k + 1 := by unfold lcnt; rw [sm_s, if_pos h24]
        have h2 : lsum (scC Ω) x (k + 1) = lsum (scC Ω) x k + gt Ω 15 k := by unfold lsum; rw [sm_s, if_pos h24, scC_sh Ω (by omega)]
        have hh := ih (k + 1) (by omega) (by omega)
        rw [h1, h2] at hh
        exact hh
theorem sup_self (σ : Sg) (i : Nat) : sup σ i (σ i) = σ := by
  funext j; unfold sup; by_cases h : j = i <;> simp [h]
theorem fl_X2_learnTone_9 : Cond.fieldLink RX2 9 "StrokeCuts$Scene" "settings" "[I" ∈ wsX2_learnTone := by decide +kernel
set_option maxHeartbeats 4000000 in
set_option maxRecDepth 100000 in
theorem c_X2_learnTone (l : Launch) (w : zP) (hw : zOK w) (Ω : Mem) (t : Nat) (x : Int64) (hv : scok (scC Ω)) (ht : t = 3 ∨ t = 4) : zM l w yX2_learnTone wsX2_learnTone 1 22 [.ref (wa w 13), .int (zI (t : Int)), .long x] Ω (zbo (fun b Ω1 => b = decide (lnew (scC Ω) x t ≠ scC Ω (2 + t)) ∧ scC Ω1 = sup (scC Ω) (2 + t) (lnew (scC Ω) x t) ∧ ∀ q, q ≠ 14 → Ω1 q = Ω q)) := by
  refine zM_of cX2_learnTone 7 (some .boolean) RX2 [some (.ref (wa w 13)), some (.int (zI (t : Int))), some (.long x), none, none, none, none] hw (by decide +kernel) rfl rfl (Nat.le_of_ble_eq_true rfl) rfl (fun E hC => ?_)
  refine z_iconst (pc := 0) hC dX2_learnTone_0 ?_
  refine z_istore (pc := 1) hC (i := 4) dX2_learnTone_1 (by decide) rfl (zS_s (zS_s (zS_s (zS_s zS_0)))) ?_
  refine z_iconst (pc := 3) hC dX2_learnTone_3 ?_
  refine z_istore (pc := 4) hC (i := 5) dX2_learnTone_4 (by decide) rfl (zS_s (zS_s (zS_s (zS_s (zS_s zS_0))))) ?_
  refine z_iconst (pc := 6) hC dX2_learnTone_6 ?_
  refine z_istore (pc := 7) hC (i := 6) dX2_learnTone_7 (by decide) rfl (zS_s (zS_s (zS_s (zS_s (zS_s (zS_s zS_0)))))) ?_
  have hd := sdots_le hv
  have hlc := lcnt_b x (sdots (scC Ω))
  have hls := lsum_b hv x (n := sdots (scC Ω)) hd.2.1
  have hln := lnew_b hv x ht
  have hnewY : 0 < lcnt x (sdots (scC Ω)) → lnew (scC Ω) x t = lsum (scC Ω) x (sdots (scC Ω)) / lcnt x (sdots (scC Ω)) := fun h => if_pos h
  refine L_X2_learnTone_9 hw hC Ω t x (sdots (scC Ω)) hd.2.2 hd.2.1 ?_ (sdots (scC Ω) + 1) 0 (by omega) (by omega)
  refine z_aload_n (pc := 48) hC (i := 0) dX2_learnTone_48 rfl rfl ?_
  refine z_getR (C := RX2) (T := TX2) (N := 5) (ci := 2) (pc := 49) hC (.ref (wa w 14)) _ 2 in_X2_learnTone_X2 rfl (by decide) (fun _ => rfl) (by decide) fl_X2_learnTone_9 (fun _ => rfl) dX2_learnTone_49 ?_
  refine z_iload_n (pc := 52) hC (i := 1) dX2_learnTone_52 rfl rfl ?_
  refine z_ialk (pc := 53) hC _ t (by decide) (fun _ => rfl) rfl (by omega) (by decide) dX2_learnTone_53 ?_
  refine z_istore (pc := 54) hC (i := 6) dX2_learnTone_54 (by decide) rfl (zS_s (zS_s (zS_s (zS_s (zS_s (zS_s zS_0)))))) ?_
  refine z_iload (pc := 56) hC (i := 4) dX2_learnTone_56 rfl ?_
  refine z_if_le (pc := 58) hC 72 (by exact ⟨by omega, by omega⟩) dX2_learnTone_58 rfl (fun h58 => ?_) (fun h58 => ?_)
  · have hnewN : lnew (scC Ω) x t = scC Ω (2 + t) := if_neg (by omega)
    refine z_aload_n (pc := 72) hC (i := 0) dX2_learnTone_72 rfl rfl ?_
    refine z_getR (C := RX2) (T := TX2) (N := 5) (ci := 2) (pc := 73) hC (.ref (wa w 14)) _ 2 in_X2_learnTone_X2 rfl (by decide) (fun _ => rfl) (by decide) fl_X2_learnTone_9 (fun _ => rfl) dX2_learnTone_73 ?_
    refine z_iload_n (pc := 76) hC (i := 1) dX2_learnTone_76 rfl rfl ?_
    refine z_ialk (pc := 77) hC _ t (by decide) (fun _ => rfl) rfl (by omega) (by decide) dX2_learnTone_77 ?_
    skip
    refine z_iload (pc := 78) hC (i := 6) dX2_learnTone_78 rfl ?_
    refine z_icmp_eq (pc := 80) hC 87 (by first | assumption | exact zb_gt _ _ _ | exact zcmp_zb _ _ | exact bI_zb _ | exact ⟨by omega, by omega⟩) (by first | assumption | exact zb_gt _ _ _ | exact zcmp_zb _ _ | exact bI_zb _ | exact ⟨by omega, by omega⟩) dX2_learnTone_80 rfl (fun h80 => ?_) (fun h80 => ?_)
    · refine z_iconst (pc := 87) hC dX2_learnTone_87 ?_
      exact z_zret (b := false) (pc := 88) hC rfl ⟨false, rfl, ⟨(decide_eq_false (fun q => q hnewN)).symm, by rw [hnewN, sup_self], fun q _ => rfl⟩⟩ dX2_learnTone_88
    · refine z_iconst (pc := 83) hC dX2_learnTone_83 ?_
      refine z_goto (pc := 84) hC 88 dX2_learnTone_84 rfl ?_
      exact z_zret (b := true) (pc := 88) hC rfl ⟨true, rfl, absurd rfl h80⟩ dX2_learnTone_88
  · refine z_aload_n (pc := 61) hC (i := 0) dX2_learnTone_61 rfl rfl ?_
    refine z_getR (C := RX2) (T := TX2) (N := 5) (ci := 2) (pc := 62) hC (.ref (wa w 14)) _ 2 in_X2_learnTone_X2 rfl (by decide) (fun _ => rfl) (by decide) fl_X2_learnTone_9 (fun _ => rfl) dX2_learnTone_62 ?_
    refine z_iload_n (pc := 65) hC (i := 1) dX2_learnTone_65 rfl rfl ?_
    refine z_iload (pc := 66) hC (i := 5) dX2_learnTone_66 rfl ?_
    refine z_iload (pc := 68) hC (i := 4) dX2_learnTone_68 rfl ?_
    refine z_idiv (pc := 70) hC (by first | assumption | exact zb_gt _ _ _ | exact zcmp_zb _ _ | exact bI_zb _ | exact ⟨by omega, by omega⟩) (by first | assumption | exact zb_gt _ _ _ | exact zcmp_zb _ _ | exact bI_zb _ | exact ⟨by omega, by omega⟩) (by omega) dX2_learnTone_70 ?_
    rw [Int.tdiv_eq_ediv_of_nonneg hls.1, ← hnewY (by omega)]
    refine z_iask (pc := 71) hC _ t (by decide) (fun _ => rfl) rfl (by omega) (by decide) dX2_learnTone_71 ?_
    refine z_aload_n (pc := 72) hC (i := 0) dX2_learnTone_72 rfl rfl ?_
    refine z_getR (C := RX2) (T := TX2) (N := 5) (ci := 2) (pc := 73) hC (.ref (wa w 14)) _ 2 in_X2_learnTone_X2 rfl (by decide) (fun _ => rfl) (by decide) fl_X2_learnTone_9 (fun _ => rfl) dX2_learnTone_73 ?_
    refine z_iload_n (pc := 76) hC (i := 1) dX2_learnTone_76 rfl rfl ?_
    refine z_ialk (pc := 77) hC _ t (by decide) (fun _ => rfl) rfl (by omega) (by decide) dX2_learnTone_77 ?_
    rw [gt_s (v := lnew (scC Ω) x t) _ _ _ ⟨by omega, by omega⟩]
    refine z_iload (pc := 78) hC (i := 6) dX2_learnTone_78 rfl ?_
    refine z_icmp_eq (pc := 80) hC 87 (by first | assumption | exact zb_gt _ _ _ | exact zcmp_zb _ _ | exact bI_zb _ | exact ⟨by omega, by omega⟩) (by first | assumption | exact zb_gt _ _ _ | exact zcmp_zb _ _ | exact bI_zb _ | exact ⟨by omega, by omega⟩) dX2_learnTone_80 rfl (fun h80 => ?_) (fun h80 => ?_)
    · refine z_iconst (pc := 87) hC dX2_learnTone_87 ?_
      exact z_zret (b := false) (pc := 88) hC rfl ⟨false, rfl, ⟨(decide_eq_false (fun q => q (by rw [scC_se Ω (by omega)]; exact h80))).symm, by rw [scC_upse Ω (k := t) (v := lnew (scC Ω) x t) (by omega) ⟨by omega, by omega⟩], fun q hq => ups_n _ _ _ hq⟩⟩ dX2_learnTone_88
    · refine z_iconst (pc := 83) hC dX2_learnTone_83 ?_
      refine z_goto (pc := 84) hC 88 dX2_learnTone_84 rfl ?_
      exact z_zret (b := true) (pc := 88) hC rfl ⟨true, rfl, ⟨(decide_eq_true (by rw [scC_se Ω (by omega)]; exact h80)).symm, by rw [scC_upse Ω (k := t) (v := lnew (scC Ω) x t) (by omega) ⟨by omega, by omega⟩], fun q hq => ups_n _ _ _ hq⟩⟩ dX2_learnTone_88
theorem scok_tone {σ : Sg} (h : scok σ) {t : Nat} {v : Int} (ht : t = 3 ∨ t = 4) (h0 : 0 ≤ v) (h1 : v ≤ 9) : scok (sup σ (2 + t) v) := by
  obtain ⟨a0, a1, a2, a3, a4, a5, a6, a7, a8, a9⟩ := h
  rcases ht with rfl | rfl
  · refine ⟨a0, a1, a2, a3, a4, ⟨h0, h1⟩, a6, a7, fun k hk => ?_, fun k hk => ?_⟩
    · have e : sup σ (2 + 3) v (8 + k) = σ (8 + k) := if_neg (by omega)
      rw [e]; exact a8 k hk
    · have e : sup σ (2 + 3) v (44 + k) = σ (44 + k) := if_neg (by omega)
      rw [e]; exact a9 k hk
  · refine ⟨a0, a1, a2, a3, a4, a5, ⟨h0, h1⟩, a7, fun k hk => ?_, fun k hk => ?_⟩
    · have e : sup σ (2 + 4) v (8 + k) = σ (8 + k) := if_neg (by omega)
      rw [e]; exact a8 k hk
    · have e : sup σ (2 + 4) v (44 + k) = σ (44 + k) := if_neg (by omega)
      rw [e]; exact a9 k hk
/-- the tones learned from a set and from its rest -/
def lrn (σ : Sg) (x : Int64) : Sg := sup (sup σ (2 + 3) (lnew σ x 3)) (2 + 4) (lnew (sup σ (2 + 3) (lnew σ x 3)) (alld (σ 0 * σ 1) &&& (x ^^^ (-1))) 4)
theorem lrn_ok {σ : Sg} (h : scok σ) (x : Int64) : scok (lrn σ x) := by
  have h1 := lnew_b h x (t := 3) (by omega)
  have h2 := scok_tone h (t := 3) (by omega) h1.1 h1.2
  have h3 := lnew_b h2 (alld (σ 0 * σ 1) &&& (x ^^^ (-1))) (t := 4) (by omega)
  exact scok_tone h2 (t := 4) (by omega) h3.1 h3.2
theorem kc_X2_learnTones_76 : Cond.constantLong RX2 76 (-1) ∈ wsX2_learnTones := by decide +kernel
set_option maxHeartbeats 4000000 in
set_option maxRecDepth 100000 in
theorem c_X2_learnTones (l : Launch) (w : zP) (hw : zOK w) (Ω : Mem) (x : Int64) (hv : scok (scC Ω)) : zM l w yX2_learnTones wsX2_learnTones 2 48 [.ref (wa w 13), .long x] Ω (zbo (fun b Ω1 => b = decide (lnew (scC Ω) x 3 ≠ scC Ω (2 + 3) ∨ lnew (sup (scC Ω) (2 + 3) (lnew (scC Ω) x 3)) (alld (scC Ω 0 * scC Ω 1) &&& (x ^^^ (-1))) 4 ≠ sup (scC Ω) (2 + 3) (lnew (scC Ω) x 3) (2 + 4)) ∧ scC Ω1 = lrn (scC Ω) x ∧ ∀ q, q ≠ 14 → Ω1 q = Ω q)) := by
  refine zM_of cX2_learnTones 5 (some .boolean) RX2 [some (.ref (wa w 13)), some (.long x), none, none, none] hw (by decide +kernel) rfl rfl (Nat.le_of_ble_eq_true rfl) rfl (fun E hC => ?_)
  refine z_aload_n (pc := 0) hC (i := 0) dX2_learnTones_0 rfl rfl ?_
  refine z_iconst (pc := 1) hC dX2_learnTones_1 ?_
  refine z_lload_n (pc := 2) hC (i := 1) dX2_learnTones_2 rfl rfl ?_
  refine z_callV (n := 2) (T := TX2) (N := 5) (ci := 2) (pc := 3) hC (c_X2_learnTone l w hw _ 3 x hv (by omega)) gX2_learnTones_X2_learnTone rfl (by decide +kernel) (by decide) (by decide) rfl (by decide) (fun _ => rfl) rfl rfl (Nat.le_of_ble_eq_true rfl) dX2_learnTones_3 (zb_k fun r3 Ω3 h3 => ?_)
  obtain ⟨rfl, hs3, hF3⟩ := h3
  have hlb := lnew_b hv x (t := 3) (by omega)
  have hv3 : scok (scC Ω3) := by rw [hs3]; exact scok_tone hv (by omega) hlb.1 hlb.2
  have e0 := gt_fr (hF3 13 (by decide)) 0
  have e1 := gt_fr (hF3 13 (by decide)) 1
  refine z_istore_n (pc := 6) hC (i := 3) dX2_learnTones_6 rfl (by decide) rfl (zS_s (zS_s (zS_s zS_0))) ?_
  refine z_aload_n (pc := 7) hC (i := 0) dX2_learnTones_7 rfl rfl ?_
  refine z_iconst (pc := 8) hC dX2_learnTones_8 ?_
  refine z_aload_n (pc := 9) hC (i := 0) dX2_learnTones_9 rfl rfl ?_
  refine z_callV (n := 0) (T := TX2) (N := 5) (ci := 2) (pc := 10) hC (c_X2_allDots l w hw _) gX2_learnTones_X2_allDots rfl (by decide +kernel) (by decide) (by decide) rfl (by decide) (fun _ => rfl) rfl rfl (Nat.le_of_ble_eq_true rfl) dX2_learnTones_10 (zl_k fun r10 Ω10 h10 => ?_)
  obtain ⟨rfl, hM10⟩ := h10
  obtain rfl := hM10.symm
  rw [e0, e1]
  refine z_lload_n (pc := 13) hC (i := 1) dX2_learnTones_13 rfl rfl ?_
  refine z_ldc2 (pc := 14) hC kc_X2_learnTones_76 dX2_learnTones_14 ?_
  refine z_lxor (pc := 17) hC dX2_learnTones_17 ?_
  refine z_land (pc := 18) hC dX2_learnTones_18 ?_
  refine z_callV (n := 2) (T := TX2) (N := 5) (ci := 2) (pc := 19) hC (c_X2_learnTone l w hw _ 4 _ hv3 (by omega)) gX2_learnTones_X2_learnTone rfl (by decide +kernel) (by decide) (by decide) rfl (by decide) (fun _ => rfl) rfl rfl (Nat.le_of_ble_eq_true rfl) dX2_learnTones_19 (zb_k fun r19 Ω19 h19 => ?_)
  obtain ⟨rfl, hs19, hF19⟩ := h19
  refine z_istore (pc := 22) hC (i := 4) dX2_learnTones_22 (by decide) rfl (zS_s (zS_s (zS_s (zS_s zS_0)))) ?_
  refine z_iload_n (pc := 24) hC (i := 3) dX2_learnTones_24 rfl rfl ?_
  refine z_ifd_ne (pc := 25) hC 33 dX2_learnTones_25 rfl (fun h25 => ?_) (fun h25 => ?_)
  · refine z_iconst (pc := 33) hC dX2_learnTones_33 ?_
    refine z_goto (pc := 34) hC 38 dX2_learnTones_34 rfl ?_
    exact z_zret (b := true) (pc := 38) hC rfl ⟨true, rfl, ⟨(decide_eq_true (Or.inl h25)).symm, by rw [hs19, hs3]; rfl, fun q hq => (hF19 q hq).trans (hF3 q hq)⟩⟩ dX2_learnTones_38
  · refine z_iload (pc := 28) hC (i := 4) dX2_learnTones_28 rfl ?_
    refine z_ifd_eq (pc := 30) hC 37 dX2_learnTones_30 rfl (fun h30 => ?_) (fun h30 => ?_)
    · refine z_iconst (pc := 37) hC dX2_learnTones_37 ?_
      exact z_zret (b := false) (pc := 38) hC rfl ⟨false, rfl, ⟨(decide_eq_false (fun q => q.elim h25 (by rw [hs3] at h30; exact h30))).symm, by rw [hs19, hs3]; rfl, fun q hq => (hF19 q hq).trans (hF3 q hq)⟩⟩ dX2_learnTones_38
    · refine z_iconst (pc := 33) hC dX2_learnTones_33 ?_
      refine z_goto (pc := 34) hC 38 dX2_learnTones_34 rfl ?_
      exact z_zret (b := true) (pc := 38) hC rfl ⟨true, rfl, ⟨(decide_eq_true (Or.inr (by rw [hs3] at h30; exact h30))).symm, by rw [hs19, hs3]; rfl, fun q hq => (hF19 q hq).trans (hF3 q hq)⟩⟩ dX2_learnTones_38
