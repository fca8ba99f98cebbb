theorem fl_X5_leastCost_29 : Cond.fieldLink RX5 29 "StrokeCutsModel" "least" "[I" ∈ wsX5_leastCost := by decide +kernel
theorem in_X5_leastCost_X5 : ∀ x ∈ u_ws RX5 TX5 15, x ∈ wsX5_leastCost := by decide +kernel
theorem kc_X5_leastCost_79 : Cond.constant RX5 79 (1000000) ∈ wsX5_leastCost := by decide +kernel
set_option maxHeartbeats 4000000 in
set_option maxRecDepth 100000 in
theorem L_X5_leastCost_11 {E : zE} {w : zP} {l : Launch} {Post : Option Value → Mem → Prop} (hw : zOK w) (hC : zC E w l RX5 wsX5_leastCost cX5_leastCost 4 7 170 (some .int) Post) (σ : Sg) (hv : scok σ) (Ω0 : Mem) (K : ∀ Ω : Mem, (∀ t, t < 2 ^ (sw σ + 1) → gt Ω 55 t = if t = 0 then 0 else 1000000) → (∀ q, q ≠ 55 → Ω q = Ω0 q) → X E Ω 38 [some (.ref (wa w 49)), some (.int (zI ((2 ^ (sw σ + 1) : Nat) : Int))), some (.int (zI ((2 ^ (sw σ + 1) : Nat) : Int))), none] []) : ∀ (n : Nat) (k : Nat) (Ω : Mem), 2 ^ (sw σ + 1) < k + n → (k ≤ 2 ^ (sw σ + 1)) → (∀ t, t < k → gt Ω 55 t = if t = 0 then 0 else 1000000) → (∀ q, q ≠ 55 → Ω q = Ω0 q) → X E Ω 11 [some (.ref (wa w 49)), some (.int (zI ((2 ^ (sw σ + 1) : Nat) : Int))), some (.int (zI (k : Int))), none] [] := by
  intro n
  induction n with
  | zero =>
    intro k Ω hfu hk h5 hF
    exact absurd hfu (by omega)
  | succ n ih =>
    intro k Ω hfu hk h5 hF
    have hW := sw_eq hv
    have hM := pow_128 (sw σ) (by omega) (by omega)
    refine z_iload_n (pc := 11) hC (i := 2) dX5_leastCost_11 rfl rfl ?_
    refine z_iload_n (pc := 12) hC (i := 1) dX5_leastCost_12 rfl rfl ?_
    refine z_icmp_ge (pc := 13) hC 38 (by first | assumption | exact zb_gt _ _ _ | exact zcmp_zb _ _ | exact bI_zb _ | exact ⟨by omega, by omega⟩) (by first | assumption | exact zb_gt _ _ _ | exact zcmp_zb _ _ | exact bI_zb _ | exact ⟨by omega, by omega⟩) dX5_leastCost_13 rfl (fun h13 => ?_) (fun h13 => ?_)
    · obtain rfl : k = 2 ^ (sw σ + 1) := by omega
      exact K Ω h5 hF
    · refine z_aload_n (pc := 16) hC (i := 0) dX5_leastCost_16 rfl rfl ?_
      refine z_getR (C := RX5) (T := TX5) (N := 15) (ci := 5) (pc := 17) hC _ _ 9 in_X5_leastCost_X5 rfl (by decide) (fun _ => rfl) (by decide) fl_X5_leastCost_29 (fun _ => rfl) dX5_leastCost_17 ?_
      refine z_iload_n (pc := 20) hC (i := 2) dX5_leastCost_20 rfl rfl ?_
      refine z_iload_n (pc := 21) hC (i := 2) dX5_leastCost_21 rfl rfl ?_
      refine z_if_ne (pc := 22) hC 29 (by first | assumption | exact zb_gt _ _ _ | exact zcmp_zb _ _ | exact bI_zb _ | exact ⟨by omega, by omega⟩) dX5_leastCost_22 rfl (fun h22 => ?_) (fun h22 => ?_)
      · refine z_ldc (pc := 29) hC (n := 1000000) kc_X5_leastCost_79 rfl dX5_leastCost_29 ?_
        refine z_iask (pc := 31) hC _ k (by decide) (fun _ => rfl) rfl (by omega) (by decide) dX5_leastCost_31 ?_
        refine z_iinc (pc := 32) hC (i := 2) dX5_leastCost_32 rfl (by decide) rfl (zS_s (zS_s zS_0)) ?_
        refine z_goto (pc := 35) hC 11 dX5_leastCost_35 rfl ?_
        refine ih (k + 1) _ (by omega) (by omega) (fun t ht => ?_) (fun q hq => by rw [ups_n _ _ _ hq]; exact hF q hq)
        by_cases e : t = k
        · subst e; rw [gt_s _ _ _ ⟨by omega, by omega⟩, if_neg (by omega)]
        · rw [gt_sn _ _ _ e]; exact h5 t (by omega)
      · refine z_iconst (pc := 25) hC dX5_leastCost_25 ?_
        refine z_goto (pc := 26) hC 31 dX5_leastCost_26 rfl ?_
        refine z_iask (pc := 31) hC _ k (by decide) (fun _ => rfl) rfl (by omega) (by decide) dX5_leastCost_31 ?_
        refine z_iinc (pc := 32) hC (i := 2) dX5_leastCost_32 rfl (by decide) rfl (zS_s (zS_s zS_0)) ?_
        refine z_goto (pc := 35) hC 11 dX5_leastCost_35 rfl ?_
        refine ih (k + 1) _ (by omega) (by omega) (fun t ht => ?_) (fun q hq => by rw [ups_n _ _ _ hq]; exact hF q hq)
        by_cases e : t = k
        · subst e; rw [gt_s _ _ _ ⟨by omega, by omega⟩, if_pos (by omega)]
        · rw [gt_sn _ _ _ e]; exact h5 t (by omega)
theorem fl_X5_leastCost_32 : Cond.fieldLink RX5 32 "StrokeCutsModel" "next" "[I" ∈ wsX5_leastCost := by decide +kernel
set_option maxHeartbeats 4000000 in
set_option maxRecDepth 100000 in
theorem L_X5_leastCost_50 {E : zE} {w : zP} {l : Launch} {Post : Option Value → Mem → Prop} (hw : zOK w) (hC : zC E w l RX5 wsX5_leastCost cX5_leastCost 4 7 170 (some .int) Post) (σ : Sg) (hv : scok σ) (Ω0 : Mem) (v : Nat) (K : ∀ Ω : Mem, (∀ t, t < 2 ^ (sw σ + 1) → gt Ω 56 t = 1000000) → (∀ q, q ≠ 56 → Ω q = Ω0 q) → X E Ω 69 [some (.ref (wa w 49)), some (.int (zI ((2 ^ (sw σ + 1) : Nat) : Int))), some (.int (zI (v : Int))), some (.int (zI ((2 ^ (sw σ + 1) : Nat) : Int)))] []) : ∀ (n : Nat) (k : Nat) (Ω : Mem), 2 ^ (sw σ + 1) < k + n → (k ≤ 2 ^ (sw σ + 1)) → (∀ t, t < k → gt Ω 56 t = 1000000) → (∀ q, q ≠ 56 → Ω q = Ω0 q) → X E Ω 50 [some (.ref (wa w 49)), some (.int (zI ((2 ^ (sw σ + 1) : Nat) : Int))), some (.int (zI (v : Int))), some (.int (zI (k : Int)))] [] := by
  intro n
  induction n with
  | zero =>
    intro k Ω hfu hk h5 hF
    exact absurd hfu (by omega)
  | succ n ih =>
    intro k Ω hfu hk h5 hF
    have hW := sw_eq hv
    have hM := pow_128 (sw σ) (by omega) (by omega)
    refine z_iload_n (pc := 50) hC (i := 3) dX5_leastCost_50 rfl rfl ?_
    refine z_iload_n (pc := 51) hC (i := 1) dX5_leastCost_51 rfl rfl ?_
    refine z_icmp_ge (pc := 52) hC 69 (by first | assumption | exact zb_gt _ _ _ | exact zcmp_zb _ _ | exact bI_zb _ | exact ⟨by omega, by omega⟩) (by first | assumption | exact zb_gt _ _ _ | exact zcmp_zb _ _ | exact bI_zb _ | exact ⟨by omega, by omega⟩) dX5_leastCost_52 rfl (fun h52 => ?_) (fun h52 => ?_)
    · obtain rfl : k = 2 ^ (sw σ + 1) := by omega
      exact K Ω h5 hF
    · refine z_aload_n (pc := 55) hC (i := 0) dX5_leastCost_55 rfl rfl ?_
      refine z_getR (C := RX5) (T := TX5) (N := 15) (ci := 5) (pc := 56) hC _ _ 10 in_X5_leastCost_X5 rfl (by decide) (fun _ => rfl) (by decide) fl_X5_leastCost_32 (fun _ => rfl) dX5_leastCost_56 ?_
      refine z_iload_n (pc := 59) hC (i := 3) dX5_leastCost_59 rfl rfl ?_
      refine z_ldc (pc := 60) hC (n := 1000000) kc_X5_leastCost_79 rfl dX5_leastCost_60 ?_
      refine z_iask (pc := 62) hC _ k (by decide) (fun _ => rfl) rfl (by omega) (by decide) dX5_leastCost_62 ?_
      refine z_iinc (pc := 63) hC (i := 3) dX5_leastCost_63 rfl (by decide) rfl (zS_s (zS_s (zS_s zS_0))) ?_
      refine z_goto (pc := 66) hC 50 dX5_leastCost_66 rfl ?_
      refine ih (k + 1) _ (by omega) (by omega) (fun t ht => ?_) (fun q hq => by rw [ups_n _ _ _ hq]; exact hF q hq)
      by_cases e : t = k
      · subst e; rw [gt_s _ _ _ ⟨by omega, by omega⟩]
      · rw [gt_sn _ _ _ e]; exact h5 t (by omega)
set_option maxHeartbeats 4000000 in
set_option maxRecDepth 100000 in
theorem L_X5_leastCost_71 {E : zE} {w : zP} {l : Launch} {Post : Option Value → Mem → Prop} (hw : zOK w) (hC : zC E w l RX5 wsX5_leastCost cX5_leastCost 4 7 170 (some .int) Post) (σ : Sg) (hv : scok σ) (Ω0 : Mem) (hσ : scM Ω0 = σ) (H : Nat → Int) (hH : ∀ u, u < sdots σ → 0 ≤ H u ∧ H u ≤ 2) (hω : omok σ (omM σ Ω0)) (hHm : gt Ω0 54 = H) (v : Nat) (hvN : v < sdots σ) (hf : tab σ (omM σ Ω0) H v (gt Ω0 55)) (K : ∀ Ω : Mem, tabN σ (omM σ Ω0) H v (2 ^ (sw σ + 1)) 0 (gt Ω 56) → (∀ q, q ≠ 56 → Ω q = Ω0 q) → X E Ω 100 [some (.ref (wa w 49)), some (.int (zI ((2 ^ (sw σ + 1) : Nat) : Int))), some (.int (zI (v : Int))), some (.int (zI ((2 ^ (sw σ + 1) : Nat) : Int)))] []) : ∀ (n : Nat) (k : Nat) (Ω : Mem), 2 ^ (sw σ + 1) < k + n → (k ≤ 2 ^ (sw σ + 1)) → (tabN σ (omM σ Ω0) H v k 0 (gt Ω 56)) → (∀ q, q ≠ 56 → Ω q = Ω0 q) → X E Ω 71 [some (.ref (wa w 49)), some (.int (zI ((2 ^ (sw σ + 1) : Nat) : Int))), some (.int (zI (v : Int))), some (.int (zI (k : Int)))] [] := by
  intro n
  induction n with
  | zero =>
    intro k Ω hfu hk hT hF
    exact absurd hfu (by omega)
  | succ n ih =>
    intro k Ω hfu hk hT hF
    have hW := sw_eq hv
    have hN := sdots_le hv
    have hM := pow_128 (sw σ) (by omega) (by omega)
    have hsc : scM Ω = σ := (scM_cong (hF 50 (by decide))).trans hσ
    have eω : omM σ Ω = omM σ Ω0 := omM_fr (hF 49 (by decide))
    have e55 : gt Ω 55 = gt Ω0 55 := funext fun t => gt_fr (hF 55 (by decide)) t
    have e54 : gt Ω 54 = H := (funext fun t => gt_fr (hF 54 (by decide)) t).trans hHm
    refine z_iload_n (pc := 71) hC (i := 3) dX5_leastCost_71 rfl rfl ?_
    refine z_iload_n (pc := 72) hC (i := 1) dX5_leastCost_72 rfl rfl ?_
    refine z_icmp_ge (pc := 73) hC 100 (by first | assumption | exact zb_gt _ _ _ | exact zcmp_zb _ _ | exact bI_zb _ | exact ⟨by omega, by omega⟩) (by first | assumption | exact zb_gt _ _ _ | exact zcmp_zb _ _ | exact bI_zb _ | exact ⟨by omega, by omega⟩) dX5_leastCost_73 rfl (fun h73 => ?_) (fun h73 => ?_)
    · obtain rfl : k = 2 ^ (sw σ + 1) := by omega
      exact K Ω hT hF
    · refine z_aload_n (pc := 76) hC (i := 0) dX5_leastCost_76 rfl rfl ?_
      refine z_getR (C := RX5) (T := TX5) (N := 15) (ci := 5) (pc := 77) hC _ _ 9 in_X5_leastCost_X5 rfl (by decide) (fun _ => rfl) (by decide) fl_X5_leastCost_29 (fun _ => rfl) dX5_leastCost_77 ?_
      refine z_iload_n (pc := 80) hC (i := 3) dX5_leastCost_80 rfl rfl ?_
      refine z_ialk (pc := 81) hC _ k (by decide) (fun _ => rfl) rfl (by omega) (by decide) dX5_leastCost_81 ?_
      refine z_ldc (pc := 82) hC (n := 1000000) kc_X5_leastCost_79 rfl dX5_leastCost_82 ?_
      rw [e55]
      refine z_icmp_ge (pc := 84) hC 94 (by first | assumption | exact zb_gt _ _ _ | exact zcmp_zb _ _ | exact bI_zb _ | exact ⟨by omega, by omega⟩) (by first | assumption | exact zb_gt _ _ _ | exact zcmp_zb _ _ | exact bI_zb _ | exact ⟨by omega, by omega⟩) dX5_leastCost_84 rfl (fun h84 => ?_) (fun h84 => ?_)
      · refine z_iinc (pc := 94) hC (i := 3) dX5_leastCost_94 rfl (by decide) rfl (zS_s (zS_s (zS_s zS_0))) ?_
        refine z_goto (pc := 97) hC 71 dX5_leastCost_97 rfl ?_
        exact ih (k + 1) Ω (by omega) (by omega) (tabN_skip hT hf (by omega) (fun S => by have := dC_b hv hω S (n := v) (by omega); omega) (by omega)) hF
      · refine z_aload_n (pc := 87) hC (i := 0) dX5_leastCost_87 rfl rfl ?_
        refine z_iload_n (pc := 88) hC (i := 2) dX5_leastCost_88 rfl rfl ?_
        refine z_iload_n (pc := 89) hC (i := 3) dX5_leastCost_89 rfl rfl ?_
        refine z_iload_n (pc := 90) hC (i := 1) dX5_leastCost_90 rfl rfl ?_
        refine z_callV (n := 3) (T := TX5) (N := 15) (ci := 5) (pc := 91) hC (c_X5_goesOn l w hw _ σ hv hsc H hH (by rw [eω]; exact hω) e54 v k hvN (by omega) (by rw [eω, e55]; exact hf) (by rw [e55]; omega) (by rw [eω]; exact hT)) gX5_leastCost_X5_goesOn rfl (by decide +kernel) (by decide) (by decide) rfl (by decide) (fun _ => rfl) rfl rfl (Nat.le_of_ble_eq_true rfl) dX5_leastCost_91 (zv_k fun Ω91 h91 => ?_)
        obtain ⟨hT91, hF91⟩ := h91
        rw [eω] at hT91
        refine z_iinc (pc := 94) hC (i := 3) dX5_leastCost_94 rfl (by decide) rfl (zS_s (zS_s (zS_s zS_0))) ?_
        refine z_goto (pc := 97) hC 71 dX5_leastCost_97 rfl ?_
        exact ih (k + 1) _ (by omega) (by omega) (tabN_next hT91) (fun q hq => (hF91 q hq).trans (hF q hq))
set_option maxHeartbeats 4000000 in
set_option maxRecDepth 100000 in
theorem L_X5_leastCost_40 {E : zE} {w : zP} {l : Launch} {Post : Option Value → Mem → Prop} (hw : zOK w) (hC : zC E w l RX5 wsX5_leastCost cX5_leastCost 4 7 170 (some .int) Post) (σ : Sg) (hv : scok σ) (Ω0 : Mem) (hσ : scM Ω0 = σ) (H : Nat → Int) (hH : ∀ u, u < sdots σ → 0 ≤ H u ∧ H u ≤ 2) (hω : omok σ (omM σ Ω0)) (hHm : gt Ω0 54 = H) (K : ∀ (Ω : Mem) (o3 : Option Value), tab σ (omM σ Ω0) H (sdots σ) (gt Ω 55) → (∀ q, q ≠ 55 → q ≠ 56 → Ω q = Ω0 q) → X E Ω 120 [some (.ref (wa w 49)), some (.int (zI ((2 ^ (sw σ + 1) : Nat) : Int))), some (.int (zI (sdots σ : Int))), o3] []) : ∀ (n : Nat) (v : Nat) (Ω : Mem) (o3 : Option Value), sdots σ < v + n → (v ≤ sdots σ) → (tab σ (omM σ Ω0) H v (gt Ω 55)) → (∀ q, q ≠ 55 → q ≠ 56 → Ω q = Ω0 q) → X E Ω 40 [some (.ref (wa w 49)), some (.int (zI ((2 ^ (sw σ + 1) : Nat) : Int))), some (.int (zI (v : Int))), o3] [] := by
  intro n
  induction n with
  | zero =>
    intro v Ω o3 hfu hvN hT hF
    exact absurd hfu (by omega)
  | succ n ih =>
    intro v Ω o3 hfu hvN hT hF
    have hW := sw_eq hv
    have hN := sdots_le hv
    have hM := pow_128 (sw σ) (by omega) (by omega)
    have hsc : scM Ω = σ := (scM_cong (hF 50 (by decide) (by decide))).trans hσ
    have eω : omM σ Ω = omM σ Ω0 := omM_fr (hF 49 (by decide) (by decide))
    have e54 : gt Ω 54 = H := (funext fun t => gt_fr (hF 54 (by decide) (by decide)) t).trans hHm
    have q0 : gt Ω 50 0 * gt Ω 50 1 = (sdots σ : Int) := by rw [st_at hsc (by decide), st_at hsc (by decide)]; exact hN.2.2.symm
    refine z_iload_n (pc := 40) hC (i := 2) dX5_leastCost_40 rfl rfl ?_
    refine z_aload_n (pc := 41) hC (i := 0) dX5_leastCost_41 rfl rfl ?_
    refine z_callV (n := 0) (T := TX5) (N := 15) (ci := 5) (pc := 42) hC (c_X5_dots l w hw _) gX5_leastCost_X5_dots rfl (by decide +kernel) (by decide) (by decide) rfl (by decide) (fun _ => rfl) rfl rfl (Nat.le_of_ble_eq_true rfl) dX5_leastCost_42 (zi_k fun r42 Ω42 h42 => ?_)
    obtain ⟨rfl, hM42⟩ := h42
    obtain rfl := hM42.symm
    rw [q0]
    refine z_icmp_ge (pc := 45) hC 120 (by first | assumption | exact zb_gt _ _ _ | exact zcmp_zb _ _ | exact bI_zb _ | exact ⟨by omega, by omega⟩) (by first | assumption | exact zb_gt _ _ _ | exact zcmp_zb _ _ | exact bI_zb _ | exact ⟨by omega, by omega⟩) dX5_leastCost_45 rfl (fun h45 => ?_) (fun h45 => ?_)
    · obtain rfl : v = sdots σ := by omega
      exact K Ω _ hT hF
    · refine z_iconst (pc := 48) hC dX5_leastCost_48 ?_
      refine z_istore_n (pc := 49) hC (i := 3) dX5_leastCost_49 rfl (by decide) rfl (zS_s (zS_s (zS_s zS_0))) ?_
      refine L_X5_leastCost_50 hw hC σ hv Ω v (fun Ω1 g6 gF1 => ?_) (2 ^ (sw σ + 1) + 1) 0 Ω (by omega) (by omega) (fun t ht => absurd ht (Nat.not_lt_zero t)) (fun _ _ => rfl)
      refine z_iconst (pc := 69) hC dX5_leastCost_69 ?_
      refine z_istore_n (pc := 70) hC (i := 3) dX5_leastCost_70 rfl (by decide) rfl (zS_s (zS_s (zS_s zS_0))) ?_
      have eω1 : omM σ Ω1 = omM σ Ω0 := (omM_fr (gF1 49 (by decide))).trans eω
      have e155 : gt Ω1 55 = gt Ω 55 := funext fun t => gt_fr (gF1 55 (by decide)) t
      refine L_X5_leastCost_71 hw hC σ hv Ω1 ((scM_cong (gF1 50 (by decide))).trans hsc) H hH (by rw [eω1]; exact hω) ((funext fun t => gt_fr (gF1 54 (by decide)) t).trans e54) v (by omega) (by rw [eω1, e155]; exact hT) (fun Ω2 gT2 gF2 => ?_) (2 ^ (sw σ + 1) + 1) 0 Ω1 (by omega) (by omega) (tabN_0 _ _ _ _ g6) (fun _ _ => rfl)
      rw [eω1] at gT2
      refine z_aload_n (pc := 100) hC (i := 0) dX5_leastCost_100 rfl rfl ?_
      refine z_getR (C := RX5) (T := TX5) (N := 15) (ci := 5) (pc := 101) hC _ _ 10 in_X5_leastCost_X5 rfl (by decide) (fun _ => rfl) (by decide) fl_X5_leastCost_32 (fun _ => rfl) dX5_leastCost_101 ?_
      refine z_iconst (pc := 104) hC dX5_leastCost_104 ?_
      refine z_aload_n (pc := 105) hC (i := 0) dX5_leastCost_105 rfl rfl ?_
      refine z_getR (C := RX5) (T := TX5) (N := 15) (ci := 5) (pc := 106) hC _ _ 9 in_X5_leastCost_X5 rfl (by decide) (fun _ => rfl) (by decide) fl_X5_leastCost_29 (fun _ => rfl) dX5_leastCost_106 ?_
      refine z_iconst (pc := 109) hC dX5_leastCost_109 ?_
      refine z_iload_n (pc := 110) hC (i := 1) dX5_leastCost_110 rfl rfl ?_
      refine z_callS (n := 5) (pc := 111) hC (c_X5_bring l w hw _ 56 55 128 128 0 0 (2 ^ (sw σ + 1)) (by decide) (by decide) (fun _ => rfl) (fun _ => rfl) (by decide) (by decide) (by omega) (by omega) (Or.inl (by decide))) gX5_leastCost_X5_bring rfl (by decide +kernel) (by decide) (by decide) rfl rfl (Nat.le_of_ble_eq_true rfl) dX5_leastCost_111 (zv_k fun Ω111 h111 => ?_)
      subst h111
      refine z_iinc (pc := 114) hC (i := 2) dX5_leastCost_114 rfl (by decide) rfl (zS_s (zS_s zS_0)) ?_
      refine z_goto (pc := 117) hC 40 dX5_leastCost_117 rfl ?_
      refine ih (v + 1) _ _ (by omega) (by omega) (tab_s gT2 (fun k hk => ?_)) (fun q h1 h2 => ?_)
      · rw [brg_at _ _ _ _ _ _ (Nat.zero_le k) (by omega), Nat.sub_zero, Nat.zero_add]
      · rw [brg_n _ _ _ _ _ h1, gF2 q h2, gF1 q h2]; exact hF q h1 h2
set_option maxHeartbeats 4000000 in
set_option maxRecDepth 100000 in
theorem L_X5_leastCost_125 {E : zE} {w : zP} {l : Launch} {Post : Option Value → Mem → Prop} (hw : zOK w) (hC : zC E w l RX5 wsX5_leastCost cX5_leastCost 4 7 170 (some .int) Post) (σ : Sg) (hv : scok σ) (Ω : Mem) (K : X E Ω 157 [some (.ref (wa w 49)), some (.int (zI ((2 ^ (sw σ + 1) : Nat) : Int))), some (.int (zI (lst (gt Ω 55) (2 ^ (sw σ + 1))))), some (.int (zI ((2 ^ (sw σ + 1) : Nat) : Int)))] []) : ∀ (n : Nat) (k : Nat), 2 ^ (sw σ + 1) < k + n → (k ≤ 2 ^ (sw σ + 1)) → X E Ω 125 [some (.ref (wa w 49)), some (.int (zI ((2 ^ (sw σ + 1) : Nat) : Int))), some (.int (zI (lst (gt Ω 55) k))), some (.int (zI (k : Int)))] [] := by
  intro n
  induction n with
  | zero =>
    intro k hfu hk
    exact absurd hfu (by omega)
  | succ n ih =>
    intro k hfu hk
    have hW := sw_eq hv
    have hM := pow_128 (sw σ) (by omega) (by omega)
    have hlb : -2147483648 ≤ lst (gt Ω 55) k ∧ lst (gt Ω 55) k ≤ 2147483647 := by
      rcases lst_at (gt Ω 55) k with q | ⟨j, -, q⟩
      · omega
      · rw [q]; exact zb_gt _ _ _
    have hls : lst (gt Ω 55) (k + 1) = if gt Ω 55 k < lst (gt Ω 55) k then gt Ω 55 k else lst (gt Ω 55) k := rfl
    refine z_iload_n (pc := 125) hC (i := 3) dX5_leastCost_125 rfl rfl ?_
    refine z_iload_n (pc := 126) hC (i := 1) dX5_leastCost_126 rfl rfl ?_
    refine z_icmp_ge (pc := 127) hC 157 (by first | assumption | exact zb_gt _ _ _ | exact zcmp_zb _ _ | exact bI_zb _ | exact ⟨by omega, by omega⟩) (by first | assumption | exact zb_gt _ _ _ | exact zcmp_zb _ _ | exact bI_zb _ | exact ⟨by omega, by omega⟩) dX5_leastCost_127 rfl (fun h127 => ?_) (fun h127 => ?_)
    · obtain rfl : k = 2 ^ (sw σ + 1) := by omega
      exact K
    · refine z_aload_n (pc := 130) hC (i := 0) dX5_leastCost_130 rfl rfl ?_
      refine z_getR (C := RX5) (T := TX5) (N := 15) (ci := 5) (pc := 131) hC _ _ 9 in_X5_leastCost_X5 rfl (by decide) (fun _ => rfl) (by decide) fl_X5_leastCost_29 (fun _ => rfl) dX5_leastCost_131 ?_
      refine z_iload_n (pc := 134) hC (i := 3) dX5_leastCost_134 rfl rfl ?_
      refine z_ialk (pc := 135) hC _ k (by decide) (fun _ => rfl) rfl (by omega) (by decide) dX5_leastCost_135 ?_
      refine z_iload_n (pc := 136) hC (i := 2) dX5_leastCost_136 rfl rfl ?_
      refine z_icmp_ge (pc := 137) hC 149 (by first | assumption | exact zb_gt _ _ _ | exact zcmp_zb _ _ | exact bI_zb _ | exact ⟨by omega, by omega⟩) (by first | assumption | exact zb_gt _ _ _ | exact zcmp_zb _ _ | exact bI_zb _ | exact ⟨by omega, by omega⟩) dX5_leastCost_137 rfl (fun h137 => ?_) (fun h137 => ?_)
      · refine z_iload_n (pc := 149) hC (i := 2) dX5_leastCost_149 rfl rfl ?_
        refine z_istore_n (pc := 150) hC (i := 2) dX5_leastCost_150 rfl (by decide) rfl (zS_s (zS_s zS_0)) ?_
        refine z_iinc (pc := 151) hC (i := 3) dX5_leastCost_151 rfl (by decide) rfl (zS_s (zS_s (zS_s zS_0))) ?_
        refine z_goto (pc := 154) hC 125 dX5_leastCost_154 rfl ?_
        have hh := ih (k + 1) (by omega) (by omega)
        rw [hls, if_neg (by omega)] at hh
        exact hh
      · refine z_aload_n (pc := 140) hC (i := 0) dX5_leastCost_140 rfl rfl ?_
        refine z_getR (C := RX5) (T := TX5) (N := 15) (ci := 5) (pc := 141) hC _ _ 9 in_X5_leastCost_X5 rfl (by decide) (fun _ => rfl) (by decide) fl_X5_leastCost_29 (fun _ => rfl) dX5_leastCost_141 ?_
        refine z_iload_n (pc := 144) hC (i := 3) dX5_leastCost_144 rfl rfl ?_
        refine z_ialk (pc := 145) hC _ k (by decide) (fun _ => rfl) rfl (by omega) (by decide) dX5_leastCost_145 ?_
        refine z_goto (pc := 146) hC 150 dX5_leastCost_146 rfl ?_
        refine z_istore_n (pc := 150) hC (i := 2) dX5_leastCost_150 rfl (by decide) rfl (zS_s (zS_s zS_0)) ?_
        refine z_iinc (pc := 151) hC (i := 3) dX5_leastCost_151 rfl (by decide) rfl (zS_s (zS_s (zS_s zS_0))) ?_
        refine z_goto (pc := 154) hC 125 dX5_leastCost_154 rfl ?_
        have hh := ih (k + 1) (by omega) (by omega)
        rw [hls, if_pos (by omega)] at hh
        exact hh
theorem fl_X5_leastCost_7 : Cond.fieldLink RX5 7 "StrokeCutsModel" "st" "[I" ∈ wsX5_leastCost := by decide +kernel
set_option maxHeartbeats 4000000 in
set_option maxRecDepth 100000 in
theorem c_X5_leastCost (l : Launch) (w : zP) (hw : zOK w) (Ω : Mem) (σ : Sg) (hv : scok σ) (hσ : scM Ω = σ) (H : Nat → Int) (hH : ∀ u, u < sdots σ → 0 ≤ H u ∧ H u ≤ 2) (hω : omok σ (omM σ Ω)) (hHm : gt Ω 54 = H) : zM l w yX5_leastCost wsX5_leastCost 7 170 [.ref (wa w 49)] Ω (zi (fun r Ω1 => mnH σ (omM σ Ω) H r ∧ ∀ q, q ≠ 55 → q ≠ 56 → Ω1 q = Ω q)) := by
  refine zM_of cX5_leastCost 4 (some .int) RX5 [some (.ref (wa w 49)), none, none, none] hw (by decide +kernel) rfl rfl (Nat.le_of_ble_eq_true rfl) rfl (fun E hC => ?_)
  have hW := sw_eq hv
  have hM := pow_128 (sw σ) (by omega) (by omega)
  have z0 : gt Ω 50 0 = ((sw σ : Nat) : Int) := (st_at hσ (by decide)).trans hW.1.symm
  refine z_iconst (pc := 0) hC dX5_leastCost_0 ?_
  refine z_aload_n (pc := 1) hC (i := 0) dX5_leastCost_1 rfl rfl ?_
  refine z_getR (C := RX5) (T := TX5) (N := 15) (ci := 5) (pc := 2) hC _ _ 0 in_X5_leastCost_X5 rfl (by decide) (fun _ => rfl) (by decide) fl_X5_leastCost_7 (fun _ => rfl) dX5_leastCost_2 ?_
  refine z_iconst (pc := 5) hC dX5_leastCost_5 ?_
  refine z_ialk (pc := 6) hC _ 0 (by decide) (fun _ => rfl) rfl (by decide) (by decide) dX5_leastCost_6 ?_
  rw [z0]
  refine z_ishl (pc := 7) hC ((2 ^ (sw σ + 1) : Nat) : Int) (shl2_z (sw σ) (by omega)) dX5_leastCost_7 ?_
  refine z_istore_n (pc := 8) hC (i := 1) dX5_leastCost_8 rfl (by decide) rfl (zS_s zS_0) ?_
  refine z_iconst (pc := 9) hC dX5_leastCost_9 ?_
  refine z_istore_n (pc := 10) hC (i := 2) dX5_leastCost_10 rfl (by decide) rfl (zS_s (zS_s zS_0)) ?_
  refine L_X5_leastCost_11 hw hC σ hv Ω (fun Ω1 g5 gF1 => ?_) (2 ^ (sw σ + 1) + 1) 0 Ω (by omega) (by omega) (fun t ht => absurd ht (Nat.not_lt_zero t)) (fun _ _ => rfl)
  refine z_iconst (pc := 38) hC dX5_leastCost_38 ?_
  refine z_istore_n (pc := 39) hC (i := 2) dX5_leastCost_39 rfl (by decide) rfl (zS_s (zS_s zS_0)) ?_
  have eω1 : omM σ Ω1 = omM σ Ω := omM_fr (gF1 49 (by decide))
  refine L_X5_leastCost_40 hw hC σ hv Ω1 ((scM_cong (gF1 50 (by decide))).trans hσ) H hH (by rw [eω1]; exact hω) ((funext fun t => gt_fr (gF1 54 (by decide)) t).trans hHm) (fun Ω2 o3 gT gF2 => ?_) (sdots σ + 1) 0 Ω1 none (by omega) (by omega) (tab_0 _ _ _ (by rw [g5 0 (by omega)]; rfl) (fun k h1 h2 => by rw [g5 k h2]; exact if_neg (by omega))) (fun _ _ _ => rfl)
  rw [eω1] at gT
  refine z_ldc (pc := 120) hC (n := 1000000) kc_X5_leastCost_79 rfl dX5_leastCost_120 ?_
  refine z_istore_n (pc := 122) hC (i := 2) dX5_leastCost_122 rfl (by decide) rfl (zS_s (zS_s zS_0)) ?_
  refine z_iconst (pc := 123) hC dX5_leastCost_123 ?_
  refine z_istore_n (pc := 124) hC (i := 3) dX5_leastCost_124 rfl (by decide) rfl (zS_s (zS_s (zS_s zS_0))) ?_
  refine L_X5_leastCost_125 hw hC σ hv Ω2 ?_ (2 ^ (sw σ + 1) + 1) 0 (by omega) (by omega)
  refine z_iload_n (pc := 157) hC (i := 2) dX5_leastCost_157 rfl rfl ?_
  exact z_iret (pc := 158) hC rfl ⟨_, rfl, tab_end hv hω gT, fun q h1 h2 => (gF2 q h1 h2).trans (gF1 q h1)⟩ dX5_leastCost_158
