theorem and_mask : ∀ s, s < 8 → ∀ n, n < 256 → zI ((n : Nat) : Int) &&& zI (((2 ^ s : Nat) : Int) - 1) = zI ((n % 2 ^ s : Nat) : Int) := by decide +kernel
theorem shl1_z : ∀ k, k < 128 → zI ((k : Nat) : Int) <<< (zI 1 &&& 31) = zI ((2 * k : Nat) : Int) := by decide +kernel
theorem or01_z : ∀ k, k < 128 → ∀ j, j < 2 → zI ((2 * k : Nat) : Int) ||| zI ((j : Nat) : Int) = zI ((2 * k + j : Nat) : Int) := by decide +kernel
theorem shl2_z : ∀ v, v < 7 → zI 2 <<< (zI ((v : Nat) : Int) &&& 31) = zI ((2 ^ (v + 1) : Nat) : Int) := by decide +kernel
theorem pow_128 : ∀ v, v < 7 → 2 ≤ v → 8 ≤ 2 ^ (v + 1) ∧ 2 ^ (v + 1) ≤ 128 := by decide +kernel
theorem cut1_b {ω : Nat → Nat → Int} {i k u d t : Nat} (h : 0 ≤ ω u d ∧ ω u d ≤ 99) : 0 ≤ cut1 ω i k u d t ∧ cut1 ω i k u d t ≤ 99 := by unfold cut1; split <;> omega
theorem addV_b {σ : Sg} (h : scok σ) {ω : Nat → Nat → Int} (hω : omok σ ω) {v i k : Nat} (hv : v < sdots σ) : 0 ≤ addV σ ω v i k ∧ addV σ ω v i k ≤ 477 := by
  obtain ⟨k0, k1, k2, k3⟩ := bk_eq h hv
  have hN := sdots_le h
  have hp := sPl_b h (a := v) (t := if i = 1 then 3 else 4) (by omega) (by split <;> omega)
  have hc : ∀ (u d t : Nat), d < 4 → bk σ v d = (u : Int) → 0 ≤ cut1 ω i k u d t ∧ cut1 ω i k u d t ≤ 99 := fun u d t hd e => by
    obtain ⟨o, e1, e2, e3, -⟩ := bk_inv h hv hd (by omega)
    have e4 : o = u := by omega
    subst e4
    exact cut1_b (hω o d e2 hd (by omega))
  have a0 : 0 ≤ (if 0 < v % sw σ then cut1 ω i k (v - 1) 0 0 else 0) ∧ (if 0 < v % sw σ then cut1 ω i k (v - 1) 0 0 else 0) ≤ 99 := by
    by_cases c : 0 < v % sw σ
    · rw [if_pos c]; exact hc _ _ _ (by decide) (k0.trans (if_pos c))
    · rw [if_neg c]; omega
  have a1 : 0 ≤ (if sw σ ≤ v then cut1 ω i k (v - sw σ) 1 (sw σ - 1) else 0) ∧ (if sw σ ≤ v then cut1 ω i k (v - sw σ) 1 (sw σ - 1) else 0) ≤ 99 := by
    by_cases c : sw σ ≤ v
    · rw [if_pos c]; exact hc _ _ _ (by decide) (k1.trans (if_pos c))
    · rw [if_neg c]; omega
  have a2 : 0 ≤ (if (sw σ ≤ v ∧ σ 7 = 8) ∧ 0 < v % sw σ then cut1 ω i k (v - sw σ - 1) 2 (sw σ) else 0) ∧ (if (sw σ ≤ v ∧ σ 7 = 8) ∧ 0 < v % sw σ then cut1 ω i k (v - sw σ - 1) 2 (sw σ) else 0) ≤ 99 := by
    by_cases c : (sw σ ≤ v ∧ σ 7 = 8) ∧ 0 < v % sw σ
    · rw [if_pos c]; exact hc _ _ _ (by decide) (k2.trans (if_pos c))
    · rw [if_neg c]; omega
  have a3 : 0 ≤ (if (sw σ ≤ v ∧ σ 7 = 8) ∧ v % sw σ < sw σ - 1 then cut1 ω i k (v - sw σ + 1) 3 (sw σ - 2) else 0) ∧ (if (sw σ ≤ v ∧ σ 7 = 8) ∧ v % sw σ < sw σ - 1 then cut1 ω i k (v - sw σ + 1) 3 (sw σ - 2) else 0) ≤ 99 := by
    by_cases c : (sw σ ≤ v ∧ σ 7 = 8) ∧ v % sw σ < sw σ - 1
    · rw [if_pos c]; exact hc _ _ _ (by decide) (k3.trans (if_pos c))
    · rw [if_neg c]; omega
  unfold addV
  omega
theorem omM_fr {σ : Sg} {Ω Ω1 : Mem} (h : Ω1 49 = Ω 49) : omM σ Ω1 = omM σ Ω := by
  funext v d
  unfold omM gt
  rw [h]
theorem fl_X5_goesOn_26 : Cond.fieldLink RX5 26 "StrokeCutsModel" "held" "[I" ∈ wsX5_goesOn := by decide +kernel
theorem in_X5_goesOn_X5 : ∀ x ∈ u_ws RX5 TX5 15, x ∈ wsX5_goesOn := by decide +kernel
theorem fl_X5_goesOn_29 : Cond.fieldLink RX5 29 "StrokeCutsModel" "least" "[I" ∈ wsX5_goesOn := by decide +kernel
theorem fl_X5_goesOn_32 : Cond.fieldLink RX5 32 "StrokeCutsModel" "next" "[I" ∈ wsX5_goesOn := by decide +kernel
set_option maxHeartbeats 4000000 in
set_option maxRecDepth 100000 in
theorem L_X5_goesOn_3 {E : zE} {w : zP} {l : Launch} {Post : Option Value → Mem → Prop} (hw : zOK w) (hC : zC E w l RX5 wsX5_goesOn cX5_goesOn 7 6 144 none Post) (σ : Sg) (hv : scok σ) (Ω0 : Mem) (hσ : scM Ω0 = σ) (H : Nat → Int) (hH : ∀ u, u < sdots σ → 0 ≤ H u ∧ H u ≤ 2) (hω : omok σ (omM σ Ω0)) (hHm : gt Ω0 54 = H) (v k : Nat) (hvN : v < sdots σ) (hk : k < 2 ^ (sw σ + 1)) (hf : tab σ (omM σ Ω0) H v (gt Ω0 55)) (hfl : gt Ω0 55 k < 1000000) (K : ∀ (Ω : Mem) (o5 o6 : Option Value), tabN σ (omM σ Ω0) H v k 2 (gt Ω 56) → (∀ q, q ≠ 56 → Ω q = Ω0 q) → X E Ω 97 [some (.ref (wa w 49)), some (.int (zI (v : Int))), some (.int (zI (k : Int))), some (.int (zI ((2 ^ (sw σ + 1) : Nat) : Int))), some (.int (zI ((2 : Nat) : Int))), o5, o6] []) : ∀ (n : Nat) (j : Nat) (Ω : Mem) (o5 : Option Value) (o6 : Option Value), 2 < j + n → (j ≤ 2) → (tabN σ (omM σ Ω0) H v k j (gt Ω 56)) → (∀ q, q ≠ 56 → Ω q = Ω0 q) → X E Ω 3 [some (.ref (wa w 49)), some (.int (zI (v : Int))), some (.int (zI (k : Int))), some (.int (zI ((2 ^ (sw σ + 1) : Nat) : Int))), some (.int (zI (j : Int))), o5, o6] [] := by
  intro n
  induction n with
  | zero =>
    intro j Ω o5 o6 hfu hj hT hF
    exact absurd hfu (by omega)
  | succ n ih =>
    intro j Ω o5 o6 hfu hj hT hF
    have hW := sw_eq hv
    have hN := sdots_le hv
    have hM := pow_128 (sw σ) (by omega) (by omega)
    have hsc : scM Ω = σ := (scM_cong (hF 50 (by decide))).trans hσ
    have eω : omM σ Ω = omM σ Ω0 := omM_fr (hF 49 (by decide))
    have h54 : gt Ω 54 v = H v := by rw [← hHm]; exact gt_fr (hF 54 (by decide)) v
    have h55 : gt Ω 55 = gt Ω0 55 := funext fun t => gt_fr (hF 55 (by decide)) t
    have hHv := hH v hvN
    have hfk := hf k hk
    have hadd := addV_b hv hω (v := v) (i := j) (k := k) hvN
    have hto : (2 * k + j) % 2 ^ (sw σ + 1) < 2 ^ (sw σ + 1) := Nat.mod_lt _ (by omega)
    have hg56 := hT _ hto
    have hf0 : 0 ≤ gt Ω0 55 k := by
      rcases hfk.2.2 with q | ⟨S, s1, s2, s3⟩
      · omega
      · have := dC_b hv hω S (n := v) (by omega)
        omega
    refine z_iload (pc := 3) hC (i := 4) dX5_goesOn_3 rfl ?_
    refine z_iconst (pc := 5) hC dX5_goesOn_5 ?_
    refine z_icmp_ge (pc := 6) hC 97 (by first | assumption | exact zb_gt _ _ _ | exact zcmp_zb _ _ | exact bI_zb _ | exact ⟨by omega, by omega⟩) (by first | assumption | exact zb_gt _ _ _ | exact zcmp_zb _ _ | exact bI_zb _ | exact ⟨by omega, by omega⟩) dX5_goesOn_6 rfl (fun h6 => ?_) (fun h6 => ?_)
    · obtain rfl : j = 2 := by omega
      exact K Ω _ _ hT hF
    · refine z_aload_n (pc := 9) hC (i := 0) dX5_goesOn_9 rfl rfl ?_
      refine z_getR (C := RX5) (T := TX5) (N := 15) (ci := 5) (pc := 10) hC _ _ 8 in_X5_goesOn_X5 rfl (by decide) (fun _ => rfl) (by decide) fl_X5_goesOn_26 (fun _ => rfl) dX5_goesOn_10 ?_
      refine z_iload_n (pc := 13) hC (i := 1) dX5_goesOn_13 rfl rfl ?_
      refine z_ialk (pc := 14) hC _ v (by decide) (fun _ => rfl) rfl (by omega) (by decide) dX5_goesOn_14 ?_
      rw [h54]
      refine z_if_eq (pc := 15) hC 31 ⟨by omega, by omega⟩ dX5_goesOn_15 rfl (fun h15 => ?_) (fun h15 => ?_)
      · refine z_iload_n (pc := 31) hC (i := 2) dX5_goesOn_31 rfl rfl ?_
        refine z_iconst (pc := 32) hC dX5_goesOn_32 ?_
        refine z_ishl (pc := 33) hC ((2 * k : Nat) : Int) (shl1_z k (by omega)) dX5_goesOn_33 ?_
        refine z_iload (pc := 34) hC (i := 4) dX5_goesOn_34 rfl ?_
        refine z_ior (pc := 36) hC ((2 * k + j : Nat) : Int) (or01_z k (by omega) j (by omega)) dX5_goesOn_36 ?_
        refine z_iload_n (pc := 37) hC (i := 3) dX5_goesOn_37 rfl rfl ?_
        refine z_iconst (pc := 38) hC dX5_goesOn_38 ?_
        refine z_isub (pc := 39) hC dX5_goesOn_39 ?_
        refine z_iand (pc := 40) hC (((2 * k + j) % 2 ^ (sw σ + 1) : Nat) : Int) (and_mask (sw σ + 1) (by omega) (2 * k + j) (by omega)) dX5_goesOn_40 ?_
        refine z_istore (pc := 41) hC (i := 5) dX5_goesOn_41 (by decide) rfl (zS_s (zS_s (zS_s (zS_s (zS_s zS_0))))) ?_
        refine z_aload_n (pc := 43) hC (i := 0) dX5_goesOn_43 rfl rfl ?_
        refine z_getR (C := RX5) (T := TX5) (N := 15) (ci := 5) (pc := 44) hC _ _ 9 in_X5_goesOn_X5 rfl (by decide) (fun _ => rfl) (by decide) fl_X5_goesOn_29 (fun _ => rfl) dX5_goesOn_44 ?_
        refine z_iload_n (pc := 47) hC (i := 2) dX5_goesOn_47 rfl rfl ?_
        refine z_ialk (pc := 48) hC _ k (by decide) (fun _ => rfl) rfl (by omega) (by decide) dX5_goesOn_48 ?_
        rw [h55]
        refine z_aload_n (pc := 49) hC (i := 0) dX5_goesOn_49 rfl rfl ?_
        refine z_iload_n (pc := 50) hC (i := 1) dX5_goesOn_50 rfl rfl ?_
        refine z_iload (pc := 51) hC (i := 4) dX5_goesOn_51 rfl ?_
        refine z_iload_n (pc := 53) hC (i := 2) dX5_goesOn_53 rfl rfl ?_
        refine z_callV (n := 3) (T := TX5) (N := 15) (ci := 5) (pc := 54) hC (c_X5_adds l w hw _ σ hsc hv v j k hvN (by omega) (by omega)) gX5_goesOn_X5_adds rfl (by decide +kernel) (by decide) (by decide) rfl (by decide) (fun _ => rfl) rfl rfl (Nat.le_of_ble_eq_true rfl) dX5_goesOn_54 (zi_k fun r54 Ω54 h54c => ?_)
        obtain ⟨hr54, hm54⟩ := h54c
        have hm54 := hm54.symm
        subst hm54
        rw [eω] at hr54
        subst hr54
        refine z_iadd (pc := 57) hC dX5_goesOn_57 ?_
        refine z_istore (pc := 58) hC (i := 6) dX5_goesOn_58 (by decide) rfl (zS_s (zS_s (zS_s (zS_s (zS_s (zS_s zS_0)))))) ?_
        refine z_aload_n (pc := 60) hC (i := 0) dX5_goesOn_60 rfl rfl ?_
        refine z_getR (C := RX5) (T := TX5) (N := 15) (ci := 5) (pc := 61) hC _ _ 10 in_X5_goesOn_X5 rfl (by decide) (fun _ => rfl) (by decide) fl_X5_goesOn_32 (fun _ => rfl) dX5_goesOn_61 ?_
        refine z_iload (pc := 64) hC (i := 5) dX5_goesOn_64 rfl ?_
        refine z_iload (pc := 66) hC (i := 6) dX5_goesOn_66 rfl ?_
        refine z_aload_n (pc := 68) hC (i := 0) dX5_goesOn_68 rfl rfl ?_
        refine z_getR (C := RX5) (T := TX5) (N := 15) (ci := 5) (pc := 69) hC _ _ 10 in_X5_goesOn_X5 rfl (by decide) (fun _ => rfl) (by decide) fl_X5_goesOn_32 (fun _ => rfl) dX5_goesOn_69 ?_
        refine z_iload (pc := 72) hC (i := 5) dX5_goesOn_72 rfl ?_
        refine z_ialk (pc := 74) hC _ ((2 * k + j) % 2 ^ (sw σ + 1)) (by decide) (fun _ => rfl) rfl (by omega) (by decide) dX5_goesOn_74 ?_
        refine z_icmp_ge (pc := 75) hC 83 (by first | assumption | exact zb_gt _ _ _ | exact zcmp_zb _ _ | exact bI_zb _ | exact ⟨by omega, by omega⟩) (by first | assumption | exact zb_gt _ _ _ | exact zcmp_zb _ _ | exact bI_zb _ | exact ⟨by omega, by omega⟩) dX5_goesOn_75 rfl (fun h75 => ?_) (fun h75 => ?_)
        · refine z_aload_n (pc := 83) hC (i := 0) dX5_goesOn_83 rfl rfl ?_
          refine z_getR (C := RX5) (T := TX5) (N := 15) (ci := 5) (pc := 84) hC _ _ 10 in_X5_goesOn_X5 rfl (by decide) (fun _ => rfl) (by decide) fl_X5_goesOn_32 (fun _ => rfl) dX5_goesOn_84 ?_
          refine z_iload (pc := 87) hC (i := 5) dX5_goesOn_87 rfl ?_
          refine z_ialk (pc := 89) hC _ ((2 * k + j) % 2 ^ (sw σ + 1)) (by decide) (fun _ => rfl) rfl (by omega) (by decide) dX5_goesOn_89 ?_
          refine z_iask (pc := 90) hC _ ((2 * k + j) % 2 ^ (sw σ + 1)) (by decide) (fun _ => rfl) rfl (by omega) (by decide) dX5_goesOn_90 ?_
          refine z_iinc (pc := 91) hC (i := 4) dX5_goesOn_91 rfl (by decide) rfl (zS_s (zS_s (zS_s (zS_s zS_0)))) ?_
          refine z_goto (pc := 94) hC 3 dX5_goesOn_94 rfl ?_
          have hgo := tabN_go hv hT hf hvN hk (by omega) (show H v ≠ (if j = 1 then 2 else 1) by split <;> omega) hfl (fun S => by have := dC_b hv hω S (n := v + 1) (by omega); omega)
          exact ih (j + 1) _ _ _ (by omega) (by omega) (by rw [gt_fup _ _ _ (zb_gt _ _ _), show gt Ω 56 ((2 * k + j) % 2 ^ (sw σ + 1)) = min (gt Ω0 55 k + addV σ (omM σ Ω0) v j k) (gt Ω 56 ((2 * k + j) % 2 ^ (sw σ + 1))) by omega]; exact hgo) (fun q hq => by rw [ups_n _ _ _ hq]; exact hF q hq)
        · refine z_iload (pc := 78) hC (i := 6) dX5_goesOn_78 rfl ?_
          refine z_goto (pc := 80) hC 90 dX5_goesOn_80 rfl ?_
          refine z_iask (pc := 90) hC _ ((2 * k + j) % 2 ^ (sw σ + 1)) (by decide) (fun _ => rfl) rfl (by omega) (by decide) dX5_goesOn_90 ?_
          refine z_iinc (pc := 91) hC (i := 4) dX5_goesOn_91 rfl (by decide) rfl (zS_s (zS_s (zS_s (zS_s zS_0)))) ?_
          refine z_goto (pc := 94) hC 3 dX5_goesOn_94 rfl ?_
          have hgo := tabN_go hv hT hf hvN hk (by omega) (show H v ≠ (if j = 1 then 2 else 1) by split <;> omega) hfl (fun S => by have := dC_b hv hω S (n := v + 1) (by omega); omega)
          exact ih (j + 1) _ _ _ (by omega) (by omega) (by rw [gt_fup _ _ _ ⟨by omega, by omega⟩, show gt Ω0 55 k + addV σ (omM σ Ω0) v j k = min (gt Ω0 55 k + addV σ (omM σ Ω0) v j k) (gt Ω 56 ((2 * k + j) % 2 ^ (sw σ + 1))) by omega]; exact hgo) (fun q hq => by rw [ups_n _ _ _ hq]; exact hF q hq)
      · refine z_aload_n (pc := 18) hC (i := 0) dX5_goesOn_18 rfl rfl ?_
        refine z_getR (C := RX5) (T := TX5) (N := 15) (ci := 5) (pc := 19) hC _ _ 8 in_X5_goesOn_X5 rfl (by decide) (fun _ => rfl) (by decide) fl_X5_goesOn_26 (fun _ => rfl) dX5_goesOn_19 ?_
        refine z_iload_n (pc := 22) hC (i := 1) dX5_goesOn_22 rfl rfl ?_
        refine z_ialk (pc := 23) hC _ v (by decide) (fun _ => rfl) rfl (by omega) (by decide) dX5_goesOn_23 ?_
        rw [h54]
        refine z_iconst (pc := 24) hC dX5_goesOn_24 ?_
        refine z_iload (pc := 25) hC (i := 4) dX5_goesOn_25 rfl ?_
        refine z_isub (pc := 27) hC dX5_goesOn_27 ?_
        refine z_icmp_ne (pc := 28) hC 91 ⟨by omega, by omega⟩ ⟨by omega, by omega⟩ dX5_goesOn_28 rfl (fun h28 => ?_) (fun h28 => ?_)
        · refine z_iinc (pc := 91) hC (i := 4) dX5_goesOn_91 rfl (by decide) rfl (zS_s (zS_s (zS_s (zS_s zS_0)))) ?_
          refine z_goto (pc := 94) hC 3 dX5_goesOn_94 rfl ?_
          exact ih (j + 1) Ω _ _ (by omega) (by omega) (tabN_held hT (by omega) (by split <;> omega)) hF
        · refine z_iload_n (pc := 31) hC (i := 2) dX5_goesOn_31 rfl rfl ?_
          refine z_iconst (pc := 32) hC dX5_goesOn_32 ?_
          refine z_ishl (pc := 33) hC ((2 * k : Nat) : Int) (shl1_z k (by omega)) dX5_goesOn_33 ?_
          refine z_iload (pc := 34) hC (i := 4) dX5_goesOn_34 rfl ?_
          refine z_ior (pc := 36) hC ((2 * k + j : Nat) : Int) (or01_z k (by omega) j (by omega)) dX5_goesOn_36 ?_
          refine z_iload_n (pc := 37) hC (i := 3) dX5_goesOn_37 rfl rfl ?_
          refine z_iconst (pc := 38) hC dX5_goesOn_38 ?_
          refine z_isub (pc := 39) hC dX5_goesOn_39 ?_
          refine z_iand (pc := 40) hC (((2 * k + j) % 2 ^ (sw σ + 1) : Nat) : Int) (and_mask (sw σ + 1) (by omega) (2 * k + j) (by omega)) dX5_goesOn_40 ?_
          refine z_istore (pc := 41) hC (i := 5) dX5_goesOn_41 (by decide) rfl (zS_s (zS_s (zS_s (zS_s (zS_s zS_0))))) ?_
          refine z_aload_n (pc := 43) hC (i := 0) dX5_goesOn_43 rfl rfl ?_
          refine z_getR (C := RX5) (T := TX5) (N := 15) (ci := 5) (pc := 44) hC _ _ 9 in_X5_goesOn_X5 rfl (by decide) (fun _ => rfl) (by decide) fl_X5_goesOn_29 (fun _ => rfl) dX5_goesOn_44 ?_
          refine z_iload_n (pc := 47) hC (i := 2) dX5_goesOn_47 rfl rfl ?_
          refine z_ialk (pc := 48) hC _ k (by decide) (fun _ => rfl) rfl (by omega) (by decide) dX5_goesOn_48 ?_
          rw [h55]
          refine z_aload_n (pc := 49) hC (i := 0) dX5_goesOn_49 rfl rfl ?_
          refine z_iload_n (pc := 50) hC (i := 1) dX5_goesOn_50 rfl rfl ?_
          refine z_iload (pc := 51) hC (i := 4) dX5_goesOn_51 rfl ?_
          refine z_iload_n (pc := 53) hC (i := 2) dX5_goesOn_53 rfl rfl ?_
          refine z_callV (n := 3) (T := TX5) (N := 15) (ci := 5) (pc := 54) hC (c_X5_adds l w hw _ σ hsc hv v j k hvN (by omega) (by omega)) gX5_goesOn_X5_adds rfl (by decide +kernel) (by decide) (by decide) rfl (by decide) (fun _ => rfl) rfl rfl (Nat.le_of_ble_eq_true rfl) dX5_goesOn_54 (zi_k fun r54 Ω54 h54c => ?_)
          obtain ⟨hr54, hm54⟩ := h54c
          have hm54 := hm54.symm
          subst hm54
          rw [eω] at hr54
          subst hr54
          refine z_iadd (pc := 57) hC dX5_goesOn_57 ?_
          refine z_istore (pc := 58) hC (i := 6) dX5_goesOn_58 (by decide) rfl (zS_s (zS_s (zS_s (zS_s (zS_s (zS_s zS_0)))))) ?_
          refine z_aload_n (pc := 60) hC (i := 0) dX5_goesOn_60 rfl rfl ?_
          refine z_getR (C := RX5) (T := TX5) (N := 15) (ci := 5) (pc := 61) hC _ _ 10 in_X5_goesOn_X5 rfl (by decide) (fun _ => rfl) (by decide) fl_X5_goesOn_32 (fun _ => rfl) dX5_goesOn_61 ?_
          refine z_iload (pc := 64) hC (i := 5) dX5_goesOn_64 rfl ?_
          refine z_iload (pc := 66) hC (i := 6) dX5_goesOn_66 rfl ?_
          refine z_aload_n (pc := 68) hC (i := 0) dX5_goesOn_68 rfl rfl ?_
          refine z_getR (C := RX5) (T := TX5) (N := 15) (ci := 5) (pc := 69) hC _ _ 10 in_X5_goesOn_X5 rfl (by decide) (fun _ => rfl) (by decide) fl_X5_goesOn_32 (fun _ => rfl) dX5_goesOn_69 ?_
          refine z_iload (pc := 72) hC (i := 5) dX5_goesOn_72 rfl ?_
          refine z_ialk (pc := 74) hC _ ((2 * k + j) % 2 ^ (sw σ + 1)) (by decide) (fun _ => rfl) rfl (by omega) (by decide) dX5_goesOn_74 ?_
          refine z_icmp_ge (pc := 75) hC 83 (by first | assumption | exact zb_gt _ _ _ | exact zcmp_zb _ _ | exact bI_zb _ | exact ⟨by omega, by omega⟩) (by first | assumption | exact zb_gt _ _ _ | exact zcmp_zb _ _ | exact bI_zb _ | exact ⟨by omega, by omega⟩) dX5_goesOn_75 rfl (fun h75 => ?_) (fun h75 => ?_)
          · refine z_aload_n (pc := 83) hC (i := 0) dX5_goesOn_83 rfl rfl ?_
            refine z_getR (C := RX5) (T := TX5) (N := 15) (ci := 5) (pc := 84) hC _ _ 10 in_X5_goesOn_X5 rfl (by decide) (fun _ => rfl) (by decide) fl_X5_goesOn_32 (fun _ => rfl) dX5_goesOn_84 ?_
            refine z_iload (pc := 87) hC (i := 5) dX5_goesOn_87 rfl ?_
            refine z_ialk (pc := 89) hC _ ((2 * k + j) % 2 ^ (sw σ + 1)) (by decide) (fun _ => rfl) rfl (by omega) (by decide) dX5_goesOn_89 ?_
            refine z_iask (pc := 90) hC _ ((2 * k + j) % 2 ^ (sw σ + 1)) (by decide) (fun _ => rfl) rfl (by omega) (by decide) dX5_goesOn_90 ?_
            refine z_iinc (pc := 91) hC (i := 4) dX5_goesOn_91 rfl (by decide) rfl (zS_s (zS_s (zS_s (zS_s zS_0)))) ?_
            refine z_goto (pc := 94) hC 3 dX5_goesOn_94 rfl ?_
            have hgo := tabN_go hv hT hf hvN hk (by omega) (show H v ≠ (if j = 1 then 2 else 1) by split <;> omega) hfl (fun S => by have := dC_b hv hω S (n := v + 1) (by omega); omega)
            exact ih (j + 1) _ _ _ (by omega) (by omega) (by rw [gt_fup _ _ _ (zb_gt _ _ _), show gt Ω 56 ((2 * k + j) % 2 ^ (sw σ + 1)) = min (gt Ω0 55 k + addV σ (omM σ Ω0) v j k) (gt Ω 56 ((2 * k + j) % 2 ^ (sw σ + 1))) by omega]; exact hgo) (fun q hq => by rw [ups_n _ _ _ hq]; exact hF q hq)
          · refine z_iload (pc := 78) hC (i := 6) dX5_goesOn_78 rfl ?_
            refine z_goto (pc := 80) hC 90 dX5_goesOn_80 rfl ?_
            refine z_iask (pc := 90) hC _ ((2 * k + j) % 2 ^ (sw σ + 1)) (by decide) (fun _ => rfl) rfl (by omega) (by decide) dX5_goesOn_90 ?_
            refine z_iinc (pc := 91) hC (i := 4) dX5_goesOn_91 rfl (by decide) rfl (zS_s (zS_s (zS_s (zS_s zS_0)))) ?_
            refine z_goto (pc := 94) hC 3 dX5_goesOn_94 rfl ?_
            have hgo := tabN_go hv hT hf hvN hk (by omega) (show H v ≠ (if j = 1 then 2 else 1) by split <;> omega) hfl (fun S => by have := dC_b hv hω S (n := v + 1) (by omega); omega)
            exact ih (j + 1) _ _ _ (by omega) (by omega) (by rw [gt_fup _ _ _ ⟨by omega, by omega⟩, show gt Ω0 55 k + addV σ (omM σ Ω0) v j k = min (gt Ω0 55 k + addV σ (omM σ Ω0) v j k) (gt Ω 56 ((2 * k + j) % 2 ^ (sw σ + 1))) by omega]; exact hgo) (fun q hq => by rw [ups_n _ _ _ hq]; exact hF q hq)
set_option maxHeartbeats 4000000 in
set_option maxRecDepth 100000 in
theorem c_X5_goesOn (l : Launch) (w : zP) (hw : zOK w) (Ω : Mem) (σ : Sg) (hv : scok σ) (hσ : scM Ω = σ) (H : Nat → Int) (hH : ∀ u, u < sdots σ → 0 ≤ H u ∧ H u ≤ 2) (hω : omok σ (omM σ Ω)) (hHm : gt Ω 54 = H) (v k : Nat) (hvN : v < sdots σ) (hk : k < 2 ^ (sw σ + 1)) (hf : tab σ (omM σ Ω) H v (gt Ω 55)) (hfl : gt Ω 55 k < 1000000) (hT : tabN σ (omM σ Ω) H v k 0 (gt Ω 56)) : zM l w yX5_goesOn wsX5_goesOn 6 144 [.ref (wa w 49), .int (zI (v : Int)), .int (zI (k : Int)), .int (zI ((2 ^ (sw σ + 1) : Nat) : Int))] Ω (zvo (fun Ω1 => tabN σ (omM σ Ω) H v k 2 (gt Ω1 56) ∧ ∀ q, q ≠ 56 → Ω1 q = Ω q)) := by
  refine zM_of cX5_goesOn 7 none RX5 [some (.ref (wa w 49)), some (.int (zI (v : Int))), some (.int (zI (k : Int))), some (.int (zI ((2 ^ (sw σ + 1) : Nat) : Int))), none, none, none] hw (by decide +kernel) rfl rfl (Nat.le_of_ble_eq_true rfl) rfl (fun E hC => ?_)
  refine z_iconst (pc := 0) hC dX5_goesOn_0 ?_
  refine z_istore (pc := 1) hC (i := 4) dX5_goesOn_1 (by decide) rfl (zS_s (zS_s (zS_s (zS_s zS_0)))) ?_
  refine L_X5_goesOn_3 hw hC σ hv Ω hσ H hH hω hHm v k hvN hk hf hfl (fun Ω1 o5 o6 gT gF => ?_) 3 0 Ω none none (by omega) (by omega) hT (fun _ _ => rfl)
  exact z_vret (pc := 97) hC rfl ⟨rfl, gT, gF⟩ dX5_goesOn_97
