theorem sup_eqv {σ : Sg} {i : Nat} {v : Int} (h : σ i = v) : sup σ i v = σ := by
  funext j
  unfold sup
  by_cases e : j = i
  · rw [if_pos e, e, h]
  · rw [if_neg e]
theorem sfS_lt (σ : Sg) (n : Nat) {i : Nat} (h : i < 44) : sfS σ n i = σ i := by
  unfold sfS sfG; exact if_neg (by omega)
theorem sfH_lt (σ : Sg) (p : Nat → Bool) (v : Int) (n : Nat) {i : Nat} (h : i < 8) : sfH σ p v n i = σ i := by
  unfold sfH; exact if_neg (by omega)
theorem fl_X5_turns_7 : Cond.fieldLink RX5 7 "StrokeCutsModel" "st" "[I" ∈ wsX5_turns := by decide +kernel
theorem in_X5_turns_X5 : ∀ x ∈ u_ws RX5 TX5 15, x ∈ wsX5_turns := by decide +kernel
set_option maxHeartbeats 4000000 in
set_option maxRecDepth 100000 in
theorem L_X5_turns_8 {E : zE} {w : zP} {l : Launch} {Post : Option Value → Mem → Prop} (hw : zOK w) (hC : zC E w l RX5 wsX5_turns cX5_turns 4 2 45 (some .int) Post) (a : As) (hv0 : scok a.1) (Ω0 : Mem) (K : ∀ (Ω : Mem) (o3 : Option Value), RM Ω (aSet a (sfS a.1 (sdots a.1))) → frG Ω0 Ω → X E Ω 64 [some (.ref (wa w 49)), some (.int (zI (sfSc a.1 (sdots a.1)))), some (.int (zI (sdots a.1 : Int))), o3] []) : ∀ (n : Nat) (k : Nat) (Ω : Mem) (o3 : Option Value), sdots a.1 < k + n → (k ≤ sdots a.1) → (RM Ω (aSet a (sfS a.1 k))) → (frG Ω0 Ω) → X E Ω 8 [some (.ref (wa w 49)), some (.int (zI (sfSc a.1 k))), some (.int (zI (k : Int))), o3] [] := by
  intro n
  induction n with
  | zero =>
    intro k Ω o3 hfu hk h hF
    exact absurd hfu (by omega)
  | succ n ih =>
    intro k Ω o3 hfu hk h hF
    have hdd : gt Ω 50 0 * gt Ω 50 1 = (sdots a.1 : Int) := by
      rw [show gt Ω 50 0 = sfS a.1 k 0 from st_at h.1.1 (by decide), show gt Ω 50 1 = sfS a.1 k 1 from st_at h.1.1 (by decide), sfS_lt _ _ (by decide), sfS_lt _ _ (by decide)]
      exact (sdots_le hv0).2.2.symm
    have hN36 := (sdots_le hv0).2.1
    have hk44 : sfS a.1 k (44 + k) = a.1 (44 + k) := sfS_at a.1 k
    refine z_iload_n (pc := 8) hC (i := 2) dX5_turns_8 rfl rfl ?_
    refine z_aload_n (pc := 9) hC (i := 0) dX5_turns_9 rfl rfl ?_
    refine z_callV (n := 0) (T := TX5) (N := 15) (ci := 5) (pc := 10) hC (c_X5_dots l w hw _) gX5_turns_X5_dots rfl (by decide +kernel) (by decide) (by decide) rfl (by decide) (fun _ => rfl) rfl rfl (Nat.le_of_ble_eq_true rfl) dX5_turns_10 (zi_k fun r10 Ω10 h10 => ?_)
    obtain ⟨rfl, hM10⟩ := h10
    obtain rfl := hM10.symm
    rw [hdd]
    refine z_icmp_ge (pc := 13) hC 64 (by first | assumption | exact zb_gt _ _ _ | exact zcmp_zb _ _ | exact bI_zb _ | exact ⟨by omega, by omega⟩) (by first | assumption | exact zb_gt _ _ _ | exact zcmp_zb _ _ | exact bI_zb _ | exact ⟨by omega, by omega⟩) dX5_turns_13 rfl (fun h13 => ?_) (fun h13 => ?_)
    · obtain rfl : k = sdots a.1 := by omega
      exact K Ω _ h hF
    · refine z_aload_n (pc := 16) hC (i := 0) dX5_turns_16 rfl rfl ?_
      refine z_getR (C := RX5) (T := TX5) (N := 15) (ci := 5) (pc := 17) hC _ _ 0 in_X5_turns_X5 rfl (by decide) (fun _ => rfl) (by decide) fl_X5_turns_7 (fun _ => rfl) dX5_turns_17 ?_
      refine z_bipush (pc := 20) hC dX5_turns_20 rfl ?_
      refine z_iload_n (pc := 22) hC (i := 2) dX5_turns_22 rfl rfl ?_
      refine z_iadd (pc := 23) hC dX5_turns_23 ?_
      refine z_ialk (pc := 24) hC _ (44 + k) (by decide) (fun _ => rfl) (by omega) (by omega) (by decide) dX5_turns_24 ?_
      rw [show gt Ω 50 (44 + k) = a.1 (44 + k) from (st_at h.1.1 (by omega)).trans hk44]
      have hmb := hv0.2.2.2.2.2.2.2.2.2 k (by omega)
      have hmz : zb (a.1 (44 + k)) := ⟨by omega, by omega⟩
      refine z_istore_n (pc := 25) hC (i := 3) dX5_turns_25 rfl (by decide) rfl (zS_s (zS_s (zS_s zS_0))) ?_
      refine z_aload_n (pc := 26) hC (i := 0) dX5_turns_26 rfl rfl ?_
      refine z_getR (C := RX5) (T := TX5) (N := 15) (ci := 5) (pc := 27) hC _ _ 0 in_X5_turns_X5 rfl (by decide) (fun _ => rfl) (by decide) fl_X5_turns_7 (fun _ => rfl) dX5_turns_27 ?_
      refine z_bipush (pc := 30) hC dX5_turns_30 rfl ?_
      refine z_iload_n (pc := 32) hC (i := 2) dX5_turns_32 rfl rfl ?_
      refine z_iadd (pc := 33) hC dX5_turns_33 ?_
      refine z_iload_n (pc := 34) hC (i := 3) dX5_turns_34 rfl rfl ?_
      refine z_if_ne (pc := 35) hC 42 (by first | assumption | exact zb_gt _ _ _ | exact zcmp_zb _ _ | exact bI_zb _ | exact ⟨by omega, by omega⟩) dX5_turns_35 rfl (fun h35 => ?_) (fun h35 => ?_)
      · refine z_iconst (pc := 42) hC dX5_turns_42 ?_
        refine z_iload_n (pc := 43) hC (i := 3) dX5_turns_43 rfl rfl ?_
        refine z_isub (pc := 44) hC dX5_turns_44 ?_
        refine z_iask (pc := 45) hC _ (44 + k) (by decide) (fun _ => rfl) (by omega) (by omega) (by decide) dX5_turns_45 ?_
        refine z_iload_n (pc := 46) hC (i := 1) dX5_turns_46 rfl rfl ?_
        refine z_iload_n (pc := 47) hC (i := 3) dX5_turns_47 rfl rfl ?_
        refine z_if_ne (pc := 48) hC 55 (by first | assumption | exact zb_gt _ _ _ | exact zcmp_zb _ _ | exact bI_zb _ | exact ⟨by omega, by omega⟩) dX5_turns_48 rfl (fun h48 => ?_) (fun h48 => ?_)
        · refine z_iconst (pc := 55) hC dX5_turns_55 ?_
          refine z_iadd (pc := 56) hC dX5_turns_56 ?_
          refine z_istore_n (pc := 57) hC (i := 1) dX5_turns_57 rfl (by decide) rfl (zS_s zS_0) ?_
          refine z_iinc (pc := 58) hC (i := 2) dX5_turns_58 rfl (by decide) rfl (zS_s (zS_s zS_0)) ?_
          refine z_goto (pc := 61) hC 8 dX5_turns_61 rfl ?_
          have hst := RM.st (a := aSet a (sfS a.1 k)) h (i := 44 + k) (v := 3 - a.1 (44 + k)) (by omega) ⟨by omega, by omega⟩ (scok_mk (scok_sfS hv0 k) (by omega) (by omega) (by omega))
          have hrs := sfS_s a.1 k h35
          rw [show (if a.1 (44 + k) = 1 then (2 : Int) else 1) = 3 - a.1 (44 + k) by split <;> omega] at hrs
          rw [show (aSet a (sfS a.1 k)).1 = sfS a.1 k from rfl, hrs] at hst
          have hc : sfSc a.1 (k + 1) = sfSc a.1 k + 1 := by unfold sfSc; rw [sm_s, if_neg h35]
          have hh := ih (k + 1) _ (some (.int (zI (a.1 (44 + k))))) (by omega) (by omega) hst.1 (hF.trans hst.2)
          rw [hc] at hh
          exact hh
        · refine z_iconst (pc := 51) hC dX5_turns_51 ?_
          refine z_goto (pc := 52) hC 56 dX5_turns_52 rfl ?_
          refine z_iadd (pc := 56) hC dX5_turns_56 ?_
          refine z_istore_n (pc := 57) hC (i := 1) dX5_turns_57 rfl (by decide) rfl (zS_s zS_0) ?_
          refine z_iinc (pc := 58) hC (i := 2) dX5_turns_58 rfl (by decide) rfl (zS_s (zS_s zS_0)) ?_
          refine z_goto (pc := 61) hC 8 dX5_turns_61 rfl ?_
          exfalso; omega
      · refine z_iconst (pc := 38) hC dX5_turns_38 ?_
        refine z_goto (pc := 39) hC 45 dX5_turns_39 rfl ?_
        refine z_iask (pc := 45) hC _ (44 + k) (by decide) (fun _ => rfl) (by omega) (by omega) (by decide) dX5_turns_45 ?_
        refine z_iload_n (pc := 46) hC (i := 1) dX5_turns_46 rfl rfl ?_
        refine z_iload_n (pc := 47) hC (i := 3) dX5_turns_47 rfl rfl ?_
        refine z_if_ne (pc := 48) hC 55 (by first | assumption | exact zb_gt _ _ _ | exact zcmp_zb _ _ | exact bI_zb _ | exact ⟨by omega, by omega⟩) dX5_turns_48 rfl (fun h48 => ?_) (fun h48 => ?_)
        · refine z_iconst (pc := 55) hC dX5_turns_55 ?_
          refine z_iadd (pc := 56) hC dX5_turns_56 ?_
          refine z_istore_n (pc := 57) hC (i := 1) dX5_turns_57 rfl (by decide) rfl (zS_s zS_0) ?_
          refine z_iinc (pc := 58) hC (i := 2) dX5_turns_58 rfl (by decide) rfl (zS_s (zS_s zS_0)) ?_
          refine z_goto (pc := 61) hC 8 dX5_turns_61 rfl ?_
          exfalso; omega
        · refine z_iconst (pc := 51) hC dX5_turns_51 ?_
          refine z_goto (pc := 52) hC 56 dX5_turns_52 rfl ?_
          refine z_iadd (pc := 56) hC dX5_turns_56 ?_
          refine z_istore_n (pc := 57) hC (i := 1) dX5_turns_57 rfl (by decide) rfl (zS_s zS_0) ?_
          refine z_iinc (pc := 58) hC (i := 2) dX5_turns_58 rfl (by decide) rfl (zS_s (zS_s zS_0)) ?_
          refine z_goto (pc := 61) hC 8 dX5_turns_61 rfl ?_
          have hm0 : a.1 (44 + k) = 0 := by omega
          have hst := RM.st (a := aSet a (sfS a.1 k)) h (i := 44 + k) (v := 0) (by omega) ⟨by decide, by decide⟩ (scok_mk (scok_sfS hv0 k) (by omega) (by decide) (by decide))
          rw [show (aSet a (sfS a.1 k)).1 = sfS a.1 k from rfl, sup_eqv (hk44.trans hm0), sfS_n a.1 k hm0] at hst
          have hc : sfSc a.1 (k + 1) = sfSc a.1 k + 0 := by unfold sfSc; rw [sm_s, if_pos hm0]
          have hh := ih (k + 1) _ (some (.int (zI (a.1 (44 + k))))) (by omega) (by omega) hst.1 (hF.trans hst.2)
          rw [hc] at hh
          exact hh
set_option maxHeartbeats 4000000 in
set_option maxRecDepth 100000 in
theorem c_X5_turns (l : Launch) (w : zP) (hw : zOK w) (Ω : Mem) (a : As) (h : RM Ω a) : zM l w yX5_turns wsX5_turns 2 45 [.ref (wa w 49)] Ω (zi (fun r Ω1 => r = (aTurns a).1 ∧ RM Ω1 (aTurns a).2 ∧ frG Ω Ω1)) := by
  refine zM_of cX5_turns 4 (some .int) RX5 [some (.ref (wa w 49)), none, none, none] hw (by decide +kernel) rfl rfl (Nat.le_of_ble_eq_true rfl) rfl (fun E hC => ?_)
  have hv := h.1.2
  have hσ := h.1.1
  have z0 : gt Ω 50 0 = a.1 0 := st_at hσ (by decide)
  have z1 : gt Ω 50 1 = a.1 1 := st_at hσ (by decide)
  have hN := sdots_le hv
  have hw01 := hv.1
  have hh01 := hv.2.1
  refine z_aload_n (pc := 0) hC (i := 0) dX5_turns_0 rfl rfl ?_
  refine z_callV (n := 0) (T := TX5) (N := 15) (ci := 5) (pc := 1) hC (c_X5_leaves l w hw _ a h) gX5_turns_X5_leaves rfl (by decide +kernel) (by decide) (by decide) rfl (by decide) (fun _ => rfl) rfl rfl (Nat.le_of_ble_eq_true rfl) dX5_turns_1 (zv_k fun Ω1 h1 => ?_)
  obtain ⟨hR, hfr⟩ := h1
  have hsR := hR.1.1
  have z0R : gt Ω1 50 0 = a.1 0 := st_at hsR (by decide)
  have z1R : gt Ω1 50 1 = a.1 1 := st_at hsR (by decide)
  refine z_iconst (pc := 4) hC dX5_turns_4 ?_
  refine z_istore_n (pc := 5) hC (i := 1) dX5_turns_5 rfl (by decide) rfl (zS_s zS_0) ?_
  refine z_iconst (pc := 6) hC dX5_turns_6 ?_
  refine z_istore_n (pc := 7) hC (i := 2) dX5_turns_7 rfl (by decide) rfl (zS_s (zS_s zS_0)) ?_
  refine L_X5_turns_8 hw hC (aRem a) hv Ω (fun Ω1 o3 hR1 hf1 => ?_) (sdots a.1 + 1) 0 _ none (by show sdots a.1 < _; omega) (by omega) (by rw [sfS_0]; exact hR) hfr
  have e5 : gt Ω1 50 5 = a.1 5 := (show gt Ω1 50 5 = sfS a.1 (sdots a.1) 5 from st_at hR1.1.1 (by decide)).trans (sfS_lt _ _ (by decide))
  have e6 : gt Ω1 50 6 = a.1 6 := (show gt Ω1 50 6 = sfS a.1 (sdots a.1) 6 from st_at hR1.1.1 (by decide)).trans (sfS_lt _ _ (by decide))
  have b5 := hv.2.2.2.2.2.1
  have b6 := hv.2.2.2.2.2.2.1
  have s1 := hR1.st (i := 2 + 3) (v := a.1 6) (by decide) ⟨by omega, by omega⟩ (scok_tone (scok_sfS hv (sdots a.1)) (Or.inl rfl) b6.1 b6.2)
  have s2 := s1.1.st (i := 2 + 4) (v := a.1 5) (by decide) ⟨by omega, by omega⟩ (scok_turn hv (sdots a.1))
  refine z_aload_n (pc := 64) hC (i := 0) dX5_turns_64 rfl rfl ?_
  refine z_getR (C := RX5) (T := TX5) (N := 15) (ci := 5) (pc := 65) hC _ _ 0 in_X5_turns_X5 rfl (by decide) (fun _ => rfl) (by decide) fl_X5_turns_7 (fun _ => rfl) dX5_turns_65 ?_
  refine z_iconst (pc := 68) hC dX5_turns_68 ?_
  refine z_ialk (pc := 69) hC _ 5 (by decide) (fun _ => rfl) rfl (by decide) (by decide) dX5_turns_69 ?_
  rw [e5]
  refine z_istore_n (pc := 70) hC (i := 2) dX5_turns_70 rfl (by decide) rfl (zS_s (zS_s zS_0)) ?_
  refine z_aload_n (pc := 71) hC (i := 0) dX5_turns_71 rfl rfl ?_
  refine z_getR (C := RX5) (T := TX5) (N := 15) (ci := 5) (pc := 72) hC _ _ 0 in_X5_turns_X5 rfl (by decide) (fun _ => rfl) (by decide) fl_X5_turns_7 (fun _ => rfl) dX5_turns_72 ?_
  refine z_iconst (pc := 75) hC dX5_turns_75 ?_
  refine z_aload_n (pc := 76) hC (i := 0) dX5_turns_76 rfl rfl ?_
  refine z_getR (C := RX5) (T := TX5) (N := 15) (ci := 5) (pc := 77) hC _ _ 0 in_X5_turns_X5 rfl (by decide) (fun _ => rfl) (by decide) fl_X5_turns_7 (fun _ => rfl) dX5_turns_77 ?_
  refine z_bipush (pc := 80) hC dX5_turns_80 rfl ?_
  refine z_ialk (pc := 82) hC _ 6 (by decide) (fun _ => rfl) rfl (by decide) (by decide) dX5_turns_82 ?_
  rw [e6]
  refine z_iask (pc := 83) hC _ 5 (by decide) (fun _ => rfl) rfl (by decide) (by decide) dX5_turns_83 ?_
  refine z_aload_n (pc := 84) hC (i := 0) dX5_turns_84 rfl rfl ?_
  refine z_getR (C := RX5) (T := TX5) (N := 15) (ci := 5) (pc := 85) hC _ _ 0 in_X5_turns_X5 rfl (by decide) (fun _ => rfl) (by decide) fl_X5_turns_7 (fun _ => rfl) dX5_turns_85 ?_
  refine z_bipush (pc := 88) hC dX5_turns_88 rfl ?_
  refine z_iload_n (pc := 90) hC (i := 2) dX5_turns_90 rfl rfl ?_
  refine z_iask (pc := 91) hC _ 6 (by decide) (fun _ => rfl) rfl (by decide) (by decide) dX5_turns_91 ?_
  refine z_iload_n (pc := 92) hC (i := 1) dX5_turns_92 rfl rfl ?_
  exact z_iret (pc := 93) hC rfl ⟨_, rfl, by
    exact ok_retM rfl s2.1 (hf1.trans (s1.2.trans s2.2))⟩ dX5_turns_93
theorem fl_X5_blot_7 : Cond.fieldLink RX5 7 "StrokeCutsModel" "st" "[I" ∈ wsX5_blot := by decide +kernel
theorem in_X5_blot_X5 : ∀ x ∈ u_ws RX5 TX5 15, x ∈ wsX5_blot := by decide +kernel
set_option maxHeartbeats 4000000 in
set_option maxRecDepth 100000 in
theorem L_X5_blot_45 {E : zE} {w : zP} {l : Launch} {Post : Option Value → Mem → Prop} (hw : zOK w) (hC : zC E w l RX5 wsX5_blot cX5_blot 7 2 45 (some .int) Post) (a : As) (hv0 : scok a.1) (Ω0 : Mem) (x y rd v : Int) (hxy : dIn a.1 x y) (hr10 : 0 ≤ rd ∧ rd ≤ 10) (hv9 : 0 ≤ v ∧ v ≤ 9) (K : ∀ (Ω : Mem), RM Ω (aSet a (sfH a.1 (nearB a.1 x y rd) v (sdots a.1))) → frG Ω0 Ω → X E Ω 106 [some (.ref (wa w 49)), some (.int (zI x)), some (.int (zI y)), some (.int (zI rd)), some (.int (zI v)), some (.int (zI (nearC a.1 x y rd (sdots a.1)))), some (.int (zI (sdots a.1 : Int)))] []) : ∀ (n : Nat) (k : Nat) (Ω : Mem), sdots a.1 < k + n → (k ≤ sdots a.1) → (RM Ω (aSet a (sfH a.1 (nearB a.1 x y rd) v k))) → (frG Ω0 Ω) → X E Ω 45 [some (.ref (wa w 49)), some (.int (zI x)), some (.int (zI y)), some (.int (zI rd)), some (.int (zI v)), some (.int (zI (nearC a.1 x y rd k))), some (.int (zI (k : Int)))] [] := by
  intro n
  induction n with
  | zero =>
    intro k Ω hfu hk h hF
    exact absurd hfu (by omega)
  | succ n ih =>
    intro k Ω hfu hk h hF
    have hxy1 : 0 ≤ x ∧ x < a.1 0 ∧ 0 ≤ y ∧ y < a.1 1 := hxy
    have hw01 := hv0.1
    have hh01 := hv0.2.1
    have e0 : gt Ω 50 0 = a.1 0 := (show gt Ω 50 0 = sfH a.1 (nearB a.1 x y rd) v k 0 from st_at h.1.1 (by decide)).trans (sfH_lt _ _ _ _ (by decide))
    have e1 : gt Ω 50 1 = a.1 1 := (show gt Ω 50 1 = sfH a.1 (nearB a.1 x y rd) v k 1 from st_at h.1.1 (by decide)).trans (sfH_lt _ _ _ _ (by decide))
    have hdd : gt Ω 50 0 * gt Ω 50 1 = (sdots a.1 : Int) := by rw [e0, e1]; exact (sdots_le hv0).2.2.symm
    have hN36 := (sdots_le hv0).2.1
    have hW := sw_eq hv0
    have hH := sh_eq hv0
    have hq1 : (0 : Int) ≤ ((k % sw a.1 : Nat) : Int) := Int.natCast_nonneg _
    have hq2 : (0 : Int) ≤ ((k / sw a.1 : Nat) : Int) := Int.natCast_nonneg _
    have hq3 : k % sw a.1 ≤ k := Nat.mod_le _ _
    have hq4 : k / sw a.1 ≤ k := Nat.div_le_self _ _
    refine z_iload (pc := 45) hC (i := 6) dX5_blot_45 rfl ?_
    refine z_aload_n (pc := 47) hC (i := 0) dX5_blot_47 rfl rfl ?_
    refine z_callV (n := 0) (T := TX5) (N := 15) (ci := 5) (pc := 48) hC (c_X5_dots l w hw _) gX5_blot_X5_dots rfl (by decide +kernel) (by decide) (by decide) rfl (by decide) (fun _ => rfl) rfl rfl (Nat.le_of_ble_eq_true rfl) dX5_blot_48 (zi_k fun r48 Ω48 h48 => ?_)
    obtain ⟨rfl, hM48⟩ := h48
    obtain rfl := hM48.symm
    rw [hdd]
    refine z_icmp_ge (pc := 51) hC 106 (by first | assumption | exact zb_gt _ _ _ | exact zcmp_zb _ _ | exact bI_zb _ | exact ⟨by omega, by omega⟩) (by first | assumption | exact zb_gt _ _ _ | exact zcmp_zb _ _ | exact bI_zb _ | exact ⟨by omega, by omega⟩) dX5_blot_51 rfl (fun h51 => ?_) (fun h51 => ?_)
    · obtain rfl : k = sdots a.1 := by omega
      exact K Ω h hF
    · refine z_iload (pc := 54) hC (i := 6) dX5_blot_54 rfl ?_
      refine z_aload_n (pc := 56) hC (i := 0) dX5_blot_56 rfl rfl ?_
      refine z_getR (C := RX5) (T := TX5) (N := 15) (ci := 5) (pc := 57) hC _ _ 0 in_X5_blot_X5 rfl (by decide) (fun _ => rfl) (by decide) fl_X5_blot_7 (fun _ => rfl) dX5_blot_57 ?_
      refine z_iconst (pc := 60) hC dX5_blot_60 ?_
      refine z_ialk (pc := 61) hC _ 0 (by decide) (fun _ => rfl) rfl (by decide) (by decide) dX5_blot_61 ?_
      refine z_irem (pc := 62) hC ⟨by omega, by omega⟩ (zb_gt _ _ _) (by omega) dX5_blot_62 ?_
      rw [e0, Int.tmod_eq_emod_of_nonneg (by omega), ← hW.1, ← Int.natCast_emod]
      refine z_iload_n (pc := 63) hC (i := 1) dX5_blot_63 rfl rfl ?_
      refine z_callS (n := 2) (pc := 64) hC (c_X5_far l w hw _ _ _ (by first | assumption | exact zb_gt _ _ _ | exact zcmp_zb _ _ | exact bI_zb _ | exact ⟨by omega, by omega⟩) (by first | assumption | exact zb_gt _ _ _ | exact zcmp_zb _ _ | exact bI_zb _ | exact ⟨by omega, by omega⟩)) gX5_blot_X5_far rfl (by decide +kernel) (by decide) (by decide) rfl rfl (Nat.le_of_ble_eq_true rfl) dX5_blot_64 (zi_k fun r64 Ω64 h64 => ?_)
      obtain ⟨rfl, hM64⟩ := h64
      obtain rfl := hM64.symm
      refine z_iload (pc := 67) hC (i := 6) dX5_blot_67 rfl ?_
      refine z_aload_n (pc := 69) hC (i := 0) dX5_blot_69 rfl rfl ?_
      refine z_getR (C := RX5) (T := TX5) (N := 15) (ci := 5) (pc := 70) hC _ _ 0 in_X5_blot_X5 rfl (by decide) (fun _ => rfl) (by decide) fl_X5_blot_7 (fun _ => rfl) dX5_blot_70 ?_
      refine z_iconst (pc := 73) hC dX5_blot_73 ?_
      refine z_ialk (pc := 74) hC _ 0 (by decide) (fun _ => rfl) rfl (by decide) (by decide) dX5_blot_74 ?_
      refine z_idiv (pc := 75) hC ⟨by omega, by omega⟩ (zb_gt _ _ _) (by omega) dX5_blot_75 ?_
      rw [e0, Int.tdiv_eq_ediv_of_nonneg (by omega), ← hW.1, ← Int.natCast_ediv]
      refine z_iload_n (pc := 76) hC (i := 2) dX5_blot_76 rfl rfl ?_
      refine z_callS (n := 2) (pc := 77) hC (c_X5_far l w hw _ _ _ (by first | assumption | exact zb_gt _ _ _ | exact zcmp_zb _ _ | exact bI_zb _ | exact ⟨by omega, by omega⟩) (by first | assumption | exact zb_gt _ _ _ | exact zcmp_zb _ _ | exact bI_zb _ | exact ⟨by omega, by omega⟩)) gX5_blot_X5_far rfl (by decide +kernel) (by decide) (by decide) rfl rfl (Nat.le_of_ble_eq_true rfl) dX5_blot_77 (zi_k fun r77 Ω77 h77 => ?_)
      obtain ⟨rfl, hM77⟩ := h77
      obtain rfl := hM77.symm
      refine z_iadd (pc := 80) hC dX5_blot_80 ?_
      have hz1 := zabs_le (a := ((k % sw a.1 : Nat) : Int) - x) (b := 100) (by omega) (by omega)
      have hz2 := zabs_le (a := ((k / sw a.1 : Nat) : Int) - y) (b := 100) (by omega) (by omega)
      refine z_iload_n (pc := 81) hC (i := 3) dX5_blot_81 rfl rfl ?_
      refine z_icmp_gt (pc := 82) hC 100 (by first | assumption | exact zb_gt _ _ _ | exact zcmp_zb _ _ | exact bI_zb _ | exact ⟨by omega, by omega⟩) (by first | assumption | exact zb_gt _ _ _ | exact zcmp_zb _ _ | exact bI_zb _ | exact ⟨by omega, by omega⟩) dX5_blot_82 rfl (fun h82 => ?_) (fun h82 => ?_)
      · refine z_iinc (pc := 100) hC (i := 6) dX5_blot_100 rfl (by decide) rfl (zS_s (zS_s (zS_s (zS_s (zS_s (zS_s zS_0)))))) ?_
        refine z_goto (pc := 103) hC 45 dX5_blot_103 rfl ?_
        have hp : ¬ nearB a.1 x y rd k = true := by unfold nearB; rw [decide_eq_true_iff]; omega
        have hc : nearC a.1 x y rd (k + 1) = nearC a.1 x y rd k := by unfold nearC; rw [sm_s, if_neg hp]; omega
        have hh := ih (k + 1) Ω (by omega) (by omega) (by rw [← sfH_n _ _ _ _ hp]; exact h) hF
        rw [hc] at hh
        exact hh
      · refine z_aload_n (pc := 85) hC (i := 0) dX5_blot_85 rfl rfl ?_
        refine z_getR (C := RX5) (T := TX5) (N := 15) (ci := 5) (pc := 86) hC _ _ 0 in_X5_blot_X5 rfl (by decide) (fun _ => rfl) (by decide) fl_X5_blot_7 (fun _ => rfl) dX5_blot_86 ?_
        refine z_bipush (pc := 89) hC dX5_blot_89 rfl ?_
        refine z_iload (pc := 91) hC (i := 6) dX5_blot_91 rfl ?_
        refine z_iadd (pc := 93) hC dX5_blot_93 ?_
        refine z_iload (pc := 94) hC (i := 4) dX5_blot_94 rfl ?_
        refine z_iask (pc := 96) hC _ (8 + k) (by decide) (fun _ => rfl) (by omega) (by omega) (by decide) dX5_blot_96 ?_
        refine z_iinc (pc := 97) hC (i := 5) dX5_blot_97 rfl (by decide) rfl (zS_s (zS_s (zS_s (zS_s (zS_s zS_0))))) ?_
        refine z_iinc (pc := 100) hC (i := 6) dX5_blot_100 rfl (by decide) rfl (zS_s (zS_s (zS_s (zS_s (zS_s (zS_s zS_0)))))) ?_
        refine z_goto (pc := 103) hC 45 dX5_blot_103 rfl ?_
        have hp : nearB a.1 x y rd k = true := by unfold nearB; rw [decide_eq_true_iff]; omega
        have hc : nearC a.1 x y rd (k + 1) = nearC a.1 x y rd k + 1 := by unfold nearC; rw [sm_s, if_pos hp]
        have hst := RM.st (a := aSet a (sfH a.1 (nearB a.1 x y rd) v k)) h (i := 8 + k) (v := v) (by omega) ⟨by omega, by omega⟩ (scok_sh (scok_sfH hv0 _ _ hv9.1 hv9.2 (by omega)) (by omega) hv9.1 hv9.2)
        rw [show (aSet a (sfH a.1 (nearB a.1 x y rd) v k)).1 = (sfH a.1 (nearB a.1 x y rd) v k) from rfl, sfH_s _ _ _ _ hp] at hst
        have hh := ih (k + 1) _ (by omega) (by omega) hst.1 (hF.trans hst.2)
        rw [hc] at hh
        exact hh
set_option maxHeartbeats 4000000 in
set_option maxRecDepth 100000 in
theorem c_X5_blot (l : Launch) (w : zP) (hw : zOK w) (Ω : Mem) (a : As) (h : RM Ω a) (x y rd v : Int) (hx : zb x) (hy : zb y) (hrr : zb rd) (hz : zb v) : zM l w yX5_blot wsX5_blot 2 45 [.ref (wa w 49), .int (zI x), .int (zI y), .int (zI rd), .int (zI v)] Ω (zi (fun r Ω1 => r = (aBlot a x y rd v).1 ∧ RM Ω1 (aBlot a x y rd v).2 ∧ frG Ω Ω1)) := by
  refine zM_of cX5_blot 7 (some .int) RX5 [some (.ref (wa w 49)), some (.int (zI x)), some (.int (zI y)), some (.int (zI rd)), some (.int (zI v)), none, none] hw (by decide +kernel) rfl rfl (Nat.le_of_ble_eq_true rfl) rfl (fun E hC => ?_)
  have hv := h.1.2
  have hσ := h.1.1
  have z0 : gt Ω 50 0 = a.1 0 := st_at hσ (by decide)
  have z1 : gt Ω 50 1 = a.1 1 := st_at hσ (by decide)
  have hN := sdots_le hv
  have hw01 := hv.1
  have hh01 := hv.2.1
  refine z_aload_n (pc := 0) hC (i := 0) dX5_blot_0 rfl rfl ?_
  refine z_iload_n (pc := 1) hC (i := 1) dX5_blot_1 rfl rfl ?_
  refine z_iload_n (pc := 2) hC (i := 2) dX5_blot_2 rfl rfl ?_
  refine z_callV (n := 2) (T := TX5) (N := 15) (ci := 5) (pc := 3) hC (c_X5_isDot l w hw _ _ _ (by first | assumption | exact ⟨by omega, by omega⟩) (by first | assumption | exact ⟨by omega, by omega⟩) (by omega) (by omega)) gX5_blot_X5_isDot rfl (by decide +kernel) (by decide) (by decide) rfl (by decide) (fun _ => rfl) rfl rfl (Nat.le_of_ble_eq_true rfl) dX5_blot_3 (zb_k fun r3 Ω3 h3 => ?_)
  obtain ⟨rfl, hM3⟩ := h3
  obtain rfl := hM3.symm
  refine z_ifd_eq (pc := 6) hC 30 dX5_blot_6 rfl (fun h6 => ?_) (fun h6 => ?_)
  · refine z_aload_n (pc := 30) hC (i := 0) dX5_blot_30 rfl rfl ?_
    refine z_callV (n := 0) (T := TX5) (N := 15) (ci := 5) (pc := 31) hC (c_X5_bad l w hw _) gX5_blot_X5_bad rfl (by decide +kernel) (by decide) (by decide) rfl (by decide) (fun _ => rfl) rfl rfl (Nat.le_of_ble_eq_true rfl) dX5_blot_31 (zi_k fun r31 Ω31 h31 => ?_)
    obtain ⟨rfl, rfl⟩ := h31
    exact z_iret (pc := 34) hC rfl ⟨_, rfl, bad_retM h (if_neg (by unfold dIn; omega))⟩ dX5_blot_34
  · refine z_iload_n (pc := 9) hC (i := 3) dX5_blot_9 rfl rfl ?_
    refine z_iconst (pc := 10) hC dX5_blot_10 ?_
    refine z_bipush (pc := 11) hC dX5_blot_11 rfl ?_
    refine z_callS (n := 3) (pc := 13) hC (c_X5_in l w hw _ _ _ _ (by first | assumption | exact zb_gt _ _ _ | exact zcmp_zb _ _ | exact bI_zb _ | exact ⟨by omega, by omega⟩) (by first | assumption | exact zb_gt _ _ _ | exact zcmp_zb _ _ | exact bI_zb _ | exact ⟨by omega, by omega⟩) (by first | assumption | exact zb_gt _ _ _ | exact zcmp_zb _ _ | exact bI_zb _ | exact ⟨by omega, by omega⟩)) gX5_blot_X5_in rfl (by decide +kernel) (by decide) (by decide) rfl rfl (Nat.le_of_ble_eq_true rfl) dX5_blot_13 (zb_k fun r13 Ω13 h13 => ?_)
    obtain ⟨rfl, hM13⟩ := h13
    obtain rfl := hM13.symm
    refine z_ifd_eq (pc := 16) hC 30 dX5_blot_16 rfl (fun h16 => ?_) (fun h16 => ?_)
    · refine z_aload_n (pc := 30) hC (i := 0) dX5_blot_30 rfl rfl ?_
      refine z_callV (n := 0) (T := TX5) (N := 15) (ci := 5) (pc := 31) hC (c_X5_bad l w hw _) gX5_blot_X5_bad rfl (by decide +kernel) (by decide) (by decide) rfl (by decide) (fun _ => rfl) rfl rfl (Nat.le_of_ble_eq_true rfl) dX5_blot_31 (zi_k fun r31 Ω31 h31 => ?_)
      obtain ⟨rfl, rfl⟩ := h31
      exact z_iret (pc := 34) hC rfl ⟨_, rfl, bad_retM h (if_neg (by unfold dIn; omega))⟩ dX5_blot_34
    · refine z_iload (pc := 19) hC (i := 4) dX5_blot_19 rfl ?_
      refine z_iconst (pc := 21) hC dX5_blot_21 ?_
      refine z_bipush (pc := 22) hC dX5_blot_22 rfl ?_
      refine z_callS (n := 3) (pc := 24) hC (c_X5_in l w hw _ _ _ _ (by first | assumption | exact zb_gt _ _ _ | exact zcmp_zb _ _ | exact bI_zb _ | exact ⟨by omega, by omega⟩) (by first | assumption | exact zb_gt _ _ _ | exact zcmp_zb _ _ | exact bI_zb _ | exact ⟨by omega, by omega⟩) (by first | assumption | exact zb_gt _ _ _ | exact zcmp_zb _ _ | exact bI_zb _ | exact ⟨by omega, by omega⟩)) gX5_blot_X5_in rfl (by decide +kernel) (by decide) (by decide) rfl rfl (Nat.le_of_ble_eq_true rfl) dX5_blot_24 (zb_k fun r24 Ω24 h24 => ?_)
      obtain ⟨rfl, hM24⟩ := h24
      obtain rfl := hM24.symm
      refine z_ifd_ne (pc := 27) hC 35 dX5_blot_27 rfl (fun h27 => ?_) (fun h27 => ?_)
      · refine z_aload_n (pc := 35) hC (i := 0) dX5_blot_35 rfl rfl ?_
        refine z_callV (n := 0) (T := TX5) (N := 15) (ci := 5) (pc := 36) hC (c_X5_leaves l w hw _ a h) gX5_blot_X5_leaves rfl (by decide +kernel) (by decide) (by decide) rfl (by decide) (fun _ => rfl) rfl rfl (Nat.le_of_ble_eq_true rfl) dX5_blot_36 (zv_k fun Ω36 h36 => ?_)
        obtain ⟨hR, hfr⟩ := h36
        have hsR := hR.1.1
        have z0R : gt Ω36 50 0 = a.1 0 := st_at hsR (by decide)
        have z1R : gt Ω36 50 1 = a.1 1 := st_at hsR (by decide)
        refine z_iconst (pc := 39) hC dX5_blot_39 ?_
        refine z_istore (pc := 40) hC (i := 5) dX5_blot_40 (by decide) rfl (zS_s (zS_s (zS_s (zS_s (zS_s zS_0))))) ?_
        refine z_iconst (pc := 42) hC dX5_blot_42 ?_
        refine z_istore (pc := 43) hC (i := 6) dX5_blot_43 (by decide) rfl (zS_s (zS_s (zS_s (zS_s (zS_s (zS_s zS_0)))))) ?_
        refine L_X5_blot_45 hw hC (aRem a) hv Ω x y rd v (by unfold dIn; show 0 ≤ x ∧ x < a.1 0 ∧ 0 ≤ y ∧ y < a.1 1; omega) (by omega) (by omega) (fun Ω1 hR1 hf1 => ?_) (sdots a.1 + 1) 0 _ (by show sdots a.1 < _; omega) (by omega) (by rw [sfH_0]; exact hR) hfr
        refine z_iload (pc := 106) hC (i := 5) dX5_blot_106 rfl ?_
        exact z_iret (pc := 108) hC rfl ⟨_, rfl, ok_retM (if_pos ⟨by unfold dIn; omega, by omega, by omega⟩) hR1 hf1⟩ dX5_blot_108
      · refine z_aload_n (pc := 30) hC (i := 0) dX5_blot_30 rfl rfl ?_
        refine z_callV (n := 0) (T := TX5) (N := 15) (ci := 5) (pc := 31) hC (c_X5_bad l w hw _) gX5_blot_X5_bad rfl (by decide +kernel) (by decide) (by decide) rfl (by decide) (fun _ => rfl) rfl rfl (Nat.le_of_ble_eq_true rfl) dX5_blot_31 (zi_k fun r31 Ω31 h31 => ?_)
        obtain ⟨rfl, rfl⟩ := h31
        exact z_iret (pc := 34) hC rfl ⟨_, rfl, bad_retM h (if_neg (by unfold dIn; omega))⟩ dX5_blot_34
