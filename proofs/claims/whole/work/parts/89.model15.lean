theorem cW_cong {σ : Sg} {ω ω1 : Nat → Nat → Int} (h : ∀ v d, v < sdots σ → d < 4 → ω1 v d = ω v d) (S : Nat → Bool) : cW σ ω1 S = cW σ ω S := by
  unfold cW
  apply sm_cong
  intro v hv
  unfold cWV
  congr 1
  apply sm_cong
  intro d hd
  unfold lW
  rw [h v d hv hd]
theorem mnW_cong {σ : Sg} {ω ω1 : Nat → Nat → Int} (h : ∀ v d, v < sdots σ → d < 4 → ω1 v d = ω v d) {m : Int} (hm : mnW σ ω1 m) : mnW σ ω m := by
  obtain ⟨⟨S, s1, s2⟩, s3⟩ := hm
  exact ⟨⟨S, s1, by rw [← cW_cong h]; exact s2⟩, fun T hT => by rw [← cW_cong h]; exact s3 T hT⟩
theorem fl_X5_strain_22 : Cond.fieldLink RX5 22 "StrokeCutsModel" "strained" "I" ∈ wsX5_strain := by decide +kernel
theorem in_X5_strain_X5 : ∀ x ∈ u_ws RX5 TX5 15, x ∈ wsX5_strain := by decide +kernel
theorem fl_X5_strain_60 : Cond.fieldLink RX5 60 "StrokeCutsModel" "strainedTo" "I" ∈ wsX5_strain := by decide +kernel
set_option maxHeartbeats 4000000 in
set_option maxRecDepth 100000 in
theorem c_X5_strain (l : Launch) (w : zP) (hw : zOK w) (Ω : Mem) (a : As) (h : RM Ω a) (x y d v : Int) (hx : zb x) (hy : zb y) (hd : zb d) (hz : zb v) : zM l w yX5_strain wsX5_strain 9 213 [.ref (wa w 49), .int (zI x), .int (zI y), .int (zI d), .int (zI v)] Ω (zi (fun r Ω1 => r = (aStrain a x y d v).1 ∧ RM Ω1 (aStrain a x y d v).2 ∧ frG Ω Ω1)) := by
  refine zM_of cX5_strain 7 (some .int) RX5 [some (.ref (wa w 49)), some (.int (zI x)), some (.int (zI y)), some (.int (zI d)), some (.int (zI v)), none, none] hw (by decide +kernel) rfl rfl (Nat.le_of_ble_eq_true rfl) rfl (fun E hC => ?_)
  have hv := h.1.2
  have hσ := h.1.1
  have z0 : gt Ω 50 0 = a.1 0 := st_at hσ (by decide)
  have z1 : gt Ω 50 1 = a.1 1 := st_at hσ (by decide)
  have hN := sdots_le hv
  have hw01 := hv.1
  have hh01 := hv.2.1
  refine z_aload_n (pc := 0) hC (i := 0) dX5_strain_0 rfl rfl ?_
  refine z_iload_n (pc := 1) hC (i := 1) dX5_strain_1 rfl rfl ?_
  refine z_iload_n (pc := 2) hC (i := 2) dX5_strain_2 rfl rfl ?_
  refine z_iload_n (pc := 3) hC (i := 3) dX5_strain_3 rfl rfl ?_
  refine z_callV (n := 3) (T := TX5) (N := 15) (ci := 5) (pc := 4) hC (c_X5_isLinked l w hw _ _ _ _ (by assumption) (by assumption) (by assumption) (by omega) (by omega)) gX5_strain_X5_isLinked rfl (by decide +kernel) (by decide) (by decide) rfl (by decide) (fun _ => rfl) rfl rfl (Nat.le_of_ble_eq_true rfl) dX5_strain_4 (zb_k fun r4 Ω4 h4 => ?_)
  obtain ⟨rfl, hM4⟩ := h4
  obtain rfl := hM4.symm
  refine z_ifd_eq (pc := 7) hC 21 dX5_strain_7 rfl (fun h7 => ?_) (fun h7 => ?_)
  · refine z_aload_n (pc := 21) hC (i := 0) dX5_strain_21 rfl rfl ?_
    refine z_callV (n := 0) (T := TX5) (N := 15) (ci := 5) (pc := 22) hC (c_X5_bad l w hw _) gX5_strain_X5_bad rfl (by decide +kernel) (by decide) (by decide) rfl (by decide) (fun _ => rfl) rfl rfl (Nat.le_of_ble_eq_true rfl) dX5_strain_22 (zi_k fun r22 Ω22 h22 => ?_)
    obtain ⟨rfl, rfl⟩ := h22
    exact z_iret (pc := 25) hC rfl ⟨_, rfl, bad_retM h (if_neg (by unfold dIn; omega))⟩ dX5_strain_25
  · refine z_iload (pc := 10) hC (i := 4) dX5_strain_10 rfl ?_
    refine z_iconst (pc := 12) hC dX5_strain_12 ?_
    refine z_bipush (pc := 13) hC dX5_strain_13 rfl ?_
    refine z_callS (n := 3) (pc := 15) hC (c_X5_in l w hw _ _ _ _ (by first | assumption | exact zb_gt _ _ _ | exact zcmp_zb _ _ | exact bI_zb _ | exact ⟨by omega, by omega⟩) (by first | assumption | exact zb_gt _ _ _ | exact zcmp_zb _ _ | exact bI_zb _ | exact ⟨by omega, by omega⟩) (by first | assumption | exact zb_gt _ _ _ | exact zcmp_zb _ _ | exact bI_zb _ | exact ⟨by omega, by omega⟩)) gX5_strain_X5_in rfl (by decide +kernel) (by decide) (by decide) rfl rfl (Nat.le_of_ble_eq_true rfl) dX5_strain_15 (zb_k fun r15 Ω15 h15 => ?_)
    obtain ⟨rfl, hM15⟩ := h15
    obtain rfl := hM15.symm
    refine z_ifd_ne (pc := 18) hC 26 dX5_strain_18 rfl (fun h18 => ?_) (fun h18 => ?_)
    · refine z_aload_n (pc := 26) hC (i := 0) dX5_strain_26 rfl rfl ?_
      refine z_iload_n (pc := 27) hC (i := 1) dX5_strain_27 rfl rfl ?_
      refine z_iload_n (pc := 28) hC (i := 2) dX5_strain_28 rfl rfl ?_
      refine z_callV (n := 2) (T := TX5) (N := 15) (ci := 5) (pc := 29) hC (c_X5_numberOf l w hw _ _ _) gX5_strain_X5_numberOf rfl (by decide +kernel) (by decide) (by decide) rfl (by decide) (fun _ => rfl) rfl rfl (Nat.le_of_ble_eq_true rfl) dX5_strain_29 (zi_k fun r29 Ω29 h29 => ?_)
      obtain ⟨hr29, hm29⟩ := h29
      have hm29 := hm29.symm
      subst hm29
      obtain ⟨hn1, hn2⟩ := nO_lt hv (x := x) (y := y) (by unfold dIn; omega)
      rw [z0, hn1] at hr29
      subst hr29
      refine z_istore (pc := 32) hC (i := 5) dX5_strain_32 (by decide) rfl (zS_s (zS_s (zS_s (zS_s (zS_s zS_0))))) ?_
      refine z_aload_n (pc := 34) hC (i := 0) dX5_strain_34 rfl rfl ?_
      refine z_iload (pc := 35) hC (i := 5) dX5_strain_35 rfl ?_
      refine z_iload_n (pc := 37) hC (i := 3) dX5_strain_37 rfl rfl ?_
      have hde : d = ((d.toNat : Nat) : Int) := by omega
      rw [hde]
      refine z_callV (n := 2) (T := TX5) (N := 15) (ci := 5) (pc := 38) hC (c_X5_over l w hw _ a.1 hσ hv (nO a.1 x y) d.toNat hn2 (by omega)) gX5_strain_X5_over rfl (by decide +kernel) (by decide) (by decide) rfl (by decide) (fun _ => rfl) rfl rfl (Nat.le_of_ble_eq_true rfl) dX5_strain_38 (zi_k fun r38 Ω38 h38 => ?_)
      obtain ⟨hr38, hm38⟩ := h38
      have hm38 := hm38.symm
      subst hm38
      subst hr38
      have hlb := sLk_b hv ((nO a.1 x y % sw a.1 : Nat) : Int) ((nO a.1 x y / sw a.1 : Nat) : Int) d.toNat
      have hlb2 : -1 ≤ lk a.1 (nO a.1 x y) d.toNat ∧ lk a.1 (nO a.1 x y) d.toNat ≤ 36 := by unfold lk; omega
      rw [← hde]
      refine z_iconst (pc := 41) hC dX5_strain_41 ?_
      refine z_icmp_ne (pc := 42) hC 47 (by first | assumption | exact zb_gt _ _ _ | exact zcmp_zb _ _ | exact bI_zb _ | exact ⟨by omega, by omega⟩) (by first | assumption | exact zb_gt _ _ _ | exact zcmp_zb _ _ | exact bI_zb _ | exact ⟨by omega, by omega⟩) dX5_strain_42 rfl (fun h42 => ?_) (fun h42 => ?_)
      · refine z_aload_n (pc := 47) hC (i := 0) dX5_strain_47 rfl rfl ?_
        refine z_iconst (pc := 48) hC dX5_strain_48 ?_
        refine z_iload (pc := 49) hC (i := 5) dX5_strain_49 rfl ?_
        refine z_imul (pc := 51) hC dX5_strain_51 ?_
        refine z_iload_n (pc := 52) hC (i := 3) dX5_strain_52 rfl rfl ?_
        refine z_iadd (pc := 53) hC dX5_strain_53 ?_
        refine z_putI (C := RX5) (T := TX5) (N := 15) (ci := 5) (pc := 54) hC _ 6 in_X5_strain_X5 rfl (by decide) (fun _ => rfl) (by decide) fl_X5_strain_22 tyX5_ok nmX5 rfl (by decide +kernel) (fun _ => Nat.le_of_ble_eq_true rfl) (fun _ _ => rfl) dX5_strain_54 ?_
        refine z_aload_n (pc := 57) hC (i := 0) dX5_strain_57 rfl rfl ?_
        refine z_iload (pc := 58) hC (i := 4) dX5_strain_58 rfl ?_
        refine z_putI (C := RX5) (T := TX5) (N := 15) (ci := 5) (pc := 60) hC _ 7 in_X5_strain_X5 rfl (by decide) (fun _ => rfl) (by decide) fl_X5_strain_60 tyX5_ok nmX5 rfl (by decide +kernel) (fun _ => Nat.le_of_ble_eq_true rfl) (fun _ _ => rfl) dX5_strain_60 ?_
        have y6 : gt (ups (ups Ω 49 6 (4 * (nO a.1 x y : Int) + d)) 49 7 v) 49 6 = 4 * (nO a.1 x y : Int) + d := by rw [gt_sn _ _ _ (by decide), gt_s _ _ _ ⟨by omega, by omega⟩]
        have y7 : gt (ups (ups Ω 49 6 (4 * (nO a.1 x y : Int) + d)) 49 7 v) 49 7 = v := gt_s _ _ _ (by assumption)
        have eω : ∀ u e, u < sdots a.1 → e < 4 → omM a.1 (ups (ups Ω 49 6 (4 * (nO a.1 x y : Int) + d)) 49 7 v) u e = oms a.1 (nO a.1 x y) d.toNat v u e := fun u e hu he => by
          unfold omM oms
          rw [y6, y7]
          by_cases q : u = nO a.1 x y ∧ e = d.toNat
          · rw [if_pos q, if_pos (by omega)]
          · rw [if_neg q, if_neg (by omega)]
        have hω : omok a.1 (omM a.1 (ups (ups Ω 49 6 (4 * (nO a.1 x y : Int) + d)) 49 7 v)) := fun u e hu he hl => by
          rw [eω u e hu he]
          unfold oms
          split
          · omega
          · exact om_ok hv u e hu he hl
        refine z_aload_n (pc := 63) hC (i := 0) dX5_strain_63 rfl rfl ?_
        refine z_callV (n := 0) (T := TX5) (N := 15) (ci := 5) (pc := 64) hC (c_X5_bestCost l w hw _ a.1 ((scM_cong (by rw [ups_n _ _ _ (by decide), ups_n _ _ _ (by decide)])).trans hσ) hv hω) gX5_strain_X5_bestCost rfl (by decide +kernel) (by decide) (by decide) rfl (by decide) (fun _ => rfl) rfl rfl (Nat.le_of_ble_eq_true rfl) dX5_strain_64 (zi_k fun r64 Ω64 h64 => ?_)
        obtain ⟨hm64, hH64, hF64⟩ := h64
        have hm := mnW_cong eω hm64
        have hRf : RM (ups Ω64 49 6 (-1)) a := h.same (fun k hk => by
          rcases hk with rfl | rfl | rfl
          · rw [gt_sn _ _ _ (by decide), gt_fr (hF64 49 (by decide) (by decide) (by decide)), gt_sn _ _ _ (by decide), gt_sn _ _ _ (by decide)]
          · rw [gt_sn _ _ _ (by decide), gt_fr (hF64 49 (by decide) (by decide) (by decide)), gt_sn _ _ _ (by decide), gt_sn _ _ _ (by decide)]
          · rw [gt_s _ _ _ ⟨by decide, by decide⟩]; exact h.2.2.2.2.symm) (fun q u1 u2 => by rw [ups_n _ _ _ (by omega), hF64 q (by omega) (by omega) (by omega), ups_n _ _ _ (by omega), ups_n _ _ _ (by omega)])
        have hfg : frG Ω (ups Ω64 49 6 (-1)) := fun q hq => by rw [ups_n _ _ _ (by omega), hF64 q (by omega) (by omega) (by omega), ups_n _ _ _ (by omega), ups_n _ _ _ (by omega)]
        refine z_istore (pc := 67) hC (i := 6) dX5_strain_67 (by decide) rfl (zS_s (zS_s (zS_s (zS_s (zS_s (zS_s zS_0)))))) ?_
        refine z_aload_n (pc := 69) hC (i := 0) dX5_strain_69 rfl rfl ?_
        refine z_iconst (pc := 70) hC dX5_strain_70 ?_
        refine z_putI (C := RX5) (T := TX5) (N := 15) (ci := 5) (pc := 71) hC _ 6 in_X5_strain_X5 rfl (by decide) (fun _ => rfl) (by decide) fl_X5_strain_22 tyX5_ok nmX5 rfl (by decide +kernel) (fun _ => Nat.le_of_ble_eq_true rfl) (fun _ _ => rfl) dX5_strain_71 ?_
        refine z_iload (pc := 74) hC (i := 6) dX5_strain_74 rfl ?_
        exact z_iret (pc := 76) hC rfl ⟨_, rfl, by rw [lcW_eq hm]; exact ok_retM (by unfold aStrain; rw [if_pos ⟨⟨by unfold dIn; omega, by omega⟩, by omega⟩, if_neg (by omega)]) hRf hfg⟩ dX5_strain_76
      · refine z_iconst (pc := 45) hC dX5_strain_45 ?_
        exact z_iret (pc := 46) hC rfl ⟨_, rfl, ok_retM (by unfold aStrain; rw [if_pos ⟨⟨by unfold dIn; omega, by omega⟩, by omega⟩, if_pos (by omega)]) h (frG.refl _)⟩ dX5_strain_46
    · refine z_aload_n (pc := 21) hC (i := 0) dX5_strain_21 rfl rfl ?_
      refine z_callV (n := 0) (T := TX5) (N := 15) (ci := 5) (pc := 22) hC (c_X5_bad l w hw _) gX5_strain_X5_bad rfl (by decide +kernel) (by decide) (by decide) rfl (by decide) (fun _ => rfl) rfl rfl (Nat.le_of_ble_eq_true rfl) dX5_strain_22 (zi_k fun r22 Ω22 h22 => ?_)
      obtain ⟨rfl, rfl⟩ := h22
      exact z_iret (pc := 25) hC rfl ⟨_, rfl, bad_retM h (if_neg (by unfold dIn; omega))⟩ dX5_strain_25
