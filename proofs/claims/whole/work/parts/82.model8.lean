theorem fl_X5_leaves_7 : Cond.fieldLink RX5 7 "StrokeCutsModel" "st" "[I" ∈ wsX5_leaves := by decide +kernel
theorem in_X5_leaves_X5 : ∀ x ∈ u_ws RX5 TX5 15, x ∈ wsX5_leaves := by decide +kernel
theorem fl_X5_leaves_13 : Cond.fieldLink RX5 13 "StrokeCutsModel" "past" "[I" ∈ wsX5_leaves := by decide +kernel
theorem fl_X5_leaves_45 : Cond.fieldLink RX5 45 "StrokeCutsModel" "states" "I" ∈ wsX5_leaves := by decide +kernel
set_option maxHeartbeats 4000000 in
set_option maxRecDepth 100000 in
theorem S_X5_leaves_36 {E : zE} {w : zP} {l : Launch} {Post : Option Value → Mem → Prop} (hw : zOK w) (hC : zC E w l RX5 wsX5_leaves cX5_leaves 1 1 25 none Post) {Ω : Mem} (a : As) (h : RM Ω a) (h8 : a.2.1.1 < 8) (K : ∀ Ω1 : Mem, RM Ω1 (a.1, (a.2.1.1 + 1, fun i => if i = 0 then a.1 else a.2.1.2 (i - 1)), a.2.2) → frG Ω Ω1 → Post none Ω1)  : X E Ω 36 [some (.ref (wa w 49))] [] := by
  have hm := h.2.1.1
  have hm2 : gt (brg Ω 50 51 0 (80 * a.2.1.1) 80) 49 2 = (a.2.1.1 : Int) := (gt_fr (brg_n _ _ _ _ _ (by decide)) 2).trans hm
  refine z_aload_n (pc := 36) hC (i := 0) dX5_leaves_36 rfl rfl ?_
  refine z_getR (C := RX5) (T := TX5) (N := 15) (ci := 5) (pc := 37) hC _ _ 0 in_X5_leaves_X5 rfl (by decide) (fun _ => rfl) (by decide) fl_X5_leaves_7 (fun _ => rfl) dX5_leaves_37 ?_
  refine z_iconst (pc := 40) hC dX5_leaves_40 ?_
  refine z_aload_n (pc := 41) hC (i := 0) dX5_leaves_41 rfl rfl ?_
  refine z_getR (C := RX5) (T := TX5) (N := 15) (ci := 5) (pc := 42) hC _ _ 1 in_X5_leaves_X5 rfl (by decide) (fun _ => rfl) (by decide) fl_X5_leaves_13 (fun _ => rfl) dX5_leaves_42 ?_
  refine z_bipush (pc := 45) hC dX5_leaves_45 rfl ?_
  refine z_aload_n (pc := 47) hC (i := 0) dX5_leaves_47 rfl rfl ?_
  refine z_getI (C := RX5) (T := TX5) (N := 15) (ci := 5) (pc := 48) hC _ 2 in_X5_leaves_X5 rfl (by decide) (fun _ => rfl) (by decide) fl_X5_leaves_45 (fun _ => rfl) dX5_leaves_48 ?_
  rw [hm]
  refine z_imul (pc := 51) hC dX5_leaves_51 ?_
  refine z_bipush (pc := 52) hC dX5_leaves_52 rfl ?_
  rw [show (80 : Int) * (a.2.1.1 : Int) = ((80 * a.2.1.1 : Nat) : Int) by omega]
  refine z_callS (n := 5) (pc := 54) hC (c_X5_bring l w hw _ 50 51 80 640 0 (80 * a.2.1.1) 80 (by decide) (by decide) (fun _ => rfl) (fun _ => rfl) (by decide) (by decide) (by decide) (by omega) (Or.inl (by decide))) gX5_leaves_X5_bring rfl (by decide +kernel) (by decide) (by decide) rfl rfl (Nat.le_of_ble_eq_true rfl) dX5_leaves_54 (zv_k fun Ω54 h54 => ?_)
  subst h54
  refine z_aload_n (pc := 57) hC (i := 0) dX5_leaves_57 rfl rfl ?_
  refine z_dup (pc := 58) hC dX5_leaves_58 rfl ?_
  refine z_getI (C := RX5) (T := TX5) (N := 15) (ci := 5) (pc := 59) hC _ 2 in_X5_leaves_X5 rfl (by decide) (fun _ => rfl) (by decide) fl_X5_leaves_45 (fun _ => rfl) dX5_leaves_59 ?_
  rw [hm2]
  refine z_iconst (pc := 62) hC dX5_leaves_62 ?_
  refine z_iadd (pc := 63) hC dX5_leaves_63 ?_
  refine z_putI (C := RX5) (T := TX5) (N := 15) (ci := 5) (pc := 64) hC _ 2 in_X5_leaves_X5 rfl (by decide) (fun _ => rfl) (by decide) fl_X5_leaves_45 tyX5_ok nmX5 rfl (by decide +kernel) (fun _ => Nat.le_of_ble_eq_true rfl) (fun _ _ => rfl) dX5_leaves_64 ?_
  exact z_vret (pc := 67) hC rfl (K _ (h.push h8) (fun q hq => by rw [ups_n _ _ _ (by omega), brg_n _ _ _ _ _ (by omega)])) dX5_leaves_67
set_option maxHeartbeats 4000000 in
set_option maxRecDepth 100000 in
theorem c_X5_leaves (l : Launch) (w : zP) (hw : zOK w) (Ω : Mem) (a : As) (h : RM Ω a) : zM l w yX5_leaves wsX5_leaves 1 25 [.ref (wa w 49)] Ω (zvo (fun Ω1 => RM Ω1 (aRem a) ∧ frG Ω Ω1)) := by
  refine zM_of cX5_leaves 1 none RX5 [some (.ref (wa w 49))] hw (by decide +kernel) rfl rfl (Nat.le_of_ble_eq_true rfl) rfl (fun E hC => ?_)
  have hm := h.2.1.1
  have hm8 := h.2.1.2.1
  refine z_aload_n (pc := 0) hC (i := 0) dX5_leaves_0 rfl rfl ?_
  refine z_getI (C := RX5) (T := TX5) (N := 15) (ci := 5) (pc := 1) hC _ 2 in_X5_leaves_X5 rfl (by decide) (fun _ => rfl) (by decide) fl_X5_leaves_45 (fun _ => rfl) dX5_leaves_1 ?_
  refine z_bipush (pc := 4) hC dX5_leaves_4 rfl ?_
  rw [hm]
  refine z_icmp_ne (pc := 6) hC 36 (by first | assumption | exact zb_gt _ _ _ | exact zcmp_zb _ _ | exact bI_zb _ | exact ⟨by omega, by omega⟩) (by first | assumption | exact zb_gt _ _ _ | exact zcmp_zb _ _ | exact bI_zb _ | exact ⟨by omega, by omega⟩) dX5_leaves_6 rfl (fun h6 => ?_) (fun h6 => ?_)
  · refine S_X5_leaves_36 hw hC a h (by omega) (fun Ω1 h1 hf => ⟨rfl, ?_, hf⟩)
    have e : aRem a = (a.1, (a.2.1.1 + 1, fun i => if i = 0 then a.1 else a.2.1.2 (i - 1)), a.2.2) := by
      show (a.1, (min (a.2.1.1 + 1) 8, _), _) = _
      rw [Nat.min_eq_left (by omega)]
    rw [e]; exact h1
  · refine z_aload_n (pc := 9) hC (i := 0) dX5_leaves_9 rfl rfl ?_
    refine z_getR (C := RX5) (T := TX5) (N := 15) (ci := 5) (pc := 10) hC _ _ 1 in_X5_leaves_X5 rfl (by decide) (fun _ => rfl) (by decide) fl_X5_leaves_13 (fun _ => rfl) dX5_leaves_10 ?_
    refine z_bipush (pc := 13) hC dX5_leaves_13 rfl ?_
    refine z_aload_n (pc := 15) hC (i := 0) dX5_leaves_15 rfl rfl ?_
    refine z_getR (C := RX5) (T := TX5) (N := 15) (ci := 5) (pc := 16) hC _ _ 1 in_X5_leaves_X5 rfl (by decide) (fun _ => rfl) (by decide) fl_X5_leaves_13 (fun _ => rfl) dX5_leaves_16 ?_
    refine z_iconst (pc := 19) hC dX5_leaves_19 ?_
    refine z_sipush (pc := 20) hC dX5_leaves_20 rfl ?_
    refine z_callS (n := 5) (pc := 23) hC (c_X5_bring l w hw _ 51 51 640 640 80 0 560 (by decide) (by decide) (fun _ => rfl) (fun _ => rfl) (by decide) (by decide) (by decide) (by decide) (Or.inr (by decide))) gX5_leaves_X5_bring rfl (by decide +kernel) (by decide) (by decide) rfl rfl (Nat.le_of_ble_eq_true rfl) dX5_leaves_23 (zv_k fun Ω23 h23 => ?_)
    subst h23
    refine z_aload_n (pc := 26) hC (i := 0) dX5_leaves_26 rfl rfl ?_
    refine z_dup (pc := 27) hC dX5_leaves_27 rfl ?_
    refine z_getI (C := RX5) (T := TX5) (N := 15) (ci := 5) (pc := 28) hC _ 2 in_X5_leaves_X5 rfl (by decide) (fun _ => rfl) (by decide) fl_X5_leaves_45 (fun _ => rfl) dX5_leaves_28 ?_
    rw [show gt (brg Ω 51 51 80 0 560) 49 2 = 8 from (gt_fr (brg_n _ _ _ _ _ (by decide)) 2).trans (by omega)]
    refine z_iconst (pc := 31) hC dX5_leaves_31 ?_
    refine z_isub (pc := 32) hC dX5_leaves_32 ?_
    refine z_putI (C := RX5) (T := TX5) (N := 15) (ci := 5) (pc := 33) hC _ 2 in_X5_leaves_X5 rfl (by decide) (fun _ => rfl) (by decide) fl_X5_leaves_45 tyX5_ok nmX5 rfl (by decide +kernel) (fun _ => Nat.le_of_ble_eq_true rfl) (fun _ _ => rfl) dX5_leaves_33 ?_
    refine S_X5_leaves_36 hw hC (a.1, (7, a.2.1.2), a.2.2) (h.shift (by omega)) (by show 7 < 8; omega) (fun Ω1 h1 hf => ⟨rfl, ?_, ?_⟩)
    · have e : aRem a = (a.1, (7 + 1, fun i => if i = 0 then a.1 else a.2.1.2 (i - 1)), a.2.2) := by
        show (a.1, (min (a.2.1.1 + 1) 8, _), _) = _
        rw [Nat.min_eq_right (by omega)]
      rw [e]; exact h1
    · exact fun q hq => (hf q hq).trans (by rw [ups_n _ _ _ (by omega), brg_n _ _ _ _ _ (by omega)])
set_option maxHeartbeats 4000000 in
set_option maxRecDepth 100000 in
theorem c_X5_cost (l : Launch) (w : zP) (hw : zOK w) (Ω : Mem) (a : As) (h : RM Ω a) : zM l w yX5_cost wsX5_cost 9 213 [.ref (wa w 49)] Ω (zi (fun r Ω1 => r = (aCost a).1 ∧ RM Ω1 (aCost a).2 ∧ frG Ω Ω1)) := by
  refine zM_of cX5_cost 1 (some .int) RX5 [some (.ref (wa w 49))] hw (by decide +kernel) rfl rfl (Nat.le_of_ble_eq_true rfl) rfl (fun E hC => ?_)
  have hv := h.1.2
  have hσ := h.1.1
  have z0 : gt Ω 50 0 = a.1 0 := st_at hσ (by decide)
  have z1 : gt Ω 50 1 = a.1 1 := st_at hσ (by decide)
  have hN := sdots_le hv
  have hw01 := hv.1
  have hh01 := hv.2.1
  have eω : omM a.1 Ω = om a.1 := omM_om h.2.2.2.2
  refine z_aload_n (pc := 0) hC (i := 0) dX5_cost_0 rfl rfl ?_
  refine z_callV (n := 0) (T := TX5) (N := 15) (ci := 5) (pc := 1) hC (c_X5_bestCost l w hw _ a.1 hσ hv (by rw [eω]; exact om_ok hv)) gX5_cost_X5_bestCost rfl (by decide +kernel) (by decide) (by decide) rfl (by decide) (fun _ => rfl) rfl rfl (Nat.le_of_ble_eq_true rfl) dX5_cost_1 (zi_k fun r1 Ω1 h1 => ?_)
  obtain ⟨hm1, hH1, hF1⟩ := h1
  rw [eω] at hm1
  obtain ⟨g1, g2⟩ := h.scr hF1
  exact z_iret (pc := 4) hC rfl ⟨_, rfl, by rw [lcV_eq (mnW_om.mp hm1)]; exact ok_retM rfl g1 g2⟩ dX5_cost_4
