theorem fl_X5_type_189 : Cond.fieldLink RX5 189 "StrokeCutsModel" "letters" "I" ∈ wsX5_type := by decide +kernel
theorem in_X5_type_X5 : ∀ x ∈ u_ws RX5 TX5 15, x ∈ wsX5_type := by decide +kernel
theorem fl_X5_type_19 : Cond.fieldLink RX5 19 "StrokeCutsModel" "text" "[I" ∈ wsX5_type := by decide +kernel
set_option maxHeartbeats 4000000 in
set_option maxRecDepth 100000 in
theorem c_X5_type (l : Launch) (w : zP) (hw : zOK w) (Ω : Mem) (a : As) (h : RM Ω a) (c : Int) (hc : zb c) : zM l w yX5_type wsX5_type 1 22 [.ref (wa w 49), .int (zI c)] Ω (zi (fun r Ω1 => r = (aType a c).1 ∧ RM Ω1 (aType a c).2 ∧ frG Ω Ω1)) := by
  refine zM_of cX5_type 2 (some .int) RX5 [some (.ref (wa w 49)), some (.int (zI c))] hw (by decide +kernel) rfl rfl (Nat.le_of_ble_eq_true rfl) rfl (fun E hC => ?_)
  have hL := h.2.2.2.1.1
  have hL1 := h.2.2.2.1.2.1
  refine z_iload_n (pc := 0) hC (i := 1) dX5_type_0 rfl rfl ?_
  refine z_iconst (pc := 1) hC dX5_type_1 ?_
  refine z_bipush (pc := 2) hC dX5_type_2 rfl ?_
  refine z_callS (n := 3) (pc := 4) hC (c_X5_in l w hw _ _ _ _ (by first | assumption | exact zb_gt _ _ _ | exact zcmp_zb _ _ | exact bI_zb _ | exact ⟨by omega, by omega⟩) (by first | assumption | exact zb_gt _ _ _ | exact zcmp_zb _ _ | exact bI_zb _ | exact ⟨by omega, by omega⟩) (by first | assumption | exact zb_gt _ _ _ | exact zcmp_zb _ _ | exact bI_zb _ | exact ⟨by omega, by omega⟩)) gX5_type_X5_in rfl (by decide +kernel) (by decide) (by decide) rfl rfl (Nat.le_of_ble_eq_true rfl) dX5_type_4 (zb_k fun r4 Ω4 h4 => ?_)
  obtain ⟨rfl, hM4⟩ := h4
  obtain rfl := hM4.symm
  refine z_ifd_ne (pc := 7) hC 15 dX5_type_7 rfl (fun h7 => ?_) (fun h7 => ?_)
  · refine z_aload_n (pc := 15) hC (i := 0) dX5_type_15 rfl rfl ?_
    refine z_getI (C := RX5) (T := TX5) (N := 15) (ci := 5) (pc := 16) hC _ 5 in_X5_type_X5 rfl (by decide) (fun _ => rfl) (by decide) fl_X5_type_189 (fun _ => rfl) dX5_type_16 ?_
    refine z_bipush (pc := 19) hC dX5_type_19 rfl ?_
    rw [hL]
    refine z_icmp_ne (pc := 21) hC 29 (by first | assumption | exact zb_gt _ _ _ | exact zcmp_zb _ _ | exact bI_zb _ | exact ⟨by omega, by omega⟩) (by first | assumption | exact zb_gt _ _ _ | exact zcmp_zb _ _ | exact bI_zb _ | exact ⟨by omega, by omega⟩) dX5_type_21 rfl (fun h21 => ?_) (fun h21 => ?_)
    · refine z_aload_n (pc := 29) hC (i := 0) dX5_type_29 rfl rfl ?_
      refine z_getR (C := RX5) (T := TX5) (N := 15) (ci := 5) (pc := 30) hC _ _ 4 in_X5_type_X5 rfl (by decide) (fun _ => rfl) (by decide) fl_X5_type_19 (fun _ => rfl) dX5_type_30 ?_
      refine z_aload_n (pc := 33) hC (i := 0) dX5_type_33 rfl rfl ?_
      refine z_getI (C := RX5) (T := TX5) (N := 15) (ci := 5) (pc := 34) hC _ 5 in_X5_type_X5 rfl (by decide) (fun _ => rfl) (by decide) fl_X5_type_189 (fun _ => rfl) dX5_type_34 ?_
      rw [hL]
      refine z_iload_n (pc := 37) hC (i := 1) dX5_type_37 rfl rfl ?_
      refine z_iask (pc := 38) hC _ a.2.2.2.1 (by decide) (fun _ => rfl) rfl (by omega) (by decide) dX5_type_38 ?_
      refine z_aload_n (pc := 39) hC (i := 0) dX5_type_39 rfl rfl ?_
      refine z_dup (pc := 40) hC dX5_type_40 rfl ?_
      refine z_getI (C := RX5) (T := TX5) (N := 15) (ci := 5) (pc := 41) hC _ 5 in_X5_type_X5 rfl (by decide) (fun _ => rfl) (by decide) fl_X5_type_189 (fun _ => rfl) dX5_type_41 ?_
      rw [gt_n _ _ _ _ (by decide : 49 ≠ 53), hL]
      refine z_iconst (pc := 44) hC dX5_type_44 ?_
      refine z_iadd (pc := 45) hC dX5_type_45 ?_
      refine z_putI (C := RX5) (T := TX5) (N := 15) (ci := 5) (pc := 46) hC _ 5 in_X5_type_X5 rfl (by decide) (fun _ => rfl) (by decide) fl_X5_type_189 tyX5_ok nmX5 rfl (by decide +kernel) (fun _ => Nat.le_of_ble_eq_true rfl) (fun _ _ => rfl) dX5_type_46 ?_
      refine z_aload_n (pc := 49) hC (i := 0) dX5_type_49 rfl rfl ?_
      refine z_getI (C := RX5) (T := TX5) (N := 15) (ci := 5) (pc := 50) hC _ 5 in_X5_type_X5 rfl (by decide) (fun _ => rfl) (by decide) fl_X5_type_189 (fun _ => rfl) dX5_type_50 ?_
      rw [gt_s _ _ _ ⟨by omega, by omega⟩]
      exact z_iret (pc := 53) hC rfl ⟨_, rfl, ok_retM (by unfold aType; rw [if_pos (by omega), if_pos (by omega)]) (h.txt (fun q u1 u2 => by rw [ups_n _ _ _ u1, ups_n _ _ _ u2]) (by rw [gt_sn _ _ _ (by decide), gt_n _ _ _ _ (by decide)]) (by rw [gt_sn _ _ _ (by decide), gt_n _ _ _ _ (by decide)]) (by rw [gt_s _ _ _ ⟨by omega, by omega⟩]; omega) (by omega) (fun k hk => by
      rw [gt_n _ _ _ _ (by decide)]
      by_cases e : k = a.2.2.2.1
      · subst e; rw [gt_s _ _ _ (by assumption), fup_s]; omega
      · rw [gt_sn _ _ _ e, fup_n _ _ e]; exact h.2.2.2.1.2.2 k (by omega))) ((frG_up _ _ _ (by decide)).trans (frG_up _ _ _ (by decide)))⟩ dX5_type_53
    · refine z_aload_n (pc := 24) hC (i := 0) dX5_type_24 rfl rfl ?_
      refine z_callV (n := 0) (T := TX5) (N := 15) (ci := 5) (pc := 25) hC (c_X5_full l w hw _) gX5_type_X5_full rfl (by decide +kernel) (by decide) (by decide) rfl (by decide) (fun _ => rfl) rfl rfl (Nat.le_of_ble_eq_true rfl) dX5_type_25 (zi_k fun r25 Ω25 h25 => ?_)
      obtain ⟨rfl, rfl⟩ := h25
      exact z_iret (pc := 28) hC rfl ⟨_, rfl, ok_retM (by unfold aType; rw [if_pos (by omega), if_neg (by omega)]) (h.inc (i := 2) (by decide)) (frG_up _ _ _ (by decide))⟩ dX5_type_28
  · refine z_aload_n (pc := 10) hC (i := 0) dX5_type_10 rfl rfl ?_
    refine z_callV (n := 0) (T := TX5) (N := 15) (ci := 5) (pc := 11) hC (c_X5_bad l w hw _) gX5_type_X5_bad rfl (by decide +kernel) (by decide) (by decide) rfl (by decide) (fun _ => rfl) rfl rfl (Nat.le_of_ble_eq_true rfl) dX5_type_11 (zi_k fun r11 Ω11 h11 => ?_)
    obtain ⟨rfl, rfl⟩ := h11
    exact z_iret (pc := 14) hC rfl ⟨_, rfl, bad_retM h (if_neg (by omega))⟩ dX5_type_14
set_option maxHeartbeats 4000000 in
set_option maxRecDepth 100000 in
theorem c_X5_isLinked (l : Launch) (w : zP) (hw : zOK w) (Ω : Mem) (x y d : Int) (hx : zb x) (hy : zb y) (hd : zb d) (h0 : 0 ≤ gt Ω 50 0) (h1 : 0 ≤ gt Ω 50 1) : zM l w yX5_isLinked wsX5_isLinked 2 44 [.ref (wa w 49), .int (zI x), .int (zI y), .int (zI d)] Ω (zbo (fun b Ω1 => b = decide ((0 ≤ x ∧ x < gt Ω 50 0 ∧ 0 ≤ y ∧ y < gt Ω 50 1) ∧ (0 ≤ d ∧ d ≤ 3)) ∧ Ω1 = Ω)) := by
  refine zM_of cX5_isLinked 4 (some .boolean) RX5 [some (.ref (wa w 49)), some (.int (zI x)), some (.int (zI y)), some (.int (zI d))] hw (by decide +kernel) rfl rfl (Nat.le_of_ble_eq_true rfl) rfl (fun E hC => ?_)
  refine z_aload_n (pc := 0) hC (i := 0) dX5_isLinked_0 rfl rfl ?_
  refine z_iload_n (pc := 1) hC (i := 1) dX5_isLinked_1 rfl rfl ?_
  refine z_iload_n (pc := 2) hC (i := 2) dX5_isLinked_2 rfl rfl ?_
  refine z_callV (n := 2) (T := TX5) (N := 15) (ci := 5) (pc := 3) hC (c_X5_isDot l w hw _ _ _ (by first | assumption | exact ⟨by omega, by omega⟩) (by first | assumption | exact ⟨by omega, by omega⟩) (by omega) (by omega)) gX5_isLinked_X5_isDot rfl (by decide +kernel) (by decide) (by decide) rfl (by decide) (fun _ => rfl) rfl rfl (Nat.le_of_ble_eq_true rfl) dX5_isLinked_3 (zb_k fun r3 Ω3 h3 => ?_)
  obtain ⟨rfl, hM3⟩ := h3
  obtain rfl := hM3.symm
  refine z_ifd_eq (pc := 6) hC 22 dX5_isLinked_6 rfl (fun h6 => ?_) (fun h6 => ?_)
  · refine z_iconst (pc := 22) hC dX5_isLinked_22 ?_
    exact z_zret (b := false) (pc := 23) hC rfl ⟨false, rfl, ⟨(decide_eq_false (by omega)).symm, rfl⟩⟩ dX5_isLinked_23
  · refine z_iload_n (pc := 9) hC (i := 3) dX5_isLinked_9 rfl rfl ?_
    refine z_iconst (pc := 10) hC dX5_isLinked_10 ?_
    refine z_iconst (pc := 11) hC dX5_isLinked_11 ?_
    refine z_callS (n := 3) (pc := 12) hC (c_X5_in l w hw _ _ _ _ (by first | assumption | exact zb_gt _ _ _ | exact zcmp_zb _ _ | exact bI_zb _ | exact ⟨by omega, by omega⟩) (by first | assumption | exact zb_gt _ _ _ | exact zcmp_zb _ _ | exact bI_zb _ | exact ⟨by omega, by omega⟩) (by first | assumption | exact zb_gt _ _ _ | exact zcmp_zb _ _ | exact bI_zb _ | exact ⟨by omega, by omega⟩)) gX5_isLinked_X5_in rfl (by decide +kernel) (by decide) (by decide) rfl rfl (Nat.le_of_ble_eq_true rfl) dX5_isLinked_12 (zb_k fun r12 Ω12 h12 => ?_)
    obtain ⟨rfl, hM12⟩ := h12
    obtain rfl := hM12.symm
    refine z_ifd_eq (pc := 15) hC 22 dX5_isLinked_15 rfl (fun h15 => ?_) (fun h15 => ?_)
    · refine z_iconst (pc := 22) hC dX5_isLinked_22 ?_
      exact z_zret (b := false) (pc := 23) hC rfl ⟨false, rfl, ⟨(decide_eq_false (by omega)).symm, rfl⟩⟩ dX5_isLinked_23
    · refine z_iconst (pc := 18) hC dX5_isLinked_18 ?_
      refine z_goto (pc := 19) hC 23 dX5_isLinked_19 rfl ?_
      exact z_zret (b := true) (pc := 23) hC rfl ⟨true, rfl, ⟨(decide_eq_true (by omega)).symm, rfl⟩⟩ dX5_isLinked_23
set_option maxHeartbeats 4000000 in
set_option maxRecDepth 100000 in
theorem c_X5_link (l : Launch) (w : zP) (hw : zOK w) (Ω : Mem) (a : As) (h : RM Ω a) (x y d : Int) (hx : zb x) (hy : zb y) (hd : zb d) : zM l w yX5_link wsX5_link 4 92 [.ref (wa w 49), .int (zI x), .int (zI y), .int (zI d)] Ω (zi (fun r Ω1 => r = (aLink a x y d).1 ∧ RM Ω1 (aLink a x y d).2 ∧ frG Ω Ω1)) := by
  refine zM_of cX5_link 5 (some .int) RX5 [some (.ref (wa w 49)), some (.int (zI x)), some (.int (zI y)), some (.int (zI d)), none] hw (by decide +kernel) rfl rfl (Nat.le_of_ble_eq_true rfl) rfl (fun E hC => ?_)
  have hv := h.1.2
  have hσ := h.1.1
  have z0 : gt Ω 50 0 = a.1 0 := st_at hσ (by decide)
  have z1 : gt Ω 50 1 = a.1 1 := st_at hσ (by decide)
  have hN := sdots_le hv
  have hw01 := hv.1
  have hh01 := hv.2.1
  refine z_aload_n (pc := 0) hC (i := 0) dX5_link_0 rfl rfl ?_
  refine z_iload_n (pc := 1) hC (i := 1) dX5_link_1 rfl rfl ?_
  refine z_iload_n (pc := 2) hC (i := 2) dX5_link_2 rfl rfl ?_
  refine z_iload_n (pc := 3) hC (i := 3) dX5_link_3 rfl rfl ?_
  refine z_callV (n := 3) (T := TX5) (N := 15) (ci := 5) (pc := 4) hC (c_X5_isLinked l w hw _ _ _ _ (by assumption) (by assumption) (by assumption) (by omega) (by omega)) gX5_link_X5_isLinked rfl (by decide +kernel) (by decide) (by decide) rfl (by decide) (fun _ => rfl) rfl rfl (Nat.le_of_ble_eq_true rfl) dX5_link_4 (zb_k fun r4 Ω4 h4 => ?_)
  obtain ⟨rfl, hM4⟩ := h4
  obtain rfl := hM4.symm
  refine z_ifd_ne (pc := 7) hC 15 dX5_link_7 rfl (fun h7 => ?_) (fun h7 => ?_)
  · refine z_aload_n (pc := 15) hC (i := 0) dX5_link_15 rfl rfl ?_
    refine z_iload_n (pc := 16) hC (i := 1) dX5_link_16 rfl rfl ?_
    refine z_iload_n (pc := 17) hC (i := 2) dX5_link_17 rfl rfl ?_
    refine z_callV (n := 2) (T := TX5) (N := 15) (ci := 5) (pc := 18) hC (c_X5_numberOf l w hw _ _ _) gX5_link_X5_numberOf rfl (by decide +kernel) (by decide) (by decide) rfl (by decide) (fun _ => rfl) rfl rfl (Nat.le_of_ble_eq_true rfl) dX5_link_18 (zi_k fun r18 Ω18 h18 => ?_)
    obtain ⟨hr18, hm18⟩ := h18
    have hm18 := hm18.symm
    subst hm18
    obtain ⟨hn1, hn2⟩ := nO_lt hv (x := x) (y := y) (by unfold dIn; omega)
    rw [z0, hn1] at hr18
    subst hr18
    refine z_istore (pc := 21) hC (i := 4) dX5_link_21 (by decide) rfl (zS_s (zS_s (zS_s (zS_s zS_0)))) ?_
    refine z_aload_n (pc := 23) hC (i := 0) dX5_link_23 rfl rfl ?_
    refine z_iload (pc := 24) hC (i := 4) dX5_link_24 rfl ?_
    refine z_iload_n (pc := 26) hC (i := 3) dX5_link_26 rfl rfl ?_
    have hde : d = ((d.toNat : Nat) : Int) := by omega
    rw [hde]
    refine z_callV (n := 2) (T := TX5) (N := 15) (ci := 5) (pc := 27) hC (c_X5_over l w hw _ a.1 hσ hv (nO a.1 x y) d.toNat hn2 (by omega)) gX5_link_X5_over rfl (by decide +kernel) (by decide) (by decide) rfl (by decide) (fun _ => rfl) rfl rfl (Nat.le_of_ble_eq_true rfl) dX5_link_27 (zi_k fun r27 Ω27 h27 => ?_)
    obtain ⟨hr27, hm27⟩ := h27
    have hm27 := hm27.symm
    subst hm27
    subst hr27
    have hlb := sLk_b hv ((nO a.1 x y % sw a.1 : Nat) : Int) ((nO a.1 x y / sw a.1 : Nat) : Int) d.toNat
    have hlb2 : -1 ≤ lk a.1 (nO a.1 x y) d.toNat ∧ lk a.1 (nO a.1 x y) d.toNat ≤ 36 := by unfold lk; omega
    refine z_iconst (pc := 30) hC dX5_link_30 ?_
    refine z_icmp_ne (pc := 31) hC 38 (by first | assumption | exact zb_gt _ _ _ | exact zcmp_zb _ _ | exact bI_zb _ | exact ⟨by omega, by omega⟩) (by first | assumption | exact zb_gt _ _ _ | exact zcmp_zb _ _ | exact bI_zb _ | exact ⟨by omega, by omega⟩) dX5_link_31 rfl (fun h31 => ?_) (fun h31 => ?_)
    · refine z_aload_n (pc := 38) hC (i := 0) dX5_link_38 rfl rfl ?_
      refine z_iload (pc := 39) hC (i := 4) dX5_link_39 rfl ?_
      refine z_iload_n (pc := 41) hC (i := 3) dX5_link_41 rfl rfl ?_
      refine z_callV (n := 2) (T := TX5) (N := 15) (ci := 5) (pc := 42) hC (c_X5_weight l w hw _ a.1 hσ hv (nO a.1 x y) d.toNat hn2 (by omega) h31) gX5_link_X5_weight rfl (by decide +kernel) (by decide) (by decide) rfl (by decide) (fun _ => rfl) rfl rfl (Nat.le_of_ble_eq_true rfl) dX5_link_42 (zi_k fun r42 Ω42 h42 => ?_)
      obtain ⟨hr42, hm42⟩ := h42
      have hm42 := hm42.symm
      subst hm42
      rw [if_neg (by rw [h.2.2.2.2]; omega)] at hr42
      subst hr42
      exact z_iret (pc := 45) hC rfl ⟨_, rfl, ok_retM (by unfold aLink; rw [if_pos ⟨by unfold dIn; omega, by omega⟩, if_neg h31]; rfl) h (frG.refl _)⟩ dX5_link_45
    · refine z_iconst (pc := 34) hC dX5_link_34 ?_
      refine z_goto (pc := 35) hC 45 dX5_link_35 rfl ?_
      exact z_iret (pc := 45) hC rfl ⟨_, rfl, ok_retM (by unfold aLink; rw [if_pos ⟨by unfold dIn; omega, by omega⟩, if_pos (by omega)]) h (frG.refl _)⟩ dX5_link_45
  · refine z_aload_n (pc := 10) hC (i := 0) dX5_link_10 rfl rfl ?_
    refine z_callV (n := 0) (T := TX5) (N := 15) (ci := 5) (pc := 11) hC (c_X5_bad l w hw _) gX5_link_X5_bad rfl (by decide +kernel) (by decide) (by decide) rfl (by decide) (fun _ => rfl) rfl rfl (Nat.le_of_ble_eq_true rfl) dX5_link_11 (zi_k fun r11 Ω11 h11 => ?_)
    obtain ⟨rfl, rfl⟩ := h11
    exact z_iret (pc := 14) hC rfl ⟨_, rfl, bad_retM h (if_neg (by unfold dIn; omega))⟩ dX5_link_14
