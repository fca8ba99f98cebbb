theorem RM.back {Ω : Mem} {a : As} (h : RM Ω a) (h0 : 0 < a.2.1.1) : RM (brg (ups Ω 49 2 ((a.2.1.1 : Int) - 1)) 51 50 (80 * (a.2.1.1 - 1)) 0 80) (aBack a) := by
  obtain ⟨h1, ⟨h2, h3, h4⟩, h5, ⟨h6, h7, h9⟩, h10⟩ := h
  generalize hM : brg (ups Ω 49 2 ((a.2.1.1 : Int) - 1)) 51 50 (80 * (a.2.1.1 - 1)) 0 80 = M
  have hq : ∀ q, q ≠ 50 → q ≠ 49 → M q = Ω q := fun q x y => by rw [← hM, brg_n _ _ _ _ _ x, ups_n _ _ _ y]
  have e49 : ∀ k, k ≠ 2 → gt M 49 k = gt Ω 49 k := fun k x => by rw [← hM, gt_fr (brg_n _ _ _ _ _ (by decide)) k, gt_sn _ _ _ x]
  have e2 : gt M 49 2 = (a.2.1.1 : Int) - 1 := by rw [← hM, gt_fr (brg_n _ _ _ _ _ (by decide)) 2, gt_s _ _ _ ⟨by omega, by omega⟩]
  have h40 := h4 0 h0
  have hs : scM M = a.2.1.2 0 := by
    funext j
    by_cases hj : j < 80
    · rw [scM_at M hj, ← hM, brg_at _ _ _ _ _ _ (Nat.zero_le j) (by omega), gt_n _ _ _ _ (by decide), ← h40.1 j hj]
      congr 1
    · rw [scM_0 M (by omega), h40.2.1 j (by omega)]
  refine ⟨⟨hs, h40.2.2⟩, ⟨by rw [e2]; show (a.2.1.1 : Int) - 1 = ((a.2.1.1 - 1 : Nat) : Int); omega, by show a.2.1.1 - 1 ≤ 8; omega, fun i hi => ?_⟩, fun i hi => ?_, ⟨by rw [e49 5 (by decide)]; exact h6, h7, fun k hk => ?_⟩, by rw [e49 6 (by decide)]; exact h10⟩
  · have hi1 : i < a.2.1.1 - 1 := hi
    have h4i := h4 (i + 1) (by omega)
    refine ⟨fun j hj => ?_, h4i.2⟩
    show gt M 51 (80 * (a.2.1.1 - 1 - 1 - i) + j) = a.2.1.2 (i + 1) j
    rw [gt_fr (hq 51 (by omega) (by omega)), ← h4i.1 j hj]
    congr 1
    omega
  · rw [hq 52 (by omega) (by omega)]; exact h5 i hi
  · rw [gt_fr (hq 53 (by omega) (by omega))]; exact h9 k hk
theorem fl_X5_back_45 : Cond.fieldLink RX5 45 "StrokeCutsModel" "states" "I" ∈ wsX5_back := by decide +kernel
theorem in_X5_back_X5 : ∀ x ∈ u_ws RX5 TX5 15, x ∈ wsX5_back := by decide +kernel
theorem fl_X5_back_13 : Cond.fieldLink RX5 13 "StrokeCutsModel" "past" "[I" ∈ wsX5_back := by decide +kernel
theorem fl_X5_back_7 : Cond.fieldLink RX5 7 "StrokeCutsModel" "st" "[I" ∈ wsX5_back := by decide +kernel
set_option maxHeartbeats 4000000 in
set_option maxRecDepth 100000 in
theorem c_X5_back (l : Launch) (w : zP) (hw : zOK w) (Ω : Mem) (a : As) (h : RM Ω a) : zM l w yX5_back wsX5_back 1 25 [.ref (wa w 49)] Ω (zi (fun r Ω1 => r = (aBck a).1 ∧ RM Ω1 (aBck a).2 ∧ frG Ω Ω1)) := by
  refine zM_of cX5_back 1 (some .int) RX5 [some (.ref (wa w 49))] hw (by decide +kernel) rfl rfl (Nat.le_of_ble_eq_true rfl) rfl (fun E hC => ?_)
  have hm := h.2.1.1
  have hm8 := h.2.1.2.1
  refine z_aload_n (pc := 0) hC (i := 0) dX5_back_0 rfl rfl ?_
  refine z_getI (C := RX5) (T := TX5) (N := 15) (ci := 5) (pc := 1) hC _ 2 in_X5_back_X5 rfl (by decide) (fun _ => rfl) (by decide) fl_X5_back_45 (fun _ => rfl) dX5_back_1 ?_
  rw [hm]
  refine z_if_ne (pc := 4) hC 12 (by first | assumption | exact zb_gt _ _ _ | exact zcmp_zb _ _ | exact bI_zb _ | exact ⟨by omega, by omega⟩) dX5_back_4 rfl (fun h4 => ?_) (fun h4 => ?_)
  · refine z_aload_n (pc := 12) hC (i := 0) dX5_back_12 rfl rfl ?_
    refine z_dup (pc := 13) hC dX5_back_13 rfl ?_
    refine z_getI (C := RX5) (T := TX5) (N := 15) (ci := 5) (pc := 14) hC _ 2 in_X5_back_X5 rfl (by decide) (fun _ => rfl) (by decide) fl_X5_back_45 (fun _ => rfl) dX5_back_14 ?_
    rw [hm]
    refine z_iconst (pc := 17) hC dX5_back_17 ?_
    refine z_isub (pc := 18) hC dX5_back_18 ?_
    refine z_putI (C := RX5) (T := TX5) (N := 15) (ci := 5) (pc := 19) hC _ 2 in_X5_back_X5 rfl (by decide) (fun _ => rfl) (by decide) fl_X5_back_45 tyX5_ok nmX5 rfl (by decide +kernel) (fun _ => Nat.le_of_ble_eq_true rfl) (fun _ _ => rfl) dX5_back_19 ?_
    refine z_aload_n (pc := 22) hC (i := 0) dX5_back_22 rfl rfl ?_
    refine z_getR (C := RX5) (T := TX5) (N := 15) (ci := 5) (pc := 23) hC _ _ 1 in_X5_back_X5 rfl (by decide) (fun _ => rfl) (by decide) fl_X5_back_13 (fun _ => rfl) dX5_back_23 ?_
    refine z_bipush (pc := 26) hC dX5_back_26 rfl ?_
    refine z_aload_n (pc := 28) hC (i := 0) dX5_back_28 rfl rfl ?_
    refine z_getI (C := RX5) (T := TX5) (N := 15) (ci := 5) (pc := 29) hC _ 2 in_X5_back_X5 rfl (by decide) (fun _ => rfl) (by decide) fl_X5_back_45 (fun _ => rfl) dX5_back_29 ?_
    rw [gt_s _ _ _ ⟨by omega, by omega⟩]
    refine z_imul (pc := 32) hC dX5_back_32 ?_
    rw [show (80 : Int) * ((a.2.1.1 : Int) - 1) = ((80 * (a.2.1.1 - 1) : Nat) : Int) by omega]
    refine z_aload_n (pc := 33) hC (i := 0) dX5_back_33 rfl rfl ?_
    refine z_getR (C := RX5) (T := TX5) (N := 15) (ci := 5) (pc := 34) hC _ _ 0 in_X5_back_X5 rfl (by decide) (fun _ => rfl) (by decide) fl_X5_back_7 (fun _ => rfl) dX5_back_34 ?_
    refine z_iconst (pc := 37) hC dX5_back_37 ?_
    refine z_bipush (pc := 38) hC dX5_back_38 rfl ?_
    refine z_callS (n := 5) (pc := 40) hC (c_X5_bring l w hw _ 51 50 640 80 (80 * (a.2.1.1 - 1)) 0 80 (by decide) (by decide) (fun _ => rfl) (fun _ => rfl) (by decide) (by decide) (by omega) (by decide) (Or.inl (by decide))) gX5_back_X5_bring rfl (by decide +kernel) (by decide) (by decide) rfl rfl (Nat.le_of_ble_eq_true rfl) dX5_back_40 (zv_k fun Ω40 h40 => ?_)
    subst h40
    refine z_aload_n (pc := 43) hC (i := 0) dX5_back_43 rfl rfl ?_
    refine z_getI (C := RX5) (T := TX5) (N := 15) (ci := 5) (pc := 44) hC _ 2 in_X5_back_X5 rfl (by decide) (fun _ => rfl) (by decide) fl_X5_back_45 (fun _ => rfl) dX5_back_44 ?_
    rw [gt_fr (brg_n _ _ _ _ _ (by decide)) 2, gt_s _ _ _ ⟨by omega, by omega⟩]
    exact z_iret (pc := 47) hC rfl ⟨_, rfl, ok_retM (if_neg (by omega)) (h.back (by omega)) (fun q hq => by rw [brg_n _ _ _ _ _ (by omega), ups_n _ _ _ (by omega)])⟩ dX5_back_47
  · refine z_aload_n (pc := 7) hC (i := 0) dX5_back_7 rfl rfl ?_
    refine z_callV (n := 0) (T := TX5) (N := 15) (ci := 5) (pc := 8) hC (c_X5_no l w hw _) gX5_back_X5_no rfl (by decide +kernel) (by decide) (by decide) rfl (by decide) (fun _ => rfl) rfl rfl (Nat.le_of_ble_eq_true rfl) dX5_back_8 (zi_k fun r8 Ω8 h8 => ?_)
    obtain ⟨rfl, rfl⟩ := h8
    exact z_iret (pc := 11) hC rfl ⟨_, rfl, ok_retM (if_pos (by omega)) (h.inc (i := 1) (by decide)) (frG_up _ _ _ (by decide))⟩ dX5_back_11
