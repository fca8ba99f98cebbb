def sbk (σ : Sg) (x y : Int) (k : Nat) : Sg := fun i => if i = 0 then x else if i = 1 then y else if 8 ≤ i ∧ i < k then 0 else σ i
theorem sbk_s (σ : Sg) (x y : Int) {k : Nat} (h : 8 ≤ k) : sup (sbk σ x y k) k 0 = sbk σ x y (k + 1) := by
  funext i
  unfold sup sbk
  by_cases e : i = k
  · subst e
    rw [if_pos rfl, if_neg (by omega), if_neg (by omega), if_pos (by omega)]
  · rw [if_neg e]
    by_cases c0 : i = 0
    · rw [if_pos c0, if_pos c0]
    · rw [if_neg c0, if_neg c0]
      by_cases c1 : i = 1
      · rw [if_pos c1, if_pos c1]
      · rw [if_neg c1, if_neg c1]
        by_cases c2 : 8 ≤ i ∧ i < k
        · rw [if_pos c2, if_pos (by omega)]
        · rw [if_neg c2, if_neg (by omega)]
theorem sbk_e (σ : Sg) (x y : Int) : sbk σ x y 80 = sbl σ x y 36 := by
  funext i
  unfold sbk sbl
  by_cases c0 : i = 0
  · rw [if_pos c0, if_pos c0]
  · rw [if_neg c0, if_neg c0]
    by_cases c1 : i = 1
    · rw [if_pos c1, if_pos c1]
    · rw [if_neg c1, if_neg c1]
      by_cases c2 : i < 8
      · rw [if_neg (by omega), if_pos c2]
      · rw [if_neg c2]
        by_cases c3 : i < 80
        · rw [if_pos (by omega), if_pos (by omega)]
        · rw [if_neg (by omega), if_neg (by omega)]
theorem sbk_8 (σ : Sg) (x y : Int) : sup (sup σ 0 x) 1 y = sbk σ x y 8 := by
  funext i
  unfold sup sbk
  by_cases c1 : i = 1
  · rw [if_pos c1, if_neg (by omega), if_pos c1]
  · rw [if_neg c1]
    by_cases c0 : i = 0
    · rw [if_pos c0, if_pos c0]
    · rw [if_neg c0, if_neg c0, if_neg c1, if_neg (by omega)]
theorem fl_X5_picture_7 : Cond.fieldLink RX5 7 "StrokeCutsModel" "st" "[I" ∈ wsX5_picture := by decide +kernel
theorem in_X5_picture_X5 : ∀ x ∈ u_ws RX5 TX5 15, x ∈ wsX5_picture := by decide +kernel
set_option maxHeartbeats 4000000 in
set_option maxRecDepth 100000 in
theorem L_X5_picture_46 {E : zE} {w : zP} {l : Launch} {Post : Option Value → Mem → Prop} (hw : zOK w) (hC : zC E w l RX5 wsX5_picture cX5_picture 4 2 45 (some .int) Post) (σ : Sg) (x y : Int) (Ω0 : Mem) (K : ∀ Ω : Mem, scM Ω = sbk σ x y 80 → (∀ q, q ≠ 50 → Ω q = Ω0 q) → X E Ω 65 [some (.ref (wa w 49)), some (.int (zI x)), some (.int (zI y)), some (.int (zI ((80 : Nat) : Int)))] []) : ∀ (n : Nat) (k : Nat) (Ω : Mem), 80 < k + n → (k ≤ 80) → (8 ≤ k) → (scM Ω = sbk σ x y k) → (∀ q, q ≠ 50 → Ω q = Ω0 q) → X E Ω 46 [some (.ref (wa w 49)), some (.int (zI x)), some (.int (zI y)), some (.int (zI (k : Int)))] [] := by
  intro n
  induction n with
  | zero =>
    intro k Ω hfu hk hk8 hs hF
    exact absurd hfu (by omega)
  | succ n ih =>
    intro k Ω hfu hk hk8 hs hF
    refine z_iload_n (pc := 46) hC (i := 3) dX5_picture_46 rfl rfl ?_
    refine z_bipush (pc := 47) hC dX5_picture_47 rfl ?_
    refine z_icmp_ge (pc := 49) hC 65 (by first | assumption | exact zb_gt _ _ _ | exact zcmp_zb _ _ | exact bI_zb _ | exact ⟨by omega, by omega⟩) (by first | assumption | exact zb_gt _ _ _ | exact zcmp_zb _ _ | exact bI_zb _ | exact ⟨by omega, by omega⟩) dX5_picture_49 rfl (fun h49 => ?_) (fun h49 => ?_)
    · obtain rfl : k = 80 := by omega
      exact K Ω hs hF
    · refine z_aload_n (pc := 52) hC (i := 0) dX5_picture_52 rfl rfl ?_
      refine z_getR (C := RX5) (T := TX5) (N := 15) (ci := 5) (pc := 53) hC _ _ 0 in_X5_picture_X5 rfl (by decide) (fun _ => rfl) (by decide) fl_X5_picture_7 (fun _ => rfl) dX5_picture_53 ?_
      refine z_iload_n (pc := 56) hC (i := 3) dX5_picture_56 rfl rfl ?_
      refine z_iconst (pc := 57) hC dX5_picture_57 ?_
      refine z_iask (pc := 58) hC _ k (by decide) (fun _ => rfl) rfl (by omega) (by decide) dX5_picture_58 ?_
      refine z_iinc (pc := 59) hC (i := 3) dX5_picture_59 rfl (by decide) rfl (zS_s (zS_s (zS_s zS_0))) ?_
      refine z_goto (pc := 62) hC 46 dX5_picture_62 rfl ?_
      exact ih (k + 1) _ (by omega) (by omega) (by omega) (by rw [scM_up Ω (k := k) (v := 0) (by omega) zb_0, hs, sbk_s _ _ _ hk8]) (fun q hq => by rw [ups_n _ _ _ hq]; exact hF q hq)
set_option maxHeartbeats 4000000 in
set_option maxRecDepth 100000 in
theorem c_X5_picture (l : Launch) (w : zP) (hw : zOK w) (Ω : Mem) (a : As) (h : RM Ω a) (x y : Int) (hx : zb x) (hy : zb y) : zM l w yX5_picture wsX5_picture 2 45 [.ref (wa w 49), .int (zI x), .int (zI y)] Ω (zi (fun r Ω1 => r = (aPicture a x y).1 ∧ RM Ω1 (aPicture a x y).2 ∧ frG Ω Ω1)) := by
  refine zM_of cX5_picture 4 (some .int) RX5 [some (.ref (wa w 49)), some (.int (zI x)), some (.int (zI y)), none] hw (by decide +kernel) rfl rfl (Nat.le_of_ble_eq_true rfl) rfl (fun E hC => ?_)
  have hv := h.1.2
  have hσ := h.1.1
  have z0 : gt Ω 50 0 = a.1 0 := st_at hσ (by decide)
  have z1 : gt Ω 50 1 = a.1 1 := st_at hσ (by decide)
  have hN := sdots_le hv
  have hw01 := hv.1
  have hh01 := hv.2.1
  refine z_iload_n (pc := 0) hC (i := 1) dX5_picture_0 rfl rfl ?_
  refine z_iconst (pc := 1) hC dX5_picture_1 ?_
  refine z_bipush (pc := 2) hC dX5_picture_2 rfl ?_
  refine z_callS (n := 3) (pc := 4) hC (c_X5_in l w hw _ _ _ _ (by first | assumption | exact zb_gt _ _ _ | exact zcmp_zb _ _ | exact bI_zb _ | exact ⟨by omega, by omega⟩) (by first | assumption | exact zb_gt _ _ _ | exact zcmp_zb _ _ | exact bI_zb _ | exact ⟨by omega, by omega⟩) (by first | assumption | exact zb_gt _ _ _ | exact zcmp_zb _ _ | exact bI_zb _ | exact ⟨by omega, by omega⟩)) gX5_picture_X5_in rfl (by decide +kernel) (by decide) (by decide) rfl rfl (Nat.le_of_ble_eq_true rfl) dX5_picture_4 (zb_k fun r4 Ω4 h4 => ?_)
  obtain ⟨rfl, hM4⟩ := h4
  obtain rfl := hM4.symm
  refine z_ifd_eq (pc := 7) hC 20 dX5_picture_7 rfl (fun h7 => ?_) (fun h7 => ?_)
  · refine z_aload_n (pc := 20) hC (i := 0) dX5_picture_20 rfl rfl ?_
    refine z_callV (n := 0) (T := TX5) (N := 15) (ci := 5) (pc := 21) hC (c_X5_bad l w hw _) gX5_picture_X5_bad rfl (by decide +kernel) (by decide) (by decide) rfl (by decide) (fun _ => rfl) rfl rfl (Nat.le_of_ble_eq_true rfl) dX5_picture_21 (zi_k fun r21 Ω21 h21 => ?_)
    obtain ⟨rfl, rfl⟩ := h21
    exact z_iret (pc := 24) hC rfl ⟨_, rfl, bad_retM h (if_neg (by omega))⟩ dX5_picture_24
  · refine z_iload_n (pc := 10) hC (i := 2) dX5_picture_10 rfl rfl ?_
    refine z_iconst (pc := 11) hC dX5_picture_11 ?_
    refine z_bipush (pc := 12) hC dX5_picture_12 rfl ?_
    refine z_callS (n := 3) (pc := 14) hC (c_X5_in l w hw _ _ _ _ (by first | assumption | exact zb_gt _ _ _ | exact zcmp_zb _ _ | exact bI_zb _ | exact ⟨by omega, by omega⟩) (by first | assumption | exact zb_gt _ _ _ | exact zcmp_zb _ _ | exact bI_zb _ | exact ⟨by omega, by omega⟩) (by first | assumption | exact zb_gt _ _ _ | exact zcmp_zb _ _ | exact bI_zb _ | exact ⟨by omega, by omega⟩)) gX5_picture_X5_in rfl (by decide +kernel) (by decide) (by decide) rfl rfl (Nat.le_of_ble_eq_true rfl) dX5_picture_14 (zb_k fun r14 Ω14 h14 => ?_)
    obtain ⟨rfl, hM14⟩ := h14
    obtain rfl := hM14.symm
    refine z_ifd_ne (pc := 17) hC 25 dX5_picture_17 rfl (fun h17 => ?_) (fun h17 => ?_)
    · refine z_aload_n (pc := 25) hC (i := 0) dX5_picture_25 rfl rfl ?_
      refine z_callV (n := 0) (T := TX5) (N := 15) (ci := 5) (pc := 26) hC (c_X5_leaves l w hw _ a h) gX5_picture_X5_leaves rfl (by decide +kernel) (by decide) (by decide) rfl (by decide) (fun _ => rfl) rfl rfl (Nat.le_of_ble_eq_true rfl) dX5_picture_26 (zv_k fun Ω26 h26 => ?_)
      obtain ⟨hR, hfr⟩ := h26
      have hsR := hR.1.1
      have z0R : gt Ω26 50 0 = a.1 0 := st_at hsR (by decide)
      have z1R : gt Ω26 50 1 = a.1 1 := st_at hsR (by decide)
      refine z_aload_n (pc := 29) hC (i := 0) dX5_picture_29 rfl rfl ?_
      refine z_getR (C := RX5) (T := TX5) (N := 15) (ci := 5) (pc := 30) hC _ _ 0 in_X5_picture_X5 rfl (by decide) (fun _ => rfl) (by decide) fl_X5_picture_7 (fun _ => rfl) dX5_picture_30 ?_
      refine z_iconst (pc := 33) hC dX5_picture_33 ?_
      refine z_iload_n (pc := 34) hC (i := 1) dX5_picture_34 rfl rfl ?_
      refine z_iask (pc := 35) hC _ 0 (by decide) (fun _ => rfl) rfl (by decide) (by decide) dX5_picture_35 ?_
      refine z_aload_n (pc := 36) hC (i := 0) dX5_picture_36 rfl rfl ?_
      refine z_getR (C := RX5) (T := TX5) (N := 15) (ci := 5) (pc := 37) hC _ _ 0 in_X5_picture_X5 rfl (by decide) (fun _ => rfl) (by decide) fl_X5_picture_7 (fun _ => rfl) dX5_picture_37 ?_
      refine z_iconst (pc := 40) hC dX5_picture_40 ?_
      refine z_iload_n (pc := 41) hC (i := 2) dX5_picture_41 rfl rfl ?_
      refine z_iask (pc := 42) hC _ 1 (by decide) (fun _ => rfl) rfl (by decide) (by decide) dX5_picture_42 ?_
      refine z_bipush (pc := 43) hC dX5_picture_43 rfl ?_
      refine z_istore_n (pc := 45) hC (i := 3) dX5_picture_45 rfl (by decide) rfl (zS_s (zS_s (zS_s zS_0))) ?_
      refine L_X5_picture_46 hw hC a.1 x y Ω26 (fun Ω1 hs1 hF1 => ?_) 80 8 _ (by omega) (by omega) (by omega) (by rw [scM_up _ (k := 1) (v := y) (by decide) (by assumption), scM_up _ (k := 0) (v := x) (by decide) (by assumption), hsR]; exact sbk_8 a.1 x y) (fun q hq => by rw [ups_n _ _ _ hq, ups_n _ _ _ hq])
      rw [sbk_e] at hs1
      have e0 : gt Ω1 50 0 = x := st_at hs1 (by decide)
      have e1 : gt Ω1 50 1 = y := st_at hs1 (by decide)
      refine z_aload_n (pc := 65) hC (i := 0) dX5_picture_65 rfl rfl ?_
      refine z_callV (n := 0) (T := TX5) (N := 15) (ci := 5) (pc := 66) hC (c_X5_dots l w hw _) gX5_picture_X5_dots rfl (by decide +kernel) (by decide) (by decide) rfl (by decide) (fun _ => rfl) rfl rfl (Nat.le_of_ble_eq_true rfl) dX5_picture_66 (zi_k fun r66 Ω66 h66 => ?_)
      obtain ⟨rfl, hM66⟩ := h66
      obtain rfl := hM66.symm
      exact z_iret (pc := 69) hC rfl ⟨_, rfl, by
        rw [e0, e1]
        exact ok_retM (if_pos ⟨by omega, by omega⟩) (hR.set hs1 (scok_sbl hv (by omega) (by omega)) (fun k _ => gt_fr (hF1 49 (by decide)) k) (fun q u v => hF1 q (by omega))) (hfr.trans (fun q hq => hF1 q (by omega)))⟩ dX5_picture_69
    · refine z_aload_n (pc := 20) hC (i := 0) dX5_picture_20 rfl rfl ?_
      refine z_callV (n := 0) (T := TX5) (N := 15) (ci := 5) (pc := 21) hC (c_X5_bad l w hw _) gX5_picture_X5_bad rfl (by decide +kernel) (by decide) (by decide) rfl (by decide) (fun _ => rfl) rfl rfl (Nat.le_of_ble_eq_true rfl) dX5_picture_21 (zi_k fun r21 Ω21 h21 => ?_)
      obtain ⟨rfl, rfl⟩ := h21
      exact z_iret (pc := 24) hC rfl ⟨_, rfl, bad_retM h (if_neg (by omega))⟩ dX5_picture_24
