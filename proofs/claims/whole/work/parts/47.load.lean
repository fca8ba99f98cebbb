theorem fl_X1_loadPulls_9 : Cond.fieldLink RX1 9 "StrokeCuts$Network" "fromFigure" "[I" ∈ wsX1_loadPulls := by decide +kernel
theorem in_X1_loadPulls_X1 : ∀ x ∈ u_ws RX1 TX1 8, x ∈ wsX1_loadPulls := by decide +kernel
theorem fl_X1_loadPulls_15 : Cond.fieldLink RX1 15 "StrokeCuts$Network" "toGround" "[I" ∈ wsX1_loadPulls := by decide +kernel
theorem kc_X1_loadPulls_77 : Cond.constant RX1 77 (1000000) ∈ wsX1_loadPulls := by decide +kernel
set_option maxHeartbeats 4000000 in
set_option maxRecDepth 100000 in
theorem c_X1_loadPulls (l : Launch) (w : zP) (hw : zOK w) (Ω : Mem) (k : Nat) (t : Int) (hv : scok (scC Ω)) (hk : k < 36) (ht : zb t) : zM l w yX1_loadPulls wsX1_loadPulls 2 43 [.ref (wa w 3), .ref (wa w 13), .int (zI (k : Int)), .int (zI t)] Ω (zvo (fun Ω1 => Ω1 = ups (ups Ω 4 k (sPl (scC Ω) k 4 + if t = 1 then 1000000 else 0)) 5 k (sPl (scC Ω) k 3 + if t = 2 then 1000000 else 0))) := by
  refine zM_of cX1_loadPulls 4 none RX1 [some (.ref (wa w 3)), some (.ref (wa w 13)), some (.int (zI (k : Int))), some (.int (zI t))] hw (by decide +kernel) rfl rfl (Nat.le_of_ble_eq_true rfl) rfl (fun E hC => ?_)
  refine z_aload_n (pc := 0) hC (i := 0) dX1_loadPulls_0 rfl rfl ?_
  refine z_getR (C := RX1) (T := TX1) (N := 8) (ci := 1) (pc := 1) hC _ _ 1 in_X1_loadPulls_X1 rfl (by decide) (fun _ => rfl) (by decide) fl_X1_loadPulls_9 (fun _ => rfl) dX1_loadPulls_1 ?_
  refine z_iload_n (pc := 4) hC (i := 2) dX1_loadPulls_4 rfl rfl ?_
  refine z_aload_n (pc := 5) hC (i := 1) dX1_loadPulls_5 rfl rfl ?_
  refine z_iload_n (pc := 6) hC (i := 2) dX1_loadPulls_6 rfl rfl ?_
  refine z_iconst (pc := 7) hC dX1_loadPulls_7 ?_
  refine z_callV (n := 2) (T := TX2) (N := 5) (ci := 2) (pc := 8) hC (c_X2_pullFrom l w hw _ k 4 hv (by omega) (by omega)) gX1_loadPulls_X2_pullFrom rfl (by decide +kernel) (by decide) (by decide) rfl (by decide) (fun _ => rfl) rfl rfl (Nat.le_of_ble_eq_true rfl) dX1_loadPulls_8 (zi_k fun r8 Ω8 h8 => ?_)
  obtain ⟨rfl, hM8⟩ := h8
  obtain rfl := hM8.symm
  refine z_iload_n (pc := 11) hC (i := 3) dX1_loadPulls_11 rfl rfl ?_
  refine z_iconst (pc := 12) hC dX1_loadPulls_12 ?_
  refine z_icmp_ne (pc := 13) hC 21 (by first | assumption | exact zb_gt _ _ _ | exact zcmp_zb _ _ | exact bI_zb _ | exact ⟨by omega, by omega⟩) (by first | assumption | exact zb_gt _ _ _ | exact zcmp_zb _ _ | exact bI_zb _ | exact ⟨by omega, by omega⟩) dX1_loadPulls_13 rfl (fun h13 => ?_) (fun h13 => ?_)
  · refine z_iconst (pc := 21) hC dX1_loadPulls_21 ?_
    refine z_iadd (pc := 22) hC dX1_loadPulls_22 ?_
    refine z_iask (pc := 23) hC _ k (by decide) (fun _ => rfl) rfl (by omega) (by decide) dX1_loadPulls_23 ?_
    refine z_aload_n (pc := 24) hC (i := 0) dX1_loadPulls_24 rfl rfl ?_
    refine z_getR (C := RX1) (T := TX1) (N := 8) (ci := 1) (pc := 25) hC _ _ 2 in_X1_loadPulls_X1 rfl (by decide) (fun _ => rfl) (by decide) fl_X1_loadPulls_15 (fun _ => rfl) dX1_loadPulls_25 ?_
    refine z_iload_n (pc := 28) hC (i := 2) dX1_loadPulls_28 rfl rfl ?_
    refine z_aload_n (pc := 29) hC (i := 1) dX1_loadPulls_29 rfl rfl ?_
    refine z_iload_n (pc := 30) hC (i := 2) dX1_loadPulls_30 rfl rfl ?_
    refine z_iconst (pc := 31) hC dX1_loadPulls_31 ?_
    refine z_callV (n := 2) (T := TX2) (N := 5) (ci := 2) (pc := 32) hC (c_X2_pullFrom l w hw _ k 3 (by rw [scC_cong (ups_n _ _ _ (by decide)) (ups_n _ _ _ (by decide)) (ups_n _ _ _ (by decide)) (ups_n _ _ _ (by decide))]; exact hv) (by omega) (by omega)) gX1_loadPulls_X2_pullFrom rfl (by decide +kernel) (by decide) (by decide) rfl (by decide) (fun _ => rfl) rfl rfl (Nat.le_of_ble_eq_true rfl) dX1_loadPulls_32 (zi_k fun r32 Ω32 h32 => ?_)
    obtain ⟨hr32, hm32⟩ := h32
    have hm32 := hm32.symm
    subst hm32
    rw [scC_cong (ups_n _ _ _ (by decide)) (ups_n _ _ _ (by decide)) (ups_n _ _ _ (by decide)) (ups_n _ _ _ (by decide))] at hr32
    subst hr32
    refine z_iload_n (pc := 35) hC (i := 3) dX1_loadPulls_35 rfl rfl ?_
    refine z_iconst (pc := 36) hC dX1_loadPulls_36 ?_
    refine z_icmp_ne (pc := 37) hC 45 (by first | assumption | exact zb_gt _ _ _ | exact zcmp_zb _ _ | exact bI_zb _ | exact ⟨by omega, by omega⟩) (by first | assumption | exact zb_gt _ _ _ | exact zcmp_zb _ _ | exact bI_zb _ | exact ⟨by omega, by omega⟩) dX1_loadPulls_37 rfl (fun h37 => ?_) (fun h37 => ?_)
    · refine z_iconst (pc := 45) hC dX1_loadPulls_45 ?_
      refine z_iadd (pc := 46) hC dX1_loadPulls_46 ?_
      refine z_iask (pc := 47) hC _ k (by decide) (fun _ => rfl) rfl (by omega) (by decide) dX1_loadPulls_47 ?_
      exact z_vret (pc := 48) hC rfl ⟨rfl, by rw [if_neg h13, if_neg h37]⟩ dX1_loadPulls_48
    · refine z_ldc (pc := 40) hC (n := 1000000) kc_X1_loadPulls_77 rfl dX1_loadPulls_40 ?_
      refine z_goto (pc := 42) hC 46 dX1_loadPulls_42 rfl ?_
      refine z_iadd (pc := 46) hC dX1_loadPulls_46 ?_
      refine z_iask (pc := 47) hC _ k (by decide) (fun _ => rfl) rfl (by omega) (by decide) dX1_loadPulls_47 ?_
      exact z_vret (pc := 48) hC rfl ⟨rfl, by rw [if_neg h13, if_pos h37]⟩ dX1_loadPulls_48
  · refine z_ldc (pc := 16) hC (n := 1000000) kc_X1_loadPulls_77 rfl dX1_loadPulls_16 ?_
    refine z_goto (pc := 18) hC 22 dX1_loadPulls_18 rfl ?_
    refine z_iadd (pc := 22) hC dX1_loadPulls_22 ?_
    refine z_iask (pc := 23) hC _ k (by decide) (fun _ => rfl) rfl (by omega) (by decide) dX1_loadPulls_23 ?_
    refine z_aload_n (pc := 24) hC (i := 0) dX1_loadPulls_24 rfl rfl ?_
    refine z_getR (C := RX1) (T := TX1) (N := 8) (ci := 1) (pc := 25) hC _ _ 2 in_X1_loadPulls_X1 rfl (by decide) (fun _ => rfl) (by decide) fl_X1_loadPulls_15 (fun _ => rfl) dX1_loadPulls_25 ?_
    refine z_iload_n (pc := 28) hC (i := 2) dX1_loadPulls_28 rfl rfl ?_
    refine z_aload_n (pc := 29) hC (i := 1) dX1_loadPulls_29 rfl rfl ?_
    refine z_iload_n (pc := 30) hC (i := 2) dX1_loadPulls_30 rfl rfl ?_
    refine z_iconst (pc := 31) hC dX1_loadPulls_31 ?_
    refine z_callV (n := 2) (T := TX2) (N := 5) (ci := 2) (pc := 32) hC (c_X2_pullFrom l w hw _ k 3 (by rw [scC_cong (ups_n _ _ _ (by decide)) (ups_n _ _ _ (by decide)) (ups_n _ _ _ (by decide)) (ups_n _ _ _ (by decide))]; exact hv) (by omega) (by omega)) gX1_loadPulls_X2_pullFrom rfl (by decide +kernel) (by decide) (by decide) rfl (by decide) (fun _ => rfl) rfl rfl (Nat.le_of_ble_eq_true rfl) dX1_loadPulls_32 (zi_k fun r32 Ω32 h32 => ?_)
    obtain ⟨hr32, hm32⟩ := h32
    have hm32 := hm32.symm
    subst hm32
    rw [scC_cong (ups_n _ _ _ (by decide)) (ups_n _ _ _ (by decide)) (ups_n _ _ _ (by decide)) (ups_n _ _ _ (by decide))] at hr32
    subst hr32
    refine z_iload_n (pc := 35) hC (i := 3) dX1_loadPulls_35 rfl rfl ?_
    refine z_iconst (pc := 36) hC dX1_loadPulls_36 ?_
    refine z_icmp_ne (pc := 37) hC 45 (by first | assumption | exact zb_gt _ _ _ | exact zcmp_zb _ _ | exact bI_zb _ | exact ⟨by omega, by omega⟩) (by first | assumption | exact zb_gt _ _ _ | exact zcmp_zb _ _ | exact bI_zb _ | exact ⟨by omega, by omega⟩) dX1_loadPulls_37 rfl (fun h37 => ?_) (fun h37 => ?_)
    · refine z_iconst (pc := 45) hC dX1_loadPulls_45 ?_
      refine z_iadd (pc := 46) hC dX1_loadPulls_46 ?_
      refine z_iask (pc := 47) hC _ k (by decide) (fun _ => rfl) rfl (by omega) (by decide) dX1_loadPulls_47 ?_
      exact z_vret (pc := 48) hC rfl ⟨rfl, by rw [if_pos h13, if_neg h37]⟩ dX1_loadPulls_48
    · refine z_ldc (pc := 40) hC (n := 1000000) kc_X1_loadPulls_77 rfl dX1_loadPulls_40 ?_
      refine z_goto (pc := 42) hC 46 dX1_loadPulls_42 rfl ?_
      refine z_iadd (pc := 46) hC dX1_loadPulls_46 ?_
      refine z_iask (pc := 47) hC _ k (by decide) (fun _ => rfl) rfl (by omega) (by decide) dX1_loadPulls_47 ?_
      exact z_vret (pc := 48) hC rfl ⟨rfl, by rw [if_pos h13, if_pos h37]⟩ dX1_loadPulls_48
theorem fl_X1_join_18 : Cond.fieldLink RX1 18 "StrokeCuts$Network" "neighbour" "[I" ∈ wsX1_join := by decide +kernel
theorem in_X1_join_X1 : ∀ x ∈ u_ws RX1 TX1 8, x ∈ wsX1_join := by decide +kernel
theorem fl_X1_join_21 : Cond.fieldLink RX1 21 "StrokeCuts$Network" "room" "[I" ∈ wsX1_join := by decide +kernel
set_option maxHeartbeats 4000000 in
set_option maxRecDepth 100000 in
theorem c_X1_join (l : Launch) (w : zP) (hw : zOK w) (Ω : Mem) (a o d : Nat) (t : Int) (ha : a < 36) (ho : o < 36) (hd : d < 4) : zM l w yX1_join wsX1_join 1 20 [.ref (wa w 3), .int (zI (a : Int)), .int (zI (o : Int)), .int (zI (d : Int)), .int (zI t)] Ω (zvo (fun Ω1 => Ω1 = ups (ups (ups (ups Ω 6 (a * 8 + d) (o : Int)) 6 (o * 8 + (d + 4)) (a : Int)) 7 (a * 8 + d) t) 7 (o * 8 + (d + 4)) t)) := by
  refine zM_of cX1_join 7 none RX1 [some (.ref (wa w 3)), some (.int (zI (a : Int))), some (.int (zI (o : Int))), some (.int (zI (d : Int))), some (.int (zI t)), none, none] hw (by decide +kernel) rfl rfl (Nat.le_of_ble_eq_true rfl) rfl (fun E hC => ?_)
  refine z_iload_n (pc := 0) hC (i := 1) dX1_join_0 rfl rfl ?_
  refine z_bipush (pc := 1) hC dX1_join_1 rfl ?_
  refine z_imul (pc := 3) hC dX1_join_3 ?_
  refine z_iload_n (pc := 4) hC (i := 3) dX1_join_4 rfl rfl ?_
  refine z_iadd (pc := 5) hC dX1_join_5 ?_
  refine z_istore (pc := 6) hC (i := 5) dX1_join_6 (by decide) rfl (zS_s (zS_s (zS_s (zS_s (zS_s zS_0))))) ?_
  refine z_iload_n (pc := 8) hC (i := 2) dX1_join_8 rfl rfl ?_
  refine z_bipush (pc := 9) hC dX1_join_9 rfl ?_
  refine z_imul (pc := 11) hC dX1_join_11 ?_
  refine z_iload_n (pc := 12) hC (i := 3) dX1_join_12 rfl rfl ?_
  refine z_callS (n := 1) (pc := 13) hC (c_X1_reverse l w hw _ d (by omega)) gX1_join_X1_reverse rfl (by decide +kernel) (by decide) (by decide) rfl rfl (Nat.le_of_ble_eq_true rfl) dX1_join_13 (zi_k fun r13 Ω13 h13 => ?_)
  obtain ⟨hr13, hm13⟩ := h13
  have hm13 := hm13.symm
  subst hm13
  rw [show rv d = d + 4 from if_pos hd] at hr13
  subst hr13
  refine z_iadd (pc := 16) hC dX1_join_16 ?_
  refine z_istore (pc := 17) hC (i := 6) dX1_join_17 (by decide) rfl (zS_s (zS_s (zS_s (zS_s (zS_s (zS_s zS_0)))))) ?_
  refine z_aload_n (pc := 19) hC (i := 0) dX1_join_19 rfl rfl ?_
  refine z_getR (C := RX1) (T := TX1) (N := 8) (ci := 1) (pc := 20) hC _ _ 3 in_X1_join_X1 rfl (by decide) (fun _ => rfl) (by decide) fl_X1_join_18 (fun _ => rfl) dX1_join_20 ?_
  refine z_iload (pc := 23) hC (i := 5) dX1_join_23 rfl ?_
  refine z_iload_n (pc := 25) hC (i := 2) dX1_join_25 rfl rfl ?_
  refine z_iask (pc := 26) hC _ (a * 8 + d) (by decide) (fun _ => rfl) (by omega) (by omega) (by decide) dX1_join_26 ?_
  refine z_aload_n (pc := 27) hC (i := 0) dX1_join_27 rfl rfl ?_
  refine z_getR (C := RX1) (T := TX1) (N := 8) (ci := 1) (pc := 28) hC _ _ 3 in_X1_join_X1 rfl (by decide) (fun _ => rfl) (by decide) fl_X1_join_18 (fun _ => rfl) dX1_join_28 ?_
  refine z_iload (pc := 31) hC (i := 6) dX1_join_31 rfl ?_
  refine z_iload_n (pc := 33) hC (i := 1) dX1_join_33 rfl rfl ?_
  refine z_iask (pc := 34) hC _ (o * 8 + (d + 4)) (by decide) (fun _ => rfl) (by omega) (by omega) (by decide) dX1_join_34 ?_
  refine z_aload_n (pc := 35) hC (i := 0) dX1_join_35 rfl rfl ?_
  refine z_getR (C := RX1) (T := TX1) (N := 8) (ci := 1) (pc := 36) hC _ _ 4 in_X1_join_X1 rfl (by decide) (fun _ => rfl) (by decide) fl_X1_join_21 (fun _ => rfl) dX1_join_36 ?_
  refine z_iload (pc := 39) hC (i := 5) dX1_join_39 rfl ?_
  refine z_iload (pc := 41) hC (i := 4) dX1_join_41 rfl ?_
  refine z_iask (pc := 43) hC _ (a * 8 + d) (by decide) (fun _ => rfl) (by omega) (by omega) (by decide) dX1_join_43 ?_
  refine z_aload_n (pc := 44) hC (i := 0) dX1_join_44 rfl rfl ?_
  refine z_getR (C := RX1) (T := TX1) (N := 8) (ci := 1) (pc := 45) hC _ _ 4 in_X1_join_X1 rfl (by decide) (fun _ => rfl) (by decide) fl_X1_join_21 (fun _ => rfl) dX1_join_45 ?_
  refine z_iload (pc := 48) hC (i := 6) dX1_join_48 rfl ?_
  refine z_iload (pc := 50) hC (i := 4) dX1_join_50 rfl ?_
  refine z_iask (pc := 52) hC _ (o * 8 + (d + 4)) (by decide) (fun _ => rfl) (by omega) (by omega) (by decide) dX1_join_52 ?_
  exact z_vret (pc := 53) hC rfl ⟨rfl, rfl⟩ dX1_join_53
/-- how far the loading has come: t links, n dots' pulls -/
def LI (σ : Sg) (t n : Nat) (Ω0 Ω : Mem) : Prop :=
  (∀ v, v < n → gt Ω 4 v = sPl σ v 4 + (if σ (44 + v) = 1 then 1000000 else 0) ∧ gt Ω 5 v = sPl σ v 3 + (if σ (44 + v) = 2 then 1000000 else 0)) ∧
  (∀ e, e < 8 * sdots σ → gt Ω 6 e = nbP σ t e) ∧ (∀ e, e < 8 * sdots σ → 0 ≤ nbP σ t e → gt Ω 7 e = wF σ e) ∧ gt Ω 3 0 = (sdots σ : Int) ∧
  (∀ q, q ≠ 3 → q ≠ 4 → q ≠ 5 → q ≠ 6 → q ≠ 7 → Ω q = Ω0 q)
theorem LI.sc {σ : Sg} {t n : Nat} {Ω0 Ω : Mem} (h : LI σ t n Ω0 Ω) : scC Ω = scC Ω0 := scC_cong (h.2.2.2.2 13 (by decide) (by decide) (by decide) (by decide) (by decide)) (h.2.2.2.2 14 (by decide) (by decide) (by decide) (by decide) (by decide)) (h.2.2.2.2 15 (by decide) (by decide) (by decide) (by decide) (by decide)) (h.2.2.2.2 16 (by decide) (by decide) (by decide) (by decide) (by decide))
theorem LI.no {σ : Sg} (hv : scok σ) {v d n : Nat} {Ω0 Ω : Mem} (h : LI σ (4 * v + d) n Ω0 Ω) (hd : d < 4) (hl : lk σ v d = -1) : LI σ (4 * v + d + 1) n Ω0 Ω := by
  obtain ⟨h1, h2, h3, h4, h5⟩ := h
  exact ⟨h1, fun e he => by rw [nbP_no hv hd hl he]; exact h2 e he, fun e he => by rw [nbP_no hv hd hl he]; exact h3 e he, h4, h5⟩
theorem LI.yes {σ : Sg} (hv : scok σ) {v d o n : Nat} {Ω0 Ω : Mem} (h : LI σ (4 * v + d) n Ω0 Ω) (hvN : v < sdots σ) (hd : d < 4) (hl : lk σ v d = (o : Int)) : LI σ (4 * v + d + 1) n Ω0 (ups (ups (ups (ups Ω 6 (v * 8 + d) (o : Int)) 6 (o * 8 + (d + 4)) (v : Int)) 7 (v * 8 + d) (sWt σ v o d)) 7 (o * 8 + (d + 4)) (sWt σ v o d)) := by
  obtain ⟨h1, h2, h3, h4, h5⟩ := h
  have hN := sdots_le hv
  obtain ⟨o1, g1, g2, g3, g4⟩ := lk_inv hv hvN hd (by omega)
  obtain rfl : o1 = o := by omega
  have hwt := sWt_b hv d (show v < 36 by omega) (show o1 < 36 by omega)
  have hw := wF_yes hv hvN hd hl
  have zw : zb (sWt σ v o1 d) := ⟨by omega, by omega⟩
  have e6 : gt (ups (ups (ups (ups Ω 6 (v * 8 + d) (o1 : Int)) 6 (o1 * 8 + (d + 4)) (v : Int)) 7 (v * 8 + d) (sWt σ v o1 d)) 7 (o1 * 8 + (d + 4)) (sWt σ v o1 d)) 6 = fup (fup (gt Ω 6) (v * 8 + d) o1) (o1 * 8 + (d + 4)) v := by
    rw [gt_nf _ _ _ (by decide), gt_nf _ _ _ (by decide), gt_fup _ _ _ ⟨by omega, by omega⟩, gt_fup _ _ _ ⟨by omega, by omega⟩]
  have e7 : gt (ups (ups (ups (ups Ω 6 (v * 8 + d) (o1 : Int)) 6 (o1 * 8 + (d + 4)) (v : Int)) 7 (v * 8 + d) (sWt σ v o1 d)) 7 (o1 * 8 + (d + 4)) (sWt σ v o1 d)) 7 = fup (fup (gt Ω 7) (v * 8 + d) (sWt σ v o1 d)) (o1 * 8 + (d + 4)) (sWt σ v o1 d) := by
    rw [gt_fup _ _ _ zw, gt_fup _ _ _ zw, gt_nf _ _ _ (by decide), gt_nf _ _ _ (by decide)]
  refine ⟨fun u hu => ?_, fun e he => ?_, fun e he h0 => ?_, ?_, fun q a b c d' e => ?_⟩
  · rw [gt_n _ _ _ _ (by decide), gt_n _ _ _ _ (by decide), gt_n _ _ _ _ (by decide), gt_n _ _ _ _ (by decide), gt_n _ _ _ _ (by decide), gt_n _ _ _ _ (by decide), gt_n _ _ _ _ (by decide), gt_n _ _ _ _ (by decide)]
    exact h1 u hu
  · rw [e6, nbP_yes hv hvN hd hl he]
    by_cases q1 : e = o1 * 8 + (d + 4)
    · rw [q1, fup_s, fup_s]
    · rw [fup_n _ _ q1, fup_n _ _ q1]
      by_cases q2 : e = v * 8 + d
      · rw [q2, fup_s, fup_s]
      · rw [fup_n _ _ q2, fup_n _ _ q2]; exact h2 e he
  · rw [e7]
    rw [nbP_yes hv hvN hd hl he] at h0
    by_cases q1 : e = o1 * 8 + (d + 4)
    · rw [q1, fup_s, hw.2]
    · rw [fup_n _ _ q1] at h0 ⊢
      by_cases q2 : e = v * 8 + d
      · rw [q2, fup_s, hw.1]
      · rw [fup_n _ _ q2] at h0 ⊢; exact h3 e he h0
  · rw [gt_n _ _ _ _ (by decide), gt_n _ _ _ _ (by decide), gt_n _ _ _ _ (by decide), gt_n _ _ _ _ (by decide)]; exact h4
  · rw [ups_n _ _ _ e, ups_n _ _ _ e, ups_n _ _ _ d', ups_n _ _ _ d']; exact h5 q a b c d' e
theorem LI.pull {σ : Sg} (hv : scok σ) {t n : Nat} {Ω0 Ω : Mem} (h : LI σ t n Ω0 Ω) (hn : n < sdots σ) : LI σ t (n + 1) Ω0 (ups (ups Ω 4 n (sPl σ n 4 + if σ (44 + n) = 1 then 1000000 else 0)) 5 n (sPl σ n 3 + if σ (44 + n) = 2 then 1000000 else 0)) := by
  obtain ⟨h1, h2, h3, h4, h5⟩ := h
  have hN := sdots_le hv
  have b1 := sPl_b hv (a := n) (t := 4) (by omega) (Or.inr rfl)
  have b2 := sPl_b hv (a := n) (t := 3) (by omega) (Or.inl rfl)
  have z1 : zb (sPl σ n 4 + if σ (44 + n) = 1 then 1000000 else 0) := by split <;> exact ⟨by omega, by omega⟩
  have z2 : zb (sPl σ n 3 + if σ (44 + n) = 2 then 1000000 else 0) := by split <;> exact ⟨by omega, by omega⟩
  refine ⟨fun u hu => ?_, fun e he => ?_, fun e he => ?_, ?_, fun q a b c d e => ?_⟩
  · rw [gt_n _ _ _ _ (by decide)]
    by_cases q : u = n
    · subst q; rw [gt_s _ _ _ z1, gt_s _ _ _ z2]; exact ⟨rfl, rfl⟩
    · rw [gt_sn _ _ _ q, gt_sn _ _ _ q, gt_n _ _ _ _ (by decide)]; exact h1 u (by omega)
  · rw [gt_n _ _ _ _ (by decide), gt_n _ _ _ _ (by decide)]; exact h2 e he
  · rw [gt_n _ _ _ _ (by decide), gt_n _ _ _ _ (by decide)]; exact h3 e he
  · rw [gt_n _ _ _ _ (by decide), gt_n _ _ _ _ (by decide)]; exact h4
  · rw [ups_n _ _ _ c, ups_n _ _ _ b]; exact h5 q a b c d e
/-- what a loading leaves alone -/
def frL (Ω Ω1 : Mem) : Prop := ∀ q, q ≠ 3 → q ≠ 4 → q ≠ 5 → q ≠ 6 → q ≠ 7 → Ω1 q = Ω q
theorem LI.net {σ : Sg} {Ω0 Ω : Mem} (h : LI σ (4 * sdots σ) (sdots σ) Ω0 Ω) : netok σ (gt Ω 4) (gt Ω 5) (gt Ω 6) (gt Ω 7) :=
  ⟨fun v hv => (h.1 v hv).1, fun v hv => (h.1 v hv).2, h.2.1, fun e he h0 => h.2.2.1 e he (by rw [← h.2.1 e he]; exact h0)⟩

theorem fl_X1_load_18 : Cond.fieldLink RX1 18 "StrokeCuts$Network" "neighbour" "[I" ∈ wsX1_load := by decide +kernel
theorem in_X1_load_X1 : ∀ x ∈ u_ws RX1 TX1 8, x ∈ wsX1_load := by decide +kernel
set_option maxHeartbeats 4000000 in
set_option maxRecDepth 100000 in
theorem L_X1_load_10 {E : zE} {w : zP} {l : Launch} {Post : Option Value → Mem → Prop} (hw : zOK w) (hC : zC E w l RX1 wsX1_load cX1_load 7 3 66 none Post) (Ω0 : Mem) (K : ∀ Ω : Mem, (∀ e, e < 288 → gt Ω 6 e = -1) → (∀ q, q ≠ 6 → Ω q = Ω0 q) → X E Ω 32 [some (.ref (wa w 3)), some (.ref (wa w 13)), some (.int (zI ((288 : Nat) : Int))), none, none, none, none] []) : ∀ (n : Nat) (i : Nat) (Ω : Mem), 288 < i + n → (i ≤ 288) → (∀ e, e < i → gt Ω 6 e = -1) → (∀ q, q ≠ 6 → Ω q = Ω0 q) → X E Ω 10 [some (.ref (wa w 3)), some (.ref (wa w 13)), some (.int (zI (i : Int))), none, none, none, none] [] := by
  intro n
  induction n with
  | zero =>
    intro i Ω hfu hi h6 hF
    exact absurd hfu (by omega)
  | succ n ih =>
    intro i Ω hfu hi h6 hF
    refine z_iload_n (pc := 10) hC (i := 2) dX1_load_10 rfl rfl ?_
    refine z_aload_n (pc := 11) hC (i := 0) dX1_load_11 rfl rfl ?_
    refine z_getR (C := RX1) (T := TX1) (N := 8) (ci := 1) (pc := 12) hC _ _ 3 in_X1_load_X1 rfl (by decide) (fun _ => rfl) (by decide) fl_X1_load_18 (fun _ => rfl) dX1_load_12 ?_
    refine z_alen (pc := 15) hC _ (by decide) (fun _ => rfl) dX1_load_15 ?_
    refine z_icmp_ge (pc := 16) hC 32 (by first | assumption | exact zb_gt _ _ _ | exact zcmp_zb _ _ | exact bI_zb _ | exact ⟨by omega, by omega⟩) (by first | assumption | exact zb_gt _ _ _ | exact zcmp_zb _ _ | exact bI_zb _ | exact ⟨by omega, by omega⟩) dX1_load_16 rfl (fun h16 => ?_) (fun h16 => ?_)
    · obtain rfl : i = 288 := by omega
      exact K Ω h6 hF
    · refine z_aload_n (pc := 19) hC (i := 0) dX1_load_19 rfl rfl ?_
      refine z_getR (C := RX1) (T := TX1) (N := 8) (ci := 1) (pc := 20) hC _ _ 3 in_X1_load_X1 rfl (by decide) (fun _ => rfl) (by decide) fl_X1_load_18 (fun _ => rfl) dX1_load_20 ?_
      refine z_iload_n (pc := 23) hC (i := 2) dX1_load_23 rfl rfl ?_
      refine z_iconst (pc := 24) hC dX1_load_24 ?_
      refine z_iask (pc := 25) hC _ i (by decide) (fun _ => rfl) rfl (by omega) (by decide) dX1_load_25 ?_
      refine z_iinc (pc := 26) hC (i := 2) dX1_load_26 rfl (by decide) rfl (zS_s (zS_s zS_0)) ?_
      refine z_goto (pc := 29) hC 10 dX1_load_29 rfl ?_
      refine ih (i + 1) _ (by omega) (by omega) (fun e he => ?_) (fun q hq => by rw [ups_n _ _ _ hq]; exact hF q hq)
      by_cases c : e = i
      · subst c; exact gt_s _ _ _ ⟨by decide, by decide⟩
      · rw [gt_sn _ _ _ c]; exact h6 e (by omega)
set_option maxHeartbeats 4000000 in
set_option maxRecDepth 100000 in
theorem L_X1_load_77 {E : zE} {w : zP} {l : Launch} {Post : Option Value → Mem → Prop} (hw : zOK w) (hC : zC E w l RX1 wsX1_load cX1_load 7 3 66 none Post) (σ : Sg) (hv : scok σ) (Ω0 : Mem) (hσ : scC Ω0 = σ) (x y v : Nat) (hx : x < sw σ) (hy : y < sh σ) (hvN : v < sdots σ) (hxm : v % sw σ = x) (hym : v / sw σ = y) (K : ∀ (Ω : Mem) (o6 : Option Value), LI σ (4 * v + 4) (v + 1) Ω0 Ω → X E Ω 125 [some (.ref (wa w 3)), some (.ref (wa w 13)), some (.int (zI (y : Int))), some (.int (zI (x : Int))), some (.int (zI (v : Int))), some (.int (zI ((4 : Nat) : Int))), o6] []) : ∀ (n : Nat) (d : Nat) (Ω : Mem) (o6 : Option Value), 4 < d + n → (d ≤ 4) → (LI σ (4 * v + d) (v + 1) Ω0 Ω) → X E Ω 77 [some (.ref (wa w 3)), some (.ref (wa w 13)), some (.int (zI (y : Int))), some (.int (zI (x : Int))), some (.int (zI (v : Int))), some (.int (zI (d : Int))), o6] [] := by
  intro n
  induction n with
  | zero =>
    intro d Ω o6 hfu hd hI
    exact absurd hfu (by omega)
  | succ n ih =>
    intro d Ω o6 hfu hd hI
    have hW := sw_eq hv
    have hH := sh_eq hv
    have hN := sdots_le hv
    have hs : scC Ω = σ := hI.sc.trans hσ
    have q0 : gt Ω 13 0 = σ 0 := by rw [← scC_0, hs]
    have q1 : gt Ω 13 1 = σ 1 := by rw [← scC_1, hs]
    refine z_iload (pc := 77) hC (i := 5) dX1_load_77 rfl ?_
    refine z_iconst (pc := 79) hC dX1_load_79 ?_
    refine z_icmp_ge (pc := 80) hC 125 (by first | assumption | exact zb_gt _ _ _ | exact zcmp_zb _ _ | exact bI_zb _ | exact ⟨by omega, by omega⟩) (by first | assumption | exact zb_gt _ _ _ | exact zcmp_zb _ _ | exact bI_zb _ | exact ⟨by omega, by omega⟩) dX1_load_80 rfl (fun h80 => ?_) (fun h80 => ?_)
    · obtain rfl : d = 4 := by omega
      exact K Ω _ hI
    · refine z_aload_n (pc := 83) hC (i := 1) dX1_load_83 rfl rfl ?_
      refine z_iload_n (pc := 84) hC (i := 3) dX1_load_84 rfl rfl ?_
      refine z_iload_n (pc := 85) hC (i := 2) dX1_load_85 rfl rfl ?_
      refine z_iload (pc := 86) hC (i := 5) dX1_load_86 rfl ?_
      refine z_callV (n := 3) (T := TX2) (N := 5) (ci := 2) (pc := 88) hC (c_X2_linkedTo l w hw _ x y d (by rw [hs]; exact hv) (by rw [q0]; omega) (by rw [q1]; omega) (by omega)) gX1_load_X2_linkedTo rfl (by decide +kernel) (by decide) (by decide) rfl (by decide) (fun _ => rfl) rfl rfl (Nat.le_of_ble_eq_true rfl) dX1_load_88 (zi_k fun r88 Ω88 h88 => ?_)
      obtain ⟨hr88, hm88⟩ := h88
      have hm88 := hm88.symm
      subst hm88
      rw [hs] at hr88
      have hlk : r88 = lk σ v d := by rw [hr88]; unfold lk; rw [hxm, hym]
      subst hlk
      refine z_istore (pc := 91) hC (i := 6) dX1_load_91 (by decide) rfl (zS_s (zS_s (zS_s (zS_s (zS_s (zS_s zS_0)))))) ?_
      refine z_iload (pc := 93) hC (i := 6) dX1_load_93 rfl ?_
      refine z_iconst (pc := 95) hC dX1_load_95 ?_
      refine z_icmp_eq (pc := 96) hC 119 (by have := sLk_b hv ((v % sw σ : Nat) : Int) ((v / sw σ : Nat) : Int) d; unfold lk; exact ⟨by omega, by omega⟩) ⟨by decide, by decide⟩ dX1_load_96 rfl (fun h96 => ?_) (fun h96 => ?_)
      · refine z_iinc (pc := 119) hC (i := 5) dX1_load_119 rfl (by decide) rfl (zS_s (zS_s (zS_s (zS_s (zS_s zS_0))))) ?_
        refine z_goto (pc := 122) hC 77 dX1_load_122 rfl ?_
        exact ih (d + 1) Ω _ (by omega) (by omega) (hI.no hv (by omega) h96)
      · obtain ⟨o, ho, hoN, -, -⟩ := lk_inv hv hvN (show d < 4 by omega) h96
        rw [ho]
        refine z_aload_n (pc := 99) hC (i := 0) dX1_load_99 rfl rfl ?_
        refine z_iload (pc := 100) hC (i := 4) dX1_load_100 rfl ?_
        refine z_iload (pc := 102) hC (i := 6) dX1_load_102 rfl ?_
        refine z_iload (pc := 104) hC (i := 5) dX1_load_104 rfl ?_
        refine z_aload_n (pc := 106) hC (i := 1) dX1_load_106 rfl rfl ?_
        refine z_iload (pc := 107) hC (i := 4) dX1_load_107 rfl ?_
        refine z_iload (pc := 109) hC (i := 6) dX1_load_109 rfl ?_
        refine z_iload (pc := 111) hC (i := 5) dX1_load_111 rfl ?_
        skip
        refine z_callV (n := 3) (T := TX2) (N := 5) (ci := 2) (pc := 113) hC (c_X2_weightOf l w hw _ v o d (by rw [hs]; exact hv) (by omega) (by omega) (by omega)) gX1_load_X2_weightOf rfl (by decide +kernel) (by decide) (by decide) rfl (by decide) (fun _ => rfl) rfl rfl (Nat.le_of_ble_eq_true rfl) dX1_load_113 (zi_k fun r113 Ω113 h113 => ?_)
        obtain ⟨hr113, hm113⟩ := h113
        have hm113 := hm113.symm
        subst hm113
        rw [hs] at hr113
        subst hr113
        refine z_callV (n := 4) (T := TX1) (N := 8) (ci := 1) (pc := 116) hC (c_X1_join l w hw _ v o d _ (by omega) (by omega) (by omega)) gX1_load_X1_join rfl (by decide +kernel) (by decide) (by decide) rfl (by decide) (fun _ => rfl) rfl rfl (Nat.le_of_ble_eq_true rfl) dX1_load_116 (zv_k fun Ω116 h116 => ?_)
        subst h116
        refine z_iinc (pc := 119) hC (i := 5) dX1_load_119 rfl (by decide) rfl (zS_s (zS_s (zS_s (zS_s (zS_s zS_0))))) ?_
        refine z_goto (pc := 122) hC 77 dX1_load_122 rfl ?_
        exact ih (d + 1) _ _ (by omega) (by omega) (hI.yes hv hvN (by omega) ho)
theorem fl_X1_load_49 : Cond.fieldLink RX1 49 "StrokeCuts$Scene" "width" "I" ∈ wsX1_load := by decide +kernel
theorem in_X1_load_X2 : ∀ x ∈ u_ws RX2 TX2 5, x ∈ wsX1_load := by decide +kernel
theorem fl_X1_load_56 : Cond.fieldLink RX1 56 "StrokeCuts$Scene" "marks" "[I" ∈ wsX1_load := by decide +kernel
set_option maxHeartbeats 4000000 in
set_option maxRecDepth 100000 in
theorem L_X1_load_44 {E : zE} {w : zP} {l : Launch} {Post : Option Value → Mem → Prop} (hw : zOK w) (hC : zC E w l RX1 wsX1_load cX1_load 7 3 66 none Post) (σ : Sg) (hv : scok σ) (Ω0 : Mem) (hσ : scC Ω0 = σ) (y : Nat) (hy : y < sh σ) (K : ∀ (Ω : Mem) (o4 o5 o6 : Option Value), LI σ (4 * (sw σ * y + sw σ)) (sw σ * y + sw σ) Ω0 Ω → X E Ω 131 [some (.ref (wa w 3)), some (.ref (wa w 13)), some (.int (zI (y : Int))), some (.int (zI ((sw σ : Nat) : Int))), o4, o5, o6] []) : ∀ (n : Nat) (x : Nat) (Ω : Mem) (o4 : Option Value) (o5 : Option Value) (o6 : Option Value), sw σ < x + n → (x ≤ sw σ) → (LI σ (4 * (sw σ * y + x)) (sw σ * y + x) Ω0 Ω) → X E Ω 44 [some (.ref (wa w 3)), some (.ref (wa w 13)), some (.int (zI (y : Int))), some (.int (zI (x : Int))), o4, o5, o6] [] := by
  intro n
  induction n with
  | zero =>
    intro x Ω o4 o5 o6 hfu hx hI
    exact absurd hfu (by omega)
  | succ n ih =>
    intro x Ω o4 o5 o6 hfu hx hI
    have hW := sw_eq hv
    have hH := sh_eq hv
    have hN := sdots_le hv
    have hs : scC Ω = σ := hI.sc.trans hσ
    have q0 : gt Ω 13 0 = σ 0 := by rw [← scC_0, hs]
    have q1 : gt Ω 13 1 = σ 1 := by rw [← scC_1, hs]
    refine z_iload_n (pc := 44) hC (i := 3) dX1_load_44 rfl rfl ?_
    refine z_aload_n (pc := 45) hC (i := 1) dX1_load_45 rfl rfl ?_
    refine z_getI (C := RX2) (T := TX2) (N := 5) (ci := 2) (pc := 46) hC _ 0 in_X1_load_X2 rfl (by decide) (fun _ => rfl) (by decide) fl_X1_load_49 (fun _ => rfl) dX1_load_46 ?_
    refine z_icmp_ge (pc := 49) hC 131 (by first | assumption | exact zb_gt _ _ _ | exact zcmp_zb _ _ | exact bI_zb _ | exact ⟨by omega, by omega⟩) (by first | assumption | exact zb_gt _ _ _ | exact zcmp_zb _ _ | exact bI_zb _ | exact ⟨by omega, by omega⟩) dX1_load_49 rfl (fun h49 => ?_) (fun h49 => ?_)
    · obtain rfl : x = sw σ := by omega
      exact K Ω _ _ _ hI
    · refine z_aload_n (pc := 52) hC (i := 1) dX1_load_52 rfl rfl ?_
      refine z_iload_n (pc := 53) hC (i := 3) dX1_load_53 rfl rfl ?_
      refine z_iload_n (pc := 54) hC (i := 2) dX1_load_54 rfl rfl ?_
      refine z_callV (n := 2) (T := TX2) (N := 5) (ci := 2) (pc := 55) hC (c_X2_numberOf l w hw _ _ _) gX1_load_X2_numberOf rfl (by decide +kernel) (by decide) (by decide) rfl (by decide) (fun _ => rfl) rfl rfl (Nat.le_of_ble_eq_true rfl) dX1_load_55 (zi_k fun r55 Ω55 h55 => ?_)
      obtain ⟨hr55, hm55⟩ := h55
      have hm55 := hm55.symm
      subst hm55
      rw [q0, sw_num hv x y] at hr55
      subst hr55
      have hlt := sw_lt hv (x := x) (y := y) (by omega) hy
      have hmod := sw_mod (σ := σ) (x := x) (y := y) (by omega)
      refine z_istore (pc := 58) hC (i := 4) dX1_load_58 (by decide) rfl (zS_s (zS_s (zS_s (zS_s zS_0)))) ?_
      refine z_aload_n (pc := 60) hC (i := 0) dX1_load_60 rfl rfl ?_
      refine z_aload_n (pc := 61) hC (i := 1) dX1_load_61 rfl rfl ?_
      refine z_iload (pc := 62) hC (i := 4) dX1_load_62 rfl ?_
      refine z_aload_n (pc := 64) hC (i := 1) dX1_load_64 rfl rfl ?_
      refine z_getR (C := RX2) (T := TX2) (N := 5) (ci := 2) (pc := 65) hC (.ref (wa w 16)) _ 4 in_X1_load_X2 rfl (by decide) (fun _ => rfl) (by decide) fl_X1_load_56 (fun _ => rfl) dX1_load_65 ?_
      refine z_iload (pc := 68) hC (i := 4) dX1_load_68 rfl ?_
      refine z_ialk (pc := 70) hC _ (sw σ * y + x) (by decide) (fun _ => rfl) rfl (by omega) (by decide) dX1_load_70 ?_
      refine z_callV (n := 3) (T := TX1) (N := 8) (ci := 1) (pc := 71) hC (c_X1_loadPulls l w hw _ (sw σ * y + x) _ (by rw [hs]; exact hv) (by omega) (zb_gt _ _ _)) gX1_load_X1_loadPulls rfl (by decide +kernel) (by decide) (by decide) rfl (by decide) (fun _ => rfl) rfl rfl (Nat.le_of_ble_eq_true rfl) dX1_load_71 (zv_k fun Ω71 h71 => ?_)
      rw [hs, ← scC_mk Ω (k := (sw σ * y + x)) (by omega), hs] at h71
      subst h71
      refine z_iconst (pc := 74) hC dX1_load_74 ?_
      refine z_istore (pc := 75) hC (i := 5) dX1_load_75 (by decide) rfl (zS_s (zS_s (zS_s (zS_s (zS_s zS_0))))) ?_
      refine L_X1_load_77 hw hC σ hv Ω0 hσ x y (sw σ * y + x) (by omega) hy hlt hmod.1 hmod.2 (fun Ω1 o6 gI => ?_) 5 0 _ o6 (by omega) (by omega) (hI.pull hv hlt)
      refine z_iinc (pc := 125) hC (i := 3) dX1_load_125 rfl (by decide) rfl (zS_s (zS_s (zS_s zS_0))) ?_
      refine z_goto (pc := 128) hC 44 dX1_load_128 rfl ?_
      exact ih (x + 1) Ω1 _ _ _ (by omega) (by omega) gI
theorem fl_X1_load_46 : Cond.fieldLink RX1 46 "StrokeCuts$Scene" "height" "I" ∈ wsX1_load := by decide +kernel
set_option maxHeartbeats 4000000 in
set_option maxRecDepth 100000 in
theorem L_X1_load_34 {E : zE} {w : zP} {l : Launch} {Post : Option Value → Mem → Prop} (hw : zOK w) (hC : zC E w l RX1 wsX1_load cX1_load 7 3 66 none Post) (σ : Sg) (hv : scok σ) (Ω0 : Mem) (hσ : scC Ω0 = σ) (K : ∀ (Ω : Mem) (o3 o4 o5 o6 : Option Value), LI σ (4 * (sw σ * sh σ)) (sw σ * sh σ) Ω0 Ω → X E Ω 137 [some (.ref (wa w 3)), some (.ref (wa w 13)), some (.int (zI ((sh σ : Nat) : Int))), o3, o4, o5, o6] []) : ∀ (n : Nat) (y : Nat) (Ω : Mem) (o3 : Option Value) (o4 : Option Value) (o5 : Option Value) (o6 : Option Value), sh σ < y + n → (y ≤ sh σ) → (LI σ (4 * (sw σ * y)) (sw σ * y) Ω0 Ω) → X E Ω 34 [some (.ref (wa w 3)), some (.ref (wa w 13)), some (.int (zI (y : Int))), o3, o4, o5, o6] [] := by
  intro n
  induction n with
  | zero =>
    intro y Ω o3 o4 o5 o6 hfu hy hI
    exact absurd hfu (by omega)
  | succ n ih =>
    intro y Ω o3 o4 o5 o6 hfu hy hI
    have hW := sw_eq hv
    have hH := sh_eq hv
    have hN := sdots_le hv
    have hs : scC Ω = σ := hI.sc.trans hσ
    have q0 : gt Ω 13 0 = σ 0 := by rw [← scC_0, hs]
    have q1 : gt Ω 13 1 = σ 1 := by rw [← scC_1, hs]
    refine z_iload_n (pc := 34) hC (i := 2) dX1_load_34 rfl rfl ?_
    refine z_aload_n (pc := 35) hC (i := 1) dX1_load_35 rfl rfl ?_
    refine z_getI (C := RX2) (T := TX2) (N := 5) (ci := 2) (pc := 36) hC _ 1 in_X1_load_X2 rfl (by decide) (fun _ => rfl) (by decide) fl_X1_load_46 (fun _ => rfl) dX1_load_36 ?_
    refine z_icmp_ge (pc := 39) hC 137 (by first | assumption | exact zb_gt _ _ _ | exact zcmp_zb _ _ | exact bI_zb _ | exact ⟨by omega, by omega⟩) (by first | assumption | exact zb_gt _ _ _ | exact zcmp_zb _ _ | exact bI_zb _ | exact ⟨by omega, by omega⟩) dX1_load_39 rfl (fun h39 => ?_) (fun h39 => ?_)
    · obtain rfl : y = sh σ := by omega
      exact K Ω _ _ _ _ hI
    · refine z_iconst (pc := 42) hC dX1_load_42 ?_
      refine z_istore_n (pc := 43) hC (i := 3) dX1_load_43 rfl (by decide) rfl (zS_s (zS_s (zS_s zS_0))) ?_
      refine L_X1_load_44 hw hC σ hv Ω0 hσ y (by omega) (fun Ω1 o4 o5 o6 gI => ?_) (sw σ + 1) 0 Ω o4 o5 o6 (by omega) (by omega) hI
      refine z_iinc (pc := 131) hC (i := 2) dX1_load_131 rfl (by decide) rfl (zS_s (zS_s zS_0)) ?_
      refine z_goto (pc := 134) hC 34 dX1_load_134 rfl ?_
      exact ih (y + 1) Ω1 _ _ _ _ (by omega) (by omega) (by rw [Nat.mul_add, Nat.mul_one]; exact gI)
theorem fl_X1_load_43 : Cond.fieldLink RX1 43 "StrokeCuts$Network" "dots" "I" ∈ wsX1_load := by decide +kernel
set_option maxHeartbeats 4000000 in
set_option maxRecDepth 100000 in
theorem c_X1_load (l : Launch) (w : zP) (hw : zOK w) (Ω : Mem) (hv : scok (scC Ω)) : zM l w yX1_load wsX1_load 3 66 [.ref (wa w 3), .ref (wa w 13)] Ω (zvo (fun Ω1 => netok (scC Ω) (gt Ω1 4) (gt Ω1 5) (gt Ω1 6) (gt Ω1 7) ∧ gt Ω1 3 0 = (sdots (scC Ω) : Int) ∧ frL Ω Ω1)) := by
  refine zM_of cX1_load 7 none RX1 [some (.ref (wa w 3)), some (.ref (wa w 13)), none, none, none, none, none] hw (by decide +kernel) rfl rfl (Nat.le_of_ble_eq_true rfl) rfl (fun E hC => ?_)
  refine z_aload_n (pc := 0) hC (i := 0) dX1_load_0 rfl rfl ?_
  refine z_aload_n (pc := 1) hC (i := 1) dX1_load_1 rfl rfl ?_
  refine z_callV (n := 0) (T := TX2) (N := 5) (ci := 2) (pc := 2) hC (c_X2_dots l w hw _) gX1_load_X2_dots rfl (by decide +kernel) (by decide) (by decide) rfl (by decide) (fun _ => rfl) rfl rfl (Nat.le_of_ble_eq_true rfl) dX1_load_2 (zi_k fun r2 Ω2 h2 => ?_)
  obtain ⟨rfl, hM2⟩ := h2
  obtain rfl := hM2.symm
  refine z_putI (C := RX1) (T := TX1) (N := 8) (ci := 1) (pc := 5) hC _ 0 in_X1_load_X1 rfl (by decide) (fun _ => rfl) (by decide) fl_X1_load_43 tyX1_ok nmX1 rfl (by decide +kernel) (fun _ => Nat.le_of_ble_eq_true rfl) (fun _ _ => rfl) dX1_load_5 ?_
  refine z_iconst (pc := 8) hC dX1_load_8 ?_
  refine z_istore_n (pc := 9) hC (i := 2) dX1_load_9 rfl (by decide) rfl (zS_s (zS_s zS_0)) ?_
  have hN := sdots_le hv
  have hzN : zb (gt Ω 13 0 * gt Ω 13 1) := by rw [← scC_0, ← scC_1, ← hN.2.2]; exact ⟨by omega, by omega⟩
  refine L_X1_load_10 hw hC (ups Ω 3 0 (gt Ω 13 0 * gt Ω 13 1)) (fun Ω1 g6 gF => ?_) 289 0 _ (by omega) (by omega) (fun e he => absurd he (Nat.not_lt_zero e)) (fun q hq => rfl)
  refine z_iconst (pc := 32) hC dX1_load_32 ?_
  refine z_istore_n (pc := 33) hC (i := 2) dX1_load_33 rfl (by decide) rfl (zS_s (zS_s zS_0)) ?_
  have hI0 : LI (scC Ω) (4 * (sw (scC Ω) * 0)) (sw (scC Ω) * 0) Ω Ω1 := by
    refine ⟨fun v hv => absurd hv (by omega), fun e he => ?_, fun e he h0 => ?_, ?_, fun q a b c d e => ?_⟩
    · rw [Nat.mul_zero, Nat.mul_zero, nbP_0]; exact g6 e (by omega)
    · rw [Nat.mul_zero, Nat.mul_zero, nbP_0] at h0; exact absurd h0 (by decide)
    · rw [hN.2.2, gt_fr (gF 3 (by decide)) 0, gt_s _ _ _ hzN]; rfl
    · rw [gF q d, ups_n _ _ _ a]
  refine L_X1_load_34 hw hC (scC Ω) hv Ω rfl (fun Ω2 o3 o4 o5 o6 gI => ?_) (sh (scC Ω) + 1) 0 Ω1 none none none none (by omega) (by omega) hI0
  rw [← sdots_mul hv] at gI
  exact z_vret (pc := 137) hC rfl ⟨rfl, gI.net, gI.2.2.2.1, gI.2.2.2.2⟩ dX1_load_137
