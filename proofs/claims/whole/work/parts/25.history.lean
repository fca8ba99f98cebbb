/-! ===== the nine scenes: 0 the one in use, 1 to 8 those kept ===== -/
def scT (Ω : Mem) (t : Nat) : Sg := fun i => if i = 0 then gt Ω (13 + 4 * t) 0 else if i = 1 then gt Ω (13 + 4 * t) 1 else if i < 8 then gt Ω (13 + 4 * t + 1) (i - 2) else if i < 44 then gt Ω (13 + 4 * t + 2) (i - 8) else if i < 80 then gt Ω (13 + 4 * t + 3) (i - 44) else 0
theorem scT_0 (Ω : Mem) : scT Ω 0 = scC Ω := rfl
theorem scT_cong {Ω Ω1 : Mem} {t u : Nat} (h0 : Ω1 (13 + 4 * t) 0 = Ω (13 + 4 * u) 0) (h1 : Ω1 (13 + 4 * t) 1 = Ω (13 + 4 * u) 1) (h2 : ∀ k, k < 6 → Ω1 (13 + 4 * t + 1) k = Ω (13 + 4 * u + 1) k) (h3 : ∀ k, k < 36 → Ω1 (13 + 4 * t + 2) k = Ω (13 + 4 * u + 2) k) (h4 : ∀ k, k < 36 → Ω1 (13 + 4 * t + 3) k = Ω (13 + 4 * u + 3) k) : scT Ω1 t = scT Ω u := by
  funext i
  unfold scT gt
  rw [h0, h1]
  by_cases c0 : i = 0
  · simp [c0]
  by_cases c1 : i = 1
  · simp [c1]
  by_cases c2 : i < 8
  · rw [if_neg c0, if_neg c1, if_pos c2, if_neg c0, if_neg c1, if_pos c2, h2 _ (by omega)]
  by_cases c3 : i < 44
  · rw [if_neg c0, if_neg c1, if_neg c2, if_pos c3, if_neg c0, if_neg c1, if_neg c2, if_pos c3, h3 _ (by omega)]
  by_cases c4 : i < 80
  · rw [if_neg c0, if_neg c1, if_neg c2, if_neg c3, if_pos c4, if_neg c0, if_neg c1, if_neg c2, if_neg c3, if_pos c4, h4 _ (by omega)]
  · rw [if_neg c0, if_neg c1, if_neg c2, if_neg c3, if_neg c4, if_neg c0, if_neg c1, if_neg c2, if_neg c3, if_neg c4]
theorem scT_same {Ω Ω1 : Mem} {t : Nat} (h : ∀ q, 13 + 4 * t ≤ q → q ≤ 13 + 4 * t + 3 → Ω1 q = Ω q) : scT Ω1 t = scT Ω t :=
  scT_cong (by rw [h _ (by omega) (by omega)]) (by rw [h _ (by omega) (by omega)]) (fun k _ => by rw [h _ (by omega) (by omega)]) (fun k _ => by rw [h _ (by omega) (by omega)]) (fun k _ => by rw [h _ (by omega) (by omega)])
theorem t9 {t : Nat} (h : t ≤ 8) : t = 0 ∨ t = 1 ∨ t = 2 ∨ t = 3 ∨ t = 4 ∨ t = 5 ∨ t = 6 ∨ t = 7 ∨ t = 8 := by omega
theorem zs_sc (w : zP) {t : Nat} (h : t ≤ 8) (f : Nat → Int32) : zs w f (13 + 4 * t) = zsc w (13 + 4 * t) f := by
  rcases t9 h with rfl | rfl | rfl | rfl | rfl | rfl | rfl | rfl | rfl <;> rfl
theorem zs_s1 (w : zP) {t : Nat} (h : t ≤ 8) (f : Nat → Int32) : zs w f (13 + 4 * t + 1) = zar w 6 f := by
  rcases t9 h with rfl | rfl | rfl | rfl | rfl | rfl | rfl | rfl | rfl <;> rfl
theorem zs_s2 (w : zP) {t : Nat} (h : t ≤ 8) (f : Nat → Int32) : zs w f (13 + 4 * t + 2) = zar w 36 f := by
  rcases t9 h with rfl | rfl | rfl | rfl | rfl | rfl | rfl | rfl | rfl <;> rfl
theorem zs_s3 (w : zP) {t : Nat} (h : t ≤ 8) (f : Nat → Int32) : zs w f (13 + 4 * t + 3) = zar w 36 f := by
  rcases t9 h with rfl | rfl | rfl | rfl | rfl | rfl | rfl | rfl | rfl <;> rfl
theorem cpy_in (f g : Nat → Int32) {n k : Nat} (h : k < n) : va_cpy f g (Int.toNat 0) (Int.toNat 0) n k = f k := by
  have := pk_cpy_in (f := f) (g := g) (sp := 0) (dp := 0) (n := n) (j := k) (by omega) (by omega)
  simpa using this

theorem fl_X2_copyFrom_21 : Cond.fieldLink RX2 21 "StrokeCuts$Scene" "width" "I" ∈ wsX2_copyFrom := by decide +kernel
theorem in_X2_copyFrom_X2 : ∀ x ∈ u_ws RX2 TX2 5, x ∈ wsX2_copyFrom := by decide +kernel
theorem fl_X2_copyFrom_25 : Cond.fieldLink RX2 25 "StrokeCuts$Scene" "height" "I" ∈ wsX2_copyFrom := by decide +kernel
theorem fl_X2_copyFrom_9 : Cond.fieldLink RX2 9 "StrokeCuts$Scene" "settings" "[I" ∈ wsX2_copyFrom := by decide +kernel
theorem ml_X2_copyFrom_28 : Cond.methodLink RX2 28 arraycopyName ∈ wsX2_copyFrom := by decide +kernel
theorem mn_X2_copyFrom_ac : Cond.native arraycopyName ∈ wsX2_copyFrom := by decide +kernel
theorem ms_X2_copyFrom_ac : Cond.static arraycopyName ∈ wsX2_copyFrom := by decide +kernel
theorem mi_X2_copyFrom_System : Cond.initialized "java/lang/System" ∈ wsX2_copyFrom := by decide +kernel
theorem fl_X2_copyFrom_15 : Cond.fieldLink RX2 15 "StrokeCuts$Scene" "shades" "[I" ∈ wsX2_copyFrom := by decide +kernel
theorem fl_X2_copyFrom_18 : Cond.fieldLink RX2 18 "StrokeCuts$Scene" "marks" "[I" ∈ wsX2_copyFrom := by decide +kernel
set_option maxHeartbeats 4000000 in
set_option maxRecDepth 100000 in
theorem c_X2_copyFrom (l : Launch) (w : zP) (hw : zOK w) (Ω : Mem) (a c : Nat) (ha : a ≤ 8) (hc : c ≤ 8) (hac : a ≠ c) : zM l w yX2_copyFrom wsX2_copyFrom 1 60 [.ref (wa w (13 + 4 * a)), .ref (wa w (13 + 4 * c))] Ω (zvo (fun Ω1 => scT Ω1 a = scT Ω c ∧ ∀ q, q < 13 + 4 * a ∨ 13 + 4 * a + 3 < q → Ω1 q = Ω q)) := by
  refine zM_of cX2_copyFrom 2 none RX2 [some (.ref (wa w (13 + 4 * a))), some (.ref (wa w (13 + 4 * c)))] hw (by decide +kernel) rfl rfl (Nat.le_of_ble_eq_true rfl) rfl (fun E hC => ?_)
  refine z_aload_n (pc := 0) hC (i := 0) dX2_copyFrom_0 rfl rfl ?_
  refine z_aload_n (pc := 1) hC (i := 1) dX2_copyFrom_1 rfl rfl ?_
  refine z_getI (C := RX2) (T := TX2) (N := 5) (ci := 2) (pc := 2) hC (13 + 4 * c) 0 in_X2_copyFrom_X2 rfl (by omega) (zs_sc w hc) (by decide) fl_X2_copyFrom_21 (fun _ => rfl) dX2_copyFrom_2 ?_
  refine z_putI (C := RX2) (T := TX2) (N := 5) (ci := 2) (pc := 5) hC (13 + 4 * a) 0 in_X2_copyFrom_X2 rfl (by omega) (zs_sc w ha) (by decide) fl_X2_copyFrom_21 tyX2_ok nmX2 rfl (by decide +kernel) (fun _ => Nat.le_of_ble_eq_true rfl) (fun f v => by rw [zs_sc w ha]; rfl) dX2_copyFrom_5 ?_
  refine z_aload_n (pc := 8) hC (i := 0) dX2_copyFrom_8 rfl rfl ?_
  refine z_aload_n (pc := 9) hC (i := 1) dX2_copyFrom_9 rfl rfl ?_
  refine z_getI (C := RX2) (T := TX2) (N := 5) (ci := 2) (pc := 10) hC (13 + 4 * c) 1 in_X2_copyFrom_X2 rfl (by omega) (zs_sc w hc) (by decide) fl_X2_copyFrom_25 (fun _ => rfl) dX2_copyFrom_10 ?_
  refine z_putI (C := RX2) (T := TX2) (N := 5) (ci := 2) (pc := 13) hC (13 + 4 * a) 1 in_X2_copyFrom_X2 rfl (by omega) (zs_sc w ha) (by decide) fl_X2_copyFrom_25 tyX2_ok nmX2 rfl (by decide +kernel) (fun _ => Nat.le_of_ble_eq_true rfl) (fun f v => by rw [zs_sc w ha]; rfl) dX2_copyFrom_13 ?_
  refine z_aload_n (pc := 16) hC (i := 1) dX2_copyFrom_16 rfl rfl ?_
  refine z_getR (C := RX2) (T := TX2) (N := 5) (ci := 2) (pc := 17) hC _ (13 + 4 * c) 2 in_X2_copyFrom_X2 rfl (by omega) (zs_sc w hc) (by decide) fl_X2_copyFrom_9 (fun _ => rfl) dX2_copyFrom_17 ?_
  refine z_iconst (pc := 20) hC dX2_copyFrom_20 ?_
  refine z_aload_n (pc := 21) hC (i := 0) dX2_copyFrom_21 rfl rfl ?_
  refine z_getR (C := RX2) (T := TX2) (N := 5) (ci := 2) (pc := 22) hC _ (13 + 4 * a) 2 in_X2_copyFrom_X2 rfl (by omega) (zs_sc w ha) (by decide) fl_X2_copyFrom_9 (fun _ => rfl) dX2_copyFrom_22 ?_
  refine z_iconst (pc := 25) hC dX2_copyFrom_25 ?_
  refine z_bipush (pc := 26) hC dX2_copyFrom_26 rfl ?_
  refine z_copy (pc := 28) hC (13 + 4 * c + 1) (13 + 4 * a + 1) (by omega) (by omega) (zs_s1 w hc) (zs_s1 w ha) (by decide) (by decide) (by decide) (by decide) (by decide) (by decide) (by decide) ml_X2_copyFrom_28 mn_X2_copyFrom_ac ms_X2_copyFrom_ac mi_X2_copyFrom_System (by decide) (Nat.le_of_ble_eq_true rfl) dX2_copyFrom_28 ?_
  refine z_aload_n (pc := 31) hC (i := 1) dX2_copyFrom_31 rfl rfl ?_
  refine z_getR (C := RX2) (T := TX2) (N := 5) (ci := 2) (pc := 32) hC _ (13 + 4 * c) 3 in_X2_copyFrom_X2 rfl (by omega) (zs_sc w hc) (by decide) fl_X2_copyFrom_15 (fun _ => rfl) dX2_copyFrom_32 ?_
  refine z_iconst (pc := 35) hC dX2_copyFrom_35 ?_
  refine z_aload_n (pc := 36) hC (i := 0) dX2_copyFrom_36 rfl rfl ?_
  refine z_getR (C := RX2) (T := TX2) (N := 5) (ci := 2) (pc := 37) hC _ (13 + 4 * a) 3 in_X2_copyFrom_X2 rfl (by omega) (zs_sc w ha) (by decide) fl_X2_copyFrom_15 (fun _ => rfl) dX2_copyFrom_37 ?_
  refine z_iconst (pc := 40) hC dX2_copyFrom_40 ?_
  refine z_bipush (pc := 41) hC dX2_copyFrom_41 rfl ?_
  refine z_copy (pc := 43) hC (13 + 4 * c + 2) (13 + 4 * a + 2) (by omega) (by omega) (zs_s2 w hc) (zs_s2 w ha) (by decide) (by decide) (by decide) (by decide) (by decide) (by decide) (by decide) ml_X2_copyFrom_28 mn_X2_copyFrom_ac ms_X2_copyFrom_ac mi_X2_copyFrom_System (by decide) (Nat.le_of_ble_eq_true rfl) dX2_copyFrom_43 ?_
  refine z_aload_n (pc := 46) hC (i := 1) dX2_copyFrom_46 rfl rfl ?_
  refine z_getR (C := RX2) (T := TX2) (N := 5) (ci := 2) (pc := 47) hC _ (13 + 4 * c) 4 in_X2_copyFrom_X2 rfl (by omega) (zs_sc w hc) (by decide) fl_X2_copyFrom_18 (fun _ => rfl) dX2_copyFrom_47 ?_
  refine z_iconst (pc := 50) hC dX2_copyFrom_50 ?_
  refine z_aload_n (pc := 51) hC (i := 0) dX2_copyFrom_51 rfl rfl ?_
  refine z_getR (C := RX2) (T := TX2) (N := 5) (ci := 2) (pc := 52) hC _ (13 + 4 * a) 4 in_X2_copyFrom_X2 rfl (by omega) (zs_sc w ha) (by decide) fl_X2_copyFrom_18 (fun _ => rfl) dX2_copyFrom_52 ?_
  refine z_iconst (pc := 55) hC dX2_copyFrom_55 ?_
  refine z_bipush (pc := 56) hC dX2_copyFrom_56 rfl ?_
  refine z_copy (pc := 58) hC (13 + 4 * c + 3) (13 + 4 * a + 3) (by omega) (by omega) (zs_s3 w hc) (zs_s3 w ha) (by decide) (by decide) (by decide) (by decide) (by decide) (by decide) (by decide) ml_X2_copyFrom_28 mn_X2_copyFrom_ac ms_X2_copyFrom_ac mi_X2_copyFrom_System (by decide) (Nat.le_of_ble_eq_true rfl) dX2_copyFrom_58 ?_
  exact z_vret (pc := 61) hC rfl ⟨rfl, ⟨by
    refine scT_cong ?_ ?_ (fun k hk => ?_) (fun k hk => ?_) (fun k hk => ?_)
    · rw [upc_n _ _ (by omega), upc_n _ _ (by omega), upc_n _ _ (by omega), ups_sn _ _ _ (by omega), ups_s, zI_gt]
    · rw [upc_n _ _ (by omega), upc_n _ _ (by omega), upc_n _ _ (by omega), ups_s, zI_gt, ups_n _ _ _ (by omega)]
    · rw [upc_n _ _ (by omega), upc_n _ _ (by omega), upc_s]
      refine (cpy_in _ _ hk).trans ?_
      rw [ups_n _ _ _ (by omega), ups_n _ _ _ (by omega)]
    · rw [upc_n _ _ (by omega), upc_s]
      refine (cpy_in _ _ hk).trans ?_
      rw [upc_n _ _ (by omega), ups_n _ _ _ (by omega), ups_n _ _ _ (by omega)]
    · rw [upc_s]
      refine (cpy_in _ _ hk).trans ?_
      rw [upc_n _ _ (by omega), upc_n _ _ (by omega), ups_n _ _ _ (by omega), ups_n _ _ _ (by omega)], fun q hq => by
    rw [upc_n _ _ (by omega), upc_n _ _ (by omega), upc_n _ _ (by omega), ups_n _ _ _ (by omega), ups_n _ _ _ (by omega)]⟩⟩ dX2_copyFrom_61
theorem fl_X0_remember_11 : Cond.fieldLink RX0 11 "StrokeCuts$History" "kept" "[LStrokeCuts$Scene;" ∈ wsX0_remember := by decide +kernel
theorem in_X0_remember_X0 : ∀ x ∈ u_ws RX0 TX0 3, x ∈ wsX0_remember := by decide +kernel
theorem fl_X0_remember_16 : Cond.fieldLink RX0 16 "StrokeCuts$History" "next" "I" ∈ wsX0_remember := by decide +kernel
theorem fl_X0_remember_24 : Cond.fieldLink RX0 24 "StrokeCuts$History" "count" "I" ∈ wsX0_remember := by decide +kernel
theorem ml_X0_remember_27 : Cond.methodLink RX0 27 Lib.Math.min.name ∈ wsX0_remember := by decide +kernel
theorem ms_X0_remember_min : Cond.static Lib.Math.min.name ∈ wsX0_remember := by decide +kernel
theorem mi_X0_remember_Math : Cond.initialized "java/lang/Math" ∈ wsX0_remember := by decide +kernel
theorem mc_X0_remember_min : Cond.code Lib.Math.min.name Lib.Math.min.code 2 (some .int) ∈ wsX0_remember := by decide +kernel
set_option maxHeartbeats 4000000 in
set_option maxRecDepth 100000 in
theorem c_X0_remember (l : Launch) (w : zP) (hw : zOK w) (Ω : Mem) (hn0 : 0 ≤ gt Ω 1 1) (hn1 : gt Ω 1 1 < 8) (hc0 : 0 ≤ gt Ω 1 2) (hc1 : gt Ω 1 2 ≤ 8) : zM l w yX0_remember wsX0_remember 2 81 [.ref (wa w 1), .ref (wa w 13)] Ω (zvo (fun Ω1 => gt Ω1 1 1 = (gt Ω 1 1 + 1) % 8 ∧ gt Ω1 1 2 = min (gt Ω 1 2 + 1) 8 ∧ scT Ω1 ((gt Ω 1 1).toNat + 1) = scC Ω ∧ ∀ q, q ≠ 1 → (q < 17 + 4 * (gt Ω 1 1).toNat ∨ 17 + 4 * (gt Ω 1 1).toNat + 3 < q) → Ω1 q = Ω q)) := by
  refine zM_of cX0_remember 3 none RX0 [some (.ref (wa w 1)), some (.ref (wa w 13)), none] hw (by decide +kernel) rfl rfl (Nat.le_of_ble_eq_true rfl) rfl (fun E hC => ?_)
  obtain ⟨n, hn⟩ := nat_of hn0
  have hcb := zb_gt Ω 1 2
  refine z_aload_n (pc := 0) hC (i := 0) dX0_remember_0 rfl rfl ?_
  refine z_getR (C := RX0) (T := TX0) (N := 3) (ci := 0) (pc := 1) hC _ _ 0 in_X0_remember_X0 rfl (by decide) (fun _ => rfl) (by decide) fl_X0_remember_11 (fun _ => rfl) dX0_remember_1 ?_
  refine z_aload_n (pc := 4) hC (i := 0) dX0_remember_4 rfl rfl ?_
  refine z_getI (C := RX0) (T := TX0) (N := 3) (ci := 0) (pc := 5) hC _ 1 in_X0_remember_X0 rfl (by decide) (fun _ => rfl) (by decide) fl_X0_remember_16 (fun _ => rfl) dX0_remember_5 ?_
  rw [hn]
  refine z_kept (pc := 8) hC (by omega) (by omega) dX0_remember_8 ?_
  rw [show 17 + 4 * Int.toNat (n : Int) = 13 + 4 * (n + 1) by rw [Int.toNat_natCast]; omega]
  refine z_astore_n (pc := 9) hC (i := 2) dX0_remember_9 rfl (by decide) rfl (zS_s (zS_s zS_0)) ?_
  refine z_aload_n (pc := 10) hC (i := 2) dX0_remember_10 rfl rfl ?_
  refine z_ifnull (pc := 11) hC dX0_remember_11 ?_
  refine z_aload_n (pc := 14) hC (i := 2) dX0_remember_14 rfl rfl ?_
  refine z_aload_n (pc := 15) hC (i := 1) dX0_remember_15 rfl rfl ?_
  refine z_callV (n := 1) (T := TX2) (N := 5) (ci := 2) (pc := 16) hC (c_X2_copyFrom l w hw _ (n + 1) 0 (by omega) (by omega) (by omega)) gX0_remember_X2_copyFrom rfl (by decide +kernel) (by decide) (by decide) rfl (by omega) (zs_sc w (t := n + 1) (by omega)) rfl rfl (Nat.le_of_ble_eq_true rfl) dX0_remember_16 (zv_k fun Ω16 h16 => ?_)
  obtain ⟨hs16, hF16⟩ := h16
  have e1 := gt_fr (hF16 1 (Or.inl (by omega))) 1
  have e2 := gt_fr (hF16 1 (Or.inl (by omega))) 2
  refine z_aload_n (pc := 19) hC (i := 0) dX0_remember_19 rfl rfl ?_
  refine z_aload_n (pc := 20) hC (i := 0) dX0_remember_20 rfl rfl ?_
  refine z_getI (C := RX0) (T := TX0) (N := 3) (ci := 0) (pc := 21) hC _ 1 in_X0_remember_X0 rfl (by decide) (fun _ => rfl) (by decide) fl_X0_remember_16 (fun _ => rfl) dX0_remember_21 ?_
  rw [e1, hn]
  refine z_iconst (pc := 24) hC dX0_remember_24 ?_
  refine z_iadd (pc := 25) hC dX0_remember_25 ?_
  refine z_bipush (pc := 26) hC dX0_remember_26 rfl ?_
  refine z_irem (pc := 28) hC (by first | assumption | exact zb_gt _ _ _ | exact zcmp_zb _ _ | exact bI_zb _ | exact ⟨by omega, by omega⟩) (by first | assumption | exact zb_gt _ _ _ | exact zcmp_zb _ _ | exact bI_zb _ | exact ⟨by omega, by omega⟩) (by omega) dX0_remember_28 ?_
  rw [Int.tmod_eq_emod_of_nonneg (by omega)]
  refine z_putI (C := RX0) (T := TX0) (N := 3) (ci := 0) (pc := 29) hC _ 1 in_X0_remember_X0 rfl (by decide) (fun _ => rfl) (by decide) fl_X0_remember_16 tyX0_ok nmX0 rfl (by decide +kernel) (fun _ => Nat.le_of_ble_eq_true rfl) (fun _ _ => rfl) dX0_remember_29 ?_
  refine z_aload_n (pc := 32) hC (i := 0) dX0_remember_32 rfl rfl ?_
  refine z_aload_n (pc := 33) hC (i := 0) dX0_remember_33 rfl rfl ?_
  refine z_getI (C := RX0) (T := TX0) (N := 3) (ci := 0) (pc := 34) hC _ 2 in_X0_remember_X0 rfl (by decide) (fun _ => rfl) (by decide) fl_X0_remember_24 (fun _ => rfl) dX0_remember_34 ?_
  rw [gt_sn _ _ _ (by decide : (2 : Nat) ≠ 1), e2]
  refine z_iconst (pc := 37) hC dX0_remember_37 ?_
  refine z_iadd (pc := 38) hC dX0_remember_38 ?_
  refine z_bipush (pc := 39) hC dX0_remember_39 rfl ?_
  refine z_mmin (pc := 41) hC (by first | assumption | exact zb_gt _ _ _ | exact zcmp_zb _ _ | exact bI_zb _ | exact ⟨by omega, by omega⟩) (by first | assumption | exact zb_gt _ _ _ | exact zcmp_zb _ _ | exact bI_zb _ | exact ⟨by omega, by omega⟩) ml_X0_remember_27 ms_X0_remember_min mi_X0_remember_Math mc_X0_remember_min (by decide) (Nat.le_of_ble_eq_true rfl) dX0_remember_41 ?_
  refine z_putI (C := RX0) (T := TX0) (N := 3) (ci := 0) (pc := 44) hC _ 2 in_X0_remember_X0 rfl (by decide) (fun _ => rfl) (by decide) fl_X0_remember_24 tyX0_ok nmX0 rfl (by decide +kernel) (fun _ => Nat.le_of_ble_eq_true rfl) (fun _ _ => rfl) dX0_remember_44 ?_
  exact z_vret (pc := 47) hC rfl ⟨rfl, ⟨by
      rw [gt_sn _ _ _ (by decide : (1 : Nat) ≠ 2), gt_s _ _ _ ⟨by omega, by omega⟩, hn], by
      rw [gt_s _ _ _ ⟨by omega, by omega⟩], by
      rw [hn, Int.toNat_natCast, ← scT_0 Ω, ← hs16]
      exact scT_same (fun q h1 h2 => by rw [ups_n _ _ _ (by omega), ups_n _ _ _ (by omega)]), fun q h1 h2 => by
      rw [hn, Int.toNat_natCast] at h2
      rw [ups_n _ _ _ h1, ups_n _ _ _ h1]
      exact hF16 q (by omega)⟩⟩ dX0_remember_47
theorem fl_X0_giveBack_24 : Cond.fieldLink RX0 24 "StrokeCuts$History" "count" "I" ∈ wsX0_giveBack := by decide +kernel
theorem in_X0_giveBack_X0 : ∀ x ∈ u_ws RX0 TX0 3, x ∈ wsX0_giveBack := by decide +kernel
theorem fl_X0_giveBack_16 : Cond.fieldLink RX0 16 "StrokeCuts$History" "next" "I" ∈ wsX0_giveBack := by decide +kernel
theorem fl_X0_giveBack_11 : Cond.fieldLink RX0 11 "StrokeCuts$History" "kept" "[LStrokeCuts$Scene;" ∈ wsX0_giveBack := by decide +kernel
set_option maxHeartbeats 4000000 in
set_option maxRecDepth 100000 in
theorem c_X0_giveBack (l : Launch) (w : zP) (hw : zOK w) (Ω : Mem) (hn0 : 0 ≤ gt Ω 1 1) (hn1 : gt Ω 1 1 < 8) (hc0 : 0 < gt Ω 1 2) (hc1 : gt Ω 1 2 ≤ 8) : zM l w yX0_giveBack wsX0_giveBack 2 81 [.ref (wa w 1), .ref (wa w 13)] Ω (zvo (fun Ω1 => gt Ω1 1 1 = (gt Ω 1 1 + 7) % 8 ∧ gt Ω1 1 2 = gt Ω 1 2 - 1 ∧ scC Ω1 = scT Ω ((gt Ω 1 1 + 7) % 8).toNat.succ ∧ ∀ q, q ≠ 1 → (q < 13 ∨ 16 < q) → Ω1 q = Ω q)) := by
  refine zM_of cX0_giveBack 3 none RX0 [some (.ref (wa w 1)), some (.ref (wa w 13)), none] hw (by decide +kernel) rfl rfl (Nat.le_of_ble_eq_true rfl) rfl (fun E hC => ?_)
  obtain ⟨n, hn⟩ := nat_of hn0
  refine z_aload_n (pc := 0) hC (i := 0) dX0_giveBack_0 rfl rfl ?_
  refine z_getI (C := RX0) (T := TX0) (N := 3) (ci := 0) (pc := 1) hC _ 2 in_X0_giveBack_X0 rfl (by decide) (fun _ => rfl) (by decide) fl_X0_giveBack_24 (fun _ => rfl) dX0_giveBack_1 ?_
  refine z_if_le (pc := 4) hC 52 (by first | assumption | exact zb_gt _ _ _ | exact zcmp_zb _ _ | exact bI_zb _ | exact ⟨by omega, by omega⟩) dX0_giveBack_4 rfl (fun h4 => ?_) (fun h4 => ?_)
  · exact absurd h4 (by omega)
  · refine z_aload_n (pc := 7) hC (i := 0) dX0_giveBack_7 rfl rfl ?_
    refine z_aload_n (pc := 8) hC (i := 0) dX0_giveBack_8 rfl rfl ?_
    refine z_getI (C := RX0) (T := TX0) (N := 3) (ci := 0) (pc := 9) hC _ 1 in_X0_giveBack_X0 rfl (by decide) (fun _ => rfl) (by decide) fl_X0_giveBack_16 (fun _ => rfl) dX0_giveBack_9 ?_
    rw [hn]
    refine z_bipush (pc := 12) hC dX0_giveBack_12 rfl ?_
    refine z_iadd (pc := 14) hC dX0_giveBack_14 ?_
    refine z_iconst (pc := 15) hC dX0_giveBack_15 ?_
    refine z_isub (pc := 16) hC dX0_giveBack_16 ?_
    refine z_bipush (pc := 17) hC dX0_giveBack_17 rfl ?_
    refine z_irem (pc := 19) hC (by first | assumption | exact zb_gt _ _ _ | exact zcmp_zb _ _ | exact bI_zb _ | exact ⟨by omega, by omega⟩) (by first | assumption | exact zb_gt _ _ _ | exact zcmp_zb _ _ | exact bI_zb _ | exact ⟨by omega, by omega⟩) (by omega) dX0_giveBack_19 ?_
    rw [Int.tmod_eq_emod_of_nonneg (by omega)]
    obtain ⟨k, hk⟩ := nat_of (by omega : 0 ≤ ((n : Int) + 8 - 1) % 8)
    rw [hk]
    refine z_putI (C := RX0) (T := TX0) (N := 3) (ci := 0) (pc := 20) hC _ 1 in_X0_giveBack_X0 rfl (by decide) (fun _ => rfl) (by decide) fl_X0_giveBack_16 tyX0_ok nmX0 rfl (by decide +kernel) (fun _ => Nat.le_of_ble_eq_true rfl) (fun _ _ => rfl) dX0_giveBack_20 ?_
    refine z_aload_n (pc := 23) hC (i := 0) dX0_giveBack_23 rfl rfl ?_
    refine z_dup (pc := 24) hC dX0_giveBack_24 rfl ?_
    refine z_getI (C := RX0) (T := TX0) (N := 3) (ci := 0) (pc := 25) hC _ 2 in_X0_giveBack_X0 rfl (by decide) (fun _ => rfl) (by decide) fl_X0_giveBack_24 (fun _ => rfl) dX0_giveBack_25 ?_
    rw [gt_sn _ _ _ (by decide : (2 : Nat) ≠ 1)]
    refine z_iconst (pc := 28) hC dX0_giveBack_28 ?_
    refine z_isub (pc := 29) hC dX0_giveBack_29 ?_
    refine z_putI (C := RX0) (T := TX0) (N := 3) (ci := 0) (pc := 30) hC _ 2 in_X0_giveBack_X0 rfl (by decide) (fun _ => rfl) (by decide) fl_X0_giveBack_24 tyX0_ok nmX0 rfl (by decide +kernel) (fun _ => Nat.le_of_ble_eq_true rfl) (fun _ _ => rfl) dX0_giveBack_30 ?_
    refine z_aload_n (pc := 33) hC (i := 0) dX0_giveBack_33 rfl rfl ?_
    refine z_getR (C := RX0) (T := TX0) (N := 3) (ci := 0) (pc := 34) hC _ _ 0 in_X0_giveBack_X0 rfl (by decide) (fun _ => rfl) (by decide) fl_X0_giveBack_11 (fun _ => rfl) dX0_giveBack_34 ?_
    refine z_aload_n (pc := 37) hC (i := 0) dX0_giveBack_37 rfl rfl ?_
    refine z_getI (C := RX0) (T := TX0) (N := 3) (ci := 0) (pc := 38) hC _ 1 in_X0_giveBack_X0 rfl (by decide) (fun _ => rfl) (by decide) fl_X0_giveBack_16 (fun _ => rfl) dX0_giveBack_38 ?_
    rw [gt_sn _ _ _ (by decide : (1 : Nat) ≠ 2), gt_s _ _ _ ⟨by omega, by omega⟩]
    refine z_kept (pc := 41) hC (by omega) (by omega) dX0_giveBack_41 ?_
    rw [show 17 + 4 * Int.toNat (k : Int) = 13 + 4 * (k + 1) by rw [Int.toNat_natCast]; omega]
    refine z_astore_n (pc := 42) hC (i := 2) dX0_giveBack_42 rfl (by decide) rfl (zS_s (zS_s zS_0)) ?_
    refine z_aload_n (pc := 43) hC (i := 2) dX0_giveBack_43 rfl rfl ?_
    refine z_ifnull (pc := 44) hC dX0_giveBack_44 ?_
    refine z_aload_n (pc := 47) hC (i := 1) dX0_giveBack_47 rfl rfl ?_
    refine z_aload_n (pc := 48) hC (i := 2) dX0_giveBack_48 rfl rfl ?_
    refine z_callV (n := 1) (T := TX2) (N := 5) (ci := 2) (pc := 49) hC (c_X2_copyFrom l w hw _ 0 (k + 1) (by omega) (by omega) (by omega)) gX0_giveBack_X2_copyFrom rfl (by decide +kernel) (by decide) (by decide) rfl (by decide) (fun _ => rfl) rfl rfl (Nat.le_of_ble_eq_true rfl) dX0_giveBack_49 (zv_k fun Ω49 h49 => ?_)
    obtain ⟨hs49, hF49⟩ := h49
    exact z_vret (pc := 52) hC rfl ⟨rfl, ⟨by
          rw [gt_fr (hF49 1 (Or.inl (by omega))) 1, gt_sn _ _ _ (by decide : (1 : Nat) ≠ 2), gt_s _ _ _ ⟨by omega, by omega⟩, hn]
          omega, by
          rw [gt_fr (hF49 1 (Or.inl (by omega))) 2, gt_s _ _ _ ⟨by omega, by omega⟩], by
          rw [← scT_0, hs49, hn, show ((n : Int) + 7) % 8 = (k : Int) by omega, Int.toNat_natCast]
          exact scT_same (fun q h1 h2 => by rw [ups_n _ _ _ (by omega), ups_n _ _ _ (by omega)]), fun q h1 h2 => by
          rw [hF49 q (by omega), ups_n _ _ _ h1, ups_n _ _ _ h1]⟩⟩ dX0_giveBack_52
