theorem kc_J13_bitCount_95d88_314 : Cond.constantLong RJ13 314 (6148914691236517205) ∈ wsJ13_bitCount_95d88 := by decide +kernel
theorem kc_J13_bitCount_95d88_316 : Cond.constantLong RJ13 316 (3689348814741910323) ∈ wsJ13_bitCount_95d88 := by decide +kernel
theorem kc_J13_bitCount_95d88_318 : Cond.constantLong RJ13 318 (1085102592571150095) ∈ wsJ13_bitCount_95d88 := by decide +kernel
set_option maxHeartbeats 4000000 in
set_option maxRecDepth 100000 in
theorem c_J13_bitCount_95d88 (l : Launch) (w : zP) (hw : zOK w) (Ω : Mem) (x : Int64) : zM l w yJ13_bitCount_95d88 wsJ13_bitCount_95d88 0 0 [.long x] Ω (zi (fun r Ω1 => r = pcn x ∧ Ω1 = Ω)) := by
  refine zM_ofF cJ13_bitCount_95d88 2 (some .int) RJ13 [some (.long x), none] hw (by decide +kernel) rfl rfl (Nat.le_of_ble_eq_true rfl) rfl (fun E hC => ?_)
  refine z_lload_n (pc := 0) hC (i := 0) dJ13_bitCount_95d88_0 rfl rfl ?_
  refine z_lload_n (pc := 1) hC (i := 0) dJ13_bitCount_95d88_1 rfl rfl ?_
  refine z_iconst (pc := 2) hC dJ13_bitCount_95d88_2 ?_
  refine z_lushr (pc := 3) hC (show _ = shrI (x) 1 from rfl) dJ13_bitCount_95d88_3 ?_
  refine z_ldc2 (pc := 4) hC kc_J13_bitCount_95d88_314 dJ13_bitCount_95d88_4 ?_
  refine z_land (pc := 7) hC dJ13_bitCount_95d88_7 ?_
  refine z_lsub (pc := 8) hC dJ13_bitCount_95d88_8 ?_
  refine z_lstore_n (pc := 9) hC (i := 0) dJ13_bitCount_95d88_9 rfl (by decide) rfl zS2_0 ?_
  change X E Ω 10 [some (.long (bc1 (x))), none] []
  refine z_lload_n (pc := 10) hC (i := 0) dJ13_bitCount_95d88_10 rfl rfl ?_
  refine z_ldc2 (pc := 11) hC kc_J13_bitCount_95d88_316 dJ13_bitCount_95d88_11 ?_
  refine z_land (pc := 14) hC dJ13_bitCount_95d88_14 ?_
  refine z_lload_n (pc := 15) hC (i := 0) dJ13_bitCount_95d88_15 rfl rfl ?_
  refine z_iconst (pc := 16) hC dJ13_bitCount_95d88_16 ?_
  refine z_lushr (pc := 17) hC (show _ = shrI (bc1 (x)) 2 from rfl) dJ13_bitCount_95d88_17 ?_
  refine z_ldc2 (pc := 18) hC kc_J13_bitCount_95d88_316 dJ13_bitCount_95d88_18 ?_
  refine z_land (pc := 21) hC dJ13_bitCount_95d88_21 ?_
  refine z_ladd (pc := 22) hC dJ13_bitCount_95d88_22 ?_
  refine z_lstore_n (pc := 23) hC (i := 0) dJ13_bitCount_95d88_23 rfl (by decide) rfl zS2_0 ?_
  change X E Ω 24 [some (.long (bc2 (bc1 (x)))), none] []
  refine z_lload_n (pc := 24) hC (i := 0) dJ13_bitCount_95d88_24 rfl rfl ?_
  refine z_lload_n (pc := 25) hC (i := 0) dJ13_bitCount_95d88_25 rfl rfl ?_
  refine z_iconst (pc := 26) hC dJ13_bitCount_95d88_26 ?_
  refine z_lushr (pc := 27) hC (show _ = shrI (bc2 (bc1 (x))) 4 from rfl) dJ13_bitCount_95d88_27 ?_
  refine z_ladd (pc := 28) hC dJ13_bitCount_95d88_28 ?_
  refine z_ldc2 (pc := 29) hC kc_J13_bitCount_95d88_318 dJ13_bitCount_95d88_29 ?_
  refine z_land (pc := 32) hC dJ13_bitCount_95d88_32 ?_
  refine z_lstore_n (pc := 33) hC (i := 0) dJ13_bitCount_95d88_33 rfl (by decide) rfl zS2_0 ?_
  change X E Ω 34 [some (.long (bc3 (bc2 (bc1 (x))))), none] []
  refine z_lload_n (pc := 34) hC (i := 0) dJ13_bitCount_95d88_34 rfl rfl ?_
  refine z_lload_n (pc := 35) hC (i := 0) dJ13_bitCount_95d88_35 rfl rfl ?_
  refine z_bipush (pc := 36) hC dJ13_bitCount_95d88_36 rfl ?_
  refine z_lushr (pc := 38) hC (show _ = shrI (bc3 (bc2 (bc1 (x)))) 8 from rfl) dJ13_bitCount_95d88_38 ?_
  refine z_ladd (pc := 39) hC dJ13_bitCount_95d88_39 ?_
  refine z_lstore_n (pc := 40) hC (i := 0) dJ13_bitCount_95d88_40 rfl (by decide) rfl zS2_0 ?_
  change X E Ω 41 [some (.long (bc4 (bc3 (bc2 (bc1 (x)))))), none] []
  refine z_lload_n (pc := 41) hC (i := 0) dJ13_bitCount_95d88_41 rfl rfl ?_
  refine z_lload_n (pc := 42) hC (i := 0) dJ13_bitCount_95d88_42 rfl rfl ?_
  refine z_bipush (pc := 43) hC dJ13_bitCount_95d88_43 rfl ?_
  refine z_lushr (pc := 45) hC (show _ = shrI (bc4 (bc3 (bc2 (bc1 (x))))) 16 from rfl) dJ13_bitCount_95d88_45 ?_
  refine z_ladd (pc := 46) hC dJ13_bitCount_95d88_46 ?_
  refine z_lstore_n (pc := 47) hC (i := 0) dJ13_bitCount_95d88_47 rfl (by decide) rfl zS2_0 ?_
  change X E Ω 48 [some (.long (bc5 (bc4 (bc3 (bc2 (bc1 (x))))))), none] []
  refine z_lload_n (pc := 48) hC (i := 0) dJ13_bitCount_95d88_48 rfl rfl ?_
  refine z_lload_n (pc := 49) hC (i := 0) dJ13_bitCount_95d88_49 rfl rfl ?_
  refine z_bipush (pc := 50) hC dJ13_bitCount_95d88_50 rfl ?_
  refine z_lushr (pc := 52) hC (show _ = shrI (bc5 (bc4 (bc3 (bc2 (bc1 (x)))))) 32 from rfl) dJ13_bitCount_95d88_52 ?_
  refine z_ladd (pc := 53) hC dJ13_bitCount_95d88_53 ?_
  refine z_lstore_n (pc := 54) hC (i := 0) dJ13_bitCount_95d88_54 rfl (by decide) rfl zS2_0 ?_
  change X E Ω 55 [some (.long (bc6 (bc5 (bc4 (bc3 (bc2 (bc1 (x)))))))), none] []
  refine z_lload_n (pc := 55) hC (i := 0) dJ13_bitCount_95d88_55 rfl rfl ?_
  refine z_l2i (pc := 56) hC ((un (bc6 (bc5 (bc4 (bc3 (bc2 (bc1 (x))))))) : Nat) : Int) (l2i_un _) dJ13_bitCount_95d88_56 ?_
  refine z_bipush (pc := 57) hC dJ13_bitCount_95d88_57 rfl ?_
  refine z_iand (pc := 59) hC (pcn x) (by rw [and127, bc_eq]) dJ13_bitCount_95d88_59 ?_
  exact z_iret (pc := 60) hC rfl ⟨_, rfl, ⟨rfl, rfl⟩⟩ dJ13_bitCount_95d88_60
theorem pcn_b (x : Int64) : 0 ≤ pcn x ∧ pcn x ≤ 64 := by
  have := sm_bd (f := fun k => if tb x k = true then 1 else 0) (a := 0) (b := 1) (n := 64) (fun k _ => by show 0 ≤ (if tb x k = true then (1 : Int) else 0) ∧ (if tb x k = true then (1 : Int) else 0) ≤ 1; split <;> omega)
  unfold pcn
  omega
theorem fl_X2_edges_21 : Cond.fieldLink RX2 21 "StrokeCuts$Scene" "width" "I" ∈ wsX2_edges := by decide +kernel
theorem in_X2_edges_X2 : ∀ x ∈ u_ws RX2 TX2 5, x ∈ wsX2_edges := by decide +kernel
theorem kc_X2_edges_76 : Cond.constantLong RX2 76 (-1) ∈ wsX2_edges := by decide +kernel
set_option maxHeartbeats 4000000 in
set_option maxRecDepth 100000 in
theorem c_X2_edges (l : Launch) (w : zP) (hw : zOK w) (Ω : Mem) (s : Int64) (hv : scok (scC Ω)) : zM l w yX2_edges wsX2_edges 2 46 [.ref (wa w 13), .long s] Ω (zi (fun r Ω1 => r = 4 * pcn s - 2 * (pcn (s &&& (colS (scC Ω) (sw (scC Ω) - 1) ^^^ (-1)) &&& shrI s 1) + pcn (s &&& shrI s (scC Ω 0))) ∧ Ω1 = Ω)) := by
  refine zM_of cX2_edges 7 (some .int) RX2 [some (.ref (wa w 13)), some (.long s), none, none, none, none, none] hw (by decide +kernel) rfl rfl (Nat.le_of_ble_eq_true rfl) rfl (fun E hC => ?_)
  have hW := sw_eq hv
  rw [scC_0] at hW
  refine z_lload_n (pc := 0) hC (i := 1) dX2_edges_0 rfl rfl ?_
  refine z_aload_n (pc := 1) hC (i := 0) dX2_edges_1 rfl rfl ?_
  refine z_aload_n (pc := 2) hC (i := 0) dX2_edges_2 rfl rfl ?_
  refine z_getI (C := RX2) (T := TX2) (N := 5) (ci := 2) (pc := 3) hC _ 0 in_X2_edges_X2 rfl (by decide) (fun _ => rfl) (by decide) fl_X2_edges_21 (fun _ => rfl) dX2_edges_3 ?_
  refine z_iconst (pc := 6) hC dX2_edges_6 ?_
  refine z_isub (pc := 7) hC dX2_edges_7 ?_
  rw [show gt Ω 13 0 - 1 = ((sw (scC Ω) - 1 : Nat) : Int) by omega]
  refine z_callV (n := 1) (T := TX2) (N := 5) (ci := 2) (pc := 8) hC (c_X2_column l w hw _ _ hv) gX2_edges_X2_column rfl (by decide +kernel) (by decide) (by decide) rfl (by decide) (fun _ => rfl) rfl rfl (Nat.le_of_ble_eq_true rfl) dX2_edges_8 (zl_k fun r8 Ω8 h8 => ?_)
  obtain ⟨rfl, hM8⟩ := h8
  obtain rfl := hM8.symm
  refine z_ldc2 (pc := 11) hC kc_X2_edges_76 dX2_edges_11 ?_
  refine z_lxor (pc := 14) hC dX2_edges_14 ?_
  refine z_land (pc := 15) hC dX2_edges_15 ?_
  refine z_lload_n (pc := 16) hC (i := 1) dX2_edges_16 rfl rfl ?_
  refine z_iconst (pc := 17) hC dX2_edges_17 ?_
  refine z_lushr (pc := 18) hC (show _ = shrI s 1 from rfl) dX2_edges_18 ?_
  refine z_land (pc := 19) hC dX2_edges_19 ?_
  refine z_lstore_n (pc := 20) hC (i := 3) dX2_edges_20 rfl (by decide) rfl (zS2_s (zS2_s (zS2_s zS2_0))) ?_
  refine z_lload_n (pc := 21) hC (i := 1) dX2_edges_21 rfl rfl ?_
  refine z_lload_n (pc := 22) hC (i := 1) dX2_edges_22 rfl rfl ?_
  refine z_aload_n (pc := 23) hC (i := 0) dX2_edges_23 rfl rfl ?_
  refine z_getI (C := RX2) (T := TX2) (N := 5) (ci := 2) (pc := 24) hC _ 0 in_X2_edges_X2 rfl (by decide) (fun _ => rfl) (by decide) fl_X2_edges_21 (fun _ => rfl) dX2_edges_24 ?_
  refine z_lushr (pc := 27) hC (show _ = shrI s (scC Ω 0) from rfl) dX2_edges_27 ?_
  refine z_land (pc := 28) hC dX2_edges_28 ?_
  refine z_lstore (pc := 29) hC (i := 5) dX2_edges_29 (by decide) rfl (zS2_s (zS2_s (zS2_s (zS2_s (zS2_s zS2_0))))) ?_
  refine z_iconst (pc := 31) hC dX2_edges_31 ?_
  refine z_lload_n (pc := 32) hC (i := 1) dX2_edges_32 rfl rfl ?_
  refine z_callS (n := 1) (pc := 33) hC (c_J13_bitCount_95d88 l w hw _ _) gX2_edges_J13_bitCount_95d88 rfl (by decide +kernel) (by decide) (by decide) rfl rfl (Nat.le_of_ble_eq_true rfl) dX2_edges_33 (zi_k fun r33 Ω33 h33 => ?_)
  obtain ⟨rfl, hM33⟩ := h33
  obtain rfl := hM33.symm
  refine z_imul (pc := 36) hC dX2_edges_36 ?_
  refine z_iconst (pc := 37) hC dX2_edges_37 ?_
  refine z_lload_n (pc := 38) hC (i := 3) dX2_edges_38 rfl rfl ?_
  refine z_callS (n := 1) (pc := 39) hC (c_J13_bitCount_95d88 l w hw _ _) gX2_edges_J13_bitCount_95d88 rfl (by decide +kernel) (by decide) (by decide) rfl rfl (Nat.le_of_ble_eq_true rfl) dX2_edges_39 (zi_k fun r39 Ω39 h39 => ?_)
  obtain ⟨rfl, hM39⟩ := h39
  obtain rfl := hM39.symm
  refine z_lload (pc := 42) hC (i := 5) dX2_edges_42 rfl ?_
  refine z_callS (n := 1) (pc := 44) hC (c_J13_bitCount_95d88 l w hw _ _) gX2_edges_J13_bitCount_95d88 rfl (by decide +kernel) (by decide) (by decide) rfl rfl (Nat.le_of_ble_eq_true rfl) dX2_edges_44 (zi_k fun r44 Ω44 h44 => ?_)
  obtain ⟨rfl, hM44⟩ := h44
  obtain rfl := hM44.symm
  refine z_iadd (pc := 47) hC dX2_edges_47 ?_
  refine z_imul (pc := 48) hC dX2_edges_48 ?_
  refine z_isub (pc := 49) hC dX2_edges_49 ?_
  exact z_iret (pc := 50) hC rfl ⟨_, rfl, ⟨rfl, rfl⟩⟩ dX2_edges_50
