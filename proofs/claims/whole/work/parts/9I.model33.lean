theorem aDoes_no {a : As} {q n : Nat} (h : pA a.2.2.2.2 a.2.2.2.1 (a.1 0) (a.1 1) 101 0 0 = (some q, n)) : aDoes a = (-10 - (q : Int), a) := by
  unfold aDoes; rw [h]
theorem aDoes_yes {a : As} {n : Nat} (h : pA a.2.2.2.2 a.2.2.2.1 (a.1 0) (a.1 1) 101 0 0 = (none, n)) : aDoes a = ((n : Int), aSet (aRem a) (doS a.2.2.2.2 a.2.2.2.1 n 0 a.1)) := by
  unfold aDoes; rw [h]
theorem fl_X5_does_195 : Cond.fieldLink RX5 195 "StrokeCutsModel" "at" "I" ∈ wsX5_does := by decide +kernel
theorem in_X5_does_X5 : ∀ x ∈ u_ws RX5 TX5 15, x ∈ wsX5_does := by decide +kernel
set_option maxHeartbeats 4000000 in
set_option maxRecDepth 100000 in
theorem c_X5_does (l : Launch) (w : zP) (hw : zOK w) (Ω : Mem) (a : As) (h : RM Ω a) : zM l w yX5_does wsX5_does 15 362 [.ref (wa w 49)] Ω (zi (fun r Ω1 => r = (aDoes a).1 ∧ RM Ω1 (aDoes a).2 ∧ frG Ω Ω1)) := by
  refine zM_of cX5_does 1 (some .int) RX5 [some (.ref (wa w 49))] hw (by decide +kernel) rfl rfl (Nat.le_of_ble_eq_true rfl) rfl (fun E hC => ?_)
  have hv := h.1.2
  have hσ := h.1.1
  have z0 : gt Ω 50 0 = a.1 0 := st_at hσ (by decide)
  have z1 : gt Ω 50 1 = a.1 1 := st_at hσ (by decide)
  have hN := sdots_le hv
  have hw01 := hv.1
  have hh01 := hv.2.1
  refine z_aload_n (pc := 0) hC (i := 0) dX5_does_0 rfl rfl ?_
  refine z_iconst (pc := 1) hC dX5_does_1 ?_
  refine z_callV (n := 1) (T := TX5) (N := 15) (ci := 5) (pc := 2) hC (c_X5_goesThrough l w hw _ a.1 h.1.1 hv h.2.2.2.2 a.2.2.2.2 a.2.2.2.1 h.2.2.2.1 0 (Or.inl rfl)) gX5_does_X5_goesThrough rfl (by decide +kernel) (by decide) (by decide) rfl (by decide) (fun _ => rfl) rfl rfl (Nat.le_of_ble_eq_true rfl) dX5_does_2 (zi_k fun r2 Ω2 h2 => ?_)
  have hP2 := h2.1 rfl
  obtain ⟨o, nn, hPA⟩ : ∃ o nn, pA a.2.2.2.2 a.2.2.2.1 (a.1 0) (a.1 1) 101 0 0 = (o, nn) := ⟨_, _, rfl⟩
  have hnb := pA_n hPA
  have hc : (∃ q, o = some q ∧ r2 = -1 ∧ gt Ω2 49 12 = ((q : Nat) : Int) ∧ frR Ω Ω2) ∨ (o = none ∧ r2 = (nn : Int) ∧ frR Ω Ω2) := by
    cases o with
    | none => exact Or.inr ⟨rfl, hP2.1 nn hPA⟩
    | some q => exact Or.inl ⟨q, rfl, hP2.2 q nn hPA⟩
  have hrb : -1 ≤ r2 ∧ r2 ≤ 101 := by rcases hc with ⟨q, q1, q2, q3⟩ | ⟨q1, q2, q3⟩ <;> omega
  refine z_iconst (pc := 5) hC dX5_does_5 ?_
  refine z_icmp_ne (pc := 6) hC 17 ⟨by omega, by omega⟩ ⟨by decide, by decide⟩ dX5_does_6 rfl (fun h6 => ?_) (fun h6 => ?_)
  · obtain ⟨rfl, q2, q4⟩ : o = none ∧ r2 = (nn : Int) ∧ frR Ω Ω2 := by
        rcases hc with ⟨q, q1, q2, q3⟩ | q
        · omega
        · exact q
    obtain ⟨k1, k2⟩ := h.rd q4
    refine z_aload_n (pc := 17) hC (i := 0) dX5_does_17 rfl rfl ?_
    refine z_callV (n := 0) (T := TX5) (N := 15) (ci := 5) (pc := 18) hC (c_X5_leaves l w hw _ a k1) gX5_does_X5_leaves rfl (by decide +kernel) (by decide) (by decide) rfl (by decide) (fun _ => rfl) rfl rfl (Nat.le_of_ble_eq_true rfl) dX5_does_18 (zv_k fun Ω18 h18 => ?_)
    obtain ⟨hR, hfr⟩ := h18
    refine z_aload_n (pc := 21) hC (i := 0) dX5_does_21 rfl rfl ?_
    refine z_iconst (pc := 22) hC dX5_does_22 ?_
    refine z_callV (n := 1) (T := TX5) (N := 15) (ci := 5) (pc := 23) hC (c_X5_goesThrough l w hw _ a.1 hR.1.1 hv hR.2.2.2.2 a.2.2.2.2 a.2.2.2.1 hR.2.2.2.1 1 (Or.inr ⟨rfl, nn, hPA⟩)) gX5_does_X5_goesThrough rfl (by decide +kernel) (by decide) (by decide) rfl (by decide) (fun _ => rfl) rfl rfl (Nat.le_of_ble_eq_true rfl) dX5_does_23 (zi_k fun r23 Ω23 h23 => ?_)
    obtain ⟨hr23, hs23, hq23⟩ := h23.2 rfl nn hPA
    subst hr23
    obtain ⟨g1, g2⟩ := hR.rq hq23 hs23 (doS_ok _ _ 101 nn 0 0 a.1 hv rfl rfl (by rw [hPA]; congr 1; omega))
    exact z_iret (pc := 26) hC rfl ⟨_, rfl, ok_retM (aDoes_yes hPA) g1 (k2.trans (hfr.trans g2))⟩ dX5_does_26
  · obtain ⟨q, rfl, q2, q3, q4⟩ : ∃ q, o = some q ∧ r2 = -1 ∧ gt Ω2 49 12 = ((q : Nat) : Int) ∧ frR Ω Ω2 := by
        rcases hc with q | ⟨q1, q2, q3⟩
        · exact q
        · omega
    obtain ⟨k1, k2⟩ := h.rd q4
    refine z_bipush (pc := 9) hC dX5_does_9 rfl ?_
    refine z_aload_n (pc := 11) hC (i := 0) dX5_does_11 rfl rfl ?_
    refine z_getI (C := RX5) (T := TX5) (N := 15) (ci := 5) (pc := 12) hC _ 12 in_X5_does_X5 rfl (by decide) (fun _ => rfl) (by decide) fl_X5_does_195 (fun _ => rfl) dX5_does_12 ?_
    refine z_isub (pc := 15) hC dX5_does_15 ?_
    exact z_iret (pc := 16) hC rfl ⟨_, rfl, by
          rw [q3]
          exact ok_retM (aDoes_no hPA) k1 k2⟩ dX5_does_16
theorem kc_X5_digest_229 : Cond.constantLong RX5 229 (31) ∈ wsX5_digest := by decide +kernel
set_option maxHeartbeats 4000000 in
set_option maxRecDepth 100000 in
theorem L_X5_digest_6 {E : zE} {w : zP} {l : Launch} {Post : Option Value → Mem → Prop} (hw : zOK w) (hC : zC E w l RX5 wsX5_digest cX5_digest 4 11 266 (some .long) Post) (a : As) (Ω : Mem) (h : RM Ω a) (K : X E Ω 31 [some (.ref (wa w 49)), some (.long (dgf (fun k => toldV a (k : Int)) 13)), none, some (.int (zI ((13 : Nat) : Int)))] []) : ∀ (n : Nat) (k : Nat), 13 < k + n → (k ≤ 13) → X E Ω 6 [some (.ref (wa w 49)), some (.long (dgf (fun k => toldV a (k : Int)) k)), none, some (.int (zI (k : Int)))] [] := by
  intro n
  induction n with
  | zero =>
    intro k hfu hk
    exact absurd hfu (by omega)
  | succ n ih =>
    intro k hfu hk
    refine z_iload_n (pc := 6) hC (i := 3) dX5_digest_6 rfl rfl ?_
    refine z_bipush (pc := 7) hC dX5_digest_7 rfl ?_
    refine z_icmp_gt (pc := 9) hC 31 (by first | assumption | exact zb_gt _ _ _ | exact zcmp_zb _ _ | exact bI_zb _ | exact ⟨by omega, by omega⟩) (by first | assumption | exact zb_gt _ _ _ | exact zcmp_zb _ _ | exact bI_zb _ | exact ⟨by omega, by omega⟩) dX5_digest_9 rfl (fun h9 => ?_) (fun h9 => ?_)
    · obtain rfl : k = 13 := by omega
      exact K
    · refine z_ldc2 (pc := 12) hC kc_X5_digest_229 dX5_digest_12 ?_
      refine z_lload_n (pc := 15) hC (i := 1) dX5_digest_15 rfl rfl ?_
      refine z_lmul (pc := 16) hC dX5_digest_16 ?_
      refine z_aload_n (pc := 17) hC (i := 0) dX5_digest_17 rfl rfl ?_
      refine z_iload_n (pc := 18) hC (i := 3) dX5_digest_18 rfl rfl ?_
      refine z_callV (n := 1) (T := TX5) (N := 15) (ci := 5) (pc := 19) hC (c_X5_tells l w hw _ a h (k : Int) ⟨by omega, by omega⟩) gX5_digest_X5_tells rfl (by decide +kernel) (by decide) (by decide) rfl (by decide) (fun _ => rfl) rfl rfl (Nat.le_of_ble_eq_true rfl) dX5_digest_19 (zi_k fun r19 Ω19 h19 => ?_)
      obtain ⟨t0, hm19⟩ := h19
      have hm19 := hm19.symm
      subst hm19
      subst t0
      refine z_i2l (pc := 22) hC rfl dX5_digest_22 ?_
      refine z_ladd (pc := 23) hC dX5_digest_23 ?_
      refine z_lstore_n (pc := 24) hC (i := 1) dX5_digest_24 rfl (by decide) rfl (zS2_s zS2_0) ?_
      refine z_iinc (pc := 25) hC (i := 3) dX5_digest_25 rfl (by decide) rfl (zS_s (zS_s (zS_s zS_0))) ?_
      refine z_goto (pc := 28) hC 6 dX5_digest_28 rfl ?_
      exact ih (k + 1) (by omega) (by omega)
theorem fl_X5_digest_7 : Cond.fieldLink RX5 7 "StrokeCutsModel" "st" "[I" ∈ wsX5_digest := by decide +kernel
theorem in_X5_digest_X5 : ∀ x ∈ u_ws RX5 TX5 15, x ∈ wsX5_digest := by decide +kernel
set_option maxHeartbeats 4000000 in
set_option maxRecDepth 100000 in
theorem L_X5_digest_33 {E : zE} {w : zP} {l : Launch} {Post : Option Value → Mem → Prop} (hw : zOK w) (hC : zC E w l RX5 wsX5_digest cX5_digest 4 11 266 (some .long) Post) (a : As) (Ω : Mem) (h : RM Ω a) (h0 : Int64) (K : X E Ω 81 [some (.ref (wa w 49)), some (.long (dgs a.1 h0 (sdots a.1))), none, some (.int (zI (sdots a.1 : Int)))] []) : ∀ (n : Nat) (k : Nat), sdots a.1 < k + n → (k ≤ sdots a.1) → X E Ω 33 [some (.ref (wa w 49)), some (.long (dgs a.1 h0 k)), none, some (.int (zI (k : Int)))] [] := by
  intro n
  induction n with
  | zero =>
    intro k hfu hk
    exact absurd hfu (by omega)
  | succ n ih =>
    intro k hfu hk
    have hN := sdots_le h.1.2
    have q0 : gt Ω 50 0 * gt Ω 50 1 = (sdots a.1 : Int) := by rw [st_at h.1.1 (by decide), st_at h.1.1 (by decide)]; exact hN.2.2.symm
    refine z_iload_n (pc := 33) hC (i := 3) dX5_digest_33 rfl rfl ?_
    refine z_aload_n (pc := 34) hC (i := 0) dX5_digest_34 rfl rfl ?_
    refine z_callV (n := 0) (T := TX5) (N := 15) (ci := 5) (pc := 35) hC (c_X5_dots l w hw _) gX5_digest_X5_dots rfl (by decide +kernel) (by decide) (by decide) rfl (by decide) (fun _ => rfl) rfl rfl (Nat.le_of_ble_eq_true rfl) dX5_digest_35 (zi_k fun r35 Ω35 h35 => ?_)
    obtain ⟨rfl, hM35⟩ := h35
    obtain rfl := hM35.symm
    rw [q0]
    refine z_icmp_ge (pc := 38) hC 81 (by first | assumption | exact zb_gt _ _ _ | exact zcmp_zb _ _ | exact bI_zb _ | exact ⟨by omega, by omega⟩) (by first | assumption | exact zb_gt _ _ _ | exact zcmp_zb _ _ | exact bI_zb _ | exact ⟨by omega, by omega⟩) dX5_digest_38 rfl (fun h38 => ?_) (fun h38 => ?_)
    · obtain rfl : k = sdots a.1 := by omega
      exact K
    · refine z_ldc2 (pc := 41) hC kc_X5_digest_229 dX5_digest_41 ?_
      refine z_lload_n (pc := 44) hC (i := 1) dX5_digest_44 rfl rfl ?_
      refine z_lmul (pc := 45) hC dX5_digest_45 ?_
      refine z_aload_n (pc := 46) hC (i := 0) dX5_digest_46 rfl rfl ?_
      refine z_getR (C := RX5) (T := TX5) (N := 15) (ci := 5) (pc := 47) hC _ _ 0 in_X5_digest_X5 rfl (by decide) (fun _ => rfl) (by decide) fl_X5_digest_7 (fun _ => rfl) dX5_digest_47 ?_
      refine z_bipush (pc := 50) hC dX5_digest_50 rfl ?_
      refine z_iload_n (pc := 52) hC (i := 3) dX5_digest_52 rfl rfl ?_
      refine z_iadd (pc := 53) hC dX5_digest_53 ?_
      refine z_ialk (pc := 54) hC _ (8 + k) (by decide) (fun _ => rfl) (by omega) (by omega) (by decide) dX5_digest_54 ?_
      rw [st_at h.1.1 (show 8 + k < 80 by omega)]
      refine z_i2l (pc := 55) hC rfl dX5_digest_55 ?_
      refine z_ladd (pc := 56) hC dX5_digest_56 ?_
      refine z_lstore_n (pc := 57) hC (i := 1) dX5_digest_57 rfl (by decide) rfl (zS2_s zS2_0) ?_
      refine z_ldc2 (pc := 58) hC kc_X5_digest_229 dX5_digest_58 ?_
      refine z_lload_n (pc := 61) hC (i := 1) dX5_digest_61 rfl rfl ?_
      refine z_lmul (pc := 62) hC dX5_digest_62 ?_
      refine z_aload_n (pc := 63) hC (i := 0) dX5_digest_63 rfl rfl ?_
      refine z_getR (C := RX5) (T := TX5) (N := 15) (ci := 5) (pc := 64) hC _ _ 0 in_X5_digest_X5 rfl (by decide) (fun _ => rfl) (by decide) fl_X5_digest_7 (fun _ => rfl) dX5_digest_64 ?_
      refine z_bipush (pc := 67) hC dX5_digest_67 rfl ?_
      refine z_iload_n (pc := 69) hC (i := 3) dX5_digest_69 rfl rfl ?_
      refine z_iadd (pc := 70) hC dX5_digest_70 ?_
      refine z_ialk (pc := 71) hC _ (44 + k) (by decide) (fun _ => rfl) (by omega) (by omega) (by decide) dX5_digest_71 ?_
      rw [st_at h.1.1 (show 44 + k < 80 by omega)]
      refine z_i2l (pc := 72) hC rfl dX5_digest_72 ?_
      refine z_ladd (pc := 73) hC dX5_digest_73 ?_
      refine z_lstore_n (pc := 74) hC (i := 1) dX5_digest_74 rfl (by decide) rfl (zS2_s zS2_0) ?_
      refine z_iinc (pc := 75) hC (i := 3) dX5_digest_75 rfl (by decide) rfl (zS_s (zS_s (zS_s zS_0))) ?_
      refine z_goto (pc := 78) hC 33 dX5_digest_78 rfl ?_
      exact ih (k + 1) (by omega) (by omega)
theorem kc_X5_digest_227 : Cond.constantLong RX5 227 (1744) ∈ wsX5_digest := by decide +kernel
set_option maxHeartbeats 4000000 in
set_option maxRecDepth 100000 in
theorem c_X5_digest (l : Launch) (w : zP) (hw : zOK w) (Ω : Mem) (a : As) (h : RM Ω a) : zM l w yX5_digest wsX5_digest 11 266 [.ref (wa w 49)] Ω (zlo (fun r Ω1 => r = (aDigest a).1 ∧ RM Ω1 (aDigest a).2 ∧ frG Ω Ω1)) := by
  refine zM_of cX5_digest 4 (some .long) RX5 [some (.ref (wa w 49)), none, none, none] hw (by decide +kernel) rfl rfl (Nat.le_of_ble_eq_true rfl) rfl (fun E hC => ?_)
  have hv := h.1.2
  have hσ := h.1.1
  have z0 : gt Ω 50 0 = a.1 0 := st_at hσ (by decide)
  have z1 : gt Ω 50 1 = a.1 1 := st_at hσ (by decide)
  have hN := sdots_le hv
  have hw01 := hv.1
  have hh01 := hv.2.1
  refine z_ldc2 (pc := 0) hC kc_X5_digest_227 dX5_digest_0 ?_
  refine z_lstore_n (pc := 3) hC (i := 1) dX5_digest_3 rfl (by decide) rfl (zS2_s zS2_0) ?_
  refine z_iconst (pc := 4) hC dX5_digest_4 ?_
  refine z_istore_n (pc := 5) hC (i := 3) dX5_digest_5 rfl (by decide) rfl (zS_s (zS_s (zS_s zS_0))) ?_
  refine L_X5_digest_6 hw hC a Ω h ?_ 14 0 (by omega) (by omega)
  refine z_iconst (pc := 31) hC dX5_digest_31 ?_
  refine z_istore_n (pc := 32) hC (i := 3) dX5_digest_32 rfl (by decide) rfl (zS_s (zS_s (zS_s zS_0))) ?_
  refine L_X5_digest_33 hw hC a Ω h _ ?_ (sdots a.1 + 1) 0 (by omega) (by omega)
  have eω : omM a.1 Ω = om a.1 := omM_om h.2.2.2.2
  refine z_ldc2 (pc := 81) hC kc_X5_digest_229 dX5_digest_81 ?_
  refine z_lload_n (pc := 84) hC (i := 1) dX5_digest_84 rfl rfl ?_
  refine z_lmul (pc := 85) hC dX5_digest_85 ?_
  refine z_aload_n (pc := 86) hC (i := 0) dX5_digest_86 rfl rfl ?_
  refine z_callV (n := 0) (T := TX5) (N := 15) (ci := 5) (pc := 87) hC (c_X5_bestCost l w hw _ a.1 hσ hv (by rw [eω]; exact om_ok hv)) gX5_digest_X5_bestCost rfl (by decide +kernel) (by decide) (by decide) rfl (by decide) (fun _ => rfl) rfl rfl (Nat.le_of_ble_eq_true rfl) dX5_digest_87 (zi_k fun r87 Ω87 h87 => ?_)
  obtain ⟨hm87, hH87, hF87⟩ := h87
  rw [eω] at hm87
  have hs87 : scM Ω87 = a.1 := (scM_cong (hF87 50 (by decide) (by decide) (by decide))).trans hσ
  have h687 : gt Ω87 49 6 = -1 := by rw [gt_fr (hF87 49 (by decide) (by decide) (by decide))]; exact h.2.2.2.2
  have hlc : r87 = lcV a.1 := lcV_eq (mnW_om.mp hm87)
  subst hlc
  refine z_i2l (pc := 90) hC rfl dX5_digest_90 ?_
  refine z_ladd (pc := 91) hC dX5_digest_91 ?_
  refine z_lstore_n (pc := 92) hC (i := 1) dX5_digest_92 rfl (by decide) rfl (zS2_s zS2_0) ?_
  refine z_ldc2 (pc := 93) hC kc_X5_digest_229 dX5_digest_93 ?_
  refine z_lload_n (pc := 96) hC (i := 1) dX5_digest_96 rfl rfl ?_
  refine z_lmul (pc := 97) hC dX5_digest_97 ?_
  refine z_aload_n (pc := 98) hC (i := 0) dX5_digest_98 rfl rfl ?_
  refine z_iconst (pc := 99) hC dX5_digest_99 ?_
  refine z_callV (n := 1) (T := TX5) (N := 15) (ci := 5) (pc := 100) hC (c_X5_sideOf l w hw _ a.1 hs87 hv h687 0 (Or.inl rfl)) gX5_digest_X5_sideOf rfl (by decide +kernel) (by decide) (by decide) rfl (by decide) (fun _ => rfl) rfl rfl (Nat.le_of_ble_eq_true rfl) dX5_digest_100 (zl_k fun r100 Ω100 h100 => ?_)
  obtain ⟨hr100, hF100⟩ := h100
  rw [if_pos rfl] at hr100
  subst hr100
  have hs100 : scM Ω100 = a.1 := (scM_cong (hF100 50 (by decide) (by decide) (by decide))).trans hs87
  have h6100 : gt Ω100 49 6 = -1 := by rw [gt_fr (hF100 49 (by decide) (by decide) (by decide))]; exact h687
  refine z_ladd (pc := 103) hC dX5_digest_103 ?_
  refine z_lstore_n (pc := 104) hC (i := 1) dX5_digest_104 rfl (by decide) rfl (zS2_s zS2_0) ?_
  refine z_ldc2 (pc := 105) hC kc_X5_digest_229 dX5_digest_105 ?_
  refine z_lload_n (pc := 108) hC (i := 1) dX5_digest_108 rfl rfl ?_
  refine z_lmul (pc := 109) hC dX5_digest_109 ?_
  refine z_aload_n (pc := 110) hC (i := 0) dX5_digest_110 rfl rfl ?_
  refine z_iconst (pc := 111) hC dX5_digest_111 ?_
  refine z_callV (n := 1) (T := TX5) (N := 15) (ci := 5) (pc := 112) hC (c_X5_sideOf l w hw _ a.1 hs100 hv h6100 1 (Or.inr rfl)) gX5_digest_X5_sideOf rfl (by decide +kernel) (by decide) (by decide) rfl (by decide) (fun _ => rfl) rfl rfl (Nat.le_of_ble_eq_true rfl) dX5_digest_112 (zl_k fun r112 Ω112 h112 => ?_)
  obtain ⟨hr112, hF112⟩ := h112
  rw [if_neg (by decide)] at hr112
  subst hr112
  obtain ⟨g1, g2⟩ := h.scr (Ω1 := Ω112) (fun q u1 u2 u3 => (hF112 q u1 u2 u3).trans ((hF100 q u1 u2 u3).trans (hF87 q u1 u2 u3)))
  refine z_ladd (pc := 115) hC dX5_digest_115 ?_
  exact z_lret (pc := 116) hC rfl ⟨_, rfl, ok_retML rfl g1 g2⟩ dX5_digest_116
