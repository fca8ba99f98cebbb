theorem tb_put (x : Int64) {n : Nat} (hn : n < 64) (k : Nat) : tb (x ||| (1 : Int64) <<< ((zI n).toInt64 &&& 63)) k = true ↔ tb x k = true ∨ k = n := by
  rw [tb_or, tb_one_shl hn, Bool.or_eq_true, Bool.and_eq_true, decide_eq_true_eq, decide_eq_true_eq]
  constructor
  · rintro (h | h)
    · exact Or.inl h
    · exact Or.inr h.2
  · rintro (h | h)
    · exact Or.inl h
    · exact Or.inr ⟨by omega, h⟩

set_option maxHeartbeats 4000000 in
set_option maxRecDepth 100000 in
theorem c_X1_solve (l : Launch) (w : zP) (hw : zOK w) (Ω : Mem) (hv : scok (scC Ω)) : zM l w yX1_solve wsX1_solve 40 1121 [.ref (wa w 3), .ref (wa w 13)] Ω (zi (fun f Ω1 => SV (scC Ω) f Ω1 ∧ ∀ q, q < 3 ∨ 9 < q → Ω1 q = Ω q)) := by
  refine zM_of cX1_solve 2 (some .int) RX1 [some (.ref (wa w 3)), some (.ref (wa w 13))] hw (by decide +kernel) rfl rfl (Nat.le_of_ble_eq_true rfl) rfl (fun E hC => ?_)
  refine z_aload_n (pc := 0) hC (i := 0) dX1_solve_0 rfl rfl ?_
  refine z_aload_n (pc := 1) hC (i := 1) dX1_solve_1 rfl rfl ?_
  refine z_callV (n := 1) (T := TX1) (N := 8) (ci := 1) (pc := 2) hC (c_X1_load l w hw _ hv) gX1_solve_X1_load rfl (by decide +kernel) (by decide) (by decide) rfl (by decide) (fun _ => rfl) rfl rfl (Nat.le_of_ble_eq_true rfl) dX1_solve_2 (zv_k fun Ω2 h2 => ?_)
  obtain ⟨hn2, h32, hF2⟩ := h2
  obtain ⟨hI2, hb2⟩ := hn2.FI hv h32
  refine z_aload_n (pc := 5) hC (i := 0) dX1_solve_5 rfl rfl ?_
  refine z_callV (n := 0) (T := TX1) (N := 8) (ci := 1) (pc := 6) hC (c_X1_fill l w hw _ (sdots (scC Ω)) (gt Ω2 6) _ (sdots_le hv).2.1 (hn2.grph hv) hb2 hI2) gX1_solve_X1_fill rfl (by decide +kernel) (by decide) (by decide) rfl (by decide) (fun _ => rfl) rfl rfl (Nat.le_of_ble_eq_true rfl) dX1_solve_6 (zi_k fun r6 Ω6 h6 => ?_)
  obtain ⟨g1, g2, g3, g4⟩ := h6
  have hS : SV (scC Ω) r6 Ω6 := ⟨gt Ω2 6, hn2.grph hv, g1, g3, g4⟩
  have hfr : ∀ q, q < 3 ∨ 9 < q → Ω6 q = Ω q := fun q hq => (g2.1 q (by omega) (by omega) (by omega) (by omega) (by omega) (by omega)).trans (hF2 q (by omega) (by omega) (by omega) (by omega) (by omega))
  exact z_iret (pc := 9) hC rfl ⟨_, rfl, ⟨hS, hfr⟩⟩ dX1_solve_9
theorem fl_X1_spread_43 : Cond.fieldLink RX1 43 "StrokeCuts$Network" "dots" "I" ∈ wsX1_spread := by decide +kernel
theorem in_X1_spread_X1 : ∀ x ∈ u_ws RX1 TX1 8, x ∈ wsX1_spread := by decide +kernel
theorem ms_X1_spread_X4_has : Cond.static yX4_has ∈ wsX1_spread := by decide +kernel
theorem mi_X1_spread_X4_has : Cond.initialized yX4_has.cls ∈ wsX1_spread := by decide +kernel
set_option maxHeartbeats 4000000 in
set_option maxRecDepth 100000 in
theorem L_X1_spread_10 {E : zE} {w : zP} {l : Launch} {Post : Option Value → Mem → Prop} (hw : zOK w) (hC : zC E w l RX1 wsX1_spread cX1_spread 9 1 22 (some .long) Post) (N : Nat) (hN : N ≤ 36) (Ω0 : Mem) (h0 : gt Ω0 3 0 = (N : Int)) (s : Int64) (K : ∀ (Ω : Mem) (c : Nat), gt Ω 3 7 = (c : Int) → SQ s N (gt Ω 9) c → frM Ω0 Ω → X E Ω 40 [some (.ref (wa w 3)), some (.long s), none, some (.long s), none, some (.int (zI (N : Int))), none, none, none] []) : ∀ (n : Nat) (k : Nat) (Ω : Mem) (c : Nat), N < k + n → (k ≤ N) → (gt Ω 3 7 = (c : Int)) → (SQ s k (gt Ω 9) c) → (frM Ω0 Ω) → X E Ω 10 [some (.ref (wa w 3)), some (.long s), none, some (.long s), none, some (.int (zI (k : Int))), none, none, none] [] := by
  intro n
  induction n with
  | zero =>
    intro k Ω c hfu hk h3 hB hF
    exact absurd hfu (by omega)
  | succ n ih =>
    intro k Ω c hfu hk h3 hB hF
    have e0 : gt Ω 3 0 = (N : Int) := hF.2.trans h0
    have e6 : gt Ω 6 = gt Ω0 6 := by unfold gt; rw [hF.1 6 (by decide) (by decide) (by decide)]
    have e7 : gt Ω 7 = gt Ω0 7 := by unfold gt; rw [hF.1 7 (by decide) (by decide) (by decide)]
    refine z_iload (pc := 10) hC (i := 5) dX1_spread_10 rfl ?_
    refine z_aload_n (pc := 12) hC (i := 0) dX1_spread_12 rfl rfl ?_
    refine z_getI (C := RX1) (T := TX1) (N := 8) (ci := 1) (pc := 13) hC _ 0 in_X1_spread_X1 rfl (by decide) (fun _ => rfl) (by decide) fl_X1_spread_43 (fun _ => rfl) dX1_spread_13 ?_
    rw [e0]
    refine z_icmp_ge (pc := 16) hC 40 (by first | assumption | exact zb_gt _ _ _ | exact zcmp_zb _ _ | exact bI_zb _ | exact ⟨by omega, by omega⟩) (by first | assumption | exact zb_gt _ _ _ | exact zcmp_zb _ _ | exact bI_zb _ | exact ⟨by omega, by omega⟩) dX1_spread_16 rfl (fun h16 => ?_) (fun h16 => ?_)
    · obtain rfl : k = N := by omega
      exact K _ _ h3 hB hF
    · refine z_lload_n (pc := 19) hC (i := 1) dX1_spread_19 rfl rfl ?_
      refine z_iload (pc := 20) hC (i := 5) dX1_spread_20 rfl ?_
      refine z_callSN (n := 2) (pc := 22) hC (c_X4_has l w hw _ s k (by omega)) (fun h => h.2.1.1) gX1_spread_X4_has_n109 ms_X1_spread_X4_has mi_X1_spread_X4_has rfl (by decide +kernel) (by decide) (by decide) rfl rfl (Nat.le_of_ble_eq_true rfl) dX1_spread_22 (zb_k fun r22 Ω22 h22 => ?_)
      obtain ⟨rfl, hM22⟩ := h22
      obtain rfl := hM22.symm
      refine z_ifd_eq (pc := 25) hC 34 dX1_spread_25 rfl (fun h25 => ?_) (fun h25 => ?_)
      · refine z_iinc (pc := 34) hC (i := 5) dX1_spread_34 rfl (by decide) rfl (zS_s (zS_s (zS_s (zS_s (zS_s zS_0))))) ?_
        refine z_goto (pc := 37) hC 10 dX1_spread_37 rfl ?_
        exact ih (k + 1) Ω c (by omega) (by omega) h3 (SQ_no hB h25) hF
      · refine z_aload_n (pc := 28) hC (i := 0) dX1_spread_28 rfl rfl ?_
        refine z_iload (pc := 29) hC (i := 5) dX1_spread_29 rfl ?_
        refine z_callV (n := 1) (T := TX1) (N := 8) (ci := 1) (pc := 31) hC (c_X1_enqueue l w hw _ k (by omega) (by have := hB.1; omega)) gX1_spread_X1_enqueue rfl (by decide +kernel) (by decide) (by decide) rfl (by decide) (fun _ => rfl) rfl rfl (Nat.le_of_ble_eq_true rfl) dX1_spread_31 (zv_k fun Ω31 h31 => ?_)
        rw [h3, Int.toNat_natCast] at h31
        subst h31
        obtain ⟨f1, f2, f3, f4⟩ := enq_facts Ω (c := c) (u := k) (by have := hB.1; omega) (by omega)
        refine z_iinc (pc := 34) hC (i := 5) dX1_spread_34 rfl (by decide) rfl (zS_s (zS_s (zS_s (zS_s (zS_s zS_0))))) ?_
        refine z_goto (pc := 37) hC 10 dX1_spread_37 rfl ?_
        exact ih (k + 1) _ (c + 1) (by omega) (by omega) f1 (by rw [f2]; exact SQ_yes hB h25) (hF.trans f4)
theorem fl_X1_spread_27 : Cond.fieldLink RX1 27 "StrokeCuts$Network" "queue" "[I" ∈ wsX1_spread := by decide +kernel
theorem fl_X1_spread_18 : Cond.fieldLink RX1 18 "StrokeCuts$Network" "neighbour" "[I" ∈ wsX1_spread := by decide +kernel
theorem fl_X1_spread_21 : Cond.fieldLink RX1 21 "StrokeCuts$Network" "room" "[I" ∈ wsX1_spread := by decide +kernel
set_option maxHeartbeats 4000000 in
set_option maxRecDepth 100000 in
theorem L_X1_spread_62 {E : zE} {w : zP} {l : Launch} {Post : Option Value → Mem → Prop} (hw : zOK w) (hC : zC E w l RX1 wsX1_spread cX1_spread 9 1 22 (some .long) Post) (N : Nat) (hN : N ≤ 36) (Ω0 : Mem) (h0 : gt Ω0 3 0 = (N : Int)) (s : Int64) (hg : grph N (gt Ω0 6)) (a : Nat) (K : ∀ (Ω : Mem) (c : Nat) (x : Int64) (o7 o8 : Option Value), gt Ω 3 7 = (c : Int) → a < c → SPI N (gt Ω0 6) (gt Ω0 7) s a 8 x (gt Ω 9) c → frM Ω0 Ω → X E Ω 137 [some (.ref (wa w 3)), some (.long s), none, some (.long x), none, some (.int (zI (a : Int))), some (.int (zI ((8 : Nat) : Int))), o7, o8] []) : ∀ (n : Nat) (j : Nat) (Ω : Mem) (c : Nat) (x : Int64) (o7 : Option Value) (o8 : Option Value), 8 < j + n → (j ≤ 8) → (gt Ω 3 7 = (c : Int)) → (a < c) → (SPI N (gt Ω0 6) (gt Ω0 7) s a j x (gt Ω 9) c) → (frM Ω0 Ω) → X E Ω 62 [some (.ref (wa w 3)), some (.long s), none, some (.long x), none, some (.int (zI (a : Int))), some (.int (zI (j : Int))), o7, o8] [] := by
  intro n
  induction n with
  | zero =>
    intro j Ω c x o7 o8 hfu hj h3 hac hB hF
    exact absurd hfu (by omega)
  | succ n ih =>
    intro j Ω c x o7 o8 hfu hj h3 hac hB hF
    have e0 : gt Ω 3 0 = (N : Int) := hF.2.trans h0
    have e6 : gt Ω 6 = gt Ω0 6 := by unfold gt; rw [hF.1 6 (by decide) (by decide) (by decide)]
    have e7 : gt Ω 7 = gt Ω0 7 := by unfold gt; rw [hF.1 7 (by decide) (by decide) (by decide)]
    obtain ⟨u, hu⟩ := nat_of (hB.2.1 a hac).1
    have huN := hB.2.1 a hac
    rw [hu, Int.toNat_natCast] at huN
    have hcN := hB.1
    refine z_iload (pc := 62) hC (i := 6) dX1_spread_62 rfl ?_
    refine z_bipush (pc := 64) hC dX1_spread_64 rfl ?_
    refine z_icmp_ge (pc := 66) hC 137 (by first | assumption | exact zb_gt _ _ _ | exact zcmp_zb _ _ | exact bI_zb _ | exact ⟨by omega, by omega⟩) (by first | assumption | exact zb_gt _ _ _ | exact zcmp_zb _ _ | exact bI_zb _ | exact ⟨by omega, by omega⟩) dX1_spread_66 rfl (fun h66 => ?_) (fun h66 => ?_)
    · obtain rfl : j = 8 := by omega
      exact K _ _ _ _ _ h3 hac hB hF
    · refine z_aload_n (pc := 69) hC (i := 0) dX1_spread_69 rfl rfl ?_
      refine z_getR (C := RX1) (T := TX1) (N := 8) (ci := 1) (pc := 70) hC _ _ 6 in_X1_spread_X1 rfl (by decide) (fun _ => rfl) (by decide) fl_X1_spread_27 (fun _ => rfl) dX1_spread_70 ?_
      refine z_iload (pc := 73) hC (i := 5) dX1_spread_73 rfl ?_
      refine z_ialk (pc := 75) hC _ a (by decide) (fun _ => rfl) rfl (by omega) (by decide) dX1_spread_75 ?_
      rw [hu]
      refine z_bipush (pc := 76) hC dX1_spread_76 rfl ?_
      refine z_imul (pc := 78) hC dX1_spread_78 ?_
      refine z_iload (pc := 79) hC (i := 6) dX1_spread_79 rfl ?_
      refine z_iadd (pc := 81) hC dX1_spread_81 ?_
      refine z_istore (pc := 82) hC (i := 7) dX1_spread_82 (by decide) rfl (zS_s (zS_s (zS_s (zS_s (zS_s (zS_s (zS_s zS_0))))))) ?_
      refine z_aload_n (pc := 84) hC (i := 0) dX1_spread_84 rfl rfl ?_
      refine z_getR (C := RX1) (T := TX1) (N := 8) (ci := 1) (pc := 85) hC _ _ 3 in_X1_spread_X1 rfl (by decide) (fun _ => rfl) (by decide) fl_X1_spread_18 (fun _ => rfl) dX1_spread_85 ?_
      refine z_iload (pc := 88) hC (i := 7) dX1_spread_88 rfl ?_
      refine z_ialk (pc := 90) hC _ (u * 8 + j) (by decide) (fun _ => rfl) (by omega) (by omega) (by decide) dX1_spread_90 ?_
      rw [e6]
      refine z_istore (pc := 91) hC (i := 8) dX1_spread_91 (by decide) rfl (zS_s (zS_s (zS_s (zS_s (zS_s (zS_s (zS_s (zS_s zS_0)))))))) ?_
      refine z_iload (pc := 93) hC (i := 8) dX1_spread_93 rfl ?_
      refine z_iconst (pc := 95) hC dX1_spread_95 ?_
      refine z_icmp_eq (pc := 96) hC 131 (by first | assumption | exact zb_gt _ _ _ | exact zcmp_zb _ _ | exact bI_zb _ | exact ⟨by omega, by omega⟩) (by first | assumption | exact zb_gt _ _ _ | exact zcmp_zb _ _ | exact bI_zb _ | exact ⟨by omega, by omega⟩) dX1_spread_96 rfl (fun h96 => ?_) (fun h96 => ?_)
      · refine z_iinc (pc := 131) hC (i := 6) dX1_spread_131 rfl (by decide) rfl (zS_s (zS_s (zS_s (zS_s (zS_s (zS_s zS_0)))))) ?_
        refine z_goto (pc := 134) hC 62 dX1_spread_134 rfl ?_
        exact ih (j + 1) Ω c x _ _ (by omega) (by omega) h3 hac (SPI_skip hB (fun q => absurd q (by rw [hu, Int.toNat_natCast]; omega))) hF
      · obtain ⟨v, hv⟩ : ∃ v : Nat, gt Ω0 6 (u * 8 + j) = v := nat_of (by rcases hg (u * 8 + j) (by omega) with q | q <;> omega)
        have hvN := (hg.at (show u * 8 + j < 8 * N by omega) (by omega)).1
        rw [hv, Int.toNat_natCast] at hvN
        rw [hv]
        refine z_aload_n (pc := 99) hC (i := 0) dX1_spread_99 rfl rfl ?_
        refine z_getR (C := RX1) (T := TX1) (N := 8) (ci := 1) (pc := 100) hC _ _ 4 in_X1_spread_X1 rfl (by decide) (fun _ => rfl) (by decide) fl_X1_spread_21 (fun _ => rfl) dX1_spread_100 ?_
        refine z_iload (pc := 103) hC (i := 7) dX1_spread_103 rfl ?_
        refine z_ialk (pc := 105) hC _ (u * 8 + j) (by decide) (fun _ => rfl) (by omega) (by omega) (by decide) dX1_spread_105 ?_
        refine z_if_le (pc := 106) hC 131 (by first | assumption | exact zb_gt _ _ _ | exact zcmp_zb _ _ | exact bI_zb _ | exact ⟨by omega, by omega⟩) dX1_spread_106 rfl (fun h106 => ?_) (fun h106 => ?_)
        · refine z_iinc (pc := 131) hC (i := 6) dX1_spread_131 rfl (by decide) rfl (zS_s (zS_s (zS_s (zS_s (zS_s (zS_s zS_0)))))) ?_
          refine z_goto (pc := 134) hC 62 dX1_spread_134 rfl ?_
          exact ih (j + 1) Ω c x _ _ (by omega) (by omega) h3 hac (SPI_skip hB (fun _ q => absurd q (by rw [hu, Int.toNat_natCast, ← e7]; omega))) hF
        · refine z_lload_n (pc := 109) hC (i := 3) dX1_spread_109 rfl rfl ?_
          refine z_iload (pc := 110) hC (i := 8) dX1_spread_110 rfl ?_
          refine z_callSN (n := 2) (pc := 112) hC (c_X4_has l w hw _ x v (by omega)) (fun h => h.2.1.1) gX1_spread_X4_has_n109 ms_X1_spread_X4_has mi_X1_spread_X4_has rfl (by decide +kernel) (by decide) (by decide) rfl rfl (Nat.le_of_ble_eq_true rfl) dX1_spread_112 (zb_k fun r112 Ω112 h112 => ?_)
          obtain ⟨rfl, hM112⟩ := h112
          obtain rfl := hM112.symm
          refine z_ifd_ne (pc := 115) hC 131 dX1_spread_115 rfl (fun h115 => ?_) (fun h115 => ?_)
          · refine z_iinc (pc := 131) hC (i := 6) dX1_spread_131 rfl (by decide) rfl (zS_s (zS_s (zS_s (zS_s (zS_s (zS_s zS_0)))))) ?_
            refine z_goto (pc := 134) hC 62 dX1_spread_134 rfl ?_
            exact ih (j + 1) Ω c x _ _ (by omega) (by omega) h3 hac (SPI_skip hB (fun _ _ => by rw [hu, Int.toNat_natCast, hv, Int.toNat_natCast]; exact h115)) hF
          · obtain ⟨hcc, hB2⟩ := SPI_push (y := x ||| (1 : Int64) <<< ((zI v).toInt64 &&& 63)) hB hg hac (by omega) (by rw [hu]; exact hv) (by rw [hu, Int.toNat_natCast, ← e7]; omega) h115 (tb_put x (by omega))
            refine z_lload_n (pc := 118) hC (i := 3) dX1_spread_118 rfl rfl ?_
            refine z_lconst (pc := 119) hC (v := 1) dX1_spread_119 rfl ?_
            refine z_iload (pc := 120) hC (i := 8) dX1_spread_120 rfl ?_
            refine z_lshl (pc := 122) hC rfl dX1_spread_122 ?_
            refine z_lor (pc := 123) hC dX1_spread_123 ?_
            refine z_lstore_n (pc := 124) hC (i := 3) dX1_spread_124 rfl (by decide) rfl (zS2_s (zS2_s (zS2_s zS2_0))) ?_
            refine z_aload_n (pc := 125) hC (i := 0) dX1_spread_125 rfl rfl ?_
            refine z_iload (pc := 126) hC (i := 8) dX1_spread_126 rfl ?_
            refine z_callV (n := 1) (T := TX1) (N := 8) (ci := 1) (pc := 128) hC (c_X1_enqueue l w hw _ v (by omega) (by omega)) gX1_spread_X1_enqueue rfl (by decide +kernel) (by decide) (by decide) rfl (by decide) (fun _ => rfl) rfl rfl (Nat.le_of_ble_eq_true rfl) dX1_spread_128 (zv_k fun Ω128 h128 => ?_)
            rw [h3, Int.toNat_natCast] at h128
            subst h128
            obtain ⟨f1, f2, f3, f4⟩ := enq_facts Ω (c := c) (u := v) (by omega) (by omega)
            refine z_iinc (pc := 131) hC (i := 6) dX1_spread_131 rfl (by decide) rfl (zS_s (zS_s (zS_s (zS_s (zS_s (zS_s zS_0)))))) ?_
            refine z_goto (pc := 134) hC 62 dX1_spread_134 rfl ?_
            exact ih (j + 1) _ (c + 1) _ _ _ (by omega) (by omega) f1 (by omega) (by rw [f2]; exact hB2) (hF.trans f4)
theorem fl_X1_spread_89 : Cond.fieldLink RX1 89 "StrokeCuts$Network" "queued" "I" ∈ wsX1_spread := by decide +kernel
set_option maxHeartbeats 4000000 in
set_option maxRecDepth 100000 in
theorem L_X1_spread_43 {E : zE} {w : zP} {l : Launch} {Post : Option Value → Mem → Prop} (hw : zOK w) (hC : zC E w l RX1 wsX1_spread cX1_spread 9 1 22 (some .long) Post) (N : Nat) (hN : N ≤ 36) (Ω0 : Mem) (h0 : gt Ω0 3 0 = (N : Int)) (s : Int64) (hg : grph N (gt Ω0 6)) (K : ∀ (Ω : Mem) (x : Int64), clos N (gt Ω0 6) (gt Ω0 7) s x → frM Ω0 Ω → ∀ (a : Nat) (o6 o7 o8 : Option Value), X E Ω 143 [some (.ref (wa w 3)), some (.long s), none, some (.long x), none, some (.int (zI (a : Int))), o6, o7, o8] [])  : ∀ (n : Nat) (a : Nat) (Ω : Mem) (c : Nat) (x : Int64) (o6 : Option Value) (o7 : Option Value) (o8 : Option Value), 36 < a + n → (a ≤ 36) → (gt Ω 3 7 = (c : Int)) → (SPI N (gt Ω0 6) (gt Ω0 7) s a 0 x (gt Ω 9) c) → (frM Ω0 Ω) → X E Ω 43 [some (.ref (wa w 3)), some (.long s), none, some (.long x), none, some (.int (zI (a : Int))), o6, o7, o8] [] := by
  intro n
  induction n with
  | zero =>
    intro a Ω c x o6 o7 o8 hfu ha h3 hB hF
    exact absurd hfu (by omega)
  | succ n ih =>
    intro a Ω c x o6 o7 o8 hfu ha h3 hB hF
    have hcN := hB.1
    refine z_iload (pc := 43) hC (i := 5) dX1_spread_43 rfl ?_
    refine z_aload_n (pc := 45) hC (i := 0) dX1_spread_45 rfl rfl ?_
    refine z_getI (C := RX1) (T := TX1) (N := 8) (ci := 1) (pc := 46) hC _ 7 in_X1_spread_X1 rfl (by decide) (fun _ => rfl) (by decide) fl_X1_spread_89 (fun _ => rfl) dX1_spread_46 ?_
    rw [h3]
    refine z_icmp_ge (pc := 49) hC 143 (by first | assumption | exact zb_gt _ _ _ | exact zcmp_zb _ _ | exact bI_zb _ | exact ⟨by omega, by omega⟩) (by first | assumption | exact zb_gt _ _ _ | exact zcmp_zb _ _ | exact bI_zb _ | exact ⟨by omega, by omega⟩) dX1_spread_49 rfl (fun h49 => ?_) (fun h49 => ?_)
    · exact K _ _ (SPI_end hB (by omega)) hF _ _ _ _
    · refine z_iload (pc := 52) hC (i := 5) dX1_spread_52 rfl ?_
      refine z_bipush (pc := 54) hC dX1_spread_54 rfl ?_
      refine z_icmp_ge (pc := 56) hC 143 (by first | assumption | exact zb_gt _ _ _ | exact zcmp_zb _ _ | exact bI_zb _ | exact ⟨by omega, by omega⟩) (by first | assumption | exact zb_gt _ _ _ | exact zcmp_zb _ _ | exact bI_zb _ | exact ⟨by omega, by omega⟩) dX1_spread_56 rfl (fun h56 => ?_) (fun h56 => ?_)
      · exact absurd h56 (by omega)
      · refine z_iconst (pc := 59) hC dX1_spread_59 ?_
        refine z_istore (pc := 60) hC (i := 6) dX1_spread_60 (by decide) rfl (zS_s (zS_s (zS_s (zS_s (zS_s (zS_s zS_0)))))) ?_
        refine L_X1_spread_62 hw hC N hN Ω0 h0 s hg a (fun Ω1 c1 x1 o7 o8 g3 gac gB gF => ?_) 9 0 Ω c x o7 o8 (by omega) (by omega) h3 (by omega) hB hF
        refine z_iinc (pc := 137) hC (i := 5) dX1_spread_137 rfl (by decide) rfl (zS_s (zS_s (zS_s (zS_s (zS_s zS_0))))) ?_
        refine z_goto (pc := 140) hC 43 dX1_spread_140 rfl ?_
        exact ih (a + 1) Ω1 c1 x1 _ _ _ (by omega) (by have := gB.1; omega) g3 (SPI_next gB) gF
set_option maxHeartbeats 4000000 in
set_option maxRecDepth 100000 in
theorem c_X1_spread (l : Launch) (w : zP) (hw : zOK w) (Ω : Mem) (N : Nat) (hN : N ≤ 36) (h0 : gt Ω 3 0 = (N : Int)) (hg : grph N (gt Ω 6)) (s : Int64) (hs : ∀ k, tb s k = true → k < N) : zM l w yX1_spread wsX1_spread 1 22 [.ref (wa w 3), .long s] Ω (zlo (fun x Ω1 => clos N (gt Ω 6) (gt Ω 7) s x ∧ frM Ω Ω1)) := by
  refine zM_of cX1_spread 9 (some .long) RX1 [some (.ref (wa w 3)), some (.long s), none, none, none, none, none, none, none] hw (by decide +kernel) rfl rfl (Nat.le_of_ble_eq_true rfl) rfl (fun E hC => ?_)
  refine z_lload_n (pc := 0) hC (i := 1) dX1_spread_0 rfl rfl ?_
  refine z_lstore_n (pc := 1) hC (i := 3) dX1_spread_1 rfl (by decide) rfl (zS2_s (zS2_s (zS2_s zS2_0))) ?_
  refine z_aload_n (pc := 2) hC (i := 0) dX1_spread_2 rfl rfl ?_
  refine z_iconst (pc := 3) hC dX1_spread_3 ?_
  refine z_putI (C := RX1) (T := TX1) (N := 8) (ci := 1) (pc := 4) hC _ 7 in_X1_spread_X1 rfl (by decide) (fun _ => rfl) (by decide) fl_X1_spread_89 tyX1_ok nmX1 rfl (by decide +kernel) (fun _ => Nat.le_of_ble_eq_true rfl) (fun _ _ => rfl) dX1_spread_4 ?_
  refine z_iconst (pc := 7) hC dX1_spread_7 ?_
  refine z_istore (pc := 8) hC (i := 5) dX1_spread_8 (by decide) rfl (zS_s (zS_s (zS_s (zS_s (zS_s zS_0))))) ?_
  refine L_X1_spread_10 hw hC N hN Ω h0 s (fun Ω1 c g3 gB gF => ?_) (N + 1) 0 _ 0 (by omega) (by omega) (gt_s _ _ _ zb_0) (SQ_0 _ _) (frM_37 _ _)
  refine z_iconst (pc := 40) hC dX1_spread_40 ?_
  refine z_istore (pc := 41) hC (i := 5) dX1_spread_41 (by decide) rfl (zS_s (zS_s (zS_s (zS_s (zS_s zS_0))))) ?_
  refine L_X1_spread_43 hw hC N hN Ω h0 s hg (fun Ω2 x gl gF2 a o6 o7 o8 => ?_) 37 0 Ω1 c s none none none (by omega) (by omega) g3 (SPI_0 gB hs) gF
  refine z_lload_n (pc := 143) hC (i := 3) dX1_spread_143 rfl rfl ?_
  exact z_lret (pc := 144) hC rfl ⟨_, rfl, gl, gF2⟩ dX1_spread_144
theorem fl_X1_leastSet_43 : Cond.fieldLink RX1 43 "StrokeCuts$Network" "dots" "I" ∈ wsX1_leastSet := by decide +kernel
theorem in_X1_leastSet_X1 : ∀ x ∈ u_ws RX1 TX1 8, x ∈ wsX1_leastSet := by decide +kernel
theorem fl_X1_leastSet_9 : Cond.fieldLink RX1 9 "StrokeCuts$Network" "fromFigure" "[I" ∈ wsX1_leastSet := by decide +kernel
set_option maxHeartbeats 4000000 in
set_option maxRecDepth 100000 in
theorem L_X1_leastSet_4 {E : zE} {w : zP} {l : Launch} {Post : Option Value → Mem → Prop} (hw : zOK w) (hC : zC E w l RX1 wsX1_leastSet cX1_leastSet 4 2 50 (some .long) Post) (Ω : Mem) (N : Nat) (hN : N ≤ 36) (h0 : gt Ω 3 0 = (N : Int)) (K : ∀ x : Int64, (∀ j, tb x j = true ↔ j < N ∧ 0 < gt Ω 4 j) → X E Ω 33 [some (.ref (wa w 3)), some (.long x), none, some (.int (zI (N : Int)))] []) : ∀ (n : Nat) (k : Nat) (x : Int64), N < k + n → (k ≤ N) → ((∀ j, tb x j = true ↔ j < k ∧ 0 < gt Ω 4 j)) → X E Ω 4 [some (.ref (wa w 3)), some (.long x), none, some (.int (zI (k : Int)))] [] := by
  intro n
  induction n with
  | zero =>
    intro k x hfu hk hx
    exact absurd hfu (by omega)
  | succ n ih =>
    intro k x hfu hk hx
    refine z_iload_n (pc := 4) hC (i := 3) dX1_leastSet_4 rfl rfl ?_
    refine z_aload_n (pc := 5) hC (i := 0) dX1_leastSet_5 rfl rfl ?_
    refine z_getI (C := RX1) (T := TX1) (N := 8) (ci := 1) (pc := 6) hC _ 0 in_X1_leastSet_X1 rfl (by decide) (fun _ => rfl) (by decide) fl_X1_leastSet_43 (fun _ => rfl) dX1_leastSet_6 ?_
    rw [h0]
    refine z_icmp_ge (pc := 9) hC 33 (by first | assumption | exact zb_gt _ _ _ | exact zcmp_zb _ _ | exact bI_zb _ | exact ⟨by omega, by omega⟩) (by first | assumption | exact zb_gt _ _ _ | exact zcmp_zb _ _ | exact bI_zb _ | exact ⟨by omega, by omega⟩) dX1_leastSet_9 rfl (fun h9 => ?_) (fun h9 => ?_)
    · obtain rfl : k = N := by omega
      exact K x hx
    · refine z_aload_n (pc := 12) hC (i := 0) dX1_leastSet_12 rfl rfl ?_
      refine z_getR (C := RX1) (T := TX1) (N := 8) (ci := 1) (pc := 13) hC _ _ 1 in_X1_leastSet_X1 rfl (by decide) (fun _ => rfl) (by decide) fl_X1_leastSet_9 (fun _ => rfl) dX1_leastSet_13 ?_
      refine z_iload_n (pc := 16) hC (i := 3) dX1_leastSet_16 rfl rfl ?_
      refine z_ialk (pc := 17) hC _ k (by decide) (fun _ => rfl) rfl (by omega) (by decide) dX1_leastSet_17 ?_
      refine z_if_le (pc := 18) hC 27 (by first | assumption | exact zb_gt _ _ _ | exact zcmp_zb _ _ | exact bI_zb _ | exact ⟨by omega, by omega⟩) dX1_leastSet_18 rfl (fun h18 => ?_) (fun h18 => ?_)
      · refine z_iinc (pc := 27) hC (i := 3) dX1_leastSet_27 rfl (by decide) rfl (zS_s (zS_s (zS_s zS_0))) ?_
        refine z_goto (pc := 30) hC 4 dX1_leastSet_30 rfl ?_
        exact ih (k + 1) x (by omega) (by omega) (fun j => by
          rw [hx j]
          by_cases e : j = k
          · subst e; constructor <;> intro q <;> omega
          · constructor <;> intro q <;> exact ⟨by omega, q.2⟩)
      · refine z_lload_n (pc := 21) hC (i := 1) dX1_leastSet_21 rfl rfl ?_
        refine z_lconst (pc := 22) hC (v := 1) dX1_leastSet_22 rfl ?_
        refine z_iload_n (pc := 23) hC (i := 3) dX1_leastSet_23 rfl rfl ?_
        refine z_lshl (pc := 24) hC rfl dX1_leastSet_24 ?_
        refine z_lor (pc := 25) hC dX1_leastSet_25 ?_
        refine z_lstore_n (pc := 26) hC (i := 1) dX1_leastSet_26 rfl (by decide) rfl (zS2_s zS2_0) ?_
        refine z_iinc (pc := 27) hC (i := 3) dX1_leastSet_27 rfl (by decide) rfl (zS_s (zS_s (zS_s zS_0))) ?_
        refine z_goto (pc := 30) hC 4 dX1_leastSet_30 rfl ?_
        exact ih (k + 1) _ (by omega) (by omega) (fun j => by
          rw [tb_put x (show k < 64 by omega), hx j]
          by_cases e : j = k
          · subst e; exact ⟨fun _ => ⟨by omega, by omega⟩, fun _ => Or.inr rfl⟩
          · exact ⟨fun q => by rcases q with q | q; exact ⟨by omega, q.2⟩; exact absurd q e, fun q => Or.inl ⟨by omega, q.2⟩⟩)
set_option maxHeartbeats 4000000 in
set_option maxRecDepth 100000 in
theorem c_X1_leastSet (l : Launch) (w : zP) (hw : zOK w) (Ω : Mem) (σ : Sg) (f : Int) (hv : scok σ) (hS : SV σ f Ω) : zM l w yX1_leastSet wsX1_leastSet 2 50 [.ref (wa w 3)] Ω (zlo (fun x Ω1 => (∀ k, tb x k = true → k < sdots σ) ∧ Best σ f (tb x) ∧ (∀ T, Best σ f T → ∀ k, tb x k = true → T k = true) ∧ frM Ω Ω1)) := by
  refine zM_of cX1_leastSet 4 (some .long) RX1 [some (.ref (wa w 3)), none, none, none] hw (by decide +kernel) rfl rfl (Nat.le_of_ble_eq_true rfl) rfl (fun E hC => ?_)
  refine z_lconst (pc := 0) hC (v := 0) dX1_leastSet_0 rfl ?_
  refine z_lstore_n (pc := 1) hC (i := 1) dX1_leastSet_1 rfl (by decide) rfl (zS2_s zS2_0) ?_
  refine z_iconst (pc := 2) hC dX1_leastSet_2 ?_
  refine z_istore_n (pc := 3) hC (i := 3) dX1_leastSet_3 rfl (by decide) rfl (zS_s (zS_s (zS_s zS_0))) ?_
  obtain ⟨nb, hg, h2, h3, L, h4, h5⟩ := hS
  have hN := (sdots_le hv).2.1
  refine L_X1_leastSet_4 hw hC Ω (sdots σ) hN h2.2.2.2.2.1 (fun x hx => ?_) (sdots σ + 1) 0 0 (by omega) (by omega) (fun j => by rw [tb_0]; constructor <;> intro q <;> first | exact absurd q (by decide) | omega)
  refine z_aload_n (pc := 33) hC (i := 0) dX1_leastSet_33 rfl rfl ?_
  refine z_lload_n (pc := 34) hC (i := 1) dX1_leastSet_34 rfl rfl ?_
  refine z_callV (n := 1) (T := TX1) (N := 8) (ci := 1) (pc := 35) hC (c_X1_spread l w hw _ (sdots σ) hN h2.2.2.2.2.1 (by rw [h2.2.2.2.1]; exact hg) x (fun k hk => ((hx k).mp hk).1)) gX1_leastSet_X1_spread rfl (by decide +kernel) (by decide) (by decide) rfl (by decide) (fun _ => rfl) rfl rfl (Nat.le_of_ble_eq_true rfl) dX1_leastSet_35 (zl_k fun r35 Ω35 h35 => ?_)
  obtain ⟨c35, f35⟩ := h35
  rw [h2.2.2.2.1] at c35
  have hz := best_zero hg h2 h4 h5
  have hcb := clos_best h2 c35 (fun v hv hp => (hx v).mpr ⟨hv, hp⟩) hz (fun k hk => decide_eq_true (h5 k ((hx k).mp hk).1 ((hx k).mp hk).2))
  exact z_lret (pc := 38) hC rfl ⟨_, rfl, ⟨c35.1, hcb.1, fun T hT k hk => c35.2.2.2 T (fun k hk => by
    have q := (hx k).mp hk
    have hT2 := (SV.iff h2 T).mp hT
    cases c : T k
    · have := hT2.2.1 k q.1 c; omega
    · rfl) ((SV.iff h2 T).mp hT).2.2 k hk, f35⟩⟩ dX1_leastSet_38
theorem fl_X1_greatestSet_43 : Cond.fieldLink RX1 43 "StrokeCuts$Network" "dots" "I" ∈ wsX1_greatestSet := by decide +kernel
theorem in_X1_greatestSet_X1 : ∀ x ∈ u_ws RX1 TX1 8, x ∈ wsX1_greatestSet := by decide +kernel
theorem fl_X1_greatestSet_24 : Cond.fieldLink RX1 24 "StrokeCuts$Network" "distance" "[I" ∈ wsX1_greatestSet := by decide +kernel
set_option maxHeartbeats 4000000 in
set_option maxRecDepth 100000 in
theorem L_X1_greatestSet_8 {E : zE} {w : zP} {l : Launch} {Post : Option Value → Mem → Prop} (hw : zOK w) (hC : zC E w l RX1 wsX1_greatestSet cX1_greatestSet 4 2 45 (some .long) Post) (Ω : Mem) (N : Nat) (hN : N ≤ 36) (h0 : gt Ω 3 0 = (N : Int)) (K : ∀ x : Int64, (∀ j, tb x j = true ↔ j < N ∧ gt Ω 8 j = 0) → X E Ω 37 [some (.ref (wa w 3)), some (.long x), none, some (.int (zI (N : Int)))] []) : ∀ (n : Nat) (k : Nat) (x : Int64), N < k + n → (k ≤ N) → ((∀ j, tb x j = true ↔ j < k ∧ gt Ω 8 j = 0)) → X E Ω 8 [some (.ref (wa w 3)), some (.long x), none, some (.int (zI (k : Int)))] [] := by
  intro n
  induction n with
  | zero =>
    intro k x hfu hk hx
    exact absurd hfu (by omega)
  | succ n ih =>
    intro k x hfu hk hx
    refine z_iload_n (pc := 8) hC (i := 3) dX1_greatestSet_8 rfl rfl ?_
    refine z_aload_n (pc := 9) hC (i := 0) dX1_greatestSet_9 rfl rfl ?_
    refine z_getI (C := RX1) (T := TX1) (N := 8) (ci := 1) (pc := 10) hC _ 0 in_X1_greatestSet_X1 rfl (by decide) (fun _ => rfl) (by decide) fl_X1_greatestSet_43 (fun _ => rfl) dX1_greatestSet_10 ?_
    rw [h0]
    refine z_icmp_ge (pc := 13) hC 37 (by first | assumption | exact zb_gt _ _ _ | exact zcmp_zb _ _ | exact bI_zb _ | exact ⟨by omega, by omega⟩) (by first | assumption | exact zb_gt _ _ _ | exact zcmp_zb _ _ | exact bI_zb _ | exact ⟨by omega, by omega⟩) dX1_greatestSet_13 rfl (fun h13 => ?_) (fun h13 => ?_)
    · obtain rfl : k = N := by omega
      exact K x hx
    · refine z_aload_n (pc := 16) hC (i := 0) dX1_greatestSet_16 rfl rfl ?_
      refine z_getR (C := RX1) (T := TX1) (N := 8) (ci := 1) (pc := 17) hC _ _ 5 in_X1_greatestSet_X1 rfl (by decide) (fun _ => rfl) (by decide) fl_X1_greatestSet_24 (fun _ => rfl) dX1_greatestSet_17 ?_
      refine z_iload_n (pc := 20) hC (i := 3) dX1_greatestSet_20 rfl rfl ?_
      refine z_ialk (pc := 21) hC _ k (by decide) (fun _ => rfl) rfl (by omega) (by decide) dX1_greatestSet_21 ?_
      refine z_if_ne (pc := 22) hC 31 (by first | assumption | exact zb_gt _ _ _ | exact zcmp_zb _ _ | exact bI_zb _ | exact ⟨by omega, by omega⟩) dX1_greatestSet_22 rfl (fun h22 => ?_) (fun h22 => ?_)
      · refine z_iinc (pc := 31) hC (i := 3) dX1_greatestSet_31 rfl (by decide) rfl (zS_s (zS_s (zS_s zS_0))) ?_
        refine z_goto (pc := 34) hC 8 dX1_greatestSet_34 rfl ?_
        exact ih (k + 1) x (by omega) (by omega) (fun j => by
          rw [hx j]
          by_cases e : j = k
          · subst e; constructor <;> intro q <;> omega
          · constructor <;> intro q <;> exact ⟨by omega, q.2⟩)
      · refine z_lload_n (pc := 25) hC (i := 1) dX1_greatestSet_25 rfl rfl ?_
        refine z_lconst (pc := 26) hC (v := 1) dX1_greatestSet_26 rfl ?_
        refine z_iload_n (pc := 27) hC (i := 3) dX1_greatestSet_27 rfl rfl ?_
        refine z_lshl (pc := 28) hC rfl dX1_greatestSet_28 ?_
        refine z_lor (pc := 29) hC dX1_greatestSet_29 ?_
        refine z_lstore_n (pc := 30) hC (i := 1) dX1_greatestSet_30 rfl (by decide) rfl (zS2_s zS2_0) ?_
        refine z_iinc (pc := 31) hC (i := 3) dX1_greatestSet_31 rfl (by decide) rfl (zS_s (zS_s (zS_s zS_0))) ?_
        refine z_goto (pc := 34) hC 8 dX1_greatestSet_34 rfl ?_
        exact ih (k + 1) _ (by omega) (by omega) (fun j => by
          rw [tb_put x (show k < 64 by omega), hx j]
          by_cases e : j = k
          · subst e; exact ⟨fun _ => ⟨by omega, by omega⟩, fun _ => Or.inr rfl⟩
          · exact ⟨fun q => by rcases q with q | q; exact ⟨by omega, q.2⟩; exact absurd q e, fun q => Or.inl ⟨by omega, q.2⟩⟩)
set_option maxHeartbeats 4000000 in
set_option maxRecDepth 100000 in
theorem c_X1_greatestSet (l : Launch) (w : zP) (hw : zOK w) (Ω : Mem) (σ : Sg) (f : Int) (hv : scok σ) (hS : SV σ f Ω) : zM l w yX1_greatestSet wsX1_greatestSet 2 45 [.ref (wa w 3)] Ω (zlo (fun x Ω1 => (∀ k, tb x k = true → k < sdots σ) ∧ Best σ f (tb x) ∧ (∀ T, Best σ f T → ∀ k, k < sdots σ → T k = true → tb x k = true) ∧ frM Ω Ω1)) := by
  refine zM_of cX1_greatestSet 4 (some .long) RX1 [some (.ref (wa w 3)), none, none, none] hw (by decide +kernel) rfl rfl (Nat.le_of_ble_eq_true rfl) rfl (fun E hC => ?_)
  obtain ⟨nb, hg, h2, h3, L, h4, h5⟩ := hS
  have hN := (sdots_le hv).2.1
  refine z_aload_n (pc := 0) hC (i := 0) dX1_greatestSet_0 rfl rfl ?_
  refine z_callV (n := 0) (T := TX1) (N := 8) (ci := 1) (pc := 1) hC (c_X1_measureDistances l w hw _ (sdots σ) hN h2.2.2.2.2.1 (by rw [h2.2.2.2.1]; exact hg)) gX1_greatestSet_X1_measureDistances rfl (by decide +kernel) (by decide) (by decide) rfl (by decide) (fun _ => rfl) rfl rfl (Nat.le_of_ble_eq_true rfl) dX1_greatestSet_1 (zv_k fun Ω1 h1 => ?_)
  obtain ⟨hl, hM⟩ := h1
  rw [h2.2.2.2.1] at hl
  have h03 : gt Ω1 3 0 = (sdots σ : Int) := hM.2.trans h2.2.2.2.2.1
  refine z_lconst (pc := 4) hC (v := 0) dX1_greatestSet_4 rfl ?_
  refine z_lstore_n (pc := 5) hC (i := 1) dX1_greatestSet_5 rfl (by decide) rfl (zS2_s zS2_0) ?_
  refine z_iconst (pc := 6) hC dX1_greatestSet_6 ?_
  refine z_istore_n (pc := 7) hC (i := 3) dX1_greatestSet_7 rfl (by decide) rfl (zS_s (zS_s (zS_s zS_0))) ?_
  refine L_X1_greatestSet_8 hw hC Ω1 (sdots σ) hN h03 (fun x hx => ?_) (sdots σ + 1) 0 0 (by omega) (by omega) (fun j => by rw [tb_0]; constructor <;> intro q <;> first | exact absurd q (by decide) | omega)
  have hup : ∀ T, Best σ f T → ∀ k, k < sdots σ → T k = true → tb x k = true := fun T hT k hk ht => by
    obtain ⟨n, hn⟩ := nat_of (hl.1 k hk).1
    exact (hx k).mpr ⟨hk, best_lab hg hl ((SV.iff h2 T).mp hT).1 ((SV.iff h2 T).mp hT).2.2 n k hk hn ht⟩
  have hz := best_zero hg h2 h4 h5
  have hl5 : ∀ v, v < sdots σ → 0 < gt Ω 4 v → gt Ω1 8 v = 0 := fun v hv hp => ((hx v).mp (hup _ hz v hv (decide_eq_true (h5 v hv hp)))).2
  have hb := best_zero hg h2 hl hl5
  have hbx : Best σ f (tb x) := by
    rw [SV.iff h2] at hb ⊢
    have q : ∀ v, v < sdots σ → tb x v = decide (gt Ω1 8 v = 0) := fun v hv => by
      cases c : tb x v
      · symm; apply decide_eq_false; intro q; rw [(hx v).mpr ⟨hv, q⟩] at c; exact absurd c (by decide)
      · symm; exact decide_eq_true ((hx v).mp c).2
    refine ⟨fun v hv hs => hb.1 v hv (by rw [← q v hv]; exact hs), fun v hv hs => hb.2.1 v hv (by rw [← q v hv]; exact hs), fun e he hn hs hr => ?_⟩
    rw [q _ (hg.at he hn).1]
    exact hb.2.2 e he hn (by rw [← q _ (by omega)]; exact hs) hr
  refine z_lload_n (pc := 37) hC (i := 1) dX1_greatestSet_37 rfl rfl ?_
  exact z_lret (pc := 38) hC rfl ⟨_, rfl, fun k hk => ((hx k).mp hk).1, hbx, hup, hM⟩ dX1_greatestSet_38
theorem ms_X1_alwaysParts_X4_has : Cond.static yX4_has ∈ wsX1_alwaysParts := by decide +kernel
theorem mi_X1_alwaysParts_X4_has : Cond.initialized yX4_has.cls ∈ wsX1_alwaysParts := by decide +kernel
set_option maxHeartbeats 4000000 in
set_option maxRecDepth 100000 in
theorem c_X1_alwaysParts (l : Launch) (w : zP) (hw : zOK w) (Ω : Mem) (σ : Sg) (f : Int) (hv : scok σ) (hS : SV σ f Ω) (a o : Nat) (ha : a < sdots σ) (ho : o < sdots σ) [Decidable (∀ T, Best σ f T → T a = true ∧ T o = false)] : zM l w yX1_alwaysParts wsX1_alwaysParts 3 73 [.ref (wa w 3), .int (zI (a : Int)), .int (zI (o : Int))] Ω (zbo (fun b Ω1 => b = decide (∀ T, Best σ f T → T a = true ∧ T o = false) ∧ frM Ω Ω1)) := by
  refine zM_of cX1_alwaysParts 3 (some .boolean) RX1 [some (.ref (wa w 3)), some (.int (zI (a : Int))), some (.int (zI (o : Int)))] hw (by decide +kernel) rfl rfl (Nat.le_of_ble_eq_true rfl) rfl (fun E hC => ?_)
  refine z_aload_n (pc := 0) hC (i := 0) dX1_alwaysParts_0 rfl rfl ?_
  refine z_callV (n := 0) (T := TX1) (N := 8) (ci := 1) (pc := 1) hC (c_X1_leastSet l w hw _ σ f hv hS) gX1_alwaysParts_X1_leastSet rfl (by decide +kernel) (by decide) (by decide) rfl (by decide) (fun _ => rfl) rfl rfl (Nat.le_of_ble_eq_true rfl) dX1_alwaysParts_1 (zl_k fun r1 Ω1 h1 => ?_)
  obtain ⟨hl1, hb1, hm1, hF1⟩ := h1
  refine z_iload_n (pc := 4) hC (i := 1) dX1_alwaysParts_4 rfl rfl ?_
  refine z_callSN (n := 2) (pc := 5) hC (c_X4_has l w hw _ r1 a (by have := sdots_le hv; omega)) (fun h => h.2.1.1) gX1_alwaysParts_X4_has_n109 ms_X1_alwaysParts_X4_has mi_X1_alwaysParts_X4_has rfl (by decide +kernel) (by decide) (by decide) rfl rfl (Nat.le_of_ble_eq_true rfl) dX1_alwaysParts_5 (zb_k fun r5 Ω5 h5 => ?_)
  obtain ⟨rfl, hM5⟩ := h5
  obtain rfl := hM5.symm
  refine z_ifd_eq (pc := 8) hC 26 dX1_alwaysParts_8 rfl (fun h8 => ?_) (fun h8 => ?_)
  · refine z_iconst (pc := 26) hC dX1_alwaysParts_26 ?_
    exact z_zret (b := false) (pc := 27) hC rfl ⟨false, rfl, ⟨(decide_eq_false (fun q => h8 (q _ hb1).1)).symm, hF1⟩⟩ dX1_alwaysParts_27
  · refine z_aload_n (pc := 11) hC (i := 0) dX1_alwaysParts_11 rfl rfl ?_
    refine z_callV (n := 0) (T := TX1) (N := 8) (ci := 1) (pc := 12) hC (c_X1_greatestSet l w hw _ σ f hv (hS.moved hF1)) gX1_alwaysParts_X1_greatestSet rfl (by decide +kernel) (by decide) (by decide) rfl (by decide) (fun _ => rfl) rfl rfl (Nat.le_of_ble_eq_true rfl) dX1_alwaysParts_12 (zl_k fun r12 Ω12 h12 => ?_)
    obtain ⟨hl12, hb12, hm12, hF12⟩ := h12
    refine z_iload_n (pc := 15) hC (i := 2) dX1_alwaysParts_15 rfl rfl ?_
    refine z_callSN (n := 2) (pc := 16) hC (c_X4_has l w hw _ r12 o (by have := sdots_le hv; omega)) (fun h => h.2.1.1) gX1_alwaysParts_X4_has_n109 ms_X1_alwaysParts_X4_has mi_X1_alwaysParts_X4_has rfl (by decide +kernel) (by decide) (by decide) rfl rfl (Nat.le_of_ble_eq_true rfl) dX1_alwaysParts_16 (zb_k fun r16 Ω16 h16 => ?_)
    obtain ⟨rfl, hM16⟩ := h16
    obtain rfl := hM16.symm
    refine z_ifd_ne (pc := 19) hC 26 dX1_alwaysParts_19 rfl (fun h19 => ?_) (fun h19 => ?_)
    · refine z_iconst (pc := 26) hC dX1_alwaysParts_26 ?_
      exact z_zret (b := false) (pc := 27) hC rfl ⟨false, rfl, ⟨(decide_eq_false (fun q => by have := (q _ hb12).2; rw [h19] at this; exact absurd this (by decide))).symm, hF1.trans hF12⟩⟩ dX1_alwaysParts_27
    · refine z_iconst (pc := 22) hC dX1_alwaysParts_22 ?_
      refine z_goto (pc := 23) hC 27 dX1_alwaysParts_23 rfl ?_
      exact z_zret (b := true) (pc := 27) hC rfl ⟨true, rfl, ⟨(decide_eq_true (fun T hT => ⟨hm1 T hT a h8, by
                                                               cases c : T o
                                                               · rfl
                                                               · exact absurd (hm12 T hT o ho c) h19⟩)).symm, hF1.trans hF12⟩⟩ dX1_alwaysParts_27
theorem ms_X1_mayPart_X4_has : Cond.static yX4_has ∈ wsX1_mayPart := by decide +kernel
theorem mi_X1_mayPart_X4_has : Cond.initialized yX4_has.cls ∈ wsX1_mayPart := by decide +kernel
set_option maxHeartbeats 4000000 in
set_option maxRecDepth 100000 in
theorem c_X1_mayPart (l : Launch) (w : zP) (hw : zOK w) (Ω : Mem) (σ : Sg) (f : Int) (hv : scok σ) (hS : SV σ f Ω) (a o : Nat) (ha : a < sdots σ) (ho : o < sdots σ) [Decidable (∃ T, Best σ f T ∧ T a = true ∧ T o = false)] : zM l w yX1_mayPart wsX1_mayPart 3 73 [.ref (wa w 3), .int (zI (a : Int)), .int (zI (o : Int))] Ω (zbo (fun b Ω1 => b = decide (∃ T, Best σ f T ∧ T a = true ∧ T o = false) ∧ frM Ω Ω1)) := by
  refine zM_of cX1_mayPart 3 (some .boolean) RX1 [some (.ref (wa w 3)), some (.int (zI (a : Int))), some (.int (zI (o : Int)))] hw (by decide +kernel) rfl rfl (Nat.le_of_ble_eq_true rfl) rfl (fun E hC => ?_)
  refine z_aload_n (pc := 0) hC (i := 0) dX1_mayPart_0 rfl rfl ?_
  refine z_callV (n := 0) (T := TX1) (N := 8) (ci := 1) (pc := 1) hC (c_X1_greatestSet l w hw _ σ f hv hS) gX1_mayPart_X1_greatestSet rfl (by decide +kernel) (by decide) (by decide) rfl (by decide) (fun _ => rfl) rfl rfl (Nat.le_of_ble_eq_true rfl) dX1_mayPart_1 (zl_k fun r1 Ω1 h1 => ?_)
  obtain ⟨hl1, hb1, hm1, hF1⟩ := h1
  refine z_iload_n (pc := 4) hC (i := 1) dX1_mayPart_4 rfl rfl ?_
  refine z_callSN (n := 2) (pc := 5) hC (c_X4_has l w hw _ r1 a (by have := sdots_le hv; omega)) (fun h => h.2.1.1) gX1_mayPart_X4_has_n109 ms_X1_mayPart_X4_has mi_X1_mayPart_X4_has rfl (by decide +kernel) (by decide) (by decide) rfl rfl (Nat.le_of_ble_eq_true rfl) dX1_mayPart_5 (zb_k fun r5 Ω5 h5 => ?_)
  obtain ⟨rfl, hM5⟩ := h5
  obtain rfl := hM5.symm
  refine z_ifd_ne (pc := 8) hC 13 dX1_mayPart_8 rfl (fun h8 => ?_) (fun h8 => ?_)
  · refine z_aload_n (pc := 13) hC (i := 0) dX1_mayPart_13 rfl rfl ?_
    refine z_aload_n (pc := 14) hC (i := 0) dX1_mayPart_14 rfl rfl ?_
    refine z_callV (n := 0) (T := TX1) (N := 8) (ci := 1) (pc := 15) hC (c_X1_leastSet l w hw _ σ f hv (hS.moved hF1)) gX1_mayPart_X1_leastSet rfl (by decide +kernel) (by decide) (by decide) rfl (by decide) (fun _ => rfl) rfl rfl (Nat.le_of_ble_eq_true rfl) dX1_mayPart_15 (zl_k fun r15 Ω15 h15 => ?_)
    obtain ⟨hl15, hb15, hm15, hF15⟩ := h15
    obtain ⟨nb, hg, hS3, h3, L, h4, h5⟩ := (hS.moved hF1).moved hF15
    refine z_lconst (pc := 18) hC (v := 1) dX1_mayPart_18 rfl ?_
    refine z_iload_n (pc := 19) hC (i := 1) dX1_mayPart_19 rfl rfl ?_
    refine z_lshl (pc := 20) hC rfl dX1_mayPart_20 ?_
    refine z_lor (pc := 21) hC dX1_mayPart_21 ?_
    refine z_callV (n := 1) (T := TX1) (N := 8) (ci := 1) (pc := 22) hC (c_X1_spread l w hw _ (sdots σ) (sdots_le hv).2.1 hS3.2.2.2.2.1 (by rw [hS3.2.2.2.1]; exact hg) _ (fun k hk => by rcases (tb_put r15 (show a < 64 by have := sdots_le hv; omega) k).mp hk with q | q; exact hl15 k q; omega)) gX1_mayPart_X1_spread rfl (by decide +kernel) (by decide) (by decide) rfl (by decide) (fun _ => rfl) rfl rfl (Nat.le_of_ble_eq_true rfl) dX1_mayPart_22 (zl_k fun r22 Ω22 h22 => ?_)
    obtain ⟨c22, f22⟩ := h22
    rw [hS3.2.2.2.1] at c22
    have hput := tb_put r15 (show a < 64 by have := sdots_le hv; omega)
    have hcb : ∀ T, Best σ f T → T a = true → Best σ f (tb r22) ∧ ∀ k, tb r22 k = true → T k = true := fun T hT ht => clos_best hS3 c22 (fun v hv hp => (hput v).mpr (Or.inl (by
      cases c : tb r15 v
      · have := ((SV.iff hS3 _).mp hb15).2.1 v hv c; omega
      · rfl))) hT (fun k hk => by
      rcases (hput k).mp hk with q | q
      · exact hm15 T hT k q
      · subst q; exact ht)
    refine z_iload_n (pc := 25) hC (i := 2) dX1_mayPart_25 rfl rfl ?_
    refine z_callSN (n := 2) (pc := 26) hC (c_X4_has l w hw _ r22 o (by have := sdots_le hv; omega)) (fun h => h.2.1.1) gX1_mayPart_X4_has_n109 ms_X1_mayPart_X4_has mi_X1_mayPart_X4_has rfl (by decide +kernel) (by decide) (by decide) rfl rfl (Nat.le_of_ble_eq_true rfl) dX1_mayPart_26 (zb_k fun r26 Ω26 h26 => ?_)
    obtain ⟨rfl, hM26⟩ := h26
    obtain rfl := hM26.symm
    refine z_ifd_ne (pc := 29) hC 36 dX1_mayPart_29 rfl (fun h29 => ?_) (fun h29 => ?_)
    · refine z_iconst (pc := 36) hC dX1_mayPart_36 ?_
      exact z_zret (b := false) (pc := 37) hC rfl ⟨false, rfl, ⟨(decide_eq_false (fun ⟨T, q1, q2, q3⟩ => by have := (hcb T q1 q2).2 o h29; rw [q3] at this; exact absurd this (by decide))).symm, (hF1.trans hF15).trans f22⟩⟩ dX1_mayPart_37
    · refine z_iconst (pc := 32) hC dX1_mayPart_32 ?_
      refine z_goto (pc := 33) hC 37 dX1_mayPart_33 rfl ?_
      exact z_zret (b := true) (pc := 37) hC rfl ⟨true, rfl, ⟨(decide_eq_true ⟨tb r22, (hcb _ hb1 h8).1, c22.2.1 a ((hput a).mpr (Or.inr rfl)), by
                                                               cases c : tb r22 o
                                                               · rfl
                                                               · exact absurd c h29⟩).symm, (hF1.trans hF15).trans f22⟩⟩ dX1_mayPart_37
  · refine z_iconst (pc := 11) hC dX1_mayPart_11 ?_
    exact z_zret (b := false) (pc := 12) hC rfl ⟨false, rfl, ⟨(decide_eq_false (fun ⟨T, q1, q2, q3⟩ => h8 (hm1 T q1 a ha q2))).symm, hF1⟩⟩ dX1_mayPart_12
