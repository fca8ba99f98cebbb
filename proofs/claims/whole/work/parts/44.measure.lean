def frM (Ω Ω1 : Mem) : Prop := (∀ q, q ≠ 3 → q ≠ 8 → q ≠ 9 → Ω1 q = Ω q) ∧ gt Ω1 3 0 = gt Ω 3 0
theorem frM.trans {A B C : Mem} (h : frM A B) (g : frM B C) : frM A C := ⟨fun q a b c => (g.1 q a b c).trans (h.1 q a b c), g.2.trans h.2⟩
theorem frM.refl (A : Mem) : frM A A := ⟨fun _ _ _ _ => rfl, rfl⟩
theorem gt_nf (Ω : Mem) {q r : Nat} (k : Nat) (v : Int) (h : r ≠ q) : gt (ups Ω q k v) r = gt Ω r := funext fun j => gt_n Ω k j v h
theorem frM_8 (Ω : Mem) (k : Nat) (v : Int) : frM Ω (ups Ω 8 k v) := ⟨fun q _ b _ => ups_n _ _ _ b, gt_n _ _ _ _ (by decide)⟩
theorem frM_9 (Ω : Mem) (k : Nat) (v : Int) : frM Ω (ups Ω 9 k v) := ⟨fun q _ _ c => ups_n _ _ _ c, gt_n _ _ _ _ (by decide)⟩
theorem frM_37 (Ω : Mem) (v : Int) : frM Ω (ups Ω 3 7 v) := ⟨fun q a _ _ => ups_n _ _ _ a, gt_sn _ _ _ (by decide)⟩
/-- what putting into the queue leaves -/
theorem enq_facts (Ω : Mem) {c u : Nat} (hc : c ≤ 36) (hu : u ≤ 36) : gt (ups (ups Ω 9 c (u : Int)) 3 7 ((c : Int) + 1)) 3 7 = ((c + 1 : Nat) : Int) ∧ gt (ups (ups Ω 9 c (u : Int)) 3 7 ((c : Int) + 1)) 9 = fup (gt Ω 9) c (u : Int) ∧ gt (ups (ups Ω 9 c (u : Int)) 3 7 ((c : Int) + 1)) 8 = gt Ω 8 ∧ frM Ω (ups (ups Ω 9 c (u : Int)) 3 7 ((c : Int) + 1)) := by
  refine ⟨by rw [gt_s _ _ _ ⟨by omega, by omega⟩]; omega, ?_, ?_, (frM_9 _ _ _).trans (frM_37 _ _)⟩
  · rw [gt_nf _ _ _ (by decide), gt_fup _ _ _ ⟨by omega, by omega⟩]
  · rw [gt_nf _ _ _ (by decide), gt_nf _ _ _ (by decide)]

theorem fl_X1_measureDistances_43 : Cond.fieldLink RX1 43 "StrokeCuts$Network" "dots" "I" ∈ wsX1_measureDistances := by decide +kernel
theorem in_X1_measureDistances_X1 : ∀ x ∈ u_ws RX1 TX1 8, x ∈ wsX1_measureDistances := by decide +kernel
theorem fl_X1_measureDistances_24 : Cond.fieldLink RX1 24 "StrokeCuts$Network" "distance" "[I" ∈ wsX1_measureDistances := by decide +kernel
theorem fl_X1_measureDistances_15 : Cond.fieldLink RX1 15 "StrokeCuts$Network" "toGround" "[I" ∈ wsX1_measureDistances := by decide +kernel
set_option maxHeartbeats 4000000 in
set_option maxRecDepth 100000 in
theorem L_X1_measureDistances_7 {E : zE} {w : zP} {l : Launch} {Post : Option Value → Mem → Prop} (hw : zOK w) (hC : zC E w l RX1 wsX1_measureDistances cX1_measureDistances 5 1 21 none Post) (N : Nat) (hN : N ≤ 36) (Ω0 : Mem) (h0 : gt Ω0 3 0 = (N : Int)) (K : ∀ (Ω : Mem) (c : Nat), gt Ω 3 7 = (c : Int) → B1 (gt Ω0 5) N (gt Ω 8) (gt Ω 9) c → frM Ω0 Ω → X E Ω 49 [some (.ref (wa w 3)), some (.int (zI (N : Int))), none, none, none] []) : ∀ (n : Nat) (k : Nat) (Ω : Mem) (c : Nat), N < k + n → (k ≤ N) → (gt Ω 3 7 = (c : Int)) → (B1 (gt Ω0 5) k (gt Ω 8) (gt Ω 9) c) → (frM Ω0 Ω) → X E Ω 7 [some (.ref (wa w 3)), some (.int (zI (k : Int))), none, none, none] [] := by
  intro n
  induction n with
  | zero =>
    intro k Ω c hfu hk h3 hB hF
    exact absurd hfu (by omega)
  | succ n ih =>
    intro k Ω c hfu hk h3 hB hF
    have e0 : gt Ω 3 0 = (N : Int) := hF.2.trans h0
    have e5 : gt Ω 5 = gt Ω0 5 := by unfold gt; rw [hF.1 5 (by decide) (by decide) (by decide)]
    have e6 : gt Ω 6 = gt Ω0 6 := by unfold gt; rw [hF.1 6 (by decide) (by decide) (by decide)]
    have e7 : gt Ω 7 = gt Ω0 7 := by unfold gt; rw [hF.1 7 (by decide) (by decide) (by decide)]
    refine z_iload_n (pc := 7) hC (i := 1) dX1_measureDistances_7 rfl rfl ?_
    refine z_aload_n (pc := 8) hC (i := 0) dX1_measureDistances_8 rfl rfl ?_
    refine z_getI (C := RX1) (T := TX1) (N := 8) (ci := 1) (pc := 9) hC _ 0 in_X1_measureDistances_X1 rfl (by decide) (fun _ => rfl) (by decide) fl_X1_measureDistances_43 (fun _ => rfl) dX1_measureDistances_9 ?_
    rw [e0]
    refine z_icmp_ge (pc := 12) hC 49 (by first | assumption | exact zb_gt _ _ _ | exact zcmp_zb _ _ | exact bI_zb _ | exact ⟨by omega, by omega⟩) (by first | assumption | exact zb_gt _ _ _ | exact zcmp_zb _ _ | exact bI_zb _ | exact ⟨by omega, by omega⟩) dX1_measureDistances_12 rfl (fun h12 => ?_) (fun h12 => ?_)
    · obtain rfl : k = N := by omega
      exact K _ _ h3 hB hF
    · refine z_aload_n (pc := 15) hC (i := 0) dX1_measureDistances_15 rfl rfl ?_
      refine z_getR (C := RX1) (T := TX1) (N := 8) (ci := 1) (pc := 16) hC _ _ 5 in_X1_measureDistances_X1 rfl (by decide) (fun _ => rfl) (by decide) fl_X1_measureDistances_24 (fun _ => rfl) dX1_measureDistances_16 ?_
      refine z_iload_n (pc := 19) hC (i := 1) dX1_measureDistances_19 rfl rfl ?_
      refine z_iconst (pc := 20) hC dX1_measureDistances_20 ?_
      refine z_iask (pc := 21) hC _ k (by decide) (fun _ => rfl) rfl (by omega) (by decide) dX1_measureDistances_21 ?_
      refine z_aload_n (pc := 22) hC (i := 0) dX1_measureDistances_22 rfl rfl ?_
      refine z_getR (C := RX1) (T := TX1) (N := 8) (ci := 1) (pc := 23) hC _ _ 2 in_X1_measureDistances_X1 rfl (by decide) (fun _ => rfl) (by decide) fl_X1_measureDistances_15 (fun _ => rfl) dX1_measureDistances_23 ?_
      refine z_iload_n (pc := 26) hC (i := 1) dX1_measureDistances_26 rfl rfl ?_
      refine z_ialk (pc := 27) hC _ k (by decide) (fun _ => rfl) rfl (by omega) (by decide) dX1_measureDistances_27 ?_
      rw [gt_n _ _ _ _ (by decide : 5 ≠ 8), e5]
      refine z_if_le (pc := 28) hC 43 (by first | assumption | exact zb_gt _ _ _ | exact zcmp_zb _ _ | exact bI_zb _ | exact ⟨by omega, by omega⟩) dX1_measureDistances_28 rfl (fun h28 => ?_) (fun h28 => ?_)
      · refine z_iinc (pc := 43) hC (i := 1) dX1_measureDistances_43 rfl (by decide) rfl (zS_s zS_0) ?_
        refine z_goto (pc := 46) hC 7 dX1_measureDistances_46 rfl ?_
        exact ih (k + 1) _ c (by omega) (by omega) (by rw [gt_n _ _ _ _ (by decide : 3 ≠ 8)]; exact h3) (by rw [gt_fup _ _ _ zb_0, gt_nf _ _ _ (by decide : 9 ≠ 8)]; exact B1_no hB (by omega)) (hF.trans (frM_8 _ _ _))
      · refine z_aload_n (pc := 31) hC (i := 0) dX1_measureDistances_31 rfl rfl ?_
        refine z_getR (C := RX1) (T := TX1) (N := 8) (ci := 1) (pc := 32) hC _ _ 5 in_X1_measureDistances_X1 rfl (by decide) (fun _ => rfl) (by decide) fl_X1_measureDistances_24 (fun _ => rfl) dX1_measureDistances_32 ?_
        refine z_iload_n (pc := 35) hC (i := 1) dX1_measureDistances_35 rfl rfl ?_
        refine z_iconst (pc := 36) hC dX1_measureDistances_36 ?_
        refine z_iask (pc := 37) hC _ k (by decide) (fun _ => rfl) rfl (by omega) (by decide) dX1_measureDistances_37 ?_
        have e37 : gt (ups (ups Ω 8 k 0) 8 k 1) 3 7 = (c : Int) := by rw [gt_n _ _ _ _ (by decide : 3 ≠ 8), gt_n _ _ _ _ (by decide : 3 ≠ 8)]; exact h3
        refine z_aload_n (pc := 38) hC (i := 0) dX1_measureDistances_38 rfl rfl ?_
        refine z_iload_n (pc := 39) hC (i := 1) dX1_measureDistances_39 rfl rfl ?_
        refine z_callV (n := 1) (T := TX1) (N := 8) (ci := 1) (pc := 40) hC (c_X1_enqueue l w hw _ k (by rw [e37]; omega) (by rw [e37]; have := hB.1; omega)) gX1_measureDistances_X1_enqueue rfl (by decide +kernel) (by decide) (by decide) rfl (by decide) (fun _ => rfl) rfl rfl (Nat.le_of_ble_eq_true rfl) dX1_measureDistances_40 (zv_k fun Ω40 h40 => ?_)
        rw [e37, Int.toNat_natCast] at h40
        subst h40
        obtain ⟨f1, f2, f3, f4⟩ := enq_facts (ups (ups Ω 8 k 0) 8 k 1) (c := c) (u := k) (by have := hB.1; omega) (by omega)
        refine z_iinc (pc := 43) hC (i := 1) dX1_measureDistances_43 rfl (by decide) rfl (zS_s zS_0) ?_
        refine z_goto (pc := 46) hC 7 dX1_measureDistances_46 rfl ?_
        exact ih (k + 1) _ (c + 1) (by omega) (by omega) f1 (by rw [f2, f3, gt_fup _ _ _ ⟨by omega, by omega⟩, gt_fup _ _ _ zb_0, gt_nf _ _ _ (by decide : 9 ≠ 8), gt_nf _ _ _ (by decide : 9 ≠ 8)]; exact B1_yes hB (by omega)) (((hF.trans (frM_8 _ _ _)).trans (frM_8 _ _ _)).trans f4)
theorem fl_X1_measureDistances_18 : Cond.fieldLink RX1 18 "StrokeCuts$Network" "neighbour" "[I" ∈ wsX1_measureDistances := by decide +kernel
theorem fl_X1_measureDistances_21 : Cond.fieldLink RX1 21 "StrokeCuts$Network" "room" "[I" ∈ wsX1_measureDistances := by decide +kernel
set_option maxHeartbeats 4000000 in
set_option maxRecDepth 100000 in
theorem L_X1_measureDistances_74 {E : zE} {w : zP} {l : Launch} {Post : Option Value → Mem → Prop} (hw : zOK w) (hC : zC E w l RX1 wsX1_measureDistances cX1_measureDistances 5 1 21 none Post) (N : Nat) (hN : N ≤ 36) (Ω0 : Mem) (h0 : gt Ω0 3 0 = (N : Int)) (hg : grph N (gt Ω0 6)) (a u : Nat) (K : ∀ (Ω : Mem) (c : Nat) (o4 : Option Value), gt Ω 3 7 = (c : Int) → a < c → gt Ω 9 a = (u : Int) → BF N (gt Ω0 6) (gt Ω0 5) (gt Ω0 7) a 8 (gt Ω 8) (gt Ω 9) c → frM Ω0 Ω → X E Ω 154 [some (.ref (wa w 3)), some (.int (zI (a : Int))), some (.int (zI (u : Int))), some (.int (zI ((8 : Nat) : Int))), o4] []) : ∀ (n : Nat) (j : Nat) (Ω : Mem) (c : Nat) (o4 : Option Value), 8 < j + n → (j ≤ 8) → (gt Ω 3 7 = (c : Int)) → (a < c) → (gt Ω 9 a = (u : Int)) → (BF N (gt Ω0 6) (gt Ω0 5) (gt Ω0 7) a j (gt Ω 8) (gt Ω 9) c) → (frM Ω0 Ω) → X E Ω 74 [some (.ref (wa w 3)), some (.int (zI (a : Int))), some (.int (zI (u : Int))), some (.int (zI (j : Int))), o4] [] := by
  intro n
  induction n with
  | zero =>
    intro j Ω c o4 hfu hj h3 hac hu hB hF
    exact absurd hfu (by omega)
  | succ n ih =>
    intro j Ω c o4 hfu hj h3 hac hu hB hF
    have e0 : gt Ω 3 0 = (N : Int) := hF.2.trans h0
    have e5 : gt Ω 5 = gt Ω0 5 := by unfold gt; rw [hF.1 5 (by decide) (by decide) (by decide)]
    have e6 : gt Ω 6 = gt Ω0 6 := by unfold gt; rw [hF.1 6 (by decide) (by decide) (by decide)]
    have e7 : gt Ω 7 = gt Ω0 7 := by unfold gt; rw [hF.1 7 (by decide) (by decide) (by decide)]
    have huN := hB.2.1 a hac
    rw [hu, Int.toNat_natCast] at huN
    have hcN := hB.1
    refine z_iload_n (pc := 74) hC (i := 3) dX1_measureDistances_74 rfl rfl ?_
    refine z_bipush (pc := 75) hC dX1_measureDistances_75 rfl ?_
    refine z_icmp_ge (pc := 77) hC 154 (by first | assumption | exact zb_gt _ _ _ | exact zcmp_zb _ _ | exact bI_zb _ | exact ⟨by omega, by omega⟩) (by first | assumption | exact zb_gt _ _ _ | exact zcmp_zb _ _ | exact bI_zb _ | exact ⟨by omega, by omega⟩) dX1_measureDistances_77 rfl (fun h77 => ?_) (fun h77 => ?_)
    · obtain rfl : j = 8 := by omega
      exact K _ _ _ h3 hac hu hB hF
    · refine z_aload_n (pc := 80) hC (i := 0) dX1_measureDistances_80 rfl rfl ?_
      refine z_getR (C := RX1) (T := TX1) (N := 8) (ci := 1) (pc := 81) hC _ _ 3 in_X1_measureDistances_X1 rfl (by decide) (fun _ => rfl) (by decide) fl_X1_measureDistances_18 (fun _ => rfl) dX1_measureDistances_81 ?_
      refine z_iload_n (pc := 84) hC (i := 2) dX1_measureDistances_84 rfl rfl ?_
      refine z_bipush (pc := 85) hC dX1_measureDistances_85 rfl ?_
      refine z_imul (pc := 87) hC dX1_measureDistances_87 ?_
      refine z_iload_n (pc := 88) hC (i := 3) dX1_measureDistances_88 rfl rfl ?_
      refine z_iadd (pc := 89) hC dX1_measureDistances_89 ?_
      refine z_ialk (pc := 90) hC _ (u * 8 + j) (by decide) (fun _ => rfl) (by omega) (by omega) (by decide) dX1_measureDistances_90 ?_
      rw [e6]
      refine z_istore (pc := 91) hC (i := 4) dX1_measureDistances_91 (by decide) rfl (zS_s (zS_s (zS_s (zS_s zS_0)))) ?_
      refine z_iload (pc := 93) hC (i := 4) dX1_measureDistances_93 rfl ?_
      refine z_iconst (pc := 95) hC dX1_measureDistances_95 ?_
      skip
      refine z_icmp_eq (pc := 96) hC 148 (by first | assumption | exact zb_gt _ _ _ | exact zcmp_zb _ _ | exact bI_zb _ | exact ⟨by omega, by omega⟩) (by first | assumption | exact zb_gt _ _ _ | exact zcmp_zb _ _ | exact bI_zb _ | exact ⟨by omega, by omega⟩) dX1_measureDistances_96 rfl (fun h96 => ?_) (fun h96 => ?_)
      · refine z_iinc (pc := 148) hC (i := 3) dX1_measureDistances_148 rfl (by decide) rfl (zS_s (zS_s (zS_s zS_0))) ?_
        refine z_goto (pc := 151) hC 74 dX1_measureDistances_151 rfl ?_
        exact ih (j + 1) Ω c _ (by omega) (by omega) h3 hac hu (BF_skip hB hg hac (by omega) (fun q => absurd q (by rw [hu, Int.toNat_natCast]; omega))) hF
      · obtain ⟨v, hv⟩ : ∃ v : Nat, gt Ω0 6 (u * 8 + j) = v := nat_of (by rcases hg (u * 8 + j) (by omega) with q | q <;> omega)
        have hvN := (hg.at (show u * 8 + j < 8 * N by omega) (by omega)).1
        rw [hv, Int.toNat_natCast] at hvN
        have hj8 := rv_lt (j := j) (by omega)
        rw [hv]
        refine z_aload_n (pc := 99) hC (i := 0) dX1_measureDistances_99 rfl rfl ?_
        refine z_getR (C := RX1) (T := TX1) (N := 8) (ci := 1) (pc := 100) hC _ _ 5 in_X1_measureDistances_X1 rfl (by decide) (fun _ => rfl) (by decide) fl_X1_measureDistances_24 (fun _ => rfl) dX1_measureDistances_100 ?_
        refine z_iload (pc := 103) hC (i := 4) dX1_measureDistances_103 rfl ?_
        refine z_ialk (pc := 105) hC _ v (by decide) (fun _ => rfl) rfl (by omega) (by decide) dX1_measureDistances_105 ?_
        refine z_if_ne (pc := 106) hC 148 (by first | assumption | exact zb_gt _ _ _ | exact zcmp_zb _ _ | exact bI_zb _ | exact ⟨by omega, by omega⟩) dX1_measureDistances_106 rfl (fun h106 => ?_) (fun h106 => ?_)
        · refine z_iinc (pc := 148) hC (i := 3) dX1_measureDistances_148 rfl (by decide) rfl (zS_s (zS_s (zS_s zS_0))) ?_
          refine z_goto (pc := 151) hC 74 dX1_measureDistances_151 rfl ?_
          exact ih (j + 1) Ω c _ (by omega) (by omega) h3 hac hu (BF_skip hB hg hac (by omega) (fun _ _ => by rw [hu, Int.toNat_natCast, hv, Int.toNat_natCast]; exact h106)) hF
        · refine z_aload_n (pc := 109) hC (i := 0) dX1_measureDistances_109 rfl rfl ?_
          refine z_getR (C := RX1) (T := TX1) (N := 8) (ci := 1) (pc := 110) hC _ _ 4 in_X1_measureDistances_X1 rfl (by decide) (fun _ => rfl) (by decide) fl_X1_measureDistances_21 (fun _ => rfl) dX1_measureDistances_110 ?_
          refine z_iload (pc := 113) hC (i := 4) dX1_measureDistances_113 rfl ?_
          refine z_bipush (pc := 115) hC dX1_measureDistances_115 rfl ?_
          refine z_imul (pc := 117) hC dX1_measureDistances_117 ?_
          refine z_iload_n (pc := 118) hC (i := 3) dX1_measureDistances_118 rfl rfl ?_
          refine z_callS (n := 1) (pc := 119) hC (c_X1_reverse l w hw _ _ (by omega)) gX1_measureDistances_X1_reverse rfl (by decide +kernel) (by decide) (by decide) rfl rfl (Nat.le_of_ble_eq_true rfl) dX1_measureDistances_119 (zi_k fun r119 Ω119 h119 => ?_)
          obtain ⟨rfl, hM119⟩ := h119
          obtain rfl := hM119.symm
          refine z_iadd (pc := 122) hC dX1_measureDistances_122 ?_
          refine z_ialk (pc := 123) hC _ (v * 8 + rv j) (by decide) (fun _ => rfl) (by omega) (by omega) (by decide) dX1_measureDistances_123 ?_
          refine z_if_le (pc := 124) hC 148 (by first | assumption | exact zb_gt _ _ _ | exact zcmp_zb _ _ | exact bI_zb _ | exact ⟨by omega, by omega⟩) dX1_measureDistances_124 rfl (fun h124 => ?_) (fun h124 => ?_)
          · refine z_iinc (pc := 148) hC (i := 3) dX1_measureDistances_148 rfl (by decide) rfl (zS_s (zS_s (zS_s zS_0))) ?_
            refine z_goto (pc := 151) hC 74 dX1_measureDistances_151 rfl ?_
            exact ih (j + 1) Ω c _ (by omega) (by omega) h3 hac hu (BF_skip hB hg hac (by omega) (fun _ q => absurd q (by rw [hu, Int.toNat_natCast, hv, Int.toNat_natCast, ← e7]; omega))) hF
          · obtain ⟨hcc, hB2⟩ := BF_push hB hg hac (by omega) (by rw [hu]; exact hv) h106 (by rw [← e7]; exact h124)
            rw [hu, Int.toNat_natCast] at hB2
            have hub : gt Ω 8 u ≤ 36 := by have := huN.2.2.2; omega
            refine z_aload_n (pc := 127) hC (i := 0) dX1_measureDistances_127 rfl rfl ?_
            refine z_getR (C := RX1) (T := TX1) (N := 8) (ci := 1) (pc := 128) hC _ _ 5 in_X1_measureDistances_X1 rfl (by decide) (fun _ => rfl) (by decide) fl_X1_measureDistances_24 (fun _ => rfl) dX1_measureDistances_128 ?_
            refine z_iload (pc := 131) hC (i := 4) dX1_measureDistances_131 rfl ?_
            refine z_aload_n (pc := 133) hC (i := 0) dX1_measureDistances_133 rfl rfl ?_
            refine z_getR (C := RX1) (T := TX1) (N := 8) (ci := 1) (pc := 134) hC _ _ 5 in_X1_measureDistances_X1 rfl (by decide) (fun _ => rfl) (by decide) fl_X1_measureDistances_24 (fun _ => rfl) dX1_measureDistances_134 ?_
            refine z_iload_n (pc := 137) hC (i := 2) dX1_measureDistances_137 rfl rfl ?_
            refine z_ialk (pc := 138) hC _ u (by decide) (fun _ => rfl) rfl (by omega) (by decide) dX1_measureDistances_138 ?_
            refine z_iconst (pc := 139) hC dX1_measureDistances_139 ?_
            refine z_iadd (pc := 140) hC dX1_measureDistances_140 ?_
            refine z_iask (pc := 141) hC _ v (by decide) (fun _ => rfl) rfl (by omega) (by decide) dX1_measureDistances_141 ?_
            have e37 : gt (ups Ω 8 v (gt Ω 8 u + 1)) 3 7 = (c : Int) := by rw [gt_n _ _ _ _ (by decide : 3 ≠ 8)]; exact h3
            refine z_aload_n (pc := 142) hC (i := 0) dX1_measureDistances_142 rfl rfl ?_
            refine z_iload (pc := 143) hC (i := 4) dX1_measureDistances_143 rfl ?_
            refine z_callV (n := 1) (T := TX1) (N := 8) (ci := 1) (pc := 145) hC (c_X1_enqueue l w hw _ v (by rw [e37]; omega) (by rw [e37]; omega)) gX1_measureDistances_X1_enqueue rfl (by decide +kernel) (by decide) (by decide) rfl (by decide) (fun _ => rfl) rfl rfl (Nat.le_of_ble_eq_true rfl) dX1_measureDistances_145 (zv_k fun Ω145 h145 => ?_)
            rw [e37, Int.toNat_natCast] at h145
            subst h145
            obtain ⟨f1, f2, f3, f4⟩ := enq_facts (ups Ω 8 v (gt Ω 8 u + 1)) (c := c) (u := v) (by omega) (by omega)
            refine z_iinc (pc := 148) hC (i := 3) dX1_measureDistances_148 rfl (by decide) rfl (zS_s (zS_s (zS_s zS_0))) ?_
            refine z_goto (pc := 151) hC 74 dX1_measureDistances_151 rfl ?_
            exact ih (j + 1) _ (c + 1) _ (by omega) (by omega) f1 (by omega) (by rw [f2, fup_n _ _ (by omega), gt_nf _ _ _ (by decide : 9 ≠ 8)]; exact hu) (by rw [f2, f3, gt_fup _ _ _ ⟨by omega, by omega⟩, gt_nf _ _ _ (by decide : 9 ≠ 8)]; exact hB2) ((hF.trans (frM_8 _ _ _)).trans f4)
theorem fl_X1_measureDistances_89 : Cond.fieldLink RX1 89 "StrokeCuts$Network" "queued" "I" ∈ wsX1_measureDistances := by decide +kernel
theorem fl_X1_measureDistances_27 : Cond.fieldLink RX1 27 "StrokeCuts$Network" "queue" "[I" ∈ wsX1_measureDistances := by decide +kernel
set_option maxHeartbeats 4000000 in
set_option maxRecDepth 100000 in
theorem L_X1_measureDistances_51 {E : zE} {w : zP} {l : Launch} {Post : Option Value → Mem → Prop} (hw : zOK w) (hC : zC E w l RX1 wsX1_measureDistances cX1_measureDistances 5 1 21 none Post) (N : Nat) (hN : N ≤ 36) (Ω0 : Mem) (h0 : gt Ω0 3 0 = (N : Int)) (hg : grph N (gt Ω0 6)) (K : ∀ (Ω : Mem), lab N (gt Ω0 6) (gt Ω0 5) (gt Ω0 7) (gt Ω 8) → frM Ω0 Ω → ∀ (a : Nat) (o2 o3 o4 : Option Value), X E Ω 160 [some (.ref (wa w 3)), some (.int (zI (a : Int))), o2, o3, o4] [])  : ∀ (n : Nat) (a : Nat) (Ω : Mem) (c : Nat) (o2 : Option Value) (o3 : Option Value) (o4 : Option Value), 36 < a + n → (a ≤ 36) → (gt Ω 3 7 = (c : Int)) → (BF N (gt Ω0 6) (gt Ω0 5) (gt Ω0 7) a 0 (gt Ω 8) (gt Ω 9) c) → (frM Ω0 Ω) → X E Ω 51 [some (.ref (wa w 3)), some (.int (zI (a : Int))), o2, o3, o4] [] := by
  intro n
  induction n with
  | zero =>
    intro a Ω c o2 o3 o4 hfu ha h3 hB hF
    exact absurd hfu (by omega)
  | succ n ih =>
    intro a Ω c o2 o3 o4 hfu ha h3 hB hF
    have hcN := hB.1
    refine z_iload_n (pc := 51) hC (i := 1) dX1_measureDistances_51 rfl rfl ?_
    refine z_aload_n (pc := 52) hC (i := 0) dX1_measureDistances_52 rfl rfl ?_
    refine z_getI (C := RX1) (T := TX1) (N := 8) (ci := 1) (pc := 53) hC _ 7 in_X1_measureDistances_X1 rfl (by decide) (fun _ => rfl) (by decide) fl_X1_measureDistances_89 (fun _ => rfl) dX1_measureDistances_53 ?_
    rw [h3]
    refine z_icmp_ge (pc := 56) hC 160 (by first | assumption | exact zb_gt _ _ _ | exact zcmp_zb _ _ | exact bI_zb _ | exact ⟨by omega, by omega⟩) (by first | assumption | exact zb_gt _ _ _ | exact zcmp_zb _ _ | exact bI_zb _ | exact ⟨by omega, by omega⟩) dX1_measureDistances_56 rfl (fun h56 => ?_) (fun h56 => ?_)
    · exact K _ (BF_lab hB hg (by omega)) hF _ _ _ _
    · refine z_iload_n (pc := 59) hC (i := 1) dX1_measureDistances_59 rfl rfl ?_
      refine z_bipush (pc := 60) hC dX1_measureDistances_60 rfl ?_
      refine z_icmp_ge (pc := 62) hC 160 (by first | assumption | exact zb_gt _ _ _ | exact zcmp_zb _ _ | exact bI_zb _ | exact ⟨by omega, by omega⟩) (by first | assumption | exact zb_gt _ _ _ | exact zcmp_zb _ _ | exact bI_zb _ | exact ⟨by omega, by omega⟩) dX1_measureDistances_62 rfl (fun h62 => ?_) (fun h62 => ?_)
      · exact absurd h62 (by omega)
      · refine z_aload_n (pc := 65) hC (i := 0) dX1_measureDistances_65 rfl rfl ?_
        refine z_getR (C := RX1) (T := TX1) (N := 8) (ci := 1) (pc := 66) hC _ _ 6 in_X1_measureDistances_X1 rfl (by decide) (fun _ => rfl) (by decide) fl_X1_measureDistances_27 (fun _ => rfl) dX1_measureDistances_66 ?_
        refine z_iload_n (pc := 69) hC (i := 1) dX1_measureDistances_69 rfl rfl ?_
        refine z_ialk (pc := 70) hC _ a (by decide) (fun _ => rfl) rfl (by omega) (by decide) dX1_measureDistances_70 ?_
        obtain ⟨u, hu⟩ := nat_of (hB.2.1 a (by omega)).1
        rw [hu]
        refine z_istore_n (pc := 71) hC (i := 2) dX1_measureDistances_71 rfl (by decide) rfl (zS_s (zS_s zS_0)) ?_
        refine z_iconst (pc := 72) hC dX1_measureDistances_72 ?_
        refine z_istore_n (pc := 73) hC (i := 3) dX1_measureDistances_73 rfl (by decide) rfl (zS_s (zS_s (zS_s zS_0))) ?_
        refine L_X1_measureDistances_74 hw hC N hN Ω0 h0 hg a u (fun Ω1 c1 o4 g3 gac gu gB gF => ?_) 9 0 Ω c o4 (by omega) (by omega) h3 (by omega) hu hB hF
        refine z_iinc (pc := 154) hC (i := 1) dX1_measureDistances_154 rfl (by decide) rfl (zS_s zS_0) ?_
        refine z_goto (pc := 157) hC 51 dX1_measureDistances_157 rfl ?_
        exact ih (a + 1) Ω1 c1 _ _ _ (by omega) (by have := gB.1; omega) g3 (BF_next gB gac) gF
set_option maxHeartbeats 4000000 in
set_option maxRecDepth 100000 in
theorem c_X1_measureDistances (l : Launch) (w : zP) (hw : zOK w) (Ω : Mem) (N : Nat) (hN : N ≤ 36) (h0 : gt Ω 3 0 = (N : Int)) (hg : grph N (gt Ω 6)) : zM l w yX1_measureDistances wsX1_measureDistances 1 21 [.ref (wa w 3)] Ω (zvo (fun Ω1 => lab N (gt Ω 6) (gt Ω 5) (gt Ω 7) (gt Ω1 8) ∧ frM Ω Ω1)) := by
  refine zM_of cX1_measureDistances 5 none RX1 [some (.ref (wa w 3)), none, none, none, none] hw (by decide +kernel) rfl rfl (Nat.le_of_ble_eq_true rfl) rfl (fun E hC => ?_)
  refine z_aload_n (pc := 0) hC (i := 0) dX1_measureDistances_0 rfl rfl ?_
  refine z_iconst (pc := 1) hC dX1_measureDistances_1 ?_
  refine z_putI (C := RX1) (T := TX1) (N := 8) (ci := 1) (pc := 2) hC _ 7 in_X1_measureDistances_X1 rfl (by decide) (fun _ => rfl) (by decide) fl_X1_measureDistances_89 tyX1_ok nmX1 rfl (by decide +kernel) (fun _ => Nat.le_of_ble_eq_true rfl) (fun _ _ => rfl) dX1_measureDistances_2 ?_
  refine z_iconst (pc := 5) hC dX1_measureDistances_5 ?_
  refine z_istore_n (pc := 6) hC (i := 1) dX1_measureDistances_6 rfl (by decide) rfl (zS_s zS_0) ?_
  refine L_X1_measureDistances_7 hw hC N hN Ω h0 (fun Ω1 c g3 gB gF => ?_) (N + 1) 0 _ 0 (by omega) (by omega) (gt_s _ _ _ zb_0) (B1_0 _ _ _) (frM_37 _ _)
  refine z_iconst (pc := 49) hC dX1_measureDistances_49 ?_
  refine z_istore_n (pc := 50) hC (i := 1) dX1_measureDistances_50 rfl (by decide) rfl (zS_s zS_0) ?_
  refine L_X1_measureDistances_51 hw hC N hN Ω h0 hg (fun Ω2 gl gF2 a o2 o3 o4 => ?_) 37 0 Ω1 c none none none (by omega) (by omega) g3 (BF_0 gB) gF
  exact z_vret (pc := 160) hC rfl ⟨rfl, gl, gF2⟩ dX1_measureDistances_160
