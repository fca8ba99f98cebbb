theorem fl_X5_doesOrder_38 : Cond.fieldLink RX5 38 "StrokeCutsModel" "figures" "[I" ∈ wsX5_doesOrder := by decide +kernel
theorem in_X5_doesOrder_X5 : ∀ x ∈ u_ws RX5 TX5 15, x ∈ wsX5_doesOrder := by decide +kernel
set_option maxHeartbeats 4000000 in
set_option maxRecDepth 100000 in
theorem S_X5_doesOrder_95 {E : zE} {w : zP} {l : Launch} {Post : Option Value → Mem → Prop} (hw : zOK w) (hC : zC E w l RX5 wsX5_doesOrder cX5_doesOrder 4 13 316 none Post) {Ω : Mem} (σ : Sg) (hσ : scM Ω = σ) (hv : scok σ) (hs : gt Ω 49 6 = -1) (T : Nat → Int) (L : Nat) (s : Ps) (h : RD T L Ω s) (k : Int) (hkz : zb k) (ho : ordV (σ 0) (σ 1) k s.2.1 s.2.2) (hk1 : k ≠ 108) (hk2 : k ≠ 115) (bl mk : Int) (hbl : (bl = 1 ∧ s.2.1 = 4) ∨ (bl = 0 ∧ s.2.1 ≠ 4)) (hmk : mk = if k = 102 then 1 else if k = 103 then 2 else 0) (hmb : 0 ≤ mk ∧ mk ≤ 2) (K : ∀ Ω1 : Mem, scM Ω1 = obey σ k s.2.1 s.2.2 → (∀ q, q ≠ 50 → q ≠ 54 → q ≠ 55 → q ≠ 56 → Ω1 q = Ω q) → Post none Ω1)  : X E Ω 95 [some (.ref (wa w 49)), some (.int (zI k)), some (.int (zI bl)), some (.int (zI mk))] [] := by
  have hN := sdots_le hv
  have hw01 := hv.1
  have hh01 := hv.2.1
  have z0 : gt Ω 50 0 = σ 0 := st_at hσ (by decide)
  have f0 : gt Ω 58 0 = s.2.2 0 := by rw [h.2.2]
  have f1 : gt Ω 58 1 = s.2.2 1 := by rw [h.2.2]
  have f2 : gt Ω 58 2 = s.2.2 2 := by rw [h.2.2]
  have f3 : gt Ω 58 3 = s.2.2 3 := by rw [h.2.2]
  have c4 := h.2.1
  have ho0 : (k = 102 ∨ k = 103 ∨ k = 110) ∧ (s.2.1 = 2 ∨ s.2.1 = 4) := by rcases ho with q | q | q; exact ⟨q.1, q.2.1⟩; omega; omega
  have ho1 : (0 ≤ s.2.2 0 ∧ s.2.2 0 < σ 0) ∧ (0 ≤ s.2.2 1 ∧ s.2.2 1 < σ 1) := by rcases ho with q | q | q; exact q.2.2.1; omega; omega
  have ho2 : s.2.1 = 4 → (0 ≤ s.2.2 2 ∧ s.2.2 2 < σ 0) ∧ (0 ≤ s.2.2 3 ∧ s.2.2 3 < σ 1) := by rcases ho with q | q | q; exact q.2.2.2; omega; omega
  refine z_aload_n (pc := 95) hC (i := 0) dX5_doesOrder_95 rfl rfl ?_
  refine z_iload_n (pc := 96) hC (i := 3) dX5_doesOrder_96 rfl rfl ?_
  refine z_aload_n (pc := 97) hC (i := 0) dX5_doesOrder_97 rfl rfl ?_
  refine z_getR (C := RX5) (T := TX5) (N := 15) (ci := 5) (pc := 98) hC _ _ 13 in_X5_doesOrder_X5 rfl (by decide) (fun _ => rfl) (by decide) fl_X5_doesOrder_38 (fun _ => rfl) dX5_doesOrder_98 ?_
  refine z_iconst (pc := 101) hC dX5_doesOrder_101 ?_
  refine z_ialk (pc := 102) hC _ 0 (by decide) (fun _ => rfl) rfl (by decide) (by decide) dX5_doesOrder_102 ?_
  rw [f0]
  refine z_aload_n (pc := 103) hC (i := 0) dX5_doesOrder_103 rfl rfl ?_
  refine z_getR (C := RX5) (T := TX5) (N := 15) (ci := 5) (pc := 104) hC _ _ 13 in_X5_doesOrder_X5 rfl (by decide) (fun _ => rfl) (by decide) fl_X5_doesOrder_38 (fun _ => rfl) dX5_doesOrder_104 ?_
  refine z_iconst (pc := 107) hC dX5_doesOrder_107 ?_
  refine z_ialk (pc := 108) hC _ 1 (by decide) (fun _ => rfl) rfl (by decide) (by decide) dX5_doesOrder_108 ?_
  rw [f1]
  refine z_iload_n (pc := 109) hC (i := 2) dX5_doesOrder_109 rfl rfl ?_
  refine z_if_eq (pc := 110) hC 122 ⟨by omega, by omega⟩ dX5_doesOrder_110 rfl (fun h110 => ?_) (fun h110 => ?_)
  · refine z_aload_n (pc := 122) hC (i := 0) dX5_doesOrder_122 rfl rfl ?_
    refine z_getR (C := RX5) (T := TX5) (N := 15) (ci := 5) (pc := 123) hC _ _ 13 in_X5_doesOrder_X5 rfl (by decide) (fun _ => rfl) (by decide) fl_X5_doesOrder_38 (fun _ => rfl) dX5_doesOrder_123 ?_
    refine z_iconst (pc := 126) hC dX5_doesOrder_126 ?_
    refine z_ialk (pc := 127) hC _ 0 (by decide) (fun _ => rfl) rfl (by decide) (by decide) dX5_doesOrder_127 ?_
    rw [f0]
    refine z_iload_n (pc := 128) hC (i := 2) dX5_doesOrder_128 rfl rfl ?_
    refine z_if_eq (pc := 129) hC 141 ⟨by omega, by omega⟩ dX5_doesOrder_129 rfl (fun h129 => ?_) (fun h129 => ?_)
    · refine z_aload_n (pc := 141) hC (i := 0) dX5_doesOrder_141 rfl rfl ?_
      refine z_getR (C := RX5) (T := TX5) (N := 15) (ci := 5) (pc := 142) hC _ _ 13 in_X5_doesOrder_X5 rfl (by decide) (fun _ => rfl) (by decide) fl_X5_doesOrder_38 (fun _ => rfl) dX5_doesOrder_142 ?_
      refine z_iconst (pc := 145) hC dX5_doesOrder_145 ?_
      refine z_ialk (pc := 146) hC _ 1 (by decide) (fun _ => rfl) rfl (by decide) (by decide) dX5_doesOrder_146 ?_
      rw [f1]
      refine z_callV (n := 5) (T := TX5) (N := 15) (ci := 5) (pc := 147) hC (c_X5_strokes l w hw _ σ hσ hv _ _ _ _ _ (by omega) (by unfold dIn; omega) (by unfold dIn; omega)) gX5_doesOrder_X5_strokes rfl (by decide +kernel) (by decide) (by decide) rfl (by decide) (fun _ => rfl) rfl rfl (Nat.le_of_ble_eq_true rfl) dX5_doesOrder_147 (zi_k fun r147 Ω147 h147 => ?_)
      obtain ⟨hr147, hs147, hF147⟩ := h147
      refine z_pop (pc := 150) hC dX5_doesOrder_150 rfl ?_
      exact z_vret (pc := 151) hC rfl (K _ (by rw [hs147, obey_l (by omega) (by omega), if_neg (show ¬ s.2.1 = 4 by omega), if_neg (show ¬ s.2.1 = 4 by omega), hmk]) (fun q u1 _ _ _ => hF147 q u1)) dX5_doesOrder_151
    · refine z_aload_n (pc := 132) hC (i := 0) dX5_doesOrder_132 rfl rfl ?_
      refine z_getR (C := RX5) (T := TX5) (N := 15) (ci := 5) (pc := 133) hC _ _ 13 in_X5_doesOrder_X5 rfl (by decide) (fun _ => rfl) (by decide) fl_X5_doesOrder_38 (fun _ => rfl) dX5_doesOrder_133 ?_
      refine z_iconst (pc := 136) hC dX5_doesOrder_136 ?_
      refine z_ialk (pc := 137) hC _ 3 (by decide) (fun _ => rfl) rfl (by decide) (by decide) dX5_doesOrder_137 ?_
      rw [f3]
      refine z_goto (pc := 138) hC 147 dX5_doesOrder_138 rfl ?_
      exfalso; omega
  · refine z_aload_n (pc := 113) hC (i := 0) dX5_doesOrder_113 rfl rfl ?_
    refine z_getR (C := RX5) (T := TX5) (N := 15) (ci := 5) (pc := 114) hC _ _ 13 in_X5_doesOrder_X5 rfl (by decide) (fun _ => rfl) (by decide) fl_X5_doesOrder_38 (fun _ => rfl) dX5_doesOrder_114 ?_
    refine z_iconst (pc := 117) hC dX5_doesOrder_117 ?_
    refine z_ialk (pc := 118) hC _ 2 (by decide) (fun _ => rfl) rfl (by decide) (by decide) dX5_doesOrder_118 ?_
    rw [f2]
    refine z_goto (pc := 119) hC 128 dX5_doesOrder_119 rfl ?_
    skip
    refine z_iload_n (pc := 128) hC (i := 2) dX5_doesOrder_128 rfl rfl ?_
    refine z_if_eq (pc := 129) hC 141 ⟨by omega, by omega⟩ dX5_doesOrder_129 rfl (fun h129 => ?_) (fun h129 => ?_)
    · refine z_aload_n (pc := 141) hC (i := 0) dX5_doesOrder_141 rfl rfl ?_
      refine z_getR (C := RX5) (T := TX5) (N := 15) (ci := 5) (pc := 142) hC _ _ 13 in_X5_doesOrder_X5 rfl (by decide) (fun _ => rfl) (by decide) fl_X5_doesOrder_38 (fun _ => rfl) dX5_doesOrder_142 ?_
      refine z_iconst (pc := 145) hC dX5_doesOrder_145 ?_
      refine z_ialk (pc := 146) hC _ 1 (by decide) (fun _ => rfl) rfl (by decide) (by decide) dX5_doesOrder_146 ?_
      exfalso; omega
    · refine z_aload_n (pc := 132) hC (i := 0) dX5_doesOrder_132 rfl rfl ?_
      refine z_getR (C := RX5) (T := TX5) (N := 15) (ci := 5) (pc := 133) hC _ _ 13 in_X5_doesOrder_X5 rfl (by decide) (fun _ => rfl) (by decide) fl_X5_doesOrder_38 (fun _ => rfl) dX5_doesOrder_133 ?_
      refine z_iconst (pc := 136) hC dX5_doesOrder_136 ?_
      refine z_ialk (pc := 137) hC _ 3 (by decide) (fun _ => rfl) rfl (by decide) (by decide) dX5_doesOrder_137 ?_
      rw [f3]
      refine z_goto (pc := 138) hC 147 dX5_doesOrder_138 rfl ?_
      skip
      refine z_callV (n := 5) (T := TX5) (N := 15) (ci := 5) (pc := 147) hC (c_X5_strokes l w hw _ σ hσ hv _ _ _ _ _ (by omega) (by unfold dIn; omega) (by unfold dIn; omega)) gX5_doesOrder_X5_strokes rfl (by decide +kernel) (by decide) (by decide) rfl (by decide) (fun _ => rfl) rfl rfl (Nat.le_of_ble_eq_true rfl) dX5_doesOrder_147 (zi_k fun r147 Ω147 h147 => ?_)
      obtain ⟨hr147, hs147, hF147⟩ := h147
      refine z_pop (pc := 150) hC dX5_doesOrder_150 rfl ?_
      exact z_vret (pc := 151) hC rfl (K _ (by rw [hs147, obey_l (by omega) (by omega), if_pos (show s.2.1 = 4 by omega), if_pos (show s.2.1 = 4 by omega), hmk]) (fun q u1 _ _ _ => hF147 q u1)) dX5_doesOrder_151
set_option maxHeartbeats 4000000 in
set_option maxRecDepth 100000 in
theorem S_X5_doesOrder_73 {E : zE} {w : zP} {l : Launch} {Post : Option Value → Mem → Prop} (hw : zOK w) (hC : zC E w l RX5 wsX5_doesOrder cX5_doesOrder 4 13 316 none Post) {Ω : Mem} (σ : Sg) (hσ : scM Ω = σ) (hv : scok σ) (hs : gt Ω 49 6 = -1) (T : Nat → Int) (L : Nat) (s : Ps) (h : RD T L Ω s) (k : Int) (hkz : zb k) (ho : ordV (σ 0) (σ 1) k s.2.1 s.2.2) (hk1 : k ≠ 108) (hk2 : k ≠ 115) (bl : Int) (hbl : (bl = 1 ∧ s.2.1 = 4) ∨ (bl = 0 ∧ s.2.1 ≠ 4)) (K : ∀ Ω1 : Mem, scM Ω1 = obey σ k s.2.1 s.2.2 → (∀ q, q ≠ 50 → q ≠ 54 → q ≠ 55 → q ≠ 56 → Ω1 q = Ω q) → Post none Ω1)  : X E Ω 73 [some (.ref (wa w 49)), some (.int (zI k)), some (.int (zI bl)), none] [] := by
  refine z_iload_n (pc := 73) hC (i := 1) dX5_doesOrder_73 rfl rfl ?_
  refine z_bipush (pc := 74) hC dX5_doesOrder_74 rfl ?_
  refine z_icmp_ne (pc := 76) hC 83 (by assumption) ⟨by decide, by decide⟩ dX5_doesOrder_76 rfl (fun h76 => ?_) (fun h76 => ?_)
  · refine z_iload_n (pc := 83) hC (i := 1) dX5_doesOrder_83 rfl rfl ?_
    refine z_bipush (pc := 84) hC dX5_doesOrder_84 rfl ?_
    refine z_icmp_ne (pc := 86) hC 93 (by assumption) ⟨by decide, by decide⟩ dX5_doesOrder_86 rfl (fun h86 => ?_) (fun h86 => ?_)
    · refine z_iconst (pc := 93) hC dX5_doesOrder_93 ?_
      refine z_istore_n (pc := 94) hC (i := 3) dX5_doesOrder_94 rfl (by decide) rfl (zS_s (zS_s (zS_s zS_0))) ?_
      exact S_X5_doesOrder_95 hw hC σ hσ hv hs T L s h k hkz ho hk1 hk2 bl 0 hbl (by rw [if_neg h76, if_neg h86]) (by omega) K
    · refine z_iconst (pc := 89) hC dX5_doesOrder_89 ?_
      refine z_goto (pc := 90) hC 94 dX5_doesOrder_90 rfl ?_
      refine z_istore_n (pc := 94) hC (i := 3) dX5_doesOrder_94 rfl (by decide) rfl (zS_s (zS_s (zS_s zS_0))) ?_
      exact S_X5_doesOrder_95 hw hC σ hσ hv hs T L s h k hkz ho hk1 hk2 bl 2 hbl (by rw [if_neg h76, if_pos (by omega)]) (by omega) K
  · refine z_iconst (pc := 79) hC dX5_doesOrder_79 ?_
    refine z_goto (pc := 80) hC 94 dX5_doesOrder_80 rfl ?_
    refine z_istore_n (pc := 94) hC (i := 3) dX5_doesOrder_94 rfl (by decide) rfl (zS_s (zS_s (zS_s zS_0))) ?_
    exact S_X5_doesOrder_95 hw hC σ hσ hv hs T L s h k hkz ho hk1 hk2 bl 1 hbl (by rw [if_pos (by omega)]) (by omega) K
theorem fl_X5_doesOrder_201 : Cond.fieldLink RX5 201 "StrokeCutsModel" "figuresMany" "I" ∈ wsX5_doesOrder := by decide +kernel
theorem fl_X5_doesOrder_7 : Cond.fieldLink RX5 7 "StrokeCutsModel" "st" "[I" ∈ wsX5_doesOrder := by decide +kernel
set_option maxHeartbeats 4000000 in
set_option maxRecDepth 100000 in
theorem c_X5_doesOrder (l : Launch) (w : zP) (hw : zOK w) (Ω : Mem) (σ : Sg) (hσ : scM Ω = σ) (hv : scok σ) (hs : gt Ω 49 6 = -1) (T : Nat → Int) (L : Nat) (s : Ps) (h : RD T L Ω s) (k : Int) (hkz : zb k) (ho : ordV (σ 0) (σ 1) k s.2.1 s.2.2) : zM l w yX5_doesOrder wsX5_doesOrder 13 316 [.ref (wa w 49), .int (zI k)] Ω (zvo (fun Ω1 => scM Ω1 = obey σ k s.2.1 s.2.2 ∧ ∀ q, q ≠ 50 → q ≠ 54 → q ≠ 55 → q ≠ 56 → Ω1 q = Ω q)) := by
  refine zM_of cX5_doesOrder 4 none RX5 [some (.ref (wa w 49)), some (.int (zI k)), none, none] hw (by decide +kernel) rfl rfl (Nat.le_of_ble_eq_true rfl) rfl (fun E hC => ?_)
  have hN := sdots_le hv
  have hw01 := hv.1
  have hh01 := hv.2.1
  have z0 : gt Ω 50 0 = σ 0 := st_at hσ (by decide)
  have f0 : gt Ω 58 0 = s.2.2 0 := by rw [h.2.2]
  have f1 : gt Ω 58 1 = s.2.2 1 := by rw [h.2.2]
  have f2 : gt Ω 58 2 = s.2.2 2 := by rw [h.2.2]
  have f3 : gt Ω 58 3 = s.2.2 3 := by rw [h.2.2]
  have c4 := h.2.1
  refine z_iload_n (pc := 0) hC (i := 1) dX5_doesOrder_0 rfl rfl ?_
  refine z_bipush (pc := 1) hC dX5_doesOrder_1 rfl ?_
  refine z_icmp_ne (pc := 3) hC 20 (by assumption) ⟨by decide, by decide⟩ dX5_doesOrder_3 rfl (fun h3 => ?_) (fun h3 => ?_)
  · refine z_iload_n (pc := 20) hC (i := 1) dX5_doesOrder_20 rfl rfl ?_
    refine z_bipush (pc := 21) hC dX5_doesOrder_21 rfl ?_
    refine z_icmp_ne (pc := 23) hC 59 (by assumption) ⟨by decide, by decide⟩ dX5_doesOrder_23 rfl (fun h23 => ?_) (fun h23 => ?_)
    · have ho0 : (k = 102 ∨ k = 103 ∨ k = 110) ∧ (s.2.1 = 2 ∨ s.2.1 = 4) := by rcases ho with q | q | q; exact ⟨q.1, q.2.1⟩; omega; omega
      have ho1 : (0 ≤ s.2.2 0 ∧ s.2.2 0 < σ 0) ∧ (0 ≤ s.2.2 1 ∧ s.2.2 1 < σ 1) := by rcases ho with q | q | q; exact q.2.2.1; omega; omega
      have ho2 : s.2.1 = 4 → (0 ≤ s.2.2 2 ∧ s.2.2 2 < σ 0) ∧ (0 ≤ s.2.2 3 ∧ s.2.2 3 < σ 1) := by rcases ho with q | q | q; exact q.2.2.2; omega; omega
      refine z_aload_n (pc := 59) hC (i := 0) dX5_doesOrder_59 rfl rfl ?_
      refine z_getI (C := RX5) (T := TX5) (N := 15) (ci := 5) (pc := 60) hC _ 14 in_X5_doesOrder_X5 rfl (by decide) (fun _ => rfl) (by decide) fl_X5_doesOrder_201 (fun _ => rfl) dX5_doesOrder_60 ?_
      refine z_iconst (pc := 63) hC dX5_doesOrder_63 ?_
      rw [c4]
      refine z_icmp_ne (pc := 64) hC 71 ⟨by omega, by omega⟩ ⟨by decide, by decide⟩ dX5_doesOrder_64 rfl (fun h64 => ?_) (fun h64 => ?_)
      · refine z_iconst (pc := 71) hC dX5_doesOrder_71 ?_
        refine z_istore_n (pc := 72) hC (i := 2) dX5_doesOrder_72 rfl (by decide) rfl (zS_s (zS_s zS_0)) ?_
        exact S_X5_doesOrder_73 hw hC σ hσ hv hs T L s h k hkz ho h3 h23 0 (Or.inr ⟨rfl, by omega⟩) (fun Ω1 g1 g2 => ⟨rfl, g1, g2⟩)
      · refine z_iconst (pc := 67) hC dX5_doesOrder_67 ?_
        refine z_goto (pc := 68) hC 72 dX5_doesOrder_68 rfl ?_
        refine z_istore_n (pc := 72) hC (i := 2) dX5_doesOrder_72 rfl (by decide) rfl (zS_s (zS_s zS_0)) ?_
        exact S_X5_doesOrder_73 hw hC σ hσ hv hs T L s h k hkz ho h3 h23 1 (Or.inl ⟨rfl, by omega⟩) (fun Ω1 g1 g2 => ⟨rfl, g1, g2⟩)
    · have ho1 : (0 ≤ s.2.2 0 ∧ s.2.2 0 < σ 0) ∧ (0 ≤ s.2.2 1 ∧ s.2.2 1 < σ 1) := by rcases ho with q | q | q; omega; exact q.2.2.1; omega
      have ho2 : 0 ≤ s.2.2 2 ∧ s.2.2 2 ≤ 9 := by rcases ho with q | q | q; omega; exact q.2.2.2; omega
      refine z_aload_n (pc := 26) hC (i := 0) dX5_doesOrder_26 rfl rfl ?_
      refine z_getR (C := RX5) (T := TX5) (N := 15) (ci := 5) (pc := 27) hC _ _ 0 in_X5_doesOrder_X5 rfl (by decide) (fun _ => rfl) (by decide) fl_X5_doesOrder_7 (fun _ => rfl) dX5_doesOrder_27 ?_
      refine z_bipush (pc := 30) hC dX5_doesOrder_30 rfl ?_
      refine z_aload_n (pc := 32) hC (i := 0) dX5_doesOrder_32 rfl rfl ?_
      refine z_aload_n (pc := 33) hC (i := 0) dX5_doesOrder_33 rfl rfl ?_
      refine z_getR (C := RX5) (T := TX5) (N := 15) (ci := 5) (pc := 34) hC _ _ 13 in_X5_doesOrder_X5 rfl (by decide) (fun _ => rfl) (by decide) fl_X5_doesOrder_38 (fun _ => rfl) dX5_doesOrder_34 ?_
      refine z_iconst (pc := 37) hC dX5_doesOrder_37 ?_
      refine z_ialk (pc := 38) hC _ 0 (by decide) (fun _ => rfl) rfl (by decide) (by decide) dX5_doesOrder_38 ?_
      rw [f0]
      refine z_aload_n (pc := 39) hC (i := 0) dX5_doesOrder_39 rfl rfl ?_
      refine z_getR (C := RX5) (T := TX5) (N := 15) (ci := 5) (pc := 40) hC _ _ 13 in_X5_doesOrder_X5 rfl (by decide) (fun _ => rfl) (by decide) fl_X5_doesOrder_38 (fun _ => rfl) dX5_doesOrder_40 ?_
      refine z_iconst (pc := 43) hC dX5_doesOrder_43 ?_
      refine z_ialk (pc := 44) hC _ 1 (by decide) (fun _ => rfl) rfl (by decide) (by decide) dX5_doesOrder_44 ?_
      rw [f1]
      refine z_callV (n := 2) (T := TX5) (N := 15) (ci := 5) (pc := 45) hC (c_X5_numberOf l w hw _ _ _) gX5_doesOrder_X5_numberOf rfl (by decide +kernel) (by decide) (by decide) rfl (by decide) (fun _ => rfl) rfl rfl (Nat.le_of_ble_eq_true rfl) dX5_doesOrder_45 (zi_k fun r45 Ω45 h45 => ?_)
      obtain ⟨hr45, hm45⟩ := h45
      have hm45 := hm45.symm
      subst hm45
      obtain ⟨hn1, hn2⟩ := nO_lt hv (x := s.2.2 0) (y := s.2.2 1) (by unfold dIn; omega)
      rw [z0, hn1] at hr45
      subst hr45
      refine z_iadd (pc := 48) hC dX5_doesOrder_48 ?_
      refine z_aload_n (pc := 49) hC (i := 0) dX5_doesOrder_49 rfl rfl ?_
      refine z_getR (C := RX5) (T := TX5) (N := 15) (ci := 5) (pc := 50) hC _ _ 13 in_X5_doesOrder_X5 rfl (by decide) (fun _ => rfl) (by decide) fl_X5_doesOrder_38 (fun _ => rfl) dX5_doesOrder_50 ?_
      refine z_iconst (pc := 53) hC dX5_doesOrder_53 ?_
      refine z_ialk (pc := 54) hC _ 2 (by decide) (fun _ => rfl) rfl (by decide) (by decide) dX5_doesOrder_54 ?_
      rw [f2]
      refine z_iask (pc := 55) hC _ (8 + nO σ (s.2.2 0) (s.2.2 1)) (by decide) (fun _ => rfl) (by omega) (by omega) (by decide) dX5_doesOrder_55 ?_
      refine z_goto (pc := 56) hC 151 dX5_doesOrder_56 rfl ?_
      exact z_vret (pc := 151) hC rfl ⟨rfl, (by rw [scM_up Ω (k := 8 + nO σ (s.2.2 0) (s.2.2 1)) (by omega) ⟨by omega, by omega⟩, hσ]; unfold obey; rw [if_neg h3, if_pos (by omega)]), fun q u1 _ _ _ => ups_n _ _ _ u1⟩ dX5_doesOrder_151
  · skip
    refine z_aload_n (pc := 6) hC (i := 0) dX5_doesOrder_6 rfl rfl ?_
    refine z_aload_n (pc := 7) hC (i := 0) dX5_doesOrder_7 rfl rfl ?_
    refine z_getR (C := RX5) (T := TX5) (N := 15) (ci := 5) (pc := 8) hC _ _ 13 in_X5_doesOrder_X5 rfl (by decide) (fun _ => rfl) (by decide) fl_X5_doesOrder_38 (fun _ => rfl) dX5_doesOrder_8 ?_
    refine z_iconst (pc := 11) hC dX5_doesOrder_11 ?_
    refine z_ialk (pc := 12) hC _ 0 (by decide) (fun _ => rfl) rfl (by decide) (by decide) dX5_doesOrder_12 ?_
    have ho1 : 1 ≤ s.2.2 0 ∧ s.2.2 0 ≤ 9 := by rcases ho with q | q | q; omega; omega; exact q.2.2
    rw [f0, show s.2.2 0 = (((s.2.2 0).toNat : Nat) : Int) by omega]
    refine z_callV (n := 1) (T := TX5) (N := 15) (ci := 5) (pc := 13) hC (c_X5_learnsAll l w hw _ σ hσ hv hs (s.2.2 0).toNat (by omega)) gX5_doesOrder_X5_learnsAll rfl (by decide +kernel) (by decide) (by decide) rfl (by decide) (fun _ => rfl) rfl rfl (Nat.le_of_ble_eq_true rfl) dX5_doesOrder_13 (zi_k fun r13 Ω13 h13 => ?_)
    obtain ⟨hr13, hs13, hF13⟩ := h13
    refine z_pop (pc := 16) hC dX5_doesOrder_16 rfl ?_
    refine z_goto (pc := 17) hC 151 dX5_doesOrder_17 rfl ?_
    exact z_vret (pc := 151) hC rfl ⟨rfl, (by rw [hs13]; unfold obey; rw [if_pos (by omega)]), hF13⟩ dX5_doesOrder_151
theorem fl_X5_goesThrough_195 : Cond.fieldLink RX5 195 "StrokeCutsModel" "at" "I" ∈ wsX5_goesThrough := by decide +kernel
theorem in_X5_goesThrough_X5 : ∀ x ∈ u_ws RX5 TX5 15, x ∈ wsX5_goesThrough := by decide +kernel
set_option maxHeartbeats 4000000 in
set_option maxRecDepth 100000 in
theorem S_X5_goesThrough_19 {E : zE} {w : zP} {l : Launch} {Post : Option Value → Mem → Prop} (hw : zOK w) (hC : zC E w l RX5 wsX5_goesThrough cX5_goesThrough 4 14 339 (some .int) Post) {Ω : Mem} (T : Nat → Int) (L : Nat) (x y : Int) (hx : 2 ≤ x ∧ x ≤ 6) (hy : 2 ≤ y ∧ y ≤ 6) (hgx : gt Ω 50 0 = x) (hgy : gt Ω 50 1 = y) (dn : Int) (i p : Nat) (h : RA T L Ω p) (o3 : Option Value) (KF : ∀ Ω1 : Mem, (pO T L x y p (gt Ω 58)).1 = false → gt Ω1 49 12 = ((pO T L x y p (gt Ω 58)).2.1 : Int) → frR Ω Ω1 → Post (some (.int (zI (-1)))) Ω1) (K : ∀ Ω1 : Mem, (pO T L x y p (gt Ω 58)).1 = true → RD T L Ω1 (pO T L x y p (gt Ω 58)).2 → frR Ω Ω1 → X E Ω1 72 [some (.ref (wa w 49)), some (.int (zI dn)), some (.int (zI (i : Int))), some (.int (zI (sg T L p)))] [])  : X E Ω 19 [some (.ref (wa w 49)), some (.int (zI dn)), some (.int (zI (i : Int))), o3] [] := by
  refine z_aload_n (pc := 19) hC (i := 0) dX5_goesThrough_19 rfl rfl ?_
  refine z_callV (n := 0) (T := TX5) (N := 15) (ci := 5) (pc := 20) hC (c_X5_sign l w hw _ T L p h) gX5_goesThrough_X5_sign rfl (by decide +kernel) (by decide) (by decide) rfl (by decide) (fun _ => rfl) rfl rfl (Nat.le_of_ble_eq_true rfl) dX5_goesThrough_20 (zi_k fun r20 Ω20 h20 => ?_)
  obtain ⟨hr20, hm20⟩ := h20
  subst hm20
  have hq20 := sk_le T (L := L) (p := p) (h).2.2.2.2
  have hb20 := sg_b (p := p) (fun k hk => ((h).2.2.1 k hk).2)
  subst hr20
  have hG := h.go hq20.2
  refine z_istore_n (pc := 23) hC (i := 3) dX5_goesThrough_23 rfl (by decide) rfl (zS_s (zS_s (zS_s zS_0))) ?_
  refine z_iload_n (pc := 24) hC (i := 3) dX5_goesThrough_24 rfl rfl ?_
  refine z_callS (n := 1) (pc := 25) hC (c_X5_isOrder l w hw _ _ ⟨by omega, by omega⟩) gX5_goesThrough_X5_isOrder rfl (by decide +kernel) (by decide) (by decide) rfl rfl (Nat.le_of_ble_eq_true rfl) dX5_goesThrough_25 (zb_k fun r25 Ω25 h25 => ?_)
  obtain ⟨rfl, hM25⟩ := h25
  obtain rfl := hM25.symm
  refine z_ifd_ne (pc := 28) hC 33 dX5_goesThrough_28 rfl (fun h28 => ?_) (fun h28 => ?_)
  · have hsin := sg_in (T := T) (L := L) (p := p) (by omega)
    refine z_aload_n (pc := 33) hC (i := 0) dX5_goesThrough_33 rfl rfl ?_
    refine z_dup (pc := 34) hC dX5_goesThrough_34 rfl ?_
    refine z_getI (C := RX5) (T := TX5) (N := 15) (ci := 5) (pc := 35) hC _ 12 in_X5_goesThrough_X5 rfl (by decide) (fun _ => rfl) (by decide) fl_X5_goesThrough_195 (fun _ => rfl) dX5_goesThrough_35 ?_
    rw [hG.2.2.2.1]
    refine z_iconst (pc := 38) hC dX5_goesThrough_38 ?_
    refine z_iadd (pc := 39) hC dX5_goesThrough_39 ?_
    refine z_putI (C := RX5) (T := TX5) (N := 15) (ci := 5) (pc := 40) hC _ 12 in_X5_goesThrough_X5 rfl (by decide) (fun _ => rfl) (by decide) fl_X5_goesThrough_195 tyX5_ok nmX5 rfl (by decide +kernel) (fun _ => Nat.le_of_ble_eq_true rfl) (fun _ _ => rfl) dX5_goesThrough_40 ?_
    have hA : RA T L (ups (ups Ω 49 12 (sk T L p : Int)) 49 12 ((sk T L p : Int) + 1)) (sk T L p + 1) := hG.go (p1 := sk T L p + 1) (by omega)
    have hfA : frR Ω (ups (ups Ω 49 12 (sk T L p : Int)) 49 12 ((sk T L p : Int) + 1)) := (frR_up _ _ (Or.inl rfl)).trans (frR_up _ _ (Or.inl rfl))
    have e58 : gt (ups (ups Ω 49 12 (sk T L p : Int)) 49 12 ((sk T L p : Int) + 1)) 58 = gt Ω 58 := (gt_nf _ _ _ (by decide)).trans (gt_nf _ _ _ (by decide))
    refine z_aload_n (pc := 43) hC (i := 0) dX5_goesThrough_43 rfl rfl ?_
    refine z_iload_n (pc := 44) hC (i := 3) dX5_goesThrough_44 rfl rfl ?_
    refine z_callV (n := 1) (T := TX5) (N := 15) (ci := 5) (pc := 45) hC (c_X5_readsRest l w hw _ T L (sk T L p + 1) hA x y hx hy (by rw [gt_fr (hfA.1 50 (by decide) (by decide))]; exact hgx) (by rw [gt_fr (hfA.1 50 (by decide) (by decide))]; exact hgy) (sg T L p) ⟨by omega, by omega⟩) gX5_goesThrough_X5_readsRest rfl (by decide +kernel) (by decide) (by decide) rfl (by decide) (fun _ => rfl) rfl rfl (Nat.le_of_ble_eq_true rfl) dX5_goesThrough_45 (zb_k fun r45 Ω45 h45 => ?_)
    obtain ⟨hr45, hd45, hf45⟩ := h45
    rw [e58] at hr45 hd45
    have hpo : (pO T L x y p (gt Ω 58)) = seqB (rR T L x y (sg T L p) (sk T L p + 1, 0, gt Ω 58)) (rE T L) := pO_rR h28
    subst hr45
    refine z_ifb_eq (pc := 48) hC 60 dX5_goesThrough_48 rfl (fun h48 => ?_) (fun h48 => ?_)
    · refine z_iconst (pc := 60) hC dX5_goesThrough_60 ?_
      exact z_iret (pc := 61) hC rfl (KF _ (by rw [hpo, seqB_f h48]; exact h48) (by rw [hpo, seqB_f h48]; exact hd45.1.2.2.2.1) (hfA.trans hf45)) dX5_goesThrough_61
    · refine z_aload_n (pc := 51) hC (i := 0) dX5_goesThrough_51 rfl rfl ?_
      refine z_callV (n := 0) (T := TX5) (N := 15) (ci := 5) (pc := 52) hC (c_X5_sign l w hw _ T L _ hd45.1) gX5_goesThrough_X5_sign rfl (by decide +kernel) (by decide) (by decide) rfl (by decide) (fun _ => rfl) rfl rfl (Nat.le_of_ble_eq_true rfl) dX5_goesThrough_52 (zi_k fun r52 Ω52 h52 => ?_)
      obtain ⟨hr52, hm52⟩ := h52
      subst hm52
      have hq52 := sk_le T (L := L) (p := (rR T L x y (sg T L p) (sk T L p + 1, 0, gt Ω 58)).2.1) (hd45.1).2.2.2.2
      have hb52 := sg_b (p := (rR T L x y (sg T L p) (sk T L p + 1, 0, gt Ω 58)).2.1) (fun k hk => ((hd45.1).2.2.1 k hk).2)
      subst hr52
      have hG2 := hd45.go hq52.2
      have hf2 := (hfA.trans hf45).trans (frR_up Ω45 (sk T L (rR T L x y (sg T L p) (sk T L p + 1, 0, gt Ω 58)).2.1 : Int) (Or.inl rfl))
      refine z_bipush (pc := 55) hC dX5_goesThrough_55 rfl ?_
      refine z_icmp_eq (pc := 57) hC 62 ⟨by omega, by omega⟩ ⟨by decide, by decide⟩ dX5_goesThrough_57 rfl (fun h57 => ?_) (fun h57 => ?_)
      · have hsin2 := sg_in (T := T) (L := L) (p := (rR T L x y (sg T L p) (sk T L p + 1, 0, gt Ω 58)).2.1) (by omega)
        have hpo2 : (pO T L x y p (gt Ω 58)) = (true, (sk T L (rR T L x y (sg T L p) (sk T L p + 1, 0, gt Ω 58)).2.1 + 1, (rR T L x y (sg T L p) (sk T L p + 1, 0, gt Ω 58)).2.2)) := by rw [hpo, seqB_t h48, rE_yes h57]
        refine z_aload_n (pc := 62) hC (i := 0) dX5_goesThrough_62 rfl rfl ?_
        refine z_dup (pc := 63) hC dX5_goesThrough_63 rfl ?_
        refine z_getI (C := RX5) (T := TX5) (N := 15) (ci := 5) (pc := 64) hC _ 12 in_X5_goesThrough_X5 rfl (by decide) (fun _ => rfl) (by decide) fl_X5_goesThrough_195 (fun _ => rfl) dX5_goesThrough_64 ?_
        rw [hG2.1.2.2.2.1]
        refine z_iconst (pc := 67) hC dX5_goesThrough_67 ?_
        refine z_iadd (pc := 68) hC dX5_goesThrough_68 ?_
        refine z_putI (C := RX5) (T := TX5) (N := 15) (ci := 5) (pc := 69) hC _ 12 in_X5_goesThrough_X5 rfl (by decide) (fun _ => rfl) (by decide) fl_X5_goesThrough_195 tyX5_ok nmX5 rfl (by decide +kernel) (fun _ => Nat.le_of_ble_eq_true rfl) (fun _ _ => rfl) dX5_goesThrough_69 ?_
        have hG3 := hG2.go (p1 := sk T L (rR T L x y (sg T L p) (sk T L p + 1, 0, gt Ω 58)).2.1 + 1) (by omega)
        exact K _ (by rw [hpo2]) (by rw [hpo2]; exact hG3) (hf2.trans (frR_up _ _ (Or.inl rfl)))
      · refine z_iconst (pc := 60) hC dX5_goesThrough_60 ?_
        exact z_iret (pc := 61) hC rfl (KF _ (by rw [hpo, seqB_t h48, rE_no h57]) (by rw [hpo, seqB_t h48, rE_no h57]; exact hG2.1.2.2.2.1) hf2) dX5_goesThrough_61
  · refine z_iconst (pc := 31) hC dX5_goesThrough_31 ?_
    exact z_iret (pc := 32) hC rfl (KF _ (by rw [pO_no h28]) (by rw [pO_no h28]; exact hG.2.2.2.1) (frR_up _ _ (Or.inl rfl))) dX5_goesThrough_32
