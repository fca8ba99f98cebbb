theorem ishr_z : ∀ k, k < 128 → ∀ t, t < 8 → zI ((k : Nat) : Int) >>> (zI ((t : Nat) : Int) &&& 31) = zI ((k / 2 ^ t : Nat) : Int) := by decide +kernel
theorem and1_z : ∀ k, k < 128 → zI ((k : Nat) : Int) &&& zI 1 = zI ((k % 2 : Nat) : Int) := by decide +kernel
/-- weights as the reference sees them -/
def omM (σ : Sg) (Ω : Mem) : Nat → Nat → Int := fun v d => if gt Ω 49 6 = 4 * (v : Int) + (d : Int) then gt Ω 49 7 else om σ v d
def omok (σ : Sg) (ω : Nat → Nat → Int) : Prop := ∀ v d, v < sdots σ → d < 4 → lk σ v d ≠ -1 → 0 ≤ ω v d ∧ ω v d ≤ 99
set_option maxHeartbeats 4000000 in
set_option maxRecDepth 100000 in
theorem c_X5_cutTo (l : Launch) (w : zP) (hw : zOK w) (Ω : Mem) (σ : Sg) (hσ : scM Ω = σ) (hv : scok σ) (u d i k t : Nat) (huN : u < sdots σ) (hd : d < 4) (hl : lk σ u d ≠ -1) (hk : k < 128) (ht : t < 8) (hi : i < 2) : zM l w yX5_cutTo wsX5_cutTo 4 92 [.ref (wa w 49), .int (zI (u : Int)), .int (zI (d : Int)), .int (zI (i : Int)), .int (zI (k : Int)), .int (zI (t : Int))] Ω (zi (fun r Ω1 => r = cut1 (omM σ Ω) i k u d t ∧ Ω1 = Ω)) := by
  refine zM_of cX5_cutTo 6 (some .int) RX5 [some (.ref (wa w 49)), some (.int (zI (u : Int))), some (.int (zI (d : Int))), some (.int (zI (i : Int))), some (.int (zI (k : Int))), some (.int (zI (t : Int)))] hw (by decide +kernel) rfl rfl (Nat.le_of_ble_eq_true rfl) rfl (fun E hC => ?_)
  have hd2 := Nat.div_le_self k (2 ^ t)
  refine z_iload (pc := 0) hC (i := 4) dX5_cutTo_0 rfl ?_
  refine z_iload (pc := 2) hC (i := 5) dX5_cutTo_2 rfl ?_
  refine z_ishr (pc := 4) hC ((k / 2 ^ t : Nat) : Int) (ishr_z k hk t ht) dX5_cutTo_4 ?_
  refine z_iconst (pc := 5) hC dX5_cutTo_5 ?_
  refine z_iand (pc := 6) hC ((k / 2 ^ t % 2 : Nat) : Int) (and1_z _ (by omega)) dX5_cutTo_6 ?_
  refine z_iload_n (pc := 7) hC (i := 3) dX5_cutTo_7 rfl rfl ?_
  refine z_icmp_ne (pc := 8) hC 15 (by first | assumption | exact zb_gt _ _ _ | exact zcmp_zb _ _ | exact bI_zb _ | exact ⟨by omega, by omega⟩) (by first | assumption | exact zb_gt _ _ _ | exact zcmp_zb _ _ | exact bI_zb _ | exact ⟨by omega, by omega⟩) dX5_cutTo_8 rfl (fun h8 => ?_) (fun h8 => ?_)
  · refine z_aload_n (pc := 15) hC (i := 0) dX5_cutTo_15 rfl rfl ?_
    refine z_iload_n (pc := 16) hC (i := 1) dX5_cutTo_16 rfl rfl ?_
    refine z_iload_n (pc := 17) hC (i := 2) dX5_cutTo_17 rfl rfl ?_
    refine z_callV (n := 2) (T := TX5) (N := 15) (ci := 5) (pc := 18) hC (c_X5_weight l w hw _ σ hσ hv u d huN hd hl) gX5_cutTo_X5_weight rfl (by decide +kernel) (by decide) (by decide) rfl (by decide) (fun _ => rfl) rfl rfl (Nat.le_of_ble_eq_true rfl) dX5_cutTo_18 (zi_k fun r18 Ω18 h18 => ?_)
    obtain ⟨rfl, hM18⟩ := h18
    obtain rfl := hM18.symm
    exact z_iret (pc := 21) hC rfl ⟨_, rfl, ⟨by unfold cut1 bit1; rw [if_neg (show ¬ k / 2 ^ t % 2 = i by omega)]; rfl, rfl⟩⟩ dX5_cutTo_21
  · refine z_iconst (pc := 11) hC dX5_cutTo_11 ?_
    refine z_goto (pc := 12) hC 21 dX5_cutTo_12 rfl ?_
    exact z_iret (pc := 21) hC rfl ⟨_, rfl, ⟨by unfold cut1 bit1; rw [if_pos (by omega)], rfl⟩⟩ dX5_cutTo_21
theorem lk_of_bk {σ : Sg} (h : scok σ) {v d u : Nat} (hv : v < sdots σ) (hd : d < 4) (e : bk σ v d = (u : Int)) : lk σ u d ≠ -1 := by
  obtain ⟨o, e1, e2, e3, -⟩ := bk_inv h hv hd (by omega)
  have e4 : o = u := by omega
  subst e4
  omega
theorem fl_X5_adds_7 : Cond.fieldLink RX5 7 "StrokeCutsModel" "st" "[I" ∈ wsX5_adds := by decide +kernel
theorem in_X5_adds_X5 : ∀ x ∈ u_ws RX5 TX5 15, x ∈ wsX5_adds := by decide +kernel
set_option maxHeartbeats 4000000 in
set_option maxRecDepth 100000 in
theorem S_X5_adds_81 {E : zE} {w : zP} {l : Launch} {Post : Option Value → Mem → Prop} (hw : zOK w) (hC : zC E w l RX5 wsX5_adds cX5_adds 8 5 117 (some .int) Post) {Ω : Mem} (σ : Sg) (hσ : scM Ω = σ) (hv : scok σ) (v i k : Nat) (hvN : v < sdots σ) (hi : i < 2) (hk : k < 128) (b s : Int) (hb : (b = 1 ∧ sw σ ≤ v) ∨ (b = 0 ∧ ¬ sw σ ≤ v)) (K : ∀ r : Int, r = s + ((if (sw σ ≤ v ∧ σ 7 = 8) ∧ 0 < v % sw σ then cut1 (omM σ Ω) i k (v - sw σ - 1) 2 (sw σ) else 0) + (if (sw σ ≤ v ∧ σ 7 = 8) ∧ v % sw σ < sw σ - 1 then cut1 (omM σ Ω) i k (v - sw σ + 1) 3 (sw σ - 2) else 0)) → Post (some (.int (zI r))) Ω)  : X E Ω 81 [some (.ref (wa w 49)), some (.int (zI (v : Int))), some (.int (zI (i : Int))), some (.int (zI (k : Int))), some (.int (zI (sw σ : Int))), some (.int (zI ((v % sw σ : Nat) : Int))), some (.int (zI b)), some (.int (zI s))] [] := by
  have hW := sw_eq hv
  have hN := sdots_le hv
  have hxy := dot_xy hv hvN
  have hxv : v % sw σ ≤ v := Nat.mod_le _ _
  have z7 : gt Ω 50 7 = σ 7 := st_at hσ (by decide)
  obtain ⟨k0, k1, k2, k3⟩ := bk_eq hv hvN
  have hbz : zb b := ⟨by omega, by omega⟩
  refine z_iload (pc := 81) hC (i := 6) dX5_adds_81 rfl ?_
  refine z_if_eq (pc := 83) hC 162 hbz dX5_adds_83 rfl (fun h83 => ?_) (fun h83 => ?_)
  · skip
    refine z_iload (pc := 162) hC (i := 7) dX5_adds_162 rfl ?_
    exact z_iret (pc := 164) hC rfl (K _ (by (first | rw [if_pos (show (sw σ ≤ v ∧ σ 7 = 8) ∧ 0 < v % sw σ by omega)] | rw [if_neg (show ¬ ((sw σ ≤ v ∧ σ 7 = 8) ∧ 0 < v % sw σ) by omega)]); (first | rw [if_pos (show (sw σ ≤ v ∧ σ 7 = 8) ∧ v % sw σ < sw σ - 1 by omega)] | rw [if_neg (show ¬ ((sw σ ≤ v ∧ σ 7 = 8) ∧ v % sw σ < sw σ - 1) by omega)]); omega)) dX5_adds_164
  · refine z_aload_n (pc := 86) hC (i := 0) dX5_adds_86 rfl rfl ?_
    refine z_getR (C := RX5) (T := TX5) (N := 15) (ci := 5) (pc := 87) hC _ _ 0 in_X5_adds_X5 rfl (by decide) (fun _ => rfl) (by decide) fl_X5_adds_7 (fun _ => rfl) dX5_adds_87 ?_
    refine z_bipush (pc := 90) hC dX5_adds_90 rfl ?_
    refine z_ialk (pc := 92) hC _ 7 (by decide) (fun _ => rfl) rfl (by decide) (by decide) dX5_adds_92 ?_
    refine z_bipush (pc := 93) hC dX5_adds_93 rfl ?_
    refine z_icmp_ne (pc := 95) hC 162 (by first | assumption | exact zb_gt _ _ _ | exact zcmp_zb _ _ | exact bI_zb _ | exact ⟨by omega, by omega⟩) (by first | assumption | exact zb_gt _ _ _ | exact zcmp_zb _ _ | exact bI_zb _ | exact ⟨by omega, by omega⟩) dX5_adds_95 rfl (fun h95 => ?_) (fun h95 => ?_)
    · skip
      refine z_iload (pc := 162) hC (i := 7) dX5_adds_162 rfl ?_
      exact z_iret (pc := 164) hC rfl (K _ (by (first | rw [if_pos (show (sw σ ≤ v ∧ σ 7 = 8) ∧ 0 < v % sw σ by omega)] | rw [if_neg (show ¬ ((sw σ ≤ v ∧ σ 7 = 8) ∧ 0 < v % sw σ) by omega)]); (first | rw [if_pos (show (sw σ ≤ v ∧ σ 7 = 8) ∧ v % sw σ < sw σ - 1 by omega)] | rw [if_neg (show ¬ ((sw σ ≤ v ∧ σ 7 = 8) ∧ v % sw σ < sw σ - 1) by omega)]); omega)) dX5_adds_164
    · have hlt : 0 < v % sw σ → sw σ < v := fun q => by
        rcases Nat.lt_or_eq_of_le (show sw σ ≤ v by omega) with z | z
        · exact z
        · rw [← z, Nat.mod_self] at q; omega
      refine z_iload (pc := 98) hC (i := 7) dX5_adds_98 rfl ?_
      refine z_iload (pc := 100) hC (i := 5) dX5_adds_100 rfl ?_
      refine z_if_le (pc := 102) hC 123 ⟨by omega, by omega⟩ dX5_adds_102 rfl (fun h102 => ?_) (fun h102 => ?_)
      · refine z_iconst (pc := 123) hC dX5_adds_123 ?_
        refine z_iadd (pc := 124) hC dX5_adds_124 ?_
        refine z_istore (pc := 125) hC (i := 7) dX5_adds_125 (by decide) rfl (zS_s (zS_s (zS_s (zS_s (zS_s (zS_s (zS_s zS_0))))))) ?_
        refine z_iload (pc := 127) hC (i := 7) dX5_adds_127 rfl ?_
        refine z_iload (pc := 129) hC (i := 5) dX5_adds_129 rfl ?_
        refine z_iload (pc := 131) hC (i := 4) dX5_adds_131 rfl ?_
        refine z_iconst (pc := 133) hC dX5_adds_133 ?_
        refine z_isub (pc := 134) hC dX5_adds_134 ?_
        refine z_icmp_ge (pc := 135) hC 158 (by first | assumption | exact zb_gt _ _ _ | exact zcmp_zb _ _ | exact bI_zb _ | exact ⟨by omega, by omega⟩) (by first | assumption | exact zb_gt _ _ _ | exact zcmp_zb _ _ | exact bI_zb _ | exact ⟨by omega, by omega⟩) dX5_adds_135 rfl (fun h135 => ?_) (fun h135 => ?_)
        · refine z_iconst (pc := 158) hC dX5_adds_158 ?_
          refine z_iadd (pc := 159) hC dX5_adds_159 ?_
          refine z_istore (pc := 160) hC (i := 7) dX5_adds_160 (by decide) rfl (zS_s (zS_s (zS_s (zS_s (zS_s (zS_s (zS_s zS_0))))))) ?_
          skip
          refine z_iload (pc := 162) hC (i := 7) dX5_adds_162 rfl ?_
          exact z_iret (pc := 164) hC rfl (K _ (by (first | rw [if_pos (show (sw σ ≤ v ∧ σ 7 = 8) ∧ 0 < v % sw σ by omega)] | rw [if_neg (show ¬ ((sw σ ≤ v ∧ σ 7 = 8) ∧ 0 < v % sw σ) by omega)]); (first | rw [if_pos (show (sw σ ≤ v ∧ σ 7 = 8) ∧ v % sw σ < sw σ - 1 by omega)] | rw [if_neg (show ¬ ((sw σ ≤ v ∧ σ 7 = 8) ∧ v % sw σ < sw σ - 1) by omega)]); omega)) dX5_adds_164
        · refine z_aload_n (pc := 138) hC (i := 0) dX5_adds_138 rfl rfl ?_
          refine z_iload_n (pc := 139) hC (i := 1) dX5_adds_139 rfl rfl ?_
          refine z_iload (pc := 140) hC (i := 4) dX5_adds_140 rfl ?_
          refine z_isub (pc := 142) hC dX5_adds_142 ?_
          refine z_iconst (pc := 143) hC dX5_adds_143 ?_
          refine z_iadd (pc := 144) hC dX5_adds_144 ?_
          rw [show (v : Int) - (sw σ : Int) + 1 = ((v - sw σ + 1 : Nat) : Int) by omega]
          refine z_iconst (pc := 145) hC dX5_adds_145 ?_
          refine z_iload_n (pc := 146) hC (i := 2) dX5_adds_146 rfl rfl ?_
          refine z_iload_n (pc := 147) hC (i := 3) dX5_adds_147 rfl rfl ?_
          refine z_iload (pc := 148) hC (i := 4) dX5_adds_148 rfl ?_
          refine z_iconst (pc := 150) hC dX5_adds_150 ?_
          refine z_isub (pc := 151) hC dX5_adds_151 ?_
          rw [show (sw σ : Int) - 2 = ((sw σ - 2 : Nat) : Int) by omega]
          refine z_callV (n := 5) (T := TX5) (N := 15) (ci := 5) (pc := 152) hC (c_X5_cutTo l w hw _ σ hσ hv (v - sw σ + 1) 3 i k (sw σ - 2) (by omega) (by decide) (lk_of_bk hv hvN (by decide) (k3.trans (if_pos ⟨⟨by omega, by omega⟩, by omega⟩))) hk (by omega) hi) gX5_adds_X5_cutTo rfl (by decide +kernel) (by decide) (by decide) rfl (by decide) (fun _ => rfl) rfl rfl (Nat.le_of_ble_eq_true rfl) dX5_adds_152 (zi_k fun r152 Ω152 h152 => ?_)
          obtain ⟨rfl, hM152⟩ := h152
          obtain rfl := hM152.symm
          refine z_goto (pc := 155) hC 159 dX5_adds_155 rfl ?_
          refine z_iadd (pc := 159) hC dX5_adds_159 ?_
          refine z_istore (pc := 160) hC (i := 7) dX5_adds_160 (by decide) rfl (zS_s (zS_s (zS_s (zS_s (zS_s (zS_s (zS_s zS_0))))))) ?_
          skip
          refine z_iload (pc := 162) hC (i := 7) dX5_adds_162 rfl ?_
          exact z_iret (pc := 164) hC rfl (K _ (by (first | rw [if_pos (show (sw σ ≤ v ∧ σ 7 = 8) ∧ 0 < v % sw σ by omega)] | rw [if_neg (show ¬ ((sw σ ≤ v ∧ σ 7 = 8) ∧ 0 < v % sw σ) by omega)]); (first | rw [if_pos (show (sw σ ≤ v ∧ σ 7 = 8) ∧ v % sw σ < sw σ - 1 by omega)] | rw [if_neg (show ¬ ((sw σ ≤ v ∧ σ 7 = 8) ∧ v % sw σ < sw σ - 1) by omega)]); omega)) dX5_adds_164
      · have hlt1 := hlt (by omega)
        refine z_aload_n (pc := 105) hC (i := 0) dX5_adds_105 rfl rfl ?_
        refine z_iload_n (pc := 106) hC (i := 1) dX5_adds_106 rfl rfl ?_
        refine z_iload (pc := 107) hC (i := 4) dX5_adds_107 rfl ?_
        refine z_isub (pc := 109) hC dX5_adds_109 ?_
        refine z_iconst (pc := 110) hC dX5_adds_110 ?_
        refine z_isub (pc := 111) hC dX5_adds_111 ?_
        rw [show (v : Int) - (sw σ : Int) - 1 = ((v - sw σ - 1 : Nat) : Int) by omega]
        refine z_iconst (pc := 112) hC dX5_adds_112 ?_
        refine z_iload_n (pc := 113) hC (i := 2) dX5_adds_113 rfl rfl ?_
        refine z_iload_n (pc := 114) hC (i := 3) dX5_adds_114 rfl rfl ?_
        refine z_iload (pc := 115) hC (i := 4) dX5_adds_115 rfl ?_
        refine z_callV (n := 5) (T := TX5) (N := 15) (ci := 5) (pc := 117) hC (c_X5_cutTo l w hw _ σ hσ hv (v - sw σ - 1) 2 i k (sw σ) (by omega) (by decide) (lk_of_bk hv hvN (by decide) (k2.trans (if_pos ⟨⟨by omega, by omega⟩, by omega⟩))) hk (by omega) hi) gX5_adds_X5_cutTo rfl (by decide +kernel) (by decide) (by decide) rfl (by decide) (fun _ => rfl) rfl rfl (Nat.le_of_ble_eq_true rfl) dX5_adds_117 (zi_k fun r117 Ω117 h117 => ?_)
        obtain ⟨rfl, hM117⟩ := h117
        obtain rfl := hM117.symm
        refine z_goto (pc := 120) hC 124 dX5_adds_120 rfl ?_
        refine z_iadd (pc := 124) hC dX5_adds_124 ?_
        refine z_istore (pc := 125) hC (i := 7) dX5_adds_125 (by decide) rfl (zS_s (zS_s (zS_s (zS_s (zS_s (zS_s (zS_s zS_0))))))) ?_
        refine z_iload (pc := 127) hC (i := 7) dX5_adds_127 rfl ?_
        refine z_iload (pc := 129) hC (i := 5) dX5_adds_129 rfl ?_
        refine z_iload (pc := 131) hC (i := 4) dX5_adds_131 rfl ?_
        refine z_iconst (pc := 133) hC dX5_adds_133 ?_
        refine z_isub (pc := 134) hC dX5_adds_134 ?_
        refine z_icmp_ge (pc := 135) hC 158 (by first | assumption | exact zb_gt _ _ _ | exact zcmp_zb _ _ | exact bI_zb _ | exact ⟨by omega, by omega⟩) (by first | assumption | exact zb_gt _ _ _ | exact zcmp_zb _ _ | exact bI_zb _ | exact ⟨by omega, by omega⟩) dX5_adds_135 rfl (fun h135 => ?_) (fun h135 => ?_)
        · refine z_iconst (pc := 158) hC dX5_adds_158 ?_
          refine z_iadd (pc := 159) hC dX5_adds_159 ?_
          refine z_istore (pc := 160) hC (i := 7) dX5_adds_160 (by decide) rfl (zS_s (zS_s (zS_s (zS_s (zS_s (zS_s (zS_s zS_0))))))) ?_
          skip
          refine z_iload (pc := 162) hC (i := 7) dX5_adds_162 rfl ?_
          exact z_iret (pc := 164) hC rfl (K _ (by (first | rw [if_pos (show (sw σ ≤ v ∧ σ 7 = 8) ∧ 0 < v % sw σ by omega)] | rw [if_neg (show ¬ ((sw σ ≤ v ∧ σ 7 = 8) ∧ 0 < v % sw σ) by omega)]); (first | rw [if_pos (show (sw σ ≤ v ∧ σ 7 = 8) ∧ v % sw σ < sw σ - 1 by omega)] | rw [if_neg (show ¬ ((sw σ ≤ v ∧ σ 7 = 8) ∧ v % sw σ < sw σ - 1) by omega)]); omega)) dX5_adds_164
        · refine z_aload_n (pc := 138) hC (i := 0) dX5_adds_138 rfl rfl ?_
          refine z_iload_n (pc := 139) hC (i := 1) dX5_adds_139 rfl rfl ?_
          refine z_iload (pc := 140) hC (i := 4) dX5_adds_140 rfl ?_
          refine z_isub (pc := 142) hC dX5_adds_142 ?_
          refine z_iconst (pc := 143) hC dX5_adds_143 ?_
          refine z_iadd (pc := 144) hC dX5_adds_144 ?_
          rw [show (v : Int) - (sw σ : Int) + 1 = ((v - sw σ + 1 : Nat) : Int) by omega]
          refine z_iconst (pc := 145) hC dX5_adds_145 ?_
          refine z_iload_n (pc := 146) hC (i := 2) dX5_adds_146 rfl rfl ?_
          refine z_iload_n (pc := 147) hC (i := 3) dX5_adds_147 rfl rfl ?_
          refine z_iload (pc := 148) hC (i := 4) dX5_adds_148 rfl ?_
          refine z_iconst (pc := 150) hC dX5_adds_150 ?_
          refine z_isub (pc := 151) hC dX5_adds_151 ?_
          rw [show (sw σ : Int) - 2 = ((sw σ - 2 : Nat) : Int) by omega]
          refine z_callV (n := 5) (T := TX5) (N := 15) (ci := 5) (pc := 152) hC (c_X5_cutTo l w hw _ σ hσ hv (v - sw σ + 1) 3 i k (sw σ - 2) (by omega) (by decide) (lk_of_bk hv hvN (by decide) (k3.trans (if_pos ⟨⟨by omega, by omega⟩, by omega⟩))) hk (by omega) hi) gX5_adds_X5_cutTo rfl (by decide +kernel) (by decide) (by decide) rfl (by decide) (fun _ => rfl) rfl rfl (Nat.le_of_ble_eq_true rfl) dX5_adds_152 (zi_k fun r152 Ω152 h152 => ?_)
          obtain ⟨rfl, hM152⟩ := h152
          obtain rfl := hM152.symm
          refine z_goto (pc := 155) hC 159 dX5_adds_155 rfl ?_
          refine z_iadd (pc := 159) hC dX5_adds_159 ?_
          refine z_istore (pc := 160) hC (i := 7) dX5_adds_160 (by decide) rfl (zS_s (zS_s (zS_s (zS_s (zS_s (zS_s (zS_s zS_0))))))) ?_
          skip
          refine z_iload (pc := 162) hC (i := 7) dX5_adds_162 rfl ?_
          exact z_iret (pc := 164) hC rfl (K _ (by (first | rw [if_pos (show (sw σ ≤ v ∧ σ 7 = 8) ∧ 0 < v % sw σ by omega)] | rw [if_neg (show ¬ ((sw σ ≤ v ∧ σ 7 = 8) ∧ 0 < v % sw σ) by omega)]); (first | rw [if_pos (show (sw σ ≤ v ∧ σ 7 = 8) ∧ v % sw σ < sw σ - 1 by omega)] | rw [if_neg (show ¬ ((sw σ ≤ v ∧ σ 7 = 8) ∧ v % sw σ < sw σ - 1) by omega)]); omega)) dX5_adds_164
set_option maxHeartbeats 4000000 in
set_option maxRecDepth 100000 in
theorem S_X5_adds_56 {E : zE} {w : zP} {l : Launch} {Post : Option Value → Mem → Prop} (hw : zOK w) (hC : zC E w l RX5 wsX5_adds cX5_adds 8 5 117 (some .int) Post) {Ω : Mem} (σ : Sg) (hσ : scM Ω = σ) (hv : scok σ) (v i k : Nat) (hvN : v < sdots σ) (hi : i < 2) (hk : k < 128) (b s : Int) (hb : (b = 1 ∧ sw σ ≤ v) ∨ (b = 0 ∧ ¬ sw σ ≤ v)) (K : ∀ r : Int, r = s + ((if sw σ ≤ v then cut1 (omM σ Ω) i k (v - sw σ) 1 (sw σ - 1) else 0) + ((if (sw σ ≤ v ∧ σ 7 = 8) ∧ 0 < v % sw σ then cut1 (omM σ Ω) i k (v - sw σ - 1) 2 (sw σ) else 0) + (if (sw σ ≤ v ∧ σ 7 = 8) ∧ v % sw σ < sw σ - 1 then cut1 (omM σ Ω) i k (v - sw σ + 1) 3 (sw σ - 2) else 0))) → Post (some (.int (zI r))) Ω)  : X E Ω 56 [some (.ref (wa w 49)), some (.int (zI (v : Int))), some (.int (zI (i : Int))), some (.int (zI (k : Int))), some (.int (zI (sw σ : Int))), some (.int (zI ((v % sw σ : Nat) : Int))), some (.int (zI b)), some (.int (zI s))] [] := by
  have hW := sw_eq hv
  have hN := sdots_le hv
  have hxy := dot_xy hv hvN
  have hxv : v % sw σ ≤ v := Nat.mod_le _ _
  have z7 : gt Ω 50 7 = σ 7 := st_at hσ (by decide)
  obtain ⟨k0, k1, k2, k3⟩ := bk_eq hv hvN
  have hbz : zb b := ⟨by omega, by omega⟩
  refine z_iload (pc := 56) hC (i := 6) dX5_adds_56 rfl ?_
  refine z_if_eq (pc := 58) hC 81 hbz dX5_adds_58 rfl (fun h58 => ?_) (fun h58 => ?_)
  · exact S_X5_adds_81 hw hC σ hσ hv v i k hvN hi hk b s hb (fun r hr => K r (by rw [if_neg (show ¬ sw σ ≤ v by omega)]; omega))
  · refine z_iload (pc := 61) hC (i := 7) dX5_adds_61 rfl ?_
    refine z_aload_n (pc := 63) hC (i := 0) dX5_adds_63 rfl rfl ?_
    refine z_iload_n (pc := 64) hC (i := 1) dX5_adds_64 rfl rfl ?_
    refine z_iload (pc := 65) hC (i := 4) dX5_adds_65 rfl ?_
    refine z_isub (pc := 67) hC dX5_adds_67 ?_
    rw [show (v : Int) - (sw σ : Int) = ((v - sw σ : Nat) : Int) by omega]
    refine z_iconst (pc := 68) hC dX5_adds_68 ?_
    refine z_iload_n (pc := 69) hC (i := 2) dX5_adds_69 rfl rfl ?_
    refine z_iload_n (pc := 70) hC (i := 3) dX5_adds_70 rfl rfl ?_
    refine z_iload (pc := 71) hC (i := 4) dX5_adds_71 rfl ?_
    refine z_iconst (pc := 73) hC dX5_adds_73 ?_
    refine z_isub (pc := 74) hC dX5_adds_74 ?_
    rw [show (sw σ : Int) - 1 = ((sw σ - 1 : Nat) : Int) by omega]
    refine z_callV (n := 5) (T := TX5) (N := 15) (ci := 5) (pc := 75) hC (c_X5_cutTo l w hw _ σ hσ hv (v - sw σ) 1 i k (sw σ - 1) (by omega) (by decide) (lk_of_bk hv hvN (by decide) (k1.trans (if_pos (by omega)))) hk (by omega) hi) gX5_adds_X5_cutTo rfl (by decide +kernel) (by decide) (by decide) rfl (by decide) (fun _ => rfl) rfl rfl (Nat.le_of_ble_eq_true rfl) dX5_adds_75 (zi_k fun r75 Ω75 h75 => ?_)
    obtain ⟨rfl, hM75⟩ := h75
    obtain rfl := hM75.symm
    refine z_iadd (pc := 78) hC dX5_adds_78 ?_
    refine z_istore (pc := 79) hC (i := 7) dX5_adds_79 (by decide) rfl (zS_s (zS_s (zS_s (zS_s (zS_s (zS_s (zS_s zS_0))))))) ?_
    exact S_X5_adds_81 hw hC σ hσ hv v i k hvN hi hk b _ hb (fun r hr => K r (by rw [if_pos (show sw σ ≤ v by omega)]; omega))
set_option maxHeartbeats 4000000 in
set_option maxRecDepth 100000 in
theorem S_X5_adds_27 {E : zE} {w : zP} {l : Launch} {Post : Option Value → Mem → Prop} (hw : zOK w) (hC : zC E w l RX5 wsX5_adds cX5_adds 8 5 117 (some .int) Post) {Ω : Mem} (σ : Sg) (hσ : scM Ω = σ) (hv : scok σ) (v i k : Nat) (hvN : v < sdots σ) (hi : i < 2) (hk : k < 128) (b : Int) (hb : (b = 1 ∧ sw σ ≤ v) ∨ (b = 0 ∧ ¬ sw σ ≤ v)) (K : ∀ r : Int, r = addV σ (omM σ Ω) v i k → Post (some (.int (zI r))) Ω)  : X E Ω 27 [some (.ref (wa w 49)), some (.int (zI (v : Int))), some (.int (zI (i : Int))), some (.int (zI (k : Int))), some (.int (zI (sw σ : Int))), some (.int (zI ((v % sw σ : Nat) : Int))), some (.int (zI b)), none] [] := by
  have hW := sw_eq hv
  have hN := sdots_le hv
  have hxy := dot_xy hv hvN
  have hxv : v % sw σ ≤ v := Nat.mod_le _ _
  have z7 : gt Ω 50 7 = σ 7 := st_at hσ (by decide)
  obtain ⟨k0, k1, k2, k3⟩ := bk_eq hv hvN
  have hbz : zb b := ⟨by omega, by omega⟩
  refine z_aload_n (pc := 27) hC (i := 0) dX5_adds_27 rfl rfl ?_
  refine z_iload_n (pc := 28) hC (i := 1) dX5_adds_28 rfl rfl ?_
  refine z_iload_n (pc := 29) hC (i := 2) dX5_adds_29 rfl rfl ?_
  refine z_callV (n := 2) (T := TX5) (N := 15) (ci := 5) (pc := 30) hC (c_X5_pull l w hw _ σ hσ v (by omega) (i : Int) ⟨by omega, by omega⟩) gX5_adds_X5_pull rfl (by decide +kernel) (by decide) (by decide) rfl (by decide) (fun _ => rfl) rfl rfl (Nat.le_of_ble_eq_true rfl) dX5_adds_30 (zi_k fun r30 Ω30 h30 => ?_)
  obtain ⟨rfl, hM30⟩ := h30
  obtain rfl := hM30.symm
  refine z_istore (pc := 33) hC (i := 7) dX5_adds_33 (by decide) rfl (zS_s (zS_s (zS_s (zS_s (zS_s (zS_s (zS_s zS_0))))))) ?_
  refine z_iload (pc := 35) hC (i := 5) dX5_adds_35 rfl ?_
  refine z_if_le (pc := 37) hC 56 ⟨by omega, by omega⟩ dX5_adds_37 rfl (fun h37 => ?_) (fun h37 => ?_)
  · have hpi : (if (i : Int) = 1 then 3 else 4) = (if i = 1 then 3 else 4) := by
      by_cases q : i = 1
      · rw [if_pos q, if_pos (by omega)]
      · rw [if_neg q, if_neg (by omega)]
    exact S_X5_adds_56 hw hC σ hσ hv v i k hvN hi hk b _ hb (fun r hr => K r (by unfold addV; rw [if_neg (show ¬ 0 < v % sw σ by omega), ← hpi]; omega))
  · refine z_iload (pc := 40) hC (i := 7) dX5_adds_40 rfl ?_
    refine z_aload_n (pc := 42) hC (i := 0) dX5_adds_42 rfl rfl ?_
    refine z_iload_n (pc := 43) hC (i := 1) dX5_adds_43 rfl rfl ?_
    refine z_iconst (pc := 44) hC dX5_adds_44 ?_
    refine z_isub (pc := 45) hC dX5_adds_45 ?_
    rw [show (v : Int) - 1 = ((v - 1 : Nat) : Int) by omega]
    refine z_iconst (pc := 46) hC dX5_adds_46 ?_
    refine z_iload_n (pc := 47) hC (i := 2) dX5_adds_47 rfl rfl ?_
    refine z_iload_n (pc := 48) hC (i := 3) dX5_adds_48 rfl rfl ?_
    refine z_iconst (pc := 49) hC dX5_adds_49 ?_
    refine z_callV (n := 5) (T := TX5) (N := 15) (ci := 5) (pc := 50) hC (c_X5_cutTo l w hw _ σ hσ hv (v - 1) 0 i k 0 (by omega) (by decide) (lk_of_bk hv hvN (by decide) (k0.trans (if_pos (by omega)))) hk (by omega) hi) gX5_adds_X5_cutTo rfl (by decide +kernel) (by decide) (by decide) rfl (by decide) (fun _ => rfl) rfl rfl (Nat.le_of_ble_eq_true rfl) dX5_adds_50 (zi_k fun r50 Ω50 h50 => ?_)
    obtain ⟨rfl, hM50⟩ := h50
    obtain rfl := hM50.symm
    refine z_iadd (pc := 53) hC dX5_adds_53 ?_
    refine z_istore (pc := 54) hC (i := 7) dX5_adds_54 (by decide) rfl (zS_s (zS_s (zS_s (zS_s (zS_s (zS_s (zS_s zS_0))))))) ?_
    have hpi : (if (i : Int) = 1 then 3 else 4) = (if i = 1 then 3 else 4) := by
      by_cases q : i = 1
      · rw [if_pos q, if_pos (by omega)]
      · rw [if_neg q, if_neg (by omega)]
    exact S_X5_adds_56 hw hC σ hσ hv v i k hvN hi hk b _ hb (fun r hr => K r (by unfold addV; rw [if_pos (show 0 < v % sw σ by omega), ← hpi]; omega))
set_option maxHeartbeats 4000000 in
set_option maxRecDepth 100000 in
theorem c_X5_adds (l : Launch) (w : zP) (hw : zOK w) (Ω : Mem) (σ : Sg) (hσ : scM Ω = σ) (hv : scok σ) (v i k : Nat) (hvN : v < sdots σ) (hi : i < 2) (hk : k < 128) : zM l w yX5_adds wsX5_adds 5 117 [.ref (wa w 49), .int (zI (v : Int)), .int (zI (i : Int)), .int (zI (k : Int))] Ω (zi (fun r Ω1 => r = addV σ (omM σ Ω) v i k ∧ Ω1 = Ω)) := by
  refine zM_of cX5_adds 8 (some .int) RX5 [some (.ref (wa w 49)), some (.int (zI (v : Int))), some (.int (zI (i : Int))), some (.int (zI (k : Int))), none, none, none, none] hw (by decide +kernel) rfl rfl (Nat.le_of_ble_eq_true rfl) rfl (fun E hC => ?_)
  have z0 : gt Ω 50 0 = σ 0 := st_at hσ (by decide)
  have hW := sw_eq hv
  have hN := sdots_le hv
  refine z_aload_n (pc := 0) hC (i := 0) dX5_adds_0 rfl rfl ?_
  refine z_getR (C := RX5) (T := TX5) (N := 15) (ci := 5) (pc := 1) hC _ _ 0 in_X5_adds_X5 rfl (by decide) (fun _ => rfl) (by decide) fl_X5_adds_7 (fun _ => rfl) dX5_adds_1 ?_
  refine z_iconst (pc := 4) hC dX5_adds_4 ?_
  refine z_ialk (pc := 5) hC _ 0 (by decide) (fun _ => rfl) rfl (by decide) (by decide) dX5_adds_5 ?_
  rw [z0, ← hW.1]
  refine z_istore (pc := 6) hC (i := 4) dX5_adds_6 (by decide) rfl (zS_s (zS_s (zS_s (zS_s zS_0)))) ?_
  refine z_iload_n (pc := 8) hC (i := 1) dX5_adds_8 rfl rfl ?_
  refine z_iload (pc := 9) hC (i := 4) dX5_adds_9 rfl ?_
  refine z_irem (pc := 11) hC ⟨by omega, by omega⟩ ⟨by omega, by omega⟩ (by omega) dX5_adds_11 ?_
  rw [Int.tmod_eq_emod_of_nonneg (by omega), ← Int.natCast_emod]
  refine z_istore (pc := 12) hC (i := 5) dX5_adds_12 (by decide) rfl (zS_s (zS_s (zS_s (zS_s (zS_s zS_0))))) ?_
  refine z_iload_n (pc := 14) hC (i := 1) dX5_adds_14 rfl rfl ?_
  refine z_iload (pc := 15) hC (i := 4) dX5_adds_15 rfl ?_
  refine z_icmp_lt (pc := 17) hC 24 (by first | assumption | exact zb_gt _ _ _ | exact zcmp_zb _ _ | exact bI_zb _ | exact ⟨by omega, by omega⟩) (by first | assumption | exact zb_gt _ _ _ | exact zcmp_zb _ _ | exact bI_zb _ | exact ⟨by omega, by omega⟩) dX5_adds_17 rfl (fun h17 => ?_) (fun h17 => ?_)
  · refine z_iconst (pc := 24) hC dX5_adds_24 ?_
    refine z_istore (pc := 25) hC (i := 6) dX5_adds_25 (by decide) rfl (zS_s (zS_s (zS_s (zS_s (zS_s (zS_s zS_0)))))) ?_
    exact S_X5_adds_27 hw hC σ hσ hv v i k hvN hi hk _ (Or.inr ⟨rfl, by omega⟩) (fun r hr => ⟨r, rfl, hr, rfl⟩)
  · refine z_iconst (pc := 20) hC dX5_adds_20 ?_
    refine z_goto (pc := 21) hC 25 dX5_adds_21 rfl ?_
    refine z_istore (pc := 25) hC (i := 6) dX5_adds_25 (by decide) rfl (zS_s (zS_s (zS_s (zS_s (zS_s (zS_s zS_0)))))) ?_
    exact S_X5_adds_27 hw hC σ hσ hv v i k hvN hi hk _ (Or.inl ⟨rfl, by omega⟩) (fun r hr => ⟨r, rfl, hr, rfl⟩)
