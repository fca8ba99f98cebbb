def osum (σ : Sg) (x : Int64) : Nat → Int := sm (fun k => if tb x k = true then 0 else σ (8 + k))
def xco (σ : Sg) (x : Int64) : Int64 := alld (σ 0 * σ 1) &&& (x ^^^ (-1))
theorem lcnt_co {σ : Sg} (h : scok σ) (x : Int64) : ∀ n, n ≤ sdots σ → lcnt (xco σ x) n + lcnt x n = n
  | 0, _ => rfl
  | n + 1, hn => by
    have ih := lcnt_co h x n (by omega)
    have hc : tb (xco σ x) n = true ↔ n < sdots σ ∧ ¬ tb x n = true := compl_tb h x n
    unfold lcnt at *
    rw [sm_s, sm_s]
    by_cases c : tb x n = true
    · rw [if_pos c, if_neg (fun q => (hc.mp q).2 c)]; omega
    · rw [if_neg c, if_pos (hc.mpr ⟨by omega, c⟩)]; omega
theorem lnew_g {σ : Sg} (h : scok σ) (x : Int64) (fg : Int) : lnew (sup σ (2 + 3) fg) (xco σ x) 4 = if lcnt x (sdots σ) < sdots σ then osum σ x (sdots σ) / (sdots σ - lcnt x (sdots σ)) else σ 6 := by
  have e1 : sdots (sup σ (2 + 3) fg) = sdots σ := rfl
  have e2 := lcnt_co h x (sdots σ) (Nat.le_refl _)
  have e3 : lsum (sup σ (2 + 3) fg) (xco σ x) (sdots σ) = osum σ x (sdots σ) := by
    unfold lsum osum
    refine sm_cong (fun k hk => ?_)
    have hc : tb (xco σ x) k = true ↔ k < sdots σ ∧ ¬ tb x k = true := compl_tb h x k
    by_cases c : tb x k = true
    · rw [if_pos c, if_neg (fun q => (hc.mp q).2 c)]
    · rw [if_neg c, if_pos (hc.mpr ⟨hk, c⟩)]
      exact if_neg (by omega)
  unfold lnew
  rw [e1, e3]
  by_cases c : lcnt x (sdots σ) < sdots σ
  · rw [if_pos (by omega), if_pos c, show lcnt (xco σ x) (sdots σ) = sdots σ - lcnt x (sdots σ) by omega]
  · rw [if_neg (by omega), if_neg c]
    rfl
theorem lrR_ok {σ : Sg} (h : scok σ) (n : Nat) : scok (lrR n σ).2 := lrR_keep (P := scok) (fun _ x g => lrn_ok g x) n σ h
theorem lrn_eq {σ : Sg} (h : scok σ) (x : Int64) : lrn σ x = sup (sup σ 5 (lnew σ x 3)) 6 (if lcnt x (sdots σ) < sdots σ then osum σ x (sdots σ) / (sdots σ - lcnt x (sdots σ)) else σ 6) := by
  rw [← lnew_g h x (lnew σ x 3)]
  rfl
theorem chg_iff {σ : Sg} (h : scok σ) (x : Int64) : chg σ x ↔ lnew σ x 3 ≠ σ 5 ∨ (if lcnt x (sdots σ) < sdots σ then osum σ x (sdots σ) / (sdots σ - lcnt x (sdots σ)) else σ 6) ≠ σ 6 := by
  rw [← lnew_g h x (lnew σ x 3)]
  exact Iff.rfl
theorem fl_X5_learnsOnce_7 : Cond.fieldLink RX5 7 "StrokeCutsModel" "st" "[I" ∈ wsX5_learnsOnce := by decide +kernel
theorem in_X5_learnsOnce_X5 : ∀ x ∈ u_ws RX5 TX5 15, x ∈ wsX5_learnsOnce := by decide +kernel
set_option maxHeartbeats 4000000 in
set_option maxRecDepth 100000 in
theorem L_X5_learnsOnce_21 {E : zE} {w : zP} {l : Launch} {Post : Option Value → Mem → Prop} (hw : zOK w) (hC : zC E w l RX5 wsX5_learnsOnce cX5_learnsOnce 9 11 266 (some .boolean) Post) (Ω : Mem) (σ : Sg) (hσ : scM Ω = σ) (hv : scok σ) (x : Int64) (nn : Int) (K : X E Ω 90 [some (.ref (wa w 49)), some (.long x), none, some (.int (zI (lsum σ x (sdots σ)))), some (.int (zI (osum σ x (sdots σ)))), some (.int (zI nn)), some (.int (zI (sdots σ : Int))), none, none] []) : ∀ (n : Nat) (k : Nat), sdots σ < k + n → (k ≤ sdots σ) → X E Ω 21 [some (.ref (wa w 49)), some (.long x), none, some (.int (zI (lsum σ x k))), some (.int (zI (osum σ x k))), some (.int (zI nn)), some (.int (zI (k : Int))), none, none] [] := by
  intro n
  induction n with
  | zero =>
    intro k hfu hk
    exact absurd hfu (by omega)
  | succ n ih =>
    intro k hfu hk
    have hN := sdots_le hv
    have q0 : gt Ω 50 0 * gt Ω 50 1 = (sdots σ : Int) := by rw [st_at hσ (by decide), st_at hσ (by decide)]; exact hN.2.2.symm
    have e5 : gt Ω 50 5 = σ 5 := st_at hσ (by decide)
    have e6 : gt Ω 50 6 = σ 6 := st_at hσ (by decide)
    have b5 := hv.2.2.2.2.2.1
    have b6 := hv.2.2.2.2.2.2.1
    refine z_iload (pc := 21) hC (i := 6) dX5_learnsOnce_21 rfl ?_
    refine z_aload_n (pc := 23) hC (i := 0) dX5_learnsOnce_23 rfl rfl ?_
    refine z_callV (n := 0) (T := TX5) (N := 15) (ci := 5) (pc := 24) hC (c_X5_dots l w hw _) gX5_learnsOnce_X5_dots rfl (by decide +kernel) (by decide) (by decide) rfl (by decide) (fun _ => rfl) rfl rfl (Nat.le_of_ble_eq_true rfl) dX5_learnsOnce_24 (zi_k fun r24 Ω24 h24 => ?_)
    obtain ⟨rfl, hM24⟩ := h24
    obtain rfl := hM24.symm
    rw [q0]
    have e8 : ∀ _h : k < sdots σ, gt Ω 50 (8 + k) = σ (8 + k) := fun _ => st_at hσ (by omega)
    refine z_icmp_ge (pc := 27) hC 90 (by first | assumption | exact zb_gt _ _ _ | exact zcmp_zb _ _ | exact bI_zb _ | exact ⟨by omega, by omega⟩) (by first | assumption | exact zb_gt _ _ _ | exact zcmp_zb _ _ | exact bI_zb _ | exact ⟨by omega, by omega⟩) dX5_learnsOnce_27 rfl (fun h27 => ?_) (fun h27 => ?_)
    · obtain rfl : k = sdots σ := by omega
      exact K
    · refine z_iload_n (pc := 30) hC (i := 3) dX5_learnsOnce_30 rfl rfl ?_
      refine z_lload_n (pc := 31) hC (i := 1) dX5_learnsOnce_31 rfl rfl ?_
      refine z_iload (pc := 32) hC (i := 6) dX5_learnsOnce_32 rfl ?_
      refine z_callS (n := 2) (pc := 34) hC (c_X5_isIn l w hw _ x k (by omega)) gX5_learnsOnce_X5_isIn rfl (by decide +kernel) (by decide) (by decide) rfl rfl (Nat.le_of_ble_eq_true rfl) dX5_learnsOnce_34 (zb_k fun r34 Ω34 h34 => ?_)
      obtain ⟨rfl, hM34⟩ := h34
      obtain rfl := hM34.symm
      refine z_ifd_eq (pc := 37) hC 53 dX5_learnsOnce_37 rfl (fun h37 => ?_) (fun h37 => ?_)
      · refine z_iconst (pc := 53) hC dX5_learnsOnce_53 ?_
        refine z_iadd (pc := 54) hC dX5_learnsOnce_54 ?_
        refine z_istore_n (pc := 55) hC (i := 3) dX5_learnsOnce_55 rfl (by decide) rfl (zS_s (zS_s (zS_s zS_0))) ?_
        refine z_iload (pc := 56) hC (i := 4) dX5_learnsOnce_56 rfl ?_
        refine z_lload_n (pc := 58) hC (i := 1) dX5_learnsOnce_58 rfl rfl ?_
        refine z_iload (pc := 59) hC (i := 6) dX5_learnsOnce_59 rfl ?_
        refine z_callS (n := 2) (pc := 61) hC (c_X5_isIn l w hw _ x k (by omega)) gX5_learnsOnce_X5_isIn rfl (by decide +kernel) (by decide) (by decide) rfl rfl (Nat.le_of_ble_eq_true rfl) dX5_learnsOnce_61 (zb_k fun r61 Ω61 h61 => ?_)
        obtain ⟨rfl, hM61⟩ := h61
        obtain rfl := hM61.symm
        refine z_ifd_eq (pc := 64) hC 71 dX5_learnsOnce_64 rfl (fun h64 => ?_) (fun h64 => ?_)
        · refine z_aload_n (pc := 71) hC (i := 0) dX5_learnsOnce_71 rfl rfl ?_
          refine z_getR (C := RX5) (T := TX5) (N := 15) (ci := 5) (pc := 72) hC _ _ 0 in_X5_learnsOnce_X5 rfl (by decide) (fun _ => rfl) (by decide) fl_X5_learnsOnce_7 (fun _ => rfl) dX5_learnsOnce_72 ?_
          refine z_bipush (pc := 75) hC dX5_learnsOnce_75 rfl ?_
          refine z_iload (pc := 77) hC (i := 6) dX5_learnsOnce_77 rfl ?_
          refine z_iadd (pc := 79) hC dX5_learnsOnce_79 ?_
          refine z_ialk (pc := 80) hC _ (8 + k) (by decide) (fun _ => rfl) (by omega) (by omega) (by decide) dX5_learnsOnce_80 ?_
          rw [e8 (by omega)]
          refine z_iadd (pc := 81) hC dX5_learnsOnce_81 ?_
          refine z_istore (pc := 82) hC (i := 4) dX5_learnsOnce_82 (by decide) rfl (zS_s (zS_s (zS_s (zS_s zS_0)))) ?_
          refine z_iinc (pc := 84) hC (i := 6) dX5_learnsOnce_84 rfl (by decide) rfl (zS_s (zS_s (zS_s (zS_s (zS_s (zS_s zS_0)))))) ?_
          refine z_goto (pc := 87) hC 21 dX5_learnsOnce_87 rfl ?_
          have hh := ih (k + 1) (by omega) (by omega)
          rw [show lsum σ x (k + 1) = lsum σ x k + 0 by unfold lsum; rw [sm_s, if_neg h37], show osum σ x (k + 1) = osum σ x k + σ (8 + k) by unfold osum; rw [sm_s, if_neg h37]] at hh
          exact hh
        · refine z_iconst (pc := 67) hC dX5_learnsOnce_67 ?_
          refine z_goto (pc := 68) hC 81 dX5_learnsOnce_68 rfl ?_
          skip
          refine z_iadd (pc := 81) hC dX5_learnsOnce_81 ?_
          refine z_istore (pc := 82) hC (i := 4) dX5_learnsOnce_82 (by decide) rfl (zS_s (zS_s (zS_s (zS_s zS_0)))) ?_
          refine z_iinc (pc := 84) hC (i := 6) dX5_learnsOnce_84 rfl (by decide) rfl (zS_s (zS_s (zS_s (zS_s (zS_s (zS_s zS_0)))))) ?_
          refine z_goto (pc := 87) hC 21 dX5_learnsOnce_87 rfl ?_
          exact absurd h64 h37
      · refine z_aload_n (pc := 40) hC (i := 0) dX5_learnsOnce_40 rfl rfl ?_
        refine z_getR (C := RX5) (T := TX5) (N := 15) (ci := 5) (pc := 41) hC _ _ 0 in_X5_learnsOnce_X5 rfl (by decide) (fun _ => rfl) (by decide) fl_X5_learnsOnce_7 (fun _ => rfl) dX5_learnsOnce_41 ?_
        refine z_bipush (pc := 44) hC dX5_learnsOnce_44 rfl ?_
        refine z_iload (pc := 46) hC (i := 6) dX5_learnsOnce_46 rfl ?_
        refine z_iadd (pc := 48) hC dX5_learnsOnce_48 ?_
        refine z_ialk (pc := 49) hC _ (8 + k) (by decide) (fun _ => rfl) (by omega) (by omega) (by decide) dX5_learnsOnce_49 ?_
        rw [e8 (by omega)]
        refine z_goto (pc := 50) hC 54 dX5_learnsOnce_50 rfl ?_
        refine z_iadd (pc := 54) hC dX5_learnsOnce_54 ?_
        refine z_istore_n (pc := 55) hC (i := 3) dX5_learnsOnce_55 rfl (by decide) rfl (zS_s (zS_s (zS_s zS_0))) ?_
        refine z_iload (pc := 56) hC (i := 4) dX5_learnsOnce_56 rfl ?_
        refine z_lload_n (pc := 58) hC (i := 1) dX5_learnsOnce_58 rfl rfl ?_
        refine z_iload (pc := 59) hC (i := 6) dX5_learnsOnce_59 rfl ?_
        refine z_callS (n := 2) (pc := 61) hC (c_X5_isIn l w hw _ x k (by omega)) gX5_learnsOnce_X5_isIn rfl (by decide +kernel) (by decide) (by decide) rfl rfl (Nat.le_of_ble_eq_true rfl) dX5_learnsOnce_61 (zb_k fun r61 Ω61 h61 => ?_)
        obtain ⟨rfl, hM61⟩ := h61
        obtain rfl := hM61.symm
        refine z_ifd_eq (pc := 64) hC 71 dX5_learnsOnce_64 rfl (fun h64 => ?_) (fun h64 => ?_)
        · refine z_aload_n (pc := 71) hC (i := 0) dX5_learnsOnce_71 rfl rfl ?_
          refine z_getR (C := RX5) (T := TX5) (N := 15) (ci := 5) (pc := 72) hC _ _ 0 in_X5_learnsOnce_X5 rfl (by decide) (fun _ => rfl) (by decide) fl_X5_learnsOnce_7 (fun _ => rfl) dX5_learnsOnce_72 ?_
          refine z_bipush (pc := 75) hC dX5_learnsOnce_75 rfl ?_
          refine z_iload (pc := 77) hC (i := 6) dX5_learnsOnce_77 rfl ?_
          refine z_iadd (pc := 79) hC dX5_learnsOnce_79 ?_
          refine z_ialk (pc := 80) hC _ (8 + k) (by decide) (fun _ => rfl) (by omega) (by omega) (by decide) dX5_learnsOnce_80 ?_
          rw [e8 (by omega)]
          refine z_iadd (pc := 81) hC dX5_learnsOnce_81 ?_
          refine z_istore (pc := 82) hC (i := 4) dX5_learnsOnce_82 (by decide) rfl (zS_s (zS_s (zS_s (zS_s zS_0)))) ?_
          refine z_iinc (pc := 84) hC (i := 6) dX5_learnsOnce_84 rfl (by decide) rfl (zS_s (zS_s (zS_s (zS_s (zS_s (zS_s zS_0)))))) ?_
          refine z_goto (pc := 87) hC 21 dX5_learnsOnce_87 rfl ?_
          exact absurd h37 h64
        · refine z_iconst (pc := 67) hC dX5_learnsOnce_67 ?_
          refine z_goto (pc := 68) hC 81 dX5_learnsOnce_68 rfl ?_
          skip
          refine z_iadd (pc := 81) hC dX5_learnsOnce_81 ?_
          refine z_istore (pc := 82) hC (i := 4) dX5_learnsOnce_82 (by decide) rfl (zS_s (zS_s (zS_s (zS_s zS_0)))) ?_
          refine z_iinc (pc := 84) hC (i := 6) dX5_learnsOnce_84 rfl (by decide) rfl (zS_s (zS_s (zS_s (zS_s (zS_s (zS_s zS_0)))))) ?_
          refine z_goto (pc := 87) hC 21 dX5_learnsOnce_87 rfl ?_
          have hh := ih (k + 1) (by omega) (by omega)
          rw [show lsum σ x (k + 1) = lsum σ x k + σ (8 + k) by unfold lsum; rw [sm_s, if_pos h37], show osum σ x (k + 1) = osum σ x k + 0 by unfold osum; rw [sm_s, if_pos h37]] at hh
          exact hh
set_option maxHeartbeats 4000000 in
set_option maxRecDepth 100000 in
theorem S_X5_learnsOnce_171 {E : zE} {w : zP} {l : Launch} {Post : Option Value → Mem → Prop} (hw : zOK w) (hC : zC E w l RX5 wsX5_learnsOnce cX5_learnsOnce 9 11 266 (some .boolean) Post) {Ω : Mem} (x : Int64) (i3 i4 nn fg gr : Int) (bb : Bool) (K : Post (some (.int (zI (bI bb)))) (ups (ups Ω 50 5 fg) 50 6 gr))  : X E Ω 171 [some (.ref (wa w 49)), some (.long x), none, some (.int (zI i3)), some (.int (zI i4)), some (.int (zI nn)), some (.int (zI fg)), some (.int (zI gr)), some (.int (zI (bI bb)))] [] := by
  refine z_aload_n (pc := 171) hC (i := 0) dX5_learnsOnce_171 rfl rfl ?_
  refine z_getR (C := RX5) (T := TX5) (N := 15) (ci := 5) (pc := 172) hC _ _ 0 in_X5_learnsOnce_X5 rfl (by decide) (fun _ => rfl) (by decide) fl_X5_learnsOnce_7 (fun _ => rfl) dX5_learnsOnce_172 ?_
  refine z_iconst (pc := 175) hC dX5_learnsOnce_175 ?_
  refine z_iload (pc := 176) hC (i := 6) dX5_learnsOnce_176 rfl ?_
  refine z_iask (pc := 178) hC _ 5 (by decide) (fun _ => rfl) rfl (by decide) (by decide) dX5_learnsOnce_178 ?_
  refine z_aload_n (pc := 179) hC (i := 0) dX5_learnsOnce_179 rfl rfl ?_
  refine z_getR (C := RX5) (T := TX5) (N := 15) (ci := 5) (pc := 180) hC _ _ 0 in_X5_learnsOnce_X5 rfl (by decide) (fun _ => rfl) (by decide) fl_X5_learnsOnce_7 (fun _ => rfl) dX5_learnsOnce_180 ?_
  refine z_bipush (pc := 183) hC dX5_learnsOnce_183 rfl ?_
  refine z_iload (pc := 185) hC (i := 7) dX5_learnsOnce_185 rfl ?_
  refine z_iask (pc := 187) hC _ 6 (by decide) (fun _ => rfl) rfl (by decide) (by decide) dX5_learnsOnce_187 ?_
  refine z_iload (pc := 188) hC (i := 8) dX5_learnsOnce_188 rfl ?_
  exact z_zret (pc := 190) hC rfl K dX5_learnsOnce_190
set_option maxHeartbeats 4000000 in
set_option maxRecDepth 100000 in
theorem S_X5_learnsOnce_141 {E : zE} {w : zP} {l : Launch} {Post : Option Value → Mem → Prop} (hw : zOK w) (hC : zC E w l RX5 wsX5_learnsOnce cX5_learnsOnce 9 11 266 (some .boolean) Post) {Ω : Mem} (σ : Sg) (hσ : scM Ω = σ) (hv : scok σ) (x : Int64) (i3 i4 nn fg gr : Int) (hfg : 0 ≤ fg ∧ fg ≤ 9) (hgr : 0 ≤ gr ∧ gr ≤ 9) (K : ∀ bb : Bool, bb = decide (fg ≠ σ 5 ∨ gr ≠ σ 6) → X E Ω 171 [some (.ref (wa w 49)), some (.long x), none, some (.int (zI i3)), some (.int (zI i4)), some (.int (zI nn)), some (.int (zI fg)), some (.int (zI gr)), some (.int (zI (bI bb)))] [])  : X E Ω 141 [some (.ref (wa w 49)), some (.long x), none, some (.int (zI i3)), some (.int (zI i4)), some (.int (zI nn)), some (.int (zI fg)), some (.int (zI gr)), none] [] := by
  have hN := sdots_le hv
  have q0 : gt Ω 50 0 * gt Ω 50 1 = (sdots σ : Int) := by rw [st_at hσ (by decide), st_at hσ (by decide)]; exact hN.2.2.symm
  have e5 : gt Ω 50 5 = σ 5 := st_at hσ (by decide)
  have e6 : gt Ω 50 6 = σ 6 := st_at hσ (by decide)
  have b5 := hv.2.2.2.2.2.1
  have b6 := hv.2.2.2.2.2.2.1
  refine z_iload (pc := 141) hC (i := 6) dX5_learnsOnce_141 rfl ?_
  refine z_aload_n (pc := 143) hC (i := 0) dX5_learnsOnce_143 rfl rfl ?_
  refine z_getR (C := RX5) (T := TX5) (N := 15) (ci := 5) (pc := 144) hC _ _ 0 in_X5_learnsOnce_X5 rfl (by decide) (fun _ => rfl) (by decide) fl_X5_learnsOnce_7 (fun _ => rfl) dX5_learnsOnce_144 ?_
  refine z_iconst (pc := 147) hC dX5_learnsOnce_147 ?_
  refine z_ialk (pc := 148) hC _ 5 (by decide) (fun _ => rfl) rfl (by decide) (by decide) dX5_learnsOnce_148 ?_
  rw [e5]
  refine z_icmp_ne (pc := 149) hC 164 ⟨by omega, by omega⟩ ⟨by omega, by omega⟩ dX5_learnsOnce_149 rfl (fun h149 => ?_) (fun h149 => ?_)
  · refine z_iconst (pc := 164) hC dX5_learnsOnce_164 ?_
    refine z_goto (pc := 165) hC 169 dX5_learnsOnce_165 rfl ?_
    refine z_istore (pc := 169) hC (i := 8) dX5_learnsOnce_169 (by decide) rfl (zS_s (zS_s (zS_s (zS_s (zS_s (zS_s (zS_s (zS_s zS_0)))))))) ?_
    exact K true (decide_eq_true (Or.inl h149)).symm
  · refine z_iload (pc := 152) hC (i := 7) dX5_learnsOnce_152 rfl ?_
    refine z_aload_n (pc := 154) hC (i := 0) dX5_learnsOnce_154 rfl rfl ?_
    refine z_getR (C := RX5) (T := TX5) (N := 15) (ci := 5) (pc := 155) hC _ _ 0 in_X5_learnsOnce_X5 rfl (by decide) (fun _ => rfl) (by decide) fl_X5_learnsOnce_7 (fun _ => rfl) dX5_learnsOnce_155 ?_
    refine z_bipush (pc := 158) hC dX5_learnsOnce_158 rfl ?_
    refine z_ialk (pc := 160) hC _ 6 (by decide) (fun _ => rfl) rfl (by decide) (by decide) dX5_learnsOnce_160 ?_
    rw [e6]
    refine z_icmp_eq (pc := 161) hC 168 ⟨by omega, by omega⟩ ⟨by omega, by omega⟩ dX5_learnsOnce_161 rfl (fun h161 => ?_) (fun h161 => ?_)
    · refine z_iconst (pc := 168) hC dX5_learnsOnce_168 ?_
      refine z_istore (pc := 169) hC (i := 8) dX5_learnsOnce_169 (by decide) rfl (zS_s (zS_s (zS_s (zS_s (zS_s (zS_s (zS_s (zS_s zS_0)))))))) ?_
      exact K false (decide_eq_false (fun q => by omega)).symm
    · refine z_iconst (pc := 164) hC dX5_learnsOnce_164 ?_
      refine z_goto (pc := 165) hC 169 dX5_learnsOnce_165 rfl ?_
      refine z_istore (pc := 169) hC (i := 8) dX5_learnsOnce_169 (by decide) rfl (zS_s (zS_s (zS_s (zS_s (zS_s (zS_s (zS_s (zS_s zS_0)))))))) ?_
      exact K true (decide_eq_true (Or.inr h161)).symm
set_option maxHeartbeats 4000000 in
set_option maxRecDepth 100000 in
theorem S_X5_learnsOnce_110 {E : zE} {w : zP} {l : Launch} {Post : Option Value → Mem → Prop} (hw : zOK w) (hC : zC E w l RX5 wsX5_learnsOnce cX5_learnsOnce 9 11 266 (some .boolean) Post) {Ω : Mem} (σ : Sg) (hσ : scM Ω = σ) (hv : scok σ) (x : Int64) (i3 i4 nn fg : Int) (hnn : 0 ≤ nn ∧ nn ≤ sdots σ) (hi4 : 0 ≤ i4 ∧ i4 ≤ 324) (K : ∀ gr : Int, gr = (if nn < sdots σ then i4 / (sdots σ - nn) else σ 6) → X E Ω 141 [some (.ref (wa w 49)), some (.long x), none, some (.int (zI i3)), some (.int (zI i4)), some (.int (zI nn)), some (.int (zI fg)), some (.int (zI gr)), none] [])  : X E Ω 110 [some (.ref (wa w 49)), some (.long x), none, some (.int (zI i3)), some (.int (zI i4)), some (.int (zI nn)), some (.int (zI fg)), none, none] [] := by
  have hN := sdots_le hv
  have q0 : gt Ω 50 0 * gt Ω 50 1 = (sdots σ : Int) := by rw [st_at hσ (by decide), st_at hσ (by decide)]; exact hN.2.2.symm
  have e5 : gt Ω 50 5 = σ 5 := st_at hσ (by decide)
  have e6 : gt Ω 50 6 = σ 6 := st_at hσ (by decide)
  have b5 := hv.2.2.2.2.2.1
  have b6 := hv.2.2.2.2.2.2.1
  refine z_iload (pc := 110) hC (i := 5) dX5_learnsOnce_110 rfl ?_
  refine z_aload_n (pc := 112) hC (i := 0) dX5_learnsOnce_112 rfl rfl ?_
  refine z_callV (n := 0) (T := TX5) (N := 15) (ci := 5) (pc := 113) hC (c_X5_dots l w hw _) gX5_learnsOnce_X5_dots rfl (by decide +kernel) (by decide) (by decide) rfl (by decide) (fun _ => rfl) rfl rfl (Nat.le_of_ble_eq_true rfl) dX5_learnsOnce_113 (zi_k fun r113 Ω113 h113 => ?_)
  obtain ⟨rfl, hM113⟩ := h113
  obtain rfl := hM113.symm
  rw [q0]
  refine z_icmp_ge (pc := 116) hC 132 ⟨by omega, by omega⟩ ⟨by omega, by omega⟩ dX5_learnsOnce_116 rfl (fun h116 => ?_) (fun h116 => ?_)
  · skip
    refine z_aload_n (pc := 132) hC (i := 0) dX5_learnsOnce_132 rfl rfl ?_
    refine z_getR (C := RX5) (T := TX5) (N := 15) (ci := 5) (pc := 133) hC _ _ 0 in_X5_learnsOnce_X5 rfl (by decide) (fun _ => rfl) (by decide) fl_X5_learnsOnce_7 (fun _ => rfl) dX5_learnsOnce_133 ?_
    refine z_bipush (pc := 136) hC dX5_learnsOnce_136 rfl ?_
    refine z_ialk (pc := 138) hC _ 6 (by decide) (fun _ => rfl) rfl (by decide) (by decide) dX5_learnsOnce_138 ?_
    rw [e6]
    refine z_istore (pc := 139) hC (i := 7) dX5_learnsOnce_139 (by decide) rfl (zS_s (zS_s (zS_s (zS_s (zS_s (zS_s (zS_s zS_0))))))) ?_
    exact K _ (if_neg (by omega)).symm
  · refine z_iload (pc := 119) hC (i := 4) dX5_learnsOnce_119 rfl ?_
    refine z_aload_n (pc := 121) hC (i := 0) dX5_learnsOnce_121 rfl rfl ?_
    refine z_callV (n := 0) (T := TX5) (N := 15) (ci := 5) (pc := 122) hC (c_X5_dots l w hw _) gX5_learnsOnce_X5_dots rfl (by decide +kernel) (by decide) (by decide) rfl (by decide) (fun _ => rfl) rfl rfl (Nat.le_of_ble_eq_true rfl) dX5_learnsOnce_122 (zi_k fun r122 Ω122 h122 => ?_)
    obtain ⟨rfl, hM122⟩ := h122
    obtain rfl := hM122.symm
    rw [q0]
    refine z_iload (pc := 125) hC (i := 5) dX5_learnsOnce_125 rfl ?_
    refine z_isub (pc := 127) hC dX5_learnsOnce_127 ?_
    refine z_idiv (pc := 128) hC ⟨by omega, by omega⟩ ⟨by omega, by omega⟩ (by omega) dX5_learnsOnce_128 ?_
    refine z_goto (pc := 129) hC 139 dX5_learnsOnce_129 rfl ?_
    rw [Int.tdiv_eq_ediv_of_nonneg (by omega)]
    refine z_istore (pc := 139) hC (i := 7) dX5_learnsOnce_139 (by decide) rfl (zS_s (zS_s (zS_s (zS_s (zS_s (zS_s (zS_s zS_0))))))) ?_
    exact K _ (if_pos (by omega)).symm
set_option maxHeartbeats 4000000 in
set_option maxRecDepth 100000 in
theorem S_X5_learnsOnce_90 {E : zE} {w : zP} {l : Launch} {Post : Option Value → Mem → Prop} (hw : zOK w) (hC : zC E w l RX5 wsX5_learnsOnce cX5_learnsOnce 9 11 266 (some .boolean) Post) {Ω : Mem} (σ : Sg) (hσ : scM Ω = σ) (hv : scok σ) (x : Int64) (i3 i4 nn : Int) (hnn : 0 ≤ nn ∧ nn ≤ sdots σ) (hi3 : 0 ≤ i3 ∧ i3 ≤ 324) (o6 : Option Value) (K : ∀ fg : Int, fg = (if 0 < nn then i3 / nn else σ 5) → X E Ω 110 [some (.ref (wa w 49)), some (.long x), none, some (.int (zI i3)), some (.int (zI i4)), some (.int (zI nn)), some (.int (zI fg)), none, none] [])  : X E Ω 90 [some (.ref (wa w 49)), some (.long x), none, some (.int (zI i3)), some (.int (zI i4)), some (.int (zI nn)), o6, none, none] [] := by
  have hN := sdots_le hv
  have q0 : gt Ω 50 0 * gt Ω 50 1 = (sdots σ : Int) := by rw [st_at hσ (by decide), st_at hσ (by decide)]; exact hN.2.2.symm
  have e5 : gt Ω 50 5 = σ 5 := st_at hσ (by decide)
  have e6 : gt Ω 50 6 = σ 6 := st_at hσ (by decide)
  have b5 := hv.2.2.2.2.2.1
  have b6 := hv.2.2.2.2.2.2.1
  refine z_iload (pc := 90) hC (i := 5) dX5_learnsOnce_90 rfl ?_
  refine z_if_le (pc := 92) hC 102 ⟨by omega, by omega⟩ dX5_learnsOnce_92 rfl (fun h92 => ?_) (fun h92 => ?_)
  · refine z_aload_n (pc := 102) hC (i := 0) dX5_learnsOnce_102 rfl rfl ?_
    refine z_getR (C := RX5) (T := TX5) (N := 15) (ci := 5) (pc := 103) hC _ _ 0 in_X5_learnsOnce_X5 rfl (by decide) (fun _ => rfl) (by decide) fl_X5_learnsOnce_7 (fun _ => rfl) dX5_learnsOnce_103 ?_
    refine z_iconst (pc := 106) hC dX5_learnsOnce_106 ?_
    refine z_ialk (pc := 107) hC _ 5 (by decide) (fun _ => rfl) rfl (by decide) (by decide) dX5_learnsOnce_107 ?_
    rw [e5]
    refine z_istore (pc := 108) hC (i := 6) dX5_learnsOnce_108 (by decide) rfl (zS_s (zS_s (zS_s (zS_s (zS_s (zS_s zS_0)))))) ?_
    exact K _ (if_neg (by omega)).symm
  · refine z_iload_n (pc := 95) hC (i := 3) dX5_learnsOnce_95 rfl rfl ?_
    refine z_iload (pc := 96) hC (i := 5) dX5_learnsOnce_96 rfl ?_
    refine z_idiv (pc := 98) hC ⟨by omega, by omega⟩ ⟨by omega, by omega⟩ (by omega) dX5_learnsOnce_98 ?_
    refine z_goto (pc := 99) hC 108 dX5_learnsOnce_99 rfl ?_
    rw [Int.tdiv_eq_ediv_of_nonneg (by omega)]
    refine z_istore (pc := 108) hC (i := 6) dX5_learnsOnce_108 (by decide) rfl (zS_s (zS_s (zS_s (zS_s (zS_s (zS_s zS_0)))))) ?_
    exact K _ (if_pos (by omega)).symm
set_option maxHeartbeats 4000000 in
set_option maxRecDepth 100000 in
theorem c_X5_learnsOnce (l : Launch) (w : zP) (hw : zOK w) (Ω : Mem) (σ : Sg) (hσ : scM Ω = σ) (hv : scok σ) (hs : gt Ω 49 6 = -1) : zM l w yX5_learnsOnce wsX5_learnsOnce 11 266 [.ref (wa w 49)] Ω (zbo (fun b Ω1 => b = decide (chg σ (loS σ)) ∧ scM Ω1 = lrn σ (loS σ) ∧ ∀ q, q ≠ 50 → q ≠ 54 → q ≠ 55 → q ≠ 56 → Ω1 q = Ω q)) := by
  refine zM_of cX5_learnsOnce 9 (some .boolean) RX5 [some (.ref (wa w 49)), none, none, none, none, none, none, none, none] hw (by decide +kernel) rfl rfl (Nat.le_of_ble_eq_true rfl) rfl (fun E hC => ?_)
  have hN := sdots_le hv
  refine z_aload_n (pc := 0) hC (i := 0) dX5_learnsOnce_0 rfl rfl ?_
  refine z_iconst (pc := 1) hC dX5_learnsOnce_1 ?_
  refine z_callV (n := 1) (T := TX5) (N := 15) (ci := 5) (pc := 2) hC (c_X5_sideOf l w hw _ σ hσ hv hs 0 (Or.inl rfl)) gX5_learnsOnce_X5_sideOf rfl (by decide +kernel) (by decide) (by decide) rfl (by decide) (fun _ => rfl) rfl rfl (Nat.le_of_ble_eq_true rfl) dX5_learnsOnce_2 (zl_k fun r2 Ω2 h2 => ?_)
  obtain ⟨hr2, hF2⟩ := h2
  rw [if_pos rfl] at hr2
  subst hr2
  have hs2 : scM Ω2 = σ := (scM_cong (hF2 50 (by decide) (by decide) (by decide))).trans hσ
  refine z_lstore_n (pc := 5) hC (i := 1) dX5_learnsOnce_5 rfl (by decide) rfl (zS2_s zS2_0) ?_
  refine z_iconst (pc := 6) hC dX5_learnsOnce_6 ?_
  refine z_istore_n (pc := 7) hC (i := 3) dX5_learnsOnce_7 rfl (by decide) rfl (zS_s (zS_s (zS_s zS_0))) ?_
  refine z_iconst (pc := 8) hC dX5_learnsOnce_8 ?_
  refine z_istore (pc := 9) hC (i := 4) dX5_learnsOnce_9 (by decide) rfl (zS_s (zS_s (zS_s (zS_s zS_0)))) ?_
  refine z_aload_n (pc := 11) hC (i := 0) dX5_learnsOnce_11 rfl rfl ?_
  refine z_lload_n (pc := 12) hC (i := 1) dX5_learnsOnce_12 rfl rfl ?_
  refine z_callV (n := 1) (T := TX5) (N := 15) (ci := 5) (pc := 13) hC (c_X5_many l w hw _ σ hs2 hv (loS σ)) gX5_learnsOnce_X5_many rfl (by decide +kernel) (by decide) (by decide) rfl (by decide) (fun _ => rfl) rfl rfl (Nat.le_of_ble_eq_true rfl) dX5_learnsOnce_13 (zi_k fun r13 Ω13 h13 => ?_)
  obtain ⟨rfl, hM13⟩ := h13
  obtain rfl := hM13.symm
  refine z_istore (pc := 16) hC (i := 5) dX5_learnsOnce_16 (by decide) rfl (zS_s (zS_s (zS_s (zS_s (zS_s zS_0))))) ?_
  refine z_iconst (pc := 18) hC dX5_learnsOnce_18 ?_
  refine z_istore (pc := 19) hC (i := 6) dX5_learnsOnce_19 (by decide) rfl (zS_s (zS_s (zS_s (zS_s (zS_s (zS_s zS_0)))))) ?_
  have hnb := lcnt_le (loS σ) (sdots σ)
  have hsb := sm_bd (f := fun k => if tb (loS σ) k = true then σ (8 + k) else 0) (a := 0) (b := 9) (n := sdots σ) (fun k hk => by
    have := hv.2.2.2.2.2.2.2.2.1 k (by omega)
    show 0 ≤ (if tb (loS σ) k = true then σ (8 + k) else 0) ∧ (if tb (loS σ) k = true then σ (8 + k) else 0) ≤ 9
    split <;> omega)
  have hob := sm_bd (f := fun k => if tb (loS σ) k = true then 0 else σ (8 + k)) (a := 0) (b := 9) (n := sdots σ) (fun k hk => by
    have := hv.2.2.2.2.2.2.2.2.1 k (by omega)
    show 0 ≤ (if tb (loS σ) k = true then 0 else σ (8 + k)) ∧ (if tb (loS σ) k = true then 0 else σ (8 + k)) ≤ 9
    split <;> omega)
  have h3b : 0 ≤ lsum σ (loS σ) (sdots σ) ∧ lsum σ (loS σ) (sdots σ) ≤ 324 := by unfold lsum; omega
  have h4b : 0 ≤ osum σ (loS σ) (sdots σ) ∧ osum σ (loS σ) (sdots σ) ≤ 324 := by unfold osum; omega
  have hl3 := lnew_b hv (loS σ) (t := 3) (Or.inl rfl)
  have hl4 := lnew_b (scok_tone hv (t := 3) (Or.inl rfl) hl3.1 hl3.2) (xco σ (loS σ)) (t := 4) (Or.inr rfl)
  rw [lnew_g hv] at hl4
  refine L_X5_learnsOnce_21 hw hC Ω2 σ hs2 hv (loS σ) (lcnt (loS σ) (sdots σ)) ?_ (sdots σ + 1) 0 (by omega) (by omega)
  refine S_X5_learnsOnce_90 hw hC σ hs2 hv (loS σ) _ _ _ hnb h3b _ (fun fg hfg => ?_)
  have hfg : fg = lnew σ (loS σ) 3 := hfg
  subst hfg
  refine S_X5_learnsOnce_110 hw hC σ hs2 hv (loS σ) _ _ _ _ hnb h4b (fun gr hgr => ?_)
  subst hgr
  refine S_X5_learnsOnce_141 hw hC σ hs2 hv (loS σ) _ _ _ _ _ hl3 hl4 (fun bb hbb => ?_)
  refine S_X5_learnsOnce_171 hw hC (loS σ) _ _ _ _ _ bb ⟨bb, rfl, ?_, ?_, fun q u1 u2 u3 u4 => ?_⟩
  · rw [hbb]; exact decide_eq_decide.mpr (chg_iff hv (loS σ)).symm
  · rw [scM_up _ (k := 6) (by decide) ⟨by omega, by omega⟩, scM_up _ (k := 5) (by decide) ⟨by omega, by omega⟩, hs2, lrn_eq hv]
  · rw [ups_n _ _ _ u1, ups_n _ _ _ u1]; exact hF2 q u2 u3 u4
set_option maxHeartbeats 4000000 in
set_option maxRecDepth 100000 in
theorem L_X5_learnsAll_2 {E : zE} {w : zP} {l : Launch} {Post : Option Value → Mem → Prop} (hw : zOK w) (hC : zC E w l RX5 wsX5_learnsAll cX5_learnsAll 3 12 294 (some .int) Post) (Ω0 : Mem) (hs : gt Ω0 49 6 = -1) (N : Nat) (hN : N ≤ 20) (R : Int) (τ : Sg) (K : ∀ Ω : Mem, scM Ω = τ → (∀ q, q ≠ 50 → q ≠ 54 → q ≠ 55 → q ≠ 56 → Ω q = Ω0 q) → X E Ω 20 [some (.ref (wa w 49)), some (.int (zI (N : Int))), some (.int (zI R))] []) : ∀ (n : Nat) (j : Nat) (σ : Sg) (Ω : Mem), N < j + n → (j ≤ N) → (scM Ω = σ) → (scok σ) → (∀ q, q ≠ 50 → q ≠ 54 → q ≠ 55 → q ≠ 56 → Ω q = Ω0 q) → (R = (j : Int) + (lrR (N - j) σ).1) → (τ = (lrR (N - j) σ).2) → X E Ω 2 [some (.ref (wa w 49)), some (.int (zI (N : Int))), some (.int (zI (j : Int)))] [] := by
  intro n
  induction n with
  | zero =>
    intro j σ Ω hfu hj hσ hv hF hR hτ
    exact absurd hfu (by omega)
  | succ n ih =>
    intro j σ Ω hfu hj hσ hv hF hR hτ
    refine z_iload_n (pc := 2) hC (i := 2) dX5_learnsAll_2 rfl rfl ?_
    refine z_iload_n (pc := 3) hC (i := 1) dX5_learnsAll_3 rfl rfl ?_
    refine z_icmp_ge (pc := 4) hC 20 (by first | assumption | exact zb_gt _ _ _ | exact zcmp_zb _ _ | exact bI_zb _ | exact ⟨by omega, by omega⟩) (by first | assumption | exact zb_gt _ _ _ | exact zcmp_zb _ _ | exact bI_zb _ | exact ⟨by omega, by omega⟩) dX5_learnsAll_4 rfl (fun h4 => ?_) (fun h4 => ?_)
    · obtain rfl : j = N := by omega
      rw [Nat.sub_self] at hR hτ
      have hR : R = (j : Int) := by rw [hR]; show (j : Int) + 0 = j; omega
      have hk := K Ω (hσ.trans hτ.symm) hF
      rw [hR] at hk
      exact hk
    · refine z_aload_n (pc := 7) hC (i := 0) dX5_learnsAll_7 rfl rfl ?_
      refine z_callV (n := 0) (T := TX5) (N := 15) (ci := 5) (pc := 8) hC (c_X5_learnsOnce l w hw _ σ hσ hv (by rw [gt_fr (hF 49 (by decide) (by decide) (by decide) (by decide))]; exact hs)) gX5_learnsAll_X5_learnsOnce rfl (by decide +kernel) (by decide) (by decide) rfl (by decide) (fun _ => rfl) rfl rfl (Nat.le_of_ble_eq_true rfl) dX5_learnsAll_8 (zb_k fun r8 Ω8 h8 => ?_)
      obtain ⟨rfl, hs8, hF8⟩ := h8
      obtain ⟨k, hk⟩ : ∃ k, N - j = k + 1 := ⟨N - j - 1, by omega⟩
      have hkj : N - (j + 1) = k := by omega
      rw [hk, lrR] at hR hτ
      refine z_ifd_eq (pc := 11) hC 20 dX5_learnsAll_11 rfl (fun h11 => ?_) (fun h11 => ?_)
      · rw [if_neg h11] at hR hτ
        have hR : R = (j : Int) := by rw [hR]; show (j : Int) + 0 = j; omega
        have hk := K Ω8 (hs8.trans hτ.symm) (fun q u1 u2 u3 u4 => (hF8 q u1 u2 u3 u4).trans (hF q u1 u2 u3 u4))
        rw [hR] at hk
        exact hk
      · refine z_iinc (pc := 14) hC (i := 2) dX5_learnsAll_14 rfl (by decide) rfl (zS_s (zS_s zS_0)) ?_
        refine z_goto (pc := 17) hC 2 dX5_learnsAll_17 rfl ?_
        rw [if_pos h11] at hR hτ
        refine ih (j + 1) (lrn σ (loS σ)) Ω8 (by omega) (by omega) hs8 (lrn_ok hv _) (fun q u1 u2 u3 u4 => (hF8 q u1 u2 u3 u4).trans (hF q u1 u2 u3 u4)) ?_ ?_
        · rw [hkj, hR]; show (j : Int) + ((lrR k (lrn σ (loS σ))).1 + 1) = ((j + 1 : Nat) : Int) + (lrR k (lrn σ (loS σ))).1; omega
        · rw [hkj]; exact hτ
set_option maxHeartbeats 4000000 in
set_option maxRecDepth 100000 in
theorem c_X5_learnsAll (l : Launch) (w : zP) (hw : zOK w) (Ω : Mem) (σ : Sg) (hσ : scM Ω = σ) (hv : scok σ) (hs : gt Ω 49 6 = -1) (N : Nat) (hN : N ≤ 20) : zM l w yX5_learnsAll wsX5_learnsAll 12 294 [.ref (wa w 49), .int (zI (N : Int))] Ω (zi (fun r Ω1 => r = (lrR N σ).1 ∧ scM Ω1 = (lrR N σ).2 ∧ ∀ q, q ≠ 50 → q ≠ 54 → q ≠ 55 → q ≠ 56 → Ω1 q = Ω q)) := by
  refine zM_of cX5_learnsAll 3 (some .int) RX5 [some (.ref (wa w 49)), some (.int (zI (N : Int))), none] hw (by decide +kernel) rfl rfl (Nat.le_of_ble_eq_true rfl) rfl (fun E hC => ?_)
  refine z_iconst (pc := 0) hC dX5_learnsAll_0 ?_
  refine z_istore_n (pc := 1) hC (i := 2) dX5_learnsAll_1 rfl (by decide) rfl (zS_s (zS_s zS_0)) ?_
  refine L_X5_learnsAll_2 hw hC Ω hs N hN (lrR N σ).1 (lrR N σ).2 (fun Ω1 hs1 hF1 => ?_) (N + 1) 0 σ Ω (by omega) (by omega) hσ hv (fun _ _ _ _ _ => rfl) (by rw [Nat.sub_zero]; show _ = (0 : Int) + _; omega) (by rw [Nat.sub_zero])
  refine z_iload_n (pc := 20) hC (i := 2) dX5_learnsAll_20 rfl rfl ?_
  exact z_iret (pc := 21) hC rfl ⟨_, rfl, rfl, hs1, hF1⟩ dX5_learnsAll_21
set_option maxHeartbeats 4000000 in
set_option maxRecDepth 100000 in
theorem c_X5_learns (l : Launch) (w : zP) (hw : zOK w) (Ω : Mem) (a : As) (h : RM Ω a) (k : Int) (hk : zb k) : zM l w yX5_learns wsX5_learns 13 316 [.ref (wa w 49), .int (zI k)] Ω (zi (fun r Ω1 => r = (aLearns a k).1 ∧ RM Ω1 (aLearns a k).2 ∧ frG Ω Ω1)) := by
  refine zM_of cX5_learns 2 (some .int) RX5 [some (.ref (wa w 49)), some (.int (zI k))] hw (by decide +kernel) rfl rfl (Nat.le_of_ble_eq_true rfl) rfl (fun E hC => ?_)
  have hv := h.1.2
  have hσ := h.1.1
  have z0 : gt Ω 50 0 = a.1 0 := st_at hσ (by decide)
  have z1 : gt Ω 50 1 = a.1 1 := st_at hσ (by decide)
  have hN := sdots_le hv
  have hw01 := hv.1
  have hh01 := hv.2.1
  refine z_iload_n (pc := 0) hC (i := 1) dX5_learns_0 rfl rfl ?_
  refine z_iconst (pc := 1) hC dX5_learns_1 ?_
  refine z_bipush (pc := 2) hC dX5_learns_2 rfl ?_
  refine z_callS (n := 3) (pc := 4) hC (c_X5_in l w hw _ _ _ _ (by first | assumption | exact zb_gt _ _ _ | exact zcmp_zb _ _ | exact bI_zb _ | exact ⟨by omega, by omega⟩) (by first | assumption | exact zb_gt _ _ _ | exact zcmp_zb _ _ | exact bI_zb _ | exact ⟨by omega, by omega⟩) (by first | assumption | exact zb_gt _ _ _ | exact zcmp_zb _ _ | exact bI_zb _ | exact ⟨by omega, by omega⟩)) gX5_learns_X5_in rfl (by decide +kernel) (by decide) (by decide) rfl rfl (Nat.le_of_ble_eq_true rfl) dX5_learns_4 (zb_k fun r4 Ω4 h4 => ?_)
  obtain ⟨rfl, hM4⟩ := h4
  obtain rfl := hM4.symm
  refine z_ifd_ne (pc := 7) hC 15 dX5_learns_7 rfl (fun h7 => ?_) (fun h7 => ?_)
  · refine z_aload_n (pc := 15) hC (i := 0) dX5_learns_15 rfl rfl ?_
    refine z_callV (n := 0) (T := TX5) (N := 15) (ci := 5) (pc := 16) hC (c_X5_leaves l w hw _ a h) gX5_learns_X5_leaves rfl (by decide +kernel) (by decide) (by decide) rfl (by decide) (fun _ => rfl) rfl rfl (Nat.le_of_ble_eq_true rfl) dX5_learns_16 (zv_k fun Ω16 h16 => ?_)
    obtain ⟨hR, hfr⟩ := h16
    have hsR := hR.1.1
    have z0R : gt Ω16 50 0 = a.1 0 := st_at hsR (by decide)
    have z1R : gt Ω16 50 1 = a.1 1 := st_at hsR (by decide)
    refine z_aload_n (pc := 19) hC (i := 0) dX5_learns_19 rfl rfl ?_
    refine z_iload_n (pc := 20) hC (i := 1) dX5_learns_20 rfl rfl ?_
    have hke : k = ((k.toNat : Nat) : Int) := by omega
    rw [hke]
    refine z_callV (n := 1) (T := TX5) (N := 15) (ci := 5) (pc := 21) hC (c_X5_learnsAll l w hw _ a.1 hsR hv hR.2.2.2.2 k.toNat (by omega)) gX5_learns_X5_learnsAll rfl (by decide +kernel) (by decide) (by decide) rfl (by decide) (fun _ => rfl) rfl rfl (Nat.le_of_ble_eq_true rfl) dX5_learns_21 (zi_k fun r21 Ω21 h21 => ?_)
    obtain ⟨hr21, hs21, hF21⟩ := h21
    subst hr21
    have hR2 : RM Ω21 (aSet (aRem a) (lrR k.toNat a.1).2) := hR.set hs21 (lrR_ok hv _) (fun j _ => gt_fr (hF21 49 (by decide) (by decide) (by decide) (by decide)) j) (fun q u v => hF21 q (by omega) (by omega) (by omega) (by omega))
    have hf2 : frG Ω16 Ω21 := fun q hq => hF21 q (by omega) (by omega) (by omega) (by omega)
    exact z_iret (pc := 24) hC rfl ⟨_, rfl, ok_retM (if_pos (by omega)) hR2 (hfr.trans hf2)⟩ dX5_learns_24
  · refine z_aload_n (pc := 10) hC (i := 0) dX5_learns_10 rfl rfl ?_
    refine z_callV (n := 0) (T := TX5) (N := 15) (ci := 5) (pc := 11) hC (c_X5_bad l w hw _) gX5_learns_X5_bad rfl (by decide +kernel) (by decide) (by decide) rfl (by decide) (fun _ => rfl) rfl rfl (Nat.le_of_ble_eq_true rfl) dX5_learns_11 (zi_k fun r11 Ω11 h11 => ?_)
    obtain ⟨rfl, rfl⟩ := h11
    exact z_iret (pc := 14) hC rfl ⟨_, rfl, bad_retM h (if_neg (by omega))⟩ dX5_learns_14
