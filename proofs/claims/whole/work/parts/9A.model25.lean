theorem bordS_tb {σ : Sg} (h : scok σ) {v : Nat} (hv : v < sdots σ) : tb (bordS σ) v = true ↔ v % sw σ = 0 ∨ v / sw σ = 0 ∨ v % sw σ = sw σ - 1 ∨ v / sw σ = sh σ - 1 := by
  have hW := sw_eq h
  have hH := sh_eq h
  unfold bordS
  rw [tb_or, Bool.or_eq_true, tb_or, Bool.or_eq_true, tb_or, Bool.or_eq_true, colS_tb h (by omega), colS_tb h (by omega), rowS_tb h (by omega), rowS_tb h (by omega)]
  constructor
  · rintro (((q | q) | q) | q)
    · exact Or.inl q.2
    · exact Or.inr (Or.inr (Or.inl q.2))
    · exact Or.inr (Or.inl q.2)
    · exact Or.inr (Or.inr (Or.inr q.2))
  · rintro (q | q | q | q)
    · exact Or.inl (Or.inl (Or.inl ⟨hv, q⟩))
    · exact Or.inl (Or.inr ⟨hv, q⟩)
    · exact Or.inl (Or.inl (Or.inr ⟨hv, q⟩))
    · exact Or.inr ⟨hv, q⟩
theorem gt_fup2 (Ω : Mem) (q a b : Nat) {v : Int} (h : zb v) : gt (ups (ups Ω q a v) q b v) q = fup (fup (gt Ω q) a v) b v := by
  rw [gt_fup _ _ _ h, gt_fup _ _ _ h]
theorem fl_X5_joins_35 : Cond.fieldLink RX5 35 "StrokeCutsModel" "piece" "[I" ∈ wsX5_joins := by decide +kernel
theorem in_X5_joins_X5 : ∀ x ∈ u_ws RX5 TX5 15, x ∈ wsX5_joins := by decide +kernel
set_option maxHeartbeats 4000000 in
set_option maxRecDepth 100000 in
theorem c_X5_joins (l : Launch) (w : zP) (hw : zOK w) (Ω : Mem) (a : Nat) (b : Int) (ha : a < 36) (hb : b = -1 ∨ (0 ≤ b ∧ b < 36)) : zM l w yX5_joins wsX5_joins 0 0 [.ref (wa w 49), .int (zI (a : Int)), .int (zI b)] Ω (zbo (fun t Ω1 => (t = true ∧ b ≠ -1 ∧ (gt Ω 57 a) ≠ -1 ∧ (gt Ω 57 b.toNat) ≠ -1 ∧ (gt Ω 57 a) ≠ (gt Ω 57 b.toNat) ∧ (∃ low : Int, (low = (gt Ω 57 a) ∨ low = (gt Ω 57 b.toNat)) ∧ low ≤ (gt Ω 57 a) ∧ low ≤ (gt Ω 57 b.toNat) ∧ gt Ω1 57 = fup (fup (gt Ω 57) a low) b.toNat low) ∧ ∀ q, q ≠ 57 → Ω1 q = Ω q) ∨ (t = false ∧ Ω1 = Ω ∧ (b = -1 ∨ (gt Ω 57 a) = -1 ∨ (gt Ω 57 b.toNat) = -1 ∨ (gt Ω 57 a) = (gt Ω 57 b.toNat))))) := by
  refine zM_of cX5_joins 4 (some .boolean) RX5 [some (.ref (wa w 49)), some (.int (zI (a : Int))), some (.int (zI b)), none] hw (by decide +kernel) rfl rfl (Nat.le_of_ble_eq_true rfl) rfl (fun E hC => ?_)
  have za := zb_gt Ω 57 a
  have zbb := zb_gt Ω 57 b.toNat
  refine z_iload_n (pc := 0) hC (i := 2) dX5_joins_0 rfl rfl ?_
  refine z_iconst (pc := 1) hC dX5_joins_1 ?_
  refine z_icmp_eq (pc := 2) hC 40 ⟨by omega, by omega⟩ ⟨by decide, by decide⟩ dX5_joins_2 rfl (fun h2 => ?_) (fun h2 => ?_)
  · refine z_iconst (pc := 40) hC dX5_joins_40 ?_
    exact z_zret (b := false) (pc := 41) hC rfl ⟨false, rfl, Or.inr ⟨rfl, rfl, by omega⟩⟩ dX5_joins_41
  · refine z_aload_n (pc := 5) hC (i := 0) dX5_joins_5 rfl rfl ?_
    refine z_getR (C := RX5) (T := TX5) (N := 15) (ci := 5) (pc := 6) hC _ _ 11 in_X5_joins_X5 rfl (by decide) (fun _ => rfl) (by decide) fl_X5_joins_35 (fun _ => rfl) dX5_joins_6 ?_
    refine z_iload_n (pc := 9) hC (i := 1) dX5_joins_9 rfl rfl ?_
    refine z_ialk (pc := 10) hC _ a (by decide) (fun _ => rfl) rfl (by omega) (by decide) dX5_joins_10 ?_
    refine z_iconst (pc := 11) hC dX5_joins_11 ?_
    refine z_icmp_eq (pc := 12) hC 40 (by first | assumption | exact zb_gt _ _ _ | exact zcmp_zb _ _ | exact bI_zb _ | exact ⟨by omega, by omega⟩) (by first | assumption | exact zb_gt _ _ _ | exact zcmp_zb _ _ | exact bI_zb _ | exact ⟨by omega, by omega⟩) dX5_joins_12 rfl (fun h12 => ?_) (fun h12 => ?_)
    · refine z_iconst (pc := 40) hC dX5_joins_40 ?_
      exact z_zret (b := false) (pc := 41) hC rfl ⟨false, rfl, Or.inr ⟨rfl, rfl, by omega⟩⟩ dX5_joins_41
    · refine z_aload_n (pc := 15) hC (i := 0) dX5_joins_15 rfl rfl ?_
      refine z_getR (C := RX5) (T := TX5) (N := 15) (ci := 5) (pc := 16) hC _ _ 11 in_X5_joins_X5 rfl (by decide) (fun _ => rfl) (by decide) fl_X5_joins_35 (fun _ => rfl) dX5_joins_16 ?_
      refine z_iload_n (pc := 19) hC (i := 2) dX5_joins_19 rfl rfl ?_
      refine z_ialk (pc := 20) hC _ b.toNat (by decide) (fun _ => rfl) (by omega) (by omega) (by decide) dX5_joins_20 ?_
      refine z_iconst (pc := 21) hC dX5_joins_21 ?_
      refine z_icmp_eq (pc := 22) hC 40 (by first | assumption | exact zb_gt _ _ _ | exact zcmp_zb _ _ | exact bI_zb _ | exact ⟨by omega, by omega⟩) (by first | assumption | exact zb_gt _ _ _ | exact zcmp_zb _ _ | exact bI_zb _ | exact ⟨by omega, by omega⟩) dX5_joins_22 rfl (fun h22 => ?_) (fun h22 => ?_)
      · refine z_iconst (pc := 40) hC dX5_joins_40 ?_
        exact z_zret (b := false) (pc := 41) hC rfl ⟨false, rfl, Or.inr ⟨rfl, rfl, by omega⟩⟩ dX5_joins_41
      · refine z_aload_n (pc := 25) hC (i := 0) dX5_joins_25 rfl rfl ?_
        refine z_getR (C := RX5) (T := TX5) (N := 15) (ci := 5) (pc := 26) hC _ _ 11 in_X5_joins_X5 rfl (by decide) (fun _ => rfl) (by decide) fl_X5_joins_35 (fun _ => rfl) dX5_joins_26 ?_
        refine z_iload_n (pc := 29) hC (i := 1) dX5_joins_29 rfl rfl ?_
        refine z_ialk (pc := 30) hC _ a (by decide) (fun _ => rfl) rfl (by omega) (by decide) dX5_joins_30 ?_
        refine z_aload_n (pc := 31) hC (i := 0) dX5_joins_31 rfl rfl ?_
        refine z_getR (C := RX5) (T := TX5) (N := 15) (ci := 5) (pc := 32) hC _ _ 11 in_X5_joins_X5 rfl (by decide) (fun _ => rfl) (by decide) fl_X5_joins_35 (fun _ => rfl) dX5_joins_32 ?_
        refine z_iload_n (pc := 35) hC (i := 2) dX5_joins_35 rfl rfl ?_
        refine z_ialk (pc := 36) hC _ b.toNat (by decide) (fun _ => rfl) (by omega) (by omega) (by decide) dX5_joins_36 ?_
        refine z_icmp_ne (pc := 37) hC 42 (by first | assumption | exact zb_gt _ _ _ | exact zcmp_zb _ _ | exact bI_zb _ | exact ⟨by omega, by omega⟩) (by first | assumption | exact zb_gt _ _ _ | exact zcmp_zb _ _ | exact bI_zb _ | exact ⟨by omega, by omega⟩) dX5_joins_37 rfl (fun h37 => ?_) (fun h37 => ?_)
        · refine z_aload_n (pc := 42) hC (i := 0) dX5_joins_42 rfl rfl ?_
          refine z_getR (C := RX5) (T := TX5) (N := 15) (ci := 5) (pc := 43) hC _ _ 11 in_X5_joins_X5 rfl (by decide) (fun _ => rfl) (by decide) fl_X5_joins_35 (fun _ => rfl) dX5_joins_43 ?_
          refine z_iload_n (pc := 46) hC (i := 1) dX5_joins_46 rfl rfl ?_
          refine z_ialk (pc := 47) hC _ a (by decide) (fun _ => rfl) rfl (by omega) (by decide) dX5_joins_47 ?_
          refine z_aload_n (pc := 48) hC (i := 0) dX5_joins_48 rfl rfl ?_
          refine z_getR (C := RX5) (T := TX5) (N := 15) (ci := 5) (pc := 49) hC _ _ 11 in_X5_joins_X5 rfl (by decide) (fun _ => rfl) (by decide) fl_X5_joins_35 (fun _ => rfl) dX5_joins_49 ?_
          refine z_iload_n (pc := 52) hC (i := 2) dX5_joins_52 rfl rfl ?_
          refine z_ialk (pc := 53) hC _ b.toNat (by decide) (fun _ => rfl) (by omega) (by omega) (by decide) dX5_joins_53 ?_
          refine z_icmp_ge (pc := 54) hC 66 (by first | assumption | exact zb_gt _ _ _ | exact zcmp_zb _ _ | exact bI_zb _ | exact ⟨by omega, by omega⟩) (by first | assumption | exact zb_gt _ _ _ | exact zcmp_zb _ _ | exact bI_zb _ | exact ⟨by omega, by omega⟩) dX5_joins_54 rfl (fun h54 => ?_) (fun h54 => ?_)
          · refine z_aload_n (pc := 66) hC (i := 0) dX5_joins_66 rfl rfl ?_
            refine z_getR (C := RX5) (T := TX5) (N := 15) (ci := 5) (pc := 67) hC _ _ 11 in_X5_joins_X5 rfl (by decide) (fun _ => rfl) (by decide) fl_X5_joins_35 (fun _ => rfl) dX5_joins_67 ?_
            refine z_iload_n (pc := 70) hC (i := 2) dX5_joins_70 rfl rfl ?_
            refine z_ialk (pc := 71) hC _ b.toNat (by decide) (fun _ => rfl) (by omega) (by omega) (by decide) dX5_joins_71 ?_
            refine z_istore_n (pc := 72) hC (i := 3) dX5_joins_72 rfl (by decide) rfl (zS_s (zS_s (zS_s zS_0))) ?_
            refine z_aload_n (pc := 73) hC (i := 0) dX5_joins_73 rfl rfl ?_
            refine z_getR (C := RX5) (T := TX5) (N := 15) (ci := 5) (pc := 74) hC _ _ 11 in_X5_joins_X5 rfl (by decide) (fun _ => rfl) (by decide) fl_X5_joins_35 (fun _ => rfl) dX5_joins_74 ?_
            refine z_iload_n (pc := 77) hC (i := 1) dX5_joins_77 rfl rfl ?_
            refine z_iload_n (pc := 78) hC (i := 3) dX5_joins_78 rfl rfl ?_
            refine z_iask (pc := 79) hC _ a (by decide) (fun _ => rfl) rfl (by omega) (by decide) dX5_joins_79 ?_
            refine z_aload_n (pc := 80) hC (i := 0) dX5_joins_80 rfl rfl ?_
            refine z_getR (C := RX5) (T := TX5) (N := 15) (ci := 5) (pc := 81) hC _ _ 11 in_X5_joins_X5 rfl (by decide) (fun _ => rfl) (by decide) fl_X5_joins_35 (fun _ => rfl) dX5_joins_81 ?_
            refine z_iload_n (pc := 84) hC (i := 2) dX5_joins_84 rfl rfl ?_
            refine z_iload_n (pc := 85) hC (i := 3) dX5_joins_85 rfl rfl ?_
            refine z_iask (pc := 86) hC _ b.toNat (by decide) (fun _ => rfl) (by omega) (by omega) (by decide) dX5_joins_86 ?_
            refine z_iconst (pc := 87) hC dX5_joins_87 ?_
            exact z_zret (b := true) (pc := 88) hC rfl ⟨true, rfl, Or.inl ⟨rfl, by omega, h12, h22, h37, ⟨_, Or.inr rfl, by omega, by omega, gt_fup2 _ _ _ _ (zb_gt _ _ _)⟩, fun q hq => by rw [ups_n _ _ _ hq, ups_n _ _ _ hq]⟩⟩ dX5_joins_88
          · refine z_aload_n (pc := 57) hC (i := 0) dX5_joins_57 rfl rfl ?_
            refine z_getR (C := RX5) (T := TX5) (N := 15) (ci := 5) (pc := 58) hC _ _ 11 in_X5_joins_X5 rfl (by decide) (fun _ => rfl) (by decide) fl_X5_joins_35 (fun _ => rfl) dX5_joins_58 ?_
            refine z_iload_n (pc := 61) hC (i := 1) dX5_joins_61 rfl rfl ?_
            refine z_ialk (pc := 62) hC _ a (by decide) (fun _ => rfl) rfl (by omega) (by decide) dX5_joins_62 ?_
            refine z_goto (pc := 63) hC 72 dX5_joins_63 rfl ?_
            refine z_istore_n (pc := 72) hC (i := 3) dX5_joins_72 rfl (by decide) rfl (zS_s (zS_s (zS_s zS_0))) ?_
            refine z_aload_n (pc := 73) hC (i := 0) dX5_joins_73 rfl rfl ?_
            refine z_getR (C := RX5) (T := TX5) (N := 15) (ci := 5) (pc := 74) hC _ _ 11 in_X5_joins_X5 rfl (by decide) (fun _ => rfl) (by decide) fl_X5_joins_35 (fun _ => rfl) dX5_joins_74 ?_
            refine z_iload_n (pc := 77) hC (i := 1) dX5_joins_77 rfl rfl ?_
            refine z_iload_n (pc := 78) hC (i := 3) dX5_joins_78 rfl rfl ?_
            refine z_iask (pc := 79) hC _ a (by decide) (fun _ => rfl) rfl (by omega) (by decide) dX5_joins_79 ?_
            refine z_aload_n (pc := 80) hC (i := 0) dX5_joins_80 rfl rfl ?_
            refine z_getR (C := RX5) (T := TX5) (N := 15) (ci := 5) (pc := 81) hC _ _ 11 in_X5_joins_X5 rfl (by decide) (fun _ => rfl) (by decide) fl_X5_joins_35 (fun _ => rfl) dX5_joins_81 ?_
            refine z_iload_n (pc := 84) hC (i := 2) dX5_joins_84 rfl rfl ?_
            refine z_iload_n (pc := 85) hC (i := 3) dX5_joins_85 rfl rfl ?_
            refine z_iask (pc := 86) hC _ b.toNat (by decide) (fun _ => rfl) (by omega) (by omega) (by decide) dX5_joins_86 ?_
            refine z_iconst (pc := 87) hC dX5_joins_87 ?_
            exact z_zret (b := true) (pc := 88) hC rfl ⟨true, rfl, Or.inl ⟨rfl, by omega, h12, h22, h37, ⟨_, Or.inl rfl, by omega, by omega, gt_fup2 _ _ _ _ (zb_gt _ _ _)⟩, fun q hq => by rw [ups_n _ _ _ hq, ups_n _ _ _ hq]⟩⟩ dX5_joins_88
        · refine z_iconst (pc := 40) hC dX5_joins_40 ?_
          exact z_zret (b := false) (pc := 41) hC rfl ⟨false, rfl, Or.inr ⟨rfl, rfl, by omega⟩⟩ dX5_joins_41
theorem fl_X5_laysPieces_35 : Cond.fieldLink RX5 35 "StrokeCutsModel" "piece" "[I" ∈ wsX5_laysPieces := by decide +kernel
theorem in_X5_laysPieces_X5 : ∀ x ∈ u_ws RX5 TX5 15, x ∈ wsX5_laysPieces := by decide +kernel
set_option maxHeartbeats 4000000 in
set_option maxRecDepth 100000 in
theorem L_X5_laysPieces_3 {E : zE} {w : zP} {l : Launch} {Post : Option Value → Mem → Prop} (hw : zOK w) (hC : zC E w l RX5 wsX5_laysPieces cX5_laysPieces 7 3 68 none Post) (σ : Sg) (hv : scok σ) (x : Int64) (c : Int) (hc : c = 0 ∨ c = 1) (S : Int64) (hSN : ∀ k, tb S k = true → k < sdots σ) (hSS : ∀ k, k < sdots σ → (tb S k = true ↔ (tb x k = true ↔ c = 1))) (Ω0 : Mem) (hσ : scM Ω0 = σ) (K : ∀ Ω : Mem, (∀ u, u < sdots σ → (tb S u = true → gt Ω 57 u = (u : Int)) ∧ (¬ tb S u = true → gt Ω 57 u = -1)) → (∀ q, q ≠ 57 → Ω q = Ω0 q) → X E Ω 41 [some (.ref (wa w 49)), some (.long x), none, some (.int (zI c)), some (.int (zI (sdots σ : Int))), none, none] []) : ∀ (n : Nat) (k : Nat) (Ω : Mem), sdots σ < k + n → (k ≤ sdots σ) → (∀ u, u < k → (tb S u = true → gt Ω 57 u = (u : Int)) ∧ (¬ tb S u = true → gt Ω 57 u = -1)) → (∀ q, q ≠ 57 → Ω q = Ω0 q) → X E Ω 3 [some (.ref (wa w 49)), some (.long x), none, some (.int (zI c)), some (.int (zI (k : Int))), none, none] [] := by
  intro n
  induction n with
  | zero =>
    intro k Ω hfu hk hL hF
    exact absurd hfu (by omega)
  | succ n ih =>
    intro k Ω hfu hk hL hF
    have hN := sdots_le hv
    have hsc : scM Ω = σ := (scM_cong (hF 50 (by decide))).trans hσ
    have q0 : gt Ω 50 0 * gt Ω 50 1 = (sdots σ : Int) := by rw [st_at hsc (by decide), st_at hsc (by decide)]; exact hN.2.2.symm
    refine z_iload (pc := 3) hC (i := 4) dX5_laysPieces_3 rfl ?_
    refine z_aload_n (pc := 5) hC (i := 0) dX5_laysPieces_5 rfl rfl ?_
    refine z_callV (n := 0) (T := TX5) (N := 15) (ci := 5) (pc := 6) hC (c_X5_dots l w hw _) gX5_laysPieces_X5_dots rfl (by decide +kernel) (by decide) (by decide) rfl (by decide) (fun _ => rfl) rfl rfl (Nat.le_of_ble_eq_true rfl) dX5_laysPieces_6 (zi_k fun r6 Ω6 h6 => ?_)
    obtain ⟨rfl, hM6⟩ := h6
    obtain rfl := hM6.symm
    rw [q0]
    refine z_icmp_ge (pc := 9) hC 41 (by first | assumption | exact zb_gt _ _ _ | exact zcmp_zb _ _ | exact bI_zb _ | exact ⟨by omega, by omega⟩) (by first | assumption | exact zb_gt _ _ _ | exact zcmp_zb _ _ | exact bI_zb _ | exact ⟨by omega, by omega⟩) dX5_laysPieces_9 rfl (fun h9 => ?_) (fun h9 => ?_)
    · obtain rfl : k = sdots σ := by omega
      exact K Ω hL hF
    · refine z_aload_n (pc := 12) hC (i := 0) dX5_laysPieces_12 rfl rfl ?_
      refine z_getR (C := RX5) (T := TX5) (N := 15) (ci := 5) (pc := 13) hC _ _ 11 in_X5_laysPieces_X5 rfl (by decide) (fun _ => rfl) (by decide) fl_X5_laysPieces_35 (fun _ => rfl) dX5_laysPieces_13 ?_
      refine z_iload (pc := 16) hC (i := 4) dX5_laysPieces_16 rfl ?_
      refine z_lload_n (pc := 18) hC (i := 1) dX5_laysPieces_18 rfl rfl ?_
      refine z_iload (pc := 19) hC (i := 4) dX5_laysPieces_19 rfl ?_
      refine z_callS (n := 2) (pc := 21) hC (c_X5_isIn l w hw _ x k (by omega)) gX5_laysPieces_X5_isIn rfl (by decide +kernel) (by decide) (by decide) rfl rfl (Nat.le_of_ble_eq_true rfl) dX5_laysPieces_21 (zb_k fun r21 Ω21 h21 => ?_)
      obtain ⟨rfl, hM21⟩ := h21
      obtain rfl := hM21.symm
      have hb := bI_01 (p := tb x k = true) (inst := inferInstance)
      have hbz := bI_zb (decide (tb x k = true))
      have hsk := hSS k (by omega)
      refine z_iload_n (pc := 24) hC (i := 3) dX5_laysPieces_24 rfl rfl ?_
      refine z_icmp_ne (pc := 25) hC 33 (by assumption) ⟨by omega, by omega⟩ dX5_laysPieces_25 rfl (fun h25 => ?_) (fun h25 => ?_)
      · refine z_iconst (pc := 33) hC dX5_laysPieces_33 ?_
        refine z_iask (pc := 34) hC _ k (by decide) (fun _ => rfl) rfl (by omega) (by decide) dX5_laysPieces_34 ?_
        refine z_iinc (pc := 35) hC (i := 4) dX5_laysPieces_35 rfl (by decide) rfl (zS_s (zS_s (zS_s (zS_s zS_0)))) ?_
        refine z_goto (pc := 38) hC 3 dX5_laysPieces_38 rfl ?_
        refine ih (k + 1) _ (by omega) (by omega) (fun u hu => ?_) (fun q hq => by rw [ups_n _ _ _ hq]; exact hF q hq)
        rw [gt_fup _ _ _ ⟨by omega, by omega⟩]
        by_cases e : u = k
        · subst e
          rw [fup_s]
          exact ⟨fun q => by exfalso; have q1 := hsk.mp q; rcases hb with z | z; have := q1.mp z.2; omega; have := mt q1.mpr z.2; omega, fun _ => rfl⟩
        · rw [fup_n _ _ e]
          exact hL u (by omega)
      · refine z_iload (pc := 28) hC (i := 4) dX5_laysPieces_28 rfl ?_
        refine z_goto (pc := 30) hC 34 dX5_laysPieces_30 rfl ?_
        refine z_iask (pc := 34) hC _ k (by decide) (fun _ => rfl) rfl (by omega) (by decide) dX5_laysPieces_34 ?_
        refine z_iinc (pc := 35) hC (i := 4) dX5_laysPieces_35 rfl (by decide) rfl (zS_s (zS_s (zS_s (zS_s zS_0)))) ?_
        refine z_goto (pc := 38) hC 3 dX5_laysPieces_38 rfl ?_
        refine ih (k + 1) _ (by omega) (by omega) (fun u hu => ?_) (fun q hq => by rw [ups_n _ _ _ hq]; exact hF q hq)
        rw [gt_fup _ _ _ ⟨by omega, by omega⟩]
        by_cases e : u = k
        · subst e
          rw [fup_s]
          exact ⟨fun _ => rfl, fun q => by exfalso; apply q; apply hsk.mpr; rcases hb with z | z; exact ⟨fun _ => by omega, fun _ => z.2⟩; exact ⟨fun y => absurd y z.2, fun y => by omega⟩⟩
        · rw [fup_n _ _ e]
          exact hL u (by omega)
/-- where a round over links stands -/
def PV (σ : Sg) (S : Int64) (L0 : Nat → Int) (t : Nat) (mo : Int) (L : Nat → Int) : Prop := IL σ S L ∧ ((mo = 0 ∧ L = L0 ∧ ∀ v d o, v < sdots σ → d < 2 → 2 * v + d < t → lk σ v d = ((o : Nat) : Int) → o < sdots σ → L v = -1 ∨ L o = -1 ∨ L v = L o) ∨ (mo = 1 ∧ sm L (sdots σ) < sm L0 (sdots σ)))
theorem PV.b {σ : Sg} {S : Int64} {L0 L : Nat → Int} {t : Nat} {mo : Int} (h : PV σ S L0 t mo L) : mo = 0 ∨ mo = 1 := by
  rcases h.2 with q | q
  · exact Or.inl q.1
  · exact Or.inr q.1
theorem PV.no {σ : Sg} {S : Int64} {L0 L : Nat → Int} {v d : Nat} {mo : Int} (h : PV σ S L0 (2 * v + d) mo L) (hd : d < 2) (hl : lk σ v d = -1 ∨ L v = -1 ∨ L (lk σ v d).toNat = -1 ∨ L v = L (lk σ v d).toNat) : PV σ S L0 (2 * v + (d + 1)) mo L := by
  refine ⟨h.1, ?_⟩
  rcases h.2 with ⟨q1, q2, q3⟩ | q
  · refine Or.inl ⟨q1, q2, fun u e o hu he ht ho hoN => ?_⟩
    by_cases c : 2 * u + e < 2 * v + d
    · exact q3 u e o hu he c ho hoN
    · obtain rfl : u = v := by omega
      obtain rfl : e = d := by omega
      rw [ho, Int.toNat_natCast] at hl
      omega
  · exact Or.inr q
theorem sm_lo {f : Nat → Int} : ∀ {n : Nat}, (∀ k, k < n → -1 ≤ f k) → -(n : Int) ≤ sm f n
  | 0, _ => by show -(0 : Int) ≤ 0; omega
  | n + 1, h => by
    have h1 := sm_lo (n := n) (fun k hk => h k (by omega))
    have h2 := h n (by omega)
    rw [sm_s]
    omega
theorem PV.one {σ : Sg} {S : Int64} {L0 L : Nat → Int} {t t1 : Nat} {mo : Int} (hv : scok σ) (h : PV σ S L0 t mo L) {v d : Nat} (hvN : v < sdots σ) (hd : d < 2) (hl : lk σ v d ≠ -1) (h1 : L v ≠ -1) (h2 : L (lk σ v d).toNat ≠ -1) (h3 : L v ≠ L (lk σ v d).toNat) {low : Int} (hl1 : low = L v ∨ low = L (lk σ v d).toNat) (hl2 : low ≤ L v) (hl3 : low ≤ L (lk σ v d).toNat) : PV σ S L0 t1 1 (fup (fup L v low) (lk σ v d).toNat low) := by
  obtain ⟨o, ho, hoN, -, hne⟩ := lk_inv hv hvN (show d < 4 by omega) hl
  have hto : (lk σ v d).toNat = o := by rw [ho, Int.toNat_natCast]
  rw [hto] at h2 h3 hl1 hl3 ⊢
  refine ⟨IL_join h.1 (adj_lk hv hvN hoN hd ho) h1 h2 hl1, Or.inr ⟨rfl, ?_⟩⟩
  have hs := join_sum (L := L) hvN hoN hne hl2 hl3 (by omega)
  rcases h.2 with ⟨q1, q2, q3⟩ | q
  · rw [← q2]; exact hs
  · omega
set_option maxHeartbeats 4000000 in
set_option maxRecDepth 100000 in
theorem L_X5_laysPieces_67 {E : zE} {w : zP} {l : Launch} {Post : Option Value → Mem → Prop} (hw : zOK w) (hC : zC E w l RX5 wsX5_laysPieces cX5_laysPieces 7 3 68 none Post) (σ : Sg) (hv : scok σ) (x : Int64) (c : Int) (hc : c = 0 ∨ c = 1) (S : Int64) (hSN : ∀ k, tb S k = true → k < sdots σ) (hSS : ∀ k, k < sdots σ → (tb S k = true ↔ (tb x k = true ↔ c = 1))) (Ω0 : Mem) (hσ : scM Ω0 = σ) (L0 : Nat → Int) (v : Nat) (hvN : v < sdots σ) (K : ∀ (mo : Int) (Ω : Mem), PV σ S L0 (2 * v + 2) mo (gt Ω 57) → (∀ q, q ≠ 57 → Ω q = Ω0 q) → X E Ω 108 [some (.ref (wa w 49)), some (.long x), none, some (.int (zI c)), some (.int (zI mo)), some (.int (zI (v : Int))), some (.int (zI ((2 : Nat) : Int)))] []) : ∀ (n : Nat) (d : Nat) (mo : Int) (Ω : Mem), 2 < d + n → (d ≤ 2) → (PV σ S L0 (2 * v + d) mo (gt Ω 57)) → (∀ q, q ≠ 57 → Ω q = Ω0 q) → X E Ω 67 [some (.ref (wa w 49)), some (.long x), none, some (.int (zI c)), some (.int (zI mo)), some (.int (zI (v : Int))), some (.int (zI (d : Int)))] [] := by
  intro n
  induction n with
  | zero =>
    intro d mo Ω hfu hd hP hF
    exact absurd hfu (by omega)
  | succ n ih =>
    intro d mo Ω hfu hd hP hF
    have hN := sdots_le hv
    have hsc : scM Ω = σ := (scM_cong (hF 50 (by decide))).trans hσ
    have q0 : gt Ω 50 0 * gt Ω 50 1 = (sdots σ : Int) := by rw [st_at hsc (by decide), st_at hsc (by decide)]; exact hN.2.2.symm
    have hlb := sLk_b hv ((v % sw σ : Nat) : Int) ((v / sw σ : Nat) : Int) d
    have hlb2 : lk σ v d = -1 ∨ (0 ≤ lk σ v d ∧ lk σ v d < 36) := by unfold lk; omega
    refine z_iload (pc := 67) hC (i := 6) dX5_laysPieces_67 rfl ?_
    refine z_iconst (pc := 69) hC dX5_laysPieces_69 ?_
    refine z_icmp_ge (pc := 70) hC 108 (by first | assumption | exact zb_gt _ _ _ | exact zcmp_zb _ _ | exact bI_zb _ | exact ⟨by omega, by omega⟩) (by first | assumption | exact zb_gt _ _ _ | exact zcmp_zb _ _ | exact bI_zb _ | exact ⟨by omega, by omega⟩) dX5_laysPieces_70 rfl (fun h70 => ?_) (fun h70 => ?_)
    · obtain rfl : d = 2 := by omega
      exact K mo Ω hP hF
    · refine z_aload_n (pc := 73) hC (i := 0) dX5_laysPieces_73 rfl rfl ?_
      refine z_iload (pc := 74) hC (i := 5) dX5_laysPieces_74 rfl ?_
      refine z_aload_n (pc := 76) hC (i := 0) dX5_laysPieces_76 rfl rfl ?_
      refine z_iload (pc := 77) hC (i := 5) dX5_laysPieces_77 rfl ?_
      refine z_iload (pc := 79) hC (i := 6) dX5_laysPieces_79 rfl ?_
      refine z_callV (n := 2) (T := TX5) (N := 15) (ci := 5) (pc := 81) hC (c_X5_over l w hw _ σ hsc hv v d hvN (by omega)) gX5_laysPieces_X5_over rfl (by decide +kernel) (by decide) (by decide) rfl (by decide) (fun _ => rfl) rfl rfl (Nat.le_of_ble_eq_true rfl) dX5_laysPieces_81 (zi_k fun r81 Ω81 h81 => ?_)
      obtain ⟨hr81, hm81⟩ := h81
      have hm81 := hm81.symm
      subst hm81
      subst hr81
      refine z_callV (n := 2) (T := TX5) (N := 15) (ci := 5) (pc := 84) hC (c_X5_joins l w hw _ v (lk σ v d) (by omega) hlb2) gX5_laysPieces_X5_joins rfl (by decide +kernel) (by decide) (by decide) rfl (by decide) (fun _ => rfl) rfl rfl (Nat.le_of_ble_eq_true rfl) dX5_laysPieces_84 (zb_k fun r84 Ω84 h84 => ?_)
      have hmo := hP.b
      have hx : (r84 = true ∧ PV σ S L0 (2 * v + (d + 1)) 1 (gt Ω84 57) ∧ ∀ q, q ≠ 57 → Ω84 q = Ω0 q) ∨ (r84 = false ∧ PV σ S L0 (2 * v + (d + 1)) mo (gt Ω84 57) ∧ ∀ q, q ≠ 57 → Ω84 q = Ω0 q) := by
        rcases h84 with ⟨t1, t2, t3, t4, t5, ⟨low, w1, w2, w3, w4⟩, t6⟩ | ⟨t1, t2, t3⟩
        · exact Or.inl ⟨t1, by rw [w4]; exact hP.one hv hvN (by omega) t2 t3 t4 t5 w1 w2 w3, fun q hq => (t6 q hq).trans (hF q hq)⟩
        · exact Or.inr ⟨t1, by rw [t2]; exact hP.no (by omega) t3, fun q hq => by rw [t2]; exact hF q hq⟩
      have hx1 : r84 = true → PV σ S L0 (2 * v + (d + 1)) 1 (gt Ω84 57) ∧ ∀ q, q ≠ 57 → Ω84 q = Ω0 q := fun e => by
        rcases hx with q | q
        · exact q.2
        · rw [q.1] at e; exact absurd e (by decide)
      have hx2 : r84 = false → PV σ S L0 (2 * v + (d + 1)) mo (gt Ω84 57) ∧ ∀ q, q ≠ 57 → Ω84 q = Ω0 q := fun e => by
        rcases hx with q | q
        · rw [q.1] at e; exact absurd e (by decide)
        · exact q.2
      refine z_ifb_ne (pc := 87) hC 95 dX5_laysPieces_87 rfl (fun h87 => ?_) (fun h87 => ?_)
      · refine z_iconst (pc := 95) hC dX5_laysPieces_95 ?_
        refine z_goto (pc := 96) hC 100 dX5_laysPieces_96 rfl ?_
        refine z_istore (pc := 100) hC (i := 4) dX5_laysPieces_100 (by decide) rfl (zS_s (zS_s (zS_s (zS_s zS_0)))) ?_
        refine z_iinc (pc := 102) hC (i := 6) dX5_laysPieces_102 rfl (by decide) rfl (zS_s (zS_s (zS_s (zS_s (zS_s (zS_s zS_0)))))) ?_
        refine z_goto (pc := 105) hC 67 dX5_laysPieces_105 rfl ?_
        exact ih (d + 1) 1 _ (by omega) (by omega) (hx1 h87).1 (hx1 h87).2
      · refine z_iload (pc := 90) hC (i := 4) dX5_laysPieces_90 rfl ?_
        refine z_if_eq (pc := 92) hC 99 ⟨by omega, by omega⟩ dX5_laysPieces_92 rfl (fun h92 => ?_) (fun h92 => ?_)
        · refine z_iconst (pc := 99) hC dX5_laysPieces_99 ?_
          refine z_istore (pc := 100) hC (i := 4) dX5_laysPieces_100 (by decide) rfl (zS_s (zS_s (zS_s (zS_s zS_0)))) ?_
          refine z_iinc (pc := 102) hC (i := 6) dX5_laysPieces_102 rfl (by decide) rfl (zS_s (zS_s (zS_s (zS_s (zS_s (zS_s zS_0)))))) ?_
          refine z_goto (pc := 105) hC 67 dX5_laysPieces_105 rfl ?_
          exact ih (d + 1) 0 _ (by omega) (by omega) (by have := (hx2 h87).1; rw [h92] at this; exact this) (hx2 h87).2
        · refine z_iconst (pc := 95) hC dX5_laysPieces_95 ?_
          refine z_goto (pc := 96) hC 100 dX5_laysPieces_96 rfl ?_
          refine z_istore (pc := 100) hC (i := 4) dX5_laysPieces_100 (by decide) rfl (zS_s (zS_s (zS_s (zS_s zS_0)))) ?_
          refine z_iinc (pc := 102) hC (i := 6) dX5_laysPieces_102 rfl (by decide) rfl (zS_s (zS_s (zS_s (zS_s (zS_s (zS_s zS_0)))))) ?_
          refine z_goto (pc := 105) hC 67 dX5_laysPieces_105 rfl ?_
          exact ih (d + 1) 1 _ (by omega) (by omega) (by have := (hx2 h87).1; rw [show mo = 1 by omega] at this; exact this) (hx2 h87).2
set_option maxHeartbeats 4000000 in
set_option maxRecDepth 100000 in
theorem L_X5_laysPieces_55 {E : zE} {w : zP} {l : Launch} {Post : Option Value → Mem → Prop} (hw : zOK w) (hC : zC E w l RX5 wsX5_laysPieces cX5_laysPieces 7 3 68 none Post) (σ : Sg) (hv : scok σ) (x : Int64) (c : Int) (hc : c = 0 ∨ c = 1) (S : Int64) (hSN : ∀ k, tb S k = true → k < sdots σ) (hSS : ∀ k, k < sdots σ → (tb S k = true ↔ (tb x k = true ↔ c = 1))) (Ω0 : Mem) (hσ : scM Ω0 = σ) (L0 : Nat → Int) (K : ∀ (mo : Int) (Ω : Mem) (o6 : Option Value), PV σ S L0 (2 * sdots σ) mo (gt Ω 57) → (∀ q, q ≠ 57 → Ω q = Ω0 q) → X E Ω 114 [some (.ref (wa w 49)), some (.long x), none, some (.int (zI c)), some (.int (zI mo)), some (.int (zI (sdots σ : Int))), o6] []) : ∀ (n : Nat) (v : Nat) (mo : Int) (Ω : Mem) (o6 : Option Value), sdots σ < v + n → (v ≤ sdots σ) → (PV σ S L0 (2 * v) mo (gt Ω 57)) → (∀ q, q ≠ 57 → Ω q = Ω0 q) → X E Ω 55 [some (.ref (wa w 49)), some (.long x), none, some (.int (zI c)), some (.int (zI mo)), some (.int (zI (v : Int))), o6] [] := by
  intro n
  induction n with
  | zero =>
    intro v mo Ω o6 hfu hvN hP hF
    exact absurd hfu (by omega)
  | succ n ih =>
    intro v mo Ω o6 hfu hvN hP hF
    have hN := sdots_le hv
    have hsc : scM Ω = σ := (scM_cong (hF 50 (by decide))).trans hσ
    have q0 : gt Ω 50 0 * gt Ω 50 1 = (sdots σ : Int) := by rw [st_at hsc (by decide), st_at hsc (by decide)]; exact hN.2.2.symm
    refine z_iload (pc := 55) hC (i := 5) dX5_laysPieces_55 rfl ?_
    refine z_aload_n (pc := 57) hC (i := 0) dX5_laysPieces_57 rfl rfl ?_
    refine z_callV (n := 0) (T := TX5) (N := 15) (ci := 5) (pc := 58) hC (c_X5_dots l w hw _) gX5_laysPieces_X5_dots rfl (by decide +kernel) (by decide) (by decide) rfl (by decide) (fun _ => rfl) rfl rfl (Nat.le_of_ble_eq_true rfl) dX5_laysPieces_58 (zi_k fun r58 Ω58 h58 => ?_)
    obtain ⟨rfl, hM58⟩ := h58
    obtain rfl := hM58.symm
    rw [q0]
    refine z_icmp_ge (pc := 61) hC 114 (by first | assumption | exact zb_gt _ _ _ | exact zcmp_zb _ _ | exact bI_zb _ | exact ⟨by omega, by omega⟩) (by first | assumption | exact zb_gt _ _ _ | exact zcmp_zb _ _ | exact bI_zb _ | exact ⟨by omega, by omega⟩) dX5_laysPieces_61 rfl (fun h61 => ?_) (fun h61 => ?_)
    · obtain rfl : v = sdots σ := by omega
      exact K mo Ω _ hP hF
    · refine z_iconst (pc := 64) hC dX5_laysPieces_64 ?_
      refine z_istore (pc := 65) hC (i := 6) dX5_laysPieces_65 (by decide) rfl (zS_s (zS_s (zS_s (zS_s (zS_s (zS_s zS_0)))))) ?_
      refine L_X5_laysPieces_67 hw hC σ hv x c hc S hSN hSS Ω0 hσ L0 v (by omega) (fun mo1 Ω1 hP1 hF1 => ?_) 3 0 mo Ω (by omega) (by omega) hP hF
      refine z_iinc (pc := 108) hC (i := 5) dX5_laysPieces_108 rfl (by decide) rfl (zS_s (zS_s (zS_s (zS_s (zS_s zS_0))))) ?_
      refine z_goto (pc := 111) hC 55 dX5_laysPieces_111 rfl ?_
      exact ih (v + 1) mo1 Ω1 _ (by omega) (by omega) hP1 hF1
set_option maxHeartbeats 4000000 in
set_option maxRecDepth 100000 in
theorem L_X5_laysPieces_44 {E : zE} {w : zP} {l : Launch} {Post : Option Value → Mem → Prop} (hw : zOK w) (hC : zC E w l RX5 wsX5_laysPieces cX5_laysPieces 7 3 68 none Post) (σ : Sg) (hv : scok σ) (x : Int64) (c : Int) (hc : c = 0 ∨ c = 1) (S : Int64) (hSN : ∀ k, tb S k = true → k < sdots σ) (hSS : ∀ k, k < sdots σ → (tb S k = true ↔ (tb x k = true ↔ c = 1))) (Ω0 : Mem) (hσ : scM Ω0 = σ) (K : ∀ (mo : Int) (Ω : Mem) (o5 o6 : Option Value), IL σ S (gt Ω 57) → (∀ v d o, v < sdots σ → d < 2 → lk σ v d = ((o : Nat) : Int) → o < sdots σ → gt Ω 57 v = -1 ∨ gt Ω 57 o = -1 ∨ gt Ω 57 v = gt Ω 57 o) → (∀ q, q ≠ 57 → Ω q = Ω0 q) → X E Ω 117 [some (.ref (wa w 49)), some (.long x), none, some (.int (zI c)), some (.int (zI mo)), o5, o6] []) : ∀ (n : Nat) (mo : Int) (Ω : Mem) (o5 : Option Value) (o6 : Option Value), 1 ≤ n ∧ (mo ≠ 0 → sm (gt Ω 57) (sdots σ) + sdots σ + 2 ≤ n) → (mo = 0 ∨ mo = 1) → (IL σ S (gt Ω 57)) → ((mo = 0 → ∀ v d o, v < sdots σ → d < 2 → lk σ v d = ((o : Nat) : Int) → o < sdots σ → gt Ω 57 v = -1 ∨ gt Ω 57 o = -1 ∨ gt Ω 57 v = gt Ω 57 o)) → (∀ q, q ≠ 57 → Ω q = Ω0 q) → X E Ω 44 [some (.ref (wa w 49)), some (.long x), none, some (.int (zI c)), some (.int (zI mo)), o5, o6] [] := by
  intro n
  induction n with
  | zero =>
    intro mo Ω o5 o6 hfu hmo hI hD hF
    exact absurd hfu (by omega)
  | succ n ih =>
    intro mo Ω o5 o6 hfu hmo hI hD hF
    refine z_iload (pc := 44) hC (i := 4) dX5_laysPieces_44 rfl ?_
    refine z_if_eq (pc := 46) hC 117 ⟨by omega, by omega⟩ dX5_laysPieces_46 rfl (fun h46 => ?_) (fun h46 => ?_)
    · exact K mo Ω _ _ hI (hD h46) hF
    · refine z_iconst (pc := 49) hC dX5_laysPieces_49 ?_
      refine z_istore (pc := 50) hC (i := 4) dX5_laysPieces_50 (by decide) rfl (zS_s (zS_s (zS_s (zS_s zS_0)))) ?_
      refine z_iconst (pc := 52) hC dX5_laysPieces_52 ?_
      refine z_istore (pc := 53) hC (i := 5) dX5_laysPieces_53 (by decide) rfl (zS_s (zS_s (zS_s (zS_s (zS_s zS_0))))) ?_
      have hsb : ∀ t, t < sdots σ → -1 ≤ gt Ω 57 t := fun t ht => by
        by_cases q : tb S t = true
        · have := ((hI t ht).1 q).1; omega
        · rw [(hI t ht).2 q]; omega
      have hsl := sm_lo hsb
      refine L_X5_laysPieces_55 hw hC σ hv x c hc S hSN hSS Ω0 hσ (gt Ω 57) (fun mo1 Ω1 p6 hP1 hF1 => ?_) (sdots σ + 1) 0 0 Ω o6 (by omega) (by omega) ⟨hI, Or.inl ⟨rfl, rfl, fun v d o _ _ ht => absurd ht (by omega)⟩⟩ hF
      refine z_goto (pc := 114) hC 44 dX5_laysPieces_114 rfl ?_
      rcases hP1.2 with ⟨e1, e2, e3⟩ | ⟨e1, e2⟩
      · exact ih mo1 Ω1 _ _ (by omega) (Or.inl e1) hP1.1 (fun _ v d o hv1 hd1 ho hoN => e3 v d o hv1 hd1 (by omega) ho hoN) hF1
      · exact ih mo1 Ω1 _ _ (by omega) (Or.inr e1) hP1.1 (fun z => by omega) hF1
set_option maxHeartbeats 4000000 in
set_option maxRecDepth 100000 in
theorem c_X5_laysPieces (l : Launch) (w : zP) (hw : zOK w) (Ω : Mem) (σ : Sg) (hv : scok σ) (x : Int64) (c : Int) (hc : c = 0 ∨ c = 1) (S : Int64) (hSN : ∀ k, tb S k = true → k < sdots σ) (hSS : ∀ k, k < sdots σ → (tb S k = true ↔ (tb x k = true ↔ c = 1))) (hσ : scM Ω = σ) : zM l w yX5_laysPieces wsX5_laysPieces 3 68 [.ref (wa w 49), .long x, .int (zI c)] Ω (zvo (fun Ω1 => IL σ S (gt Ω1 57) ∧ JN σ S (gt Ω1 57) ∧ ∀ q, q ≠ 57 → Ω1 q = Ω q)) := by
  refine zM_of cX5_laysPieces 7 none RX5 [some (.ref (wa w 49)), some (.long x), none, some (.int (zI c)), none, none, none] hw (by decide +kernel) rfl rfl (Nat.le_of_ble_eq_true rfl) rfl (fun E hC => ?_)
  have hN := sdots_le hv
  refine z_iconst (pc := 0) hC dX5_laysPieces_0 ?_
  refine z_istore (pc := 1) hC (i := 4) dX5_laysPieces_1 (by decide) rfl (zS_s (zS_s (zS_s (zS_s zS_0)))) ?_
  refine L_X5_laysPieces_3 hw hC σ hv x c hc S hSN hSS Ω hσ (fun Ω1 hL1 hF1 => ?_) (sdots σ + 1) 0 Ω (by omega) (by omega) (fun u hu => absurd hu (Nat.not_lt_zero u)) (fun _ _ => rfl)
  refine z_iconst (pc := 41) hC dX5_laysPieces_41 ?_
  refine z_istore (pc := 42) hC (i := 4) dX5_laysPieces_42 (by decide) rfl (zS_s (zS_s (zS_s (zS_s zS_0)))) ?_
  refine L_X5_laysPieces_44 hw hC σ hv x c hc S hSN hSS Ω hσ (fun mo Ω2 o5 o6 hI2 hD2 hF2 => ?_) ((sm (gt Ω1 57) (sdots σ) + sdots σ + 2).toNat + 1) 1 Ω1 none none ⟨by omega, fun _ => by omega⟩ (Or.inr rfl) (IL_0 hSN hL1) (fun z => by omega) hF1
  exact z_vret (pc := 117) hC rfl ⟨rfl, hI2, JN_of hv hI2 hD2, hF2⟩ dX5_laysPieces_117
