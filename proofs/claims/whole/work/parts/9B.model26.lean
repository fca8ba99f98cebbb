theorem fl_X5_pieces_35 : Cond.fieldLink RX5 35 "StrokeCutsModel" "piece" "[I" ∈ wsX5_pieces := by decide +kernel
theorem in_X5_pieces_X5 : ∀ x ∈ u_ws RX5 TX5 15, x ∈ wsX5_pieces := by decide +kernel
set_option maxHeartbeats 4000000 in
set_option maxRecDepth 100000 in
theorem L_X5_pieces_4 {E : zE} {w : zP} {l : Launch} {Post : Option Value → Mem → Prop} (hw : zOK w) (hC : zC E w l RX5 wsX5_pieces cX5_pieces 3 1 20 (some .int) Post) (Ω : Mem) (σ : Sg) (hσ : scM Ω = σ) (hv : scok σ) (K : X E Ω 36 [some (.ref (wa w 49)), some (.int (zI (sm (fun v => if gt Ω 57 v = (v : Int) then (1 : Int) else 0) (sdots σ)))), some (.int (zI (sdots σ : Int)))] []) : ∀ (n : Nat) (k : Nat), sdots σ < k + n → (k ≤ sdots σ) → X E Ω 4 [some (.ref (wa w 49)), some (.int (zI (sm (fun v => if gt Ω 57 v = (v : Int) then (1 : Int) else 0) k))), some (.int (zI (k : Int)))] [] := by
  intro n
  induction n with
  | zero =>
    intro k hfu hk
    exact absurd hfu (by omega)
  | succ n ih =>
    intro k hfu hk
    have hN := sdots_le hv
    have q0 : gt Ω 50 0 * gt Ω 50 1 = (sdots σ : Int) := by rw [st_at hσ (by decide), st_at hσ (by decide)]; exact hN.2.2.symm
    refine z_iload_n (pc := 4) hC (i := 2) dX5_pieces_4 rfl rfl ?_
    refine z_aload_n (pc := 5) hC (i := 0) dX5_pieces_5 rfl rfl ?_
    refine z_callV (n := 0) (T := TX5) (N := 15) (ci := 5) (pc := 6) hC (c_X5_dots l w hw _) gX5_pieces_X5_dots rfl (by decide +kernel) (by decide) (by decide) rfl (by decide) (fun _ => rfl) rfl rfl (Nat.le_of_ble_eq_true rfl) dX5_pieces_6 (zi_k fun r6 Ω6 h6 => ?_)
    obtain ⟨rfl, hM6⟩ := h6
    obtain rfl := hM6.symm
    rw [q0]
    refine z_icmp_ge (pc := 9) hC 36 (by first | assumption | exact zb_gt _ _ _ | exact zcmp_zb _ _ | exact bI_zb _ | exact ⟨by omega, by omega⟩) (by first | assumption | exact zb_gt _ _ _ | exact zcmp_zb _ _ | exact bI_zb _ | exact ⟨by omega, by omega⟩) dX5_pieces_9 rfl (fun h9 => ?_) (fun h9 => ?_)
    · obtain rfl : k = sdots σ := by omega
      exact K
    · refine z_iload_n (pc := 12) hC (i := 1) dX5_pieces_12 rfl rfl ?_
      refine z_aload_n (pc := 13) hC (i := 0) dX5_pieces_13 rfl rfl ?_
      refine z_getR (C := RX5) (T := TX5) (N := 15) (ci := 5) (pc := 14) hC _ _ 11 in_X5_pieces_X5 rfl (by decide) (fun _ => rfl) (by decide) fl_X5_pieces_35 (fun _ => rfl) dX5_pieces_14 ?_
      refine z_iload_n (pc := 17) hC (i := 2) dX5_pieces_17 rfl rfl ?_
      refine z_ialk (pc := 18) hC _ k (by decide) (fun _ => rfl) rfl (by omega) (by decide) dX5_pieces_18 ?_
      refine z_iload_n (pc := 19) hC (i := 2) dX5_pieces_19 rfl rfl ?_
      refine z_icmp_ne (pc := 20) hC 27 (by first | assumption | exact zb_gt _ _ _ | exact zcmp_zb _ _ | exact bI_zb _ | exact ⟨by omega, by omega⟩) (by first | assumption | exact zb_gt _ _ _ | exact zcmp_zb _ _ | exact bI_zb _ | exact ⟨by omega, by omega⟩) dX5_pieces_20 rfl (fun h20 => ?_) (fun h20 => ?_)
      · refine z_iconst (pc := 27) hC dX5_pieces_27 ?_
        refine z_iadd (pc := 28) hC dX5_pieces_28 ?_
        refine z_istore_n (pc := 29) hC (i := 1) dX5_pieces_29 rfl (by decide) rfl (zS_s zS_0) ?_
        refine z_iinc (pc := 30) hC (i := 2) dX5_pieces_30 rfl (by decide) rfl (zS_s (zS_s zS_0)) ?_
        refine z_goto (pc := 33) hC 4 dX5_pieces_33 rfl ?_
        have hh := ih (k + 1) (by omega) (by omega)
        rw [show (sm (fun v => if gt Ω 57 v = (v : Int) then (1 : Int) else 0) (k + 1)) = (sm (fun v => if gt Ω 57 v = (v : Int) then (1 : Int) else 0) k) + 0 by rw [sm_s, if_neg h20]] at hh
        exact hh
      · refine z_iconst (pc := 23) hC dX5_pieces_23 ?_
        refine z_goto (pc := 24) hC 28 dX5_pieces_24 rfl ?_
        refine z_iadd (pc := 28) hC dX5_pieces_28 ?_
        refine z_istore_n (pc := 29) hC (i := 1) dX5_pieces_29 rfl (by decide) rfl (zS_s zS_0) ?_
        refine z_iinc (pc := 30) hC (i := 2) dX5_pieces_30 rfl (by decide) rfl (zS_s (zS_s zS_0)) ?_
        refine z_goto (pc := 33) hC 4 dX5_pieces_33 rfl ?_
        have hh := ih (k + 1) (by omega) (by omega)
        rw [show (sm (fun v => if gt Ω 57 v = (v : Int) then (1 : Int) else 0) (k + 1)) = (sm (fun v => if gt Ω 57 v = (v : Int) then (1 : Int) else 0) k) + 1 by rw [sm_s, if_pos (by omega)]] at hh
        exact hh
set_option maxHeartbeats 4000000 in
set_option maxRecDepth 100000 in
theorem c_X5_pieces (l : Launch) (w : zP) (hw : zOK w) (Ω : Mem) (σ : Sg) (hσ : scM Ω = σ) (hv : scok σ) : zM l w yX5_pieces wsX5_pieces 1 20 [.ref (wa w 49)] Ω (zi (fun r Ω1 => r = (sm (fun v => if gt Ω 57 v = (v : Int) then (1 : Int) else 0) (sdots σ)) ∧ Ω1 = Ω)) := by
  refine zM_of cX5_pieces 3 (some .int) RX5 [some (.ref (wa w 49)), none, none] hw (by decide +kernel) rfl rfl (Nat.le_of_ble_eq_true rfl) rfl (fun E hC => ?_)
  have hN := sdots_le hv
  refine z_iconst (pc := 0) hC dX5_pieces_0 ?_
  refine z_istore_n (pc := 1) hC (i := 1) dX5_pieces_1 rfl (by decide) rfl (zS_s zS_0) ?_
  refine z_iconst (pc := 2) hC dX5_pieces_2 ?_
  refine z_istore_n (pc := 3) hC (i := 2) dX5_pieces_3 rfl (by decide) rfl (zS_s (zS_s zS_0)) ?_
  refine L_X5_pieces_4 hw hC Ω σ hσ hv ?_ (sdots σ + 1) 0 (by omega) (by omega)
  refine z_iload_n (pc := 36) hC (i := 1) dX5_pieces_36 rfl rfl ?_
  exact z_iret (pc := 37) hC rfl ⟨_, rfl, rfl, rfl⟩ dX5_pieces_37
theorem fl_X5_isBorder_7 : Cond.fieldLink RX5 7 "StrokeCutsModel" "st" "[I" ∈ wsX5_isBorder := by decide +kernel
theorem in_X5_isBorder_X5 : ∀ x ∈ u_ws RX5 TX5 15, x ∈ wsX5_isBorder := by decide +kernel
set_option maxHeartbeats 4000000 in
set_option maxRecDepth 100000 in
theorem c_X5_isBorder (l : Launch) (w : zP) (hw : zOK w) (Ω : Mem) (σ : Sg) (hσ : scM Ω = σ) (hv : scok σ) (v : Nat) (hvN : v < sdots σ) : zM l w yX5_isBorder wsX5_isBorder 0 0 [.ref (wa w 49), .int (zI (v : Int))] Ω (zbo (fun b Ω1 => b = decide (tb (bordS σ) v = true) ∧ Ω1 = Ω)) := by
  refine zM_of cX5_isBorder 4 (some .boolean) RX5 [some (.ref (wa w 49)), some (.int (zI (v : Int))), none, none] hw (by decide +kernel) rfl rfl (Nat.le_of_ble_eq_true rfl) rfl (fun E hC => ?_)
  have z0 : gt Ω 50 0 = σ 0 := st_at hσ (by decide)
  have z1 : gt Ω 50 1 = σ 1 := st_at hσ (by decide)
  have hW := sw_eq hv
  have hH := sh_eq hv
  have hN := sdots_le hv
  have hxy := dot_xy hv hvN
  have hq1 : (0 : Int) ≤ ((v % sw σ : Nat) : Int) := Int.natCast_nonneg _
  have hq2 : (0 : Int) ≤ ((v / sw σ : Nat) : Int) := Int.natCast_nonneg _
  have hbd := bordS_tb hv hvN
  refine z_iload_n (pc := 0) hC (i := 1) dX5_isBorder_0 rfl rfl ?_
  refine z_aload_n (pc := 1) hC (i := 0) dX5_isBorder_1 rfl rfl ?_
  refine z_getR (C := RX5) (T := TX5) (N := 15) (ci := 5) (pc := 2) hC _ _ 0 in_X5_isBorder_X5 rfl (by decide) (fun _ => rfl) (by decide) fl_X5_isBorder_7 (fun _ => rfl) dX5_isBorder_2 ?_
  refine z_iconst (pc := 5) hC dX5_isBorder_5 ?_
  refine z_ialk (pc := 6) hC _ 0 (by decide) (fun _ => rfl) rfl (by decide) (by decide) dX5_isBorder_6 ?_
  refine z_irem (pc := 7) hC ⟨by omega, by omega⟩ (zb_gt _ _ _) (by omega) dX5_isBorder_7 ?_
  rw [z0, Int.tmod_eq_emod_of_nonneg (by omega), ← hW.1, ← Int.natCast_emod]
  refine z_istore_n (pc := 8) hC (i := 2) dX5_isBorder_8 rfl (by decide) rfl (zS_s (zS_s zS_0)) ?_
  refine z_iload_n (pc := 9) hC (i := 1) dX5_isBorder_9 rfl rfl ?_
  refine z_aload_n (pc := 10) hC (i := 0) dX5_isBorder_10 rfl rfl ?_
  refine z_getR (C := RX5) (T := TX5) (N := 15) (ci := 5) (pc := 11) hC _ _ 0 in_X5_isBorder_X5 rfl (by decide) (fun _ => rfl) (by decide) fl_X5_isBorder_7 (fun _ => rfl) dX5_isBorder_11 ?_
  refine z_iconst (pc := 14) hC dX5_isBorder_14 ?_
  refine z_ialk (pc := 15) hC _ 0 (by decide) (fun _ => rfl) rfl (by decide) (by decide) dX5_isBorder_15 ?_
  refine z_idiv (pc := 16) hC ⟨by omega, by omega⟩ (zb_gt _ _ _) (by omega) dX5_isBorder_16 ?_
  rw [z0, Int.tdiv_eq_ediv_of_nonneg (by omega), ← hW.1, ← Int.natCast_ediv]
  refine z_istore_n (pc := 17) hC (i := 3) dX5_isBorder_17 rfl (by decide) rfl (zS_s (zS_s (zS_s zS_0))) ?_
  refine z_iload_n (pc := 18) hC (i := 2) dX5_isBorder_18 rfl rfl ?_
  refine z_if_eq (pc := 19) hC 50 (by first | assumption | exact zb_gt _ _ _ | exact zcmp_zb _ _ | exact bI_zb _ | exact ⟨by omega, by omega⟩) dX5_isBorder_19 rfl (fun h19 => ?_) (fun h19 => ?_)
  · refine z_iconst (pc := 50) hC dX5_isBorder_50 ?_
    refine z_goto (pc := 51) hC 55 dX5_isBorder_51 rfl ?_
    exact z_zret (b := true) (pc := 55) hC rfl ⟨true, rfl, ⟨(decide_eq_true (hbd.mpr (by omega))).symm, rfl⟩⟩ dX5_isBorder_55
  · refine z_iload_n (pc := 22) hC (i := 3) dX5_isBorder_22 rfl rfl ?_
    refine z_if_eq (pc := 23) hC 50 (by first | assumption | exact zb_gt _ _ _ | exact zcmp_zb _ _ | exact bI_zb _ | exact ⟨by omega, by omega⟩) dX5_isBorder_23 rfl (fun h23 => ?_) (fun h23 => ?_)
    · refine z_iconst (pc := 50) hC dX5_isBorder_50 ?_
      refine z_goto (pc := 51) hC 55 dX5_isBorder_51 rfl ?_
      exact z_zret (b := true) (pc := 55) hC rfl ⟨true, rfl, ⟨(decide_eq_true (hbd.mpr (by omega))).symm, rfl⟩⟩ dX5_isBorder_55
    · refine z_iload_n (pc := 26) hC (i := 2) dX5_isBorder_26 rfl rfl ?_
      refine z_aload_n (pc := 27) hC (i := 0) dX5_isBorder_27 rfl rfl ?_
      refine z_getR (C := RX5) (T := TX5) (N := 15) (ci := 5) (pc := 28) hC _ _ 0 in_X5_isBorder_X5 rfl (by decide) (fun _ => rfl) (by decide) fl_X5_isBorder_7 (fun _ => rfl) dX5_isBorder_28 ?_
      refine z_iconst (pc := 31) hC dX5_isBorder_31 ?_
      refine z_ialk (pc := 32) hC _ 0 (by decide) (fun _ => rfl) rfl (by decide) (by decide) dX5_isBorder_32 ?_
      refine z_iconst (pc := 33) hC dX5_isBorder_33 ?_
      refine z_isub (pc := 34) hC dX5_isBorder_34 ?_
      refine z_icmp_eq (pc := 35) hC 50 (by first | assumption | exact zb_gt _ _ _ | exact zcmp_zb _ _ | exact bI_zb _ | exact ⟨by omega, by omega⟩) (by first | assumption | exact zb_gt _ _ _ | exact zcmp_zb _ _ | exact bI_zb _ | exact ⟨by omega, by omega⟩) dX5_isBorder_35 rfl (fun h35 => ?_) (fun h35 => ?_)
      · refine z_iconst (pc := 50) hC dX5_isBorder_50 ?_
        refine z_goto (pc := 51) hC 55 dX5_isBorder_51 rfl ?_
        exact z_zret (b := true) (pc := 55) hC rfl ⟨true, rfl, ⟨(decide_eq_true (hbd.mpr (by omega))).symm, rfl⟩⟩ dX5_isBorder_55
      · refine z_iload_n (pc := 38) hC (i := 3) dX5_isBorder_38 rfl rfl ?_
        refine z_aload_n (pc := 39) hC (i := 0) dX5_isBorder_39 rfl rfl ?_
        refine z_getR (C := RX5) (T := TX5) (N := 15) (ci := 5) (pc := 40) hC _ _ 0 in_X5_isBorder_X5 rfl (by decide) (fun _ => rfl) (by decide) fl_X5_isBorder_7 (fun _ => rfl) dX5_isBorder_40 ?_
        refine z_iconst (pc := 43) hC dX5_isBorder_43 ?_
        refine z_ialk (pc := 44) hC _ 1 (by decide) (fun _ => rfl) rfl (by decide) (by decide) dX5_isBorder_44 ?_
        refine z_iconst (pc := 45) hC dX5_isBorder_45 ?_
        refine z_isub (pc := 46) hC dX5_isBorder_46 ?_
        refine z_icmp_ne (pc := 47) hC 54 (by first | assumption | exact zb_gt _ _ _ | exact zcmp_zb _ _ | exact bI_zb _ | exact ⟨by omega, by omega⟩) (by first | assumption | exact zb_gt _ _ _ | exact zcmp_zb _ _ | exact bI_zb _ | exact ⟨by omega, by omega⟩) dX5_isBorder_47 rfl (fun h47 => ?_) (fun h47 => ?_)
        · refine z_iconst (pc := 54) hC dX5_isBorder_54 ?_
          exact z_zret (b := false) (pc := 55) hC rfl ⟨false, rfl, ⟨(decide_eq_false (fun q => by have := hbd.mp q; omega)).symm, rfl⟩⟩ dX5_isBorder_55
        · refine z_iconst (pc := 50) hC dX5_isBorder_50 ?_
          refine z_goto (pc := 51) hC 55 dX5_isBorder_51 rfl ?_
          exact z_zret (b := true) (pc := 55) hC rfl ⟨true, rfl, ⟨(decide_eq_true (hbd.mpr (by omega))).symm, rfl⟩⟩ dX5_isBorder_55
def brd (σ : Sg) (L : Nat → Int) (f : Nat) : Prop := L f = (f : Int) ∧ ∃ t, t < sdots σ ∧ L t = (f : Int) ∧ tb (bordS σ) t = true
theorem holes_eq {σ : Sg} (h : scok σ) {S : Int64} (hS : ∀ k, tb S k = true → k < sdots σ) {L : Nat → Int} (hI : IL σ S L) (hJ : JN σ S L) : sm (fun v => if L v = (v : Int) then (1 : Int) else 0) (sdots σ) - sm (fun v => cI (brd σ L v)) (sdots σ) = cntPS σ S (bordS σ) := by
  rw [cntPS_eq h hS hI hJ, sm_cong (f := fun v => if L v = (v : Int) then (1 : Int) else 0) (g := fun v => cI (L v = (v : Int) ∧ okB S (bordS σ) L v) + cI (brd σ L v)) (fun v hv => ?_), sm_add]
  · omega
  · show (if L v = (v : Int) then (1 : Int) else 0) = cI (L v = (v : Int) ∧ okB S (bordS σ) L v) + cI (brd σ L v)
    by_cases c : L v = (v : Int)
    · rw [if_pos c]
      by_cases c2 : ∃ t, t < sdots σ ∧ L t = (v : Int) ∧ tb (bordS σ) t = true
      · rw [cI_pos (p := brd σ L v) ⟨c, c2⟩, cI_neg (fun q => by
          obtain ⟨t, t1, t2, t3⟩ := c2
          refine q.2 t ?_ t2 t3
          by_cases z : tb S t = true
          · exact z
          · have := (hI t t1).2 z
            omega)]
        rfl
      · rw [cI_neg (p := brd σ L v) (fun q => c2 q.2), cI_pos ⟨c, fun t t1 t2 t3 => c2 ⟨t, hS t t1, t2, t3⟩⟩]
        rfl
    · rw [if_neg c, cI_neg (fun q => c q.1), cI_neg (fun q => c q.1)]
      rfl
theorem pieces_eq {σ : Sg} (h : scok σ) {S : Int64} (hS : ∀ k, tb S k = true → k < sdots σ) {L : Nat → Int} (hI : IL σ S L) (hJ : JN σ S L) : sm (fun v => if L v = (v : Int) then (1 : Int) else 0) (sdots σ) = cntPS σ S 0 := by
  rw [cntPS_eq h hS hI hJ]
  refine sm_cong (fun v hv => ?_)
  show (if L v = (v : Int) then (1 : Int) else 0) = cI (L v = (v : Int) ∧ okB S 0 L v)
  by_cases c : L v = (v : Int)
  · rw [if_pos c, cI_pos ⟨c, fun t _ _ q => by rw [tb_0] at q; exact absurd q (by decide)⟩]
  · rw [if_neg c, cI_neg (fun q => c q.1)]
theorem compl_tb {σ : Sg} (h : scok σ) (x : Int64) (k : Nat) : tb (alld (σ 0 * σ 1) &&& (x ^^^ (-1))) k = true ↔ k < sdots σ ∧ ¬ tb x k = true := by
  rw [tb_and, Bool.and_eq_true, tb_alld h, decide_eq_true_iff]
  have hN := sdots_le h
  constructor
  · rintro ⟨a1, a2⟩
    rw [tb_not _ (by omega), bnot] at a2
    exact ⟨a1, a2⟩
  · rintro ⟨a1, a2⟩
    exact ⟨a1, by rw [tb_not _ (by omega), bnot]; exact a2⟩
theorem fl_X5_holes_35 : Cond.fieldLink RX5 35 "StrokeCutsModel" "piece" "[I" ∈ wsX5_holes := by decide +kernel
theorem in_X5_holes_X5 : ∀ x ∈ u_ws RX5 TX5 15, x ∈ wsX5_holes := by decide +kernel
set_option maxHeartbeats 4000000 in
set_option maxRecDepth 100000 in
theorem L_X5_holes_29 {E : zE} {w : zP} {l : Launch} {Post : Option Value → Mem → Prop} (hw : zOK w) (hC : zC E w l RX5 wsX5_holes cX5_holes 7 4 94 (some .int) Post) (Ω : Mem) (σ : Sg) (hσ : scM Ω = σ) (hv : scok σ) (x : Int64) (f : Nat) (hfN : f < sdots σ) (nn : Int) (K : ∀ (o : Int) (p6 : Option Value), ((o = 1 ∧ brd σ (gt Ω 57) f) ∨ (o = 0 ∧ ¬ brd σ (gt Ω 57) f)) → X E Ω 89 [some (.ref (wa w 49)), some (.long x), none, some (.int (zI nn)), some (.int (zI (f : Int))), some (.int (zI o)), p6] []) : ∀ (n : Nat) (k : Nat) (o : Int), sdots σ < k + n → (k ≤ sdots σ) → ((o = 1 ∧ (∃ t, t < k ∧ gt Ω 57 t = (f : Int) ∧ tb (bordS σ) t = true)) ∨ (o = 0 ∧ ¬ (∃ t, t < k ∧ gt Ω 57 t = (f : Int) ∧ tb (bordS σ) t = true))) → (¬ gt Ω 57 f = (f : Int) → o = 0) → X E Ω 29 [some (.ref (wa w 49)), some (.long x), none, some (.int (zI nn)), some (.int (zI (f : Int))), some (.int (zI o)), some (.int (zI (k : Int)))] [] := by
  intro n
  induction n with
  | zero =>
    intro k o hfu hk ho hz
    exact absurd hfu (by omega)
  | succ n ih =>
    intro k o hfu hk ho hz
    have hN := sdots_le hv
    have q0 : gt Ω 50 0 * gt Ω 50 1 = (sdots σ : Int) := by rw [st_at hσ (by decide), st_at hσ (by decide)]; exact hN.2.2.symm
    refine z_iload (pc := 29) hC (i := 6) dX5_holes_29 rfl ?_
    refine z_aload_n (pc := 31) hC (i := 0) dX5_holes_31 rfl rfl ?_
    refine z_callV (n := 0) (T := TX5) (N := 15) (ci := 5) (pc := 32) hC (c_X5_dots l w hw _) gX5_holes_X5_dots rfl (by decide +kernel) (by decide) (by decide) rfl (by decide) (fun _ => rfl) rfl rfl (Nat.le_of_ble_eq_true rfl) dX5_holes_32 (zi_k fun r32 Ω32 h32 => ?_)
    obtain ⟨rfl, hM32⟩ := h32
    obtain rfl := hM32.symm
    rw [q0]
    refine z_icmp_ge (pc := 35) hC 89 (by first | assumption | exact zb_gt _ _ _ | exact zcmp_zb _ _ | exact bI_zb _ | exact ⟨by omega, by omega⟩) (by first | assumption | exact zb_gt _ _ _ | exact zcmp_zb _ _ | exact bI_zb _ | exact ⟨by omega, by omega⟩) dX5_holes_35 rfl (fun h35 => ?_) (fun h35 => ?_)
    · obtain rfl : k = sdots σ := by omega
      refine K o _ ?_
      by_cases c : gt Ω 57 f = (f : Int)
      · rcases ho with ⟨z1, z2⟩ | ⟨z1, z2⟩
        · exact Or.inl ⟨z1, c, z2⟩
        · exact Or.inr ⟨z1, fun q => z2 q.2⟩
      · exact Or.inr ⟨hz c, fun q => c q.1⟩
    · refine z_aload_n (pc := 38) hC (i := 0) dX5_holes_38 rfl rfl ?_
      refine z_getR (C := RX5) (T := TX5) (N := 15) (ci := 5) (pc := 39) hC _ _ 11 in_X5_holes_X5 rfl (by decide) (fun _ => rfl) (by decide) fl_X5_holes_35 (fun _ => rfl) dX5_holes_39 ?_
      refine z_iload (pc := 42) hC (i := 4) dX5_holes_42 rfl ?_
      refine z_ialk (pc := 44) hC _ f (by decide) (fun _ => rfl) rfl (by omega) (by decide) dX5_holes_44 ?_
      refine z_iload (pc := 45) hC (i := 4) dX5_holes_45 rfl ?_
      refine z_icmp_ne (pc := 47) hC 89 (by first | assumption | exact zb_gt _ _ _ | exact zcmp_zb _ _ | exact bI_zb _ | exact ⟨by omega, by omega⟩) (by first | assumption | exact zb_gt _ _ _ | exact zcmp_zb _ _ | exact bI_zb _ | exact ⟨by omega, by omega⟩) dX5_holes_47 rfl (fun h47 => ?_) (fun h47 => ?_)
      · exact K o _ (Or.inr ⟨hz h47, fun q => h47 q.1⟩)
      · refine z_iload (pc := 50) hC (i := 5) dX5_holes_50 rfl ?_
        refine z_if_ne (pc := 52) hC 76 ⟨by omega, by omega⟩ dX5_holes_52 rfl (fun h52 => ?_) (fun h52 => ?_)
        · refine z_iconst (pc := 76) hC dX5_holes_76 ?_
          refine z_goto (pc := 77) hC 81 dX5_holes_77 rfl ?_
          refine z_istore (pc := 81) hC (i := 5) dX5_holes_81 (by decide) rfl (zS_s (zS_s (zS_s (zS_s (zS_s zS_0))))) ?_
          refine z_iinc (pc := 83) hC (i := 6) dX5_holes_83 rfl (by decide) rfl (zS_s (zS_s (zS_s (zS_s (zS_s (zS_s zS_0)))))) ?_
          refine z_goto (pc := 86) hC 29 dX5_holes_86 rfl ?_
          exact ih (k + 1) 1 (by omega) (by omega) (Or.inl ⟨rfl, by rcases ho with z | z; obtain ⟨t, t1, t2, t3⟩ := z.2; exact ⟨t, by omega, t2, t3⟩; exact absurd z.1 h52⟩) (fun q => absurd (by omega) q)
        · refine z_aload_n (pc := 55) hC (i := 0) dX5_holes_55 rfl rfl ?_
          refine z_getR (C := RX5) (T := TX5) (N := 15) (ci := 5) (pc := 56) hC _ _ 11 in_X5_holes_X5 rfl (by decide) (fun _ => rfl) (by decide) fl_X5_holes_35 (fun _ => rfl) dX5_holes_56 ?_
          refine z_iload (pc := 59) hC (i := 6) dX5_holes_59 rfl ?_
          refine z_ialk (pc := 61) hC _ k (by decide) (fun _ => rfl) rfl (by omega) (by decide) dX5_holes_61 ?_
          refine z_iload (pc := 62) hC (i := 4) dX5_holes_62 rfl ?_
          refine z_icmp_ne (pc := 64) hC 80 (by first | assumption | exact zb_gt _ _ _ | exact zcmp_zb _ _ | exact bI_zb _ | exact ⟨by omega, by omega⟩) (by first | assumption | exact zb_gt _ _ _ | exact zcmp_zb _ _ | exact bI_zb _ | exact ⟨by omega, by omega⟩) dX5_holes_64 rfl (fun h64 => ?_) (fun h64 => ?_)
          · refine z_iconst (pc := 80) hC dX5_holes_80 ?_
            refine z_istore (pc := 81) hC (i := 5) dX5_holes_81 (by decide) rfl (zS_s (zS_s (zS_s (zS_s (zS_s zS_0))))) ?_
            refine z_iinc (pc := 83) hC (i := 6) dX5_holes_83 rfl (by decide) rfl (zS_s (zS_s (zS_s (zS_s (zS_s (zS_s zS_0)))))) ?_
            refine z_goto (pc := 86) hC 29 dX5_holes_86 rfl ?_
            exact ih (k + 1) 0 (by omega) (by omega) (Or.inr ⟨rfl, fun q => by obtain ⟨t, t1, t2, t3⟩ := q; by_cases e : t = k; (subst e; exact h64 t2); (rcases ho with z | z; omega; exact z.2 ⟨t, by omega, t2, t3⟩)⟩) (fun q => absurd (by omega) q)
          · refine z_aload_n (pc := 67) hC (i := 0) dX5_holes_67 rfl rfl ?_
            refine z_iload (pc := 68) hC (i := 6) dX5_holes_68 rfl ?_
            refine z_callV (n := 1) (T := TX5) (N := 15) (ci := 5) (pc := 70) hC (c_X5_isBorder l w hw _ σ hσ hv k (by omega)) gX5_holes_X5_isBorder rfl (by decide +kernel) (by decide) (by decide) rfl (by decide) (fun _ => rfl) rfl rfl (Nat.le_of_ble_eq_true rfl) dX5_holes_70 (zb_k fun r70 Ω70 h70 => ?_)
            obtain ⟨rfl, hM70⟩ := h70
            obtain rfl := hM70.symm
            refine z_ifd_eq (pc := 73) hC 80 dX5_holes_73 rfl (fun h73 => ?_) (fun h73 => ?_)
            · refine z_iconst (pc := 80) hC dX5_holes_80 ?_
              refine z_istore (pc := 81) hC (i := 5) dX5_holes_81 (by decide) rfl (zS_s (zS_s (zS_s (zS_s (zS_s zS_0))))) ?_
              refine z_iinc (pc := 83) hC (i := 6) dX5_holes_83 rfl (by decide) rfl (zS_s (zS_s (zS_s (zS_s (zS_s (zS_s zS_0)))))) ?_
              refine z_goto (pc := 86) hC 29 dX5_holes_86 rfl ?_
              exact ih (k + 1) 0 (by omega) (by omega) (Or.inr ⟨rfl, fun q => by obtain ⟨t, t1, t2, t3⟩ := q; by_cases e : t = k; (subst e; exact h73 t3); (rcases ho with z | z; omega; exact z.2 ⟨t, by omega, t2, t3⟩)⟩) (fun q => absurd (by omega) q)
            · refine z_iconst (pc := 76) hC dX5_holes_76 ?_
              refine z_goto (pc := 77) hC 81 dX5_holes_77 rfl ?_
              refine z_istore (pc := 81) hC (i := 5) dX5_holes_81 (by decide) rfl (zS_s (zS_s (zS_s (zS_s (zS_s zS_0))))) ?_
              refine z_iinc (pc := 83) hC (i := 6) dX5_holes_83 rfl (by decide) rfl (zS_s (zS_s (zS_s (zS_s (zS_s (zS_s zS_0)))))) ?_
              refine z_goto (pc := 86) hC 29 dX5_holes_86 rfl ?_
              exact ih (k + 1) 1 (by omega) (by omega) (Or.inl ⟨rfl, k, by omega, by omega, h73⟩) (fun q => absurd (by omega) q)
set_option maxHeartbeats 4000000 in
set_option maxRecDepth 100000 in
theorem L_X5_holes_14 {E : zE} {w : zP} {l : Launch} {Post : Option Value → Mem → Prop} (hw : zOK w) (hC : zC E w l RX5 wsX5_holes cX5_holes 7 4 94 (some .int) Post) (Ω : Mem) (σ : Sg) (hσ : scM Ω = σ) (hv : scok σ) (x : Int64) (K : ∀ o5 o6 : Option Value, X E Ω 108 [some (.ref (wa w 49)), some (.long x), none, some (.int (zI ((sm (fun v => if gt Ω 57 v = (v : Int) then (1 : Int) else 0) (sdots σ)) - sm (fun v => cI (brd σ (gt Ω 57) v)) (sdots σ)))), some (.int (zI (sdots σ : Int))), o5, o6] []) : ∀ (n : Nat) (f : Nat) (o5 : Option Value) (o6 : Option Value), sdots σ < f + n → (f ≤ sdots σ) → X E Ω 14 [some (.ref (wa w 49)), some (.long x), none, some (.int (zI ((sm (fun v => if gt Ω 57 v = (v : Int) then (1 : Int) else 0) (sdots σ)) - sm (fun v => cI (brd σ (gt Ω 57) v)) f))), some (.int (zI (f : Int))), o5, o6] [] := by
  intro n
  induction n with
  | zero =>
    intro f o5 o6 hfu hk
    exact absurd hfu (by omega)
  | succ n ih =>
    intro f o5 o6 hfu hk
    have hN := sdots_le hv
    have q0 : gt Ω 50 0 * gt Ω 50 1 = (sdots σ : Int) := by rw [st_at hσ (by decide), st_at hσ (by decide)]; exact hN.2.2.symm
    refine z_iload (pc := 14) hC (i := 4) dX5_holes_14 rfl ?_
    refine z_aload_n (pc := 16) hC (i := 0) dX5_holes_16 rfl rfl ?_
    refine z_callV (n := 0) (T := TX5) (N := 15) (ci := 5) (pc := 17) hC (c_X5_dots l w hw _) gX5_holes_X5_dots rfl (by decide +kernel) (by decide) (by decide) rfl (by decide) (fun _ => rfl) rfl rfl (Nat.le_of_ble_eq_true rfl) dX5_holes_17 (zi_k fun r17 Ω17 h17 => ?_)
    obtain ⟨rfl, hM17⟩ := h17
    obtain rfl := hM17.symm
    rw [q0]
    refine z_icmp_ge (pc := 20) hC 108 (by first | assumption | exact zb_gt _ _ _ | exact zcmp_zb _ _ | exact bI_zb _ | exact ⟨by omega, by omega⟩) (by first | assumption | exact zb_gt _ _ _ | exact zcmp_zb _ _ | exact bI_zb _ | exact ⟨by omega, by omega⟩) dX5_holes_20 rfl (fun h20 => ?_) (fun h20 => ?_)
    · obtain rfl : f = sdots σ := by omega
      exact K _ _
    · refine z_iconst (pc := 23) hC dX5_holes_23 ?_
      refine z_istore (pc := 24) hC (i := 5) dX5_holes_24 (by decide) rfl (zS_s (zS_s (zS_s (zS_s (zS_s zS_0))))) ?_
      refine z_iconst (pc := 26) hC dX5_holes_26 ?_
      refine z_istore (pc := 27) hC (i := 6) dX5_holes_27 (by decide) rfl (zS_s (zS_s (zS_s (zS_s (zS_s (zS_s zS_0)))))) ?_
      refine L_X5_holes_29 hw hC Ω σ hσ hv x f (by omega) _ (fun o1 p6 ho1 => ?_) (sdots σ + 1) 0 0 (by omega) (by omega) (Or.inr ⟨rfl, fun q => by obtain ⟨t, t1, -⟩ := q; omega⟩) (fun _ => rfl)
      refine z_iload_n (pc := 89) hC (i := 3) dX5_holes_89 rfl rfl ?_
      refine z_iload (pc := 90) hC (i := 5) dX5_holes_90 rfl ?_
      refine z_if_eq (pc := 92) hC 99 ⟨by omega, by omega⟩ dX5_holes_92 rfl (fun h92 => ?_) (fun h92 => ?_)
      · refine z_iconst (pc := 99) hC dX5_holes_99 ?_
        refine z_isub (pc := 100) hC dX5_holes_100 ?_
        refine z_istore_n (pc := 101) hC (i := 3) dX5_holes_101 rfl (by decide) rfl (zS_s (zS_s (zS_s zS_0))) ?_
        refine z_iinc (pc := 102) hC (i := 4) dX5_holes_102 rfl (by decide) rfl (zS_s (zS_s (zS_s (zS_s zS_0)))) ?_
        refine z_goto (pc := 105) hC 14 dX5_holes_105 rfl ?_
        have hh := ih (f + 1) (some (.int (zI o1))) p6 (by omega) (by omega)
        rw [show ((sm (fun v => if gt Ω 57 v = (v : Int) then (1 : Int) else 0) (sdots σ)) - sm (fun v => cI (brd σ (gt Ω 57) v)) (f + 1)) = ((sm (fun v => if gt Ω 57 v = (v : Int) then (1 : Int) else 0) (sdots σ)) - sm (fun v => cI (brd σ (gt Ω 57) v)) f) - 0 by rw [sm_s, cI_neg (show ¬ brd σ (gt Ω 57) f by rcases ho1 with z | z; omega; exact z.2)]; omega] at hh
        exact hh
      · refine z_iconst (pc := 95) hC dX5_holes_95 ?_
        refine z_goto (pc := 96) hC 100 dX5_holes_96 rfl ?_
        refine z_isub (pc := 100) hC dX5_holes_100 ?_
        refine z_istore_n (pc := 101) hC (i := 3) dX5_holes_101 rfl (by decide) rfl (zS_s (zS_s (zS_s zS_0))) ?_
        refine z_iinc (pc := 102) hC (i := 4) dX5_holes_102 rfl (by decide) rfl (zS_s (zS_s (zS_s (zS_s zS_0)))) ?_
        refine z_goto (pc := 105) hC 14 dX5_holes_105 rfl ?_
        have hh := ih (f + 1) (some (.int (zI o1))) p6 (by omega) (by omega)
        rw [show ((sm (fun v => if gt Ω 57 v = (v : Int) then (1 : Int) else 0) (sdots σ)) - sm (fun v => cI (brd σ (gt Ω 57) v)) (f + 1)) = ((sm (fun v => if gt Ω 57 v = (v : Int) then (1 : Int) else 0) (sdots σ)) - sm (fun v => cI (brd σ (gt Ω 57) v)) f) - 1 by rw [sm_s, cI_pos (show brd σ (gt Ω 57) f by rcases ho1 with z | z; exact z.2; omega)]; omega] at hh
        exact hh
set_option maxHeartbeats 4000000 in
set_option maxRecDepth 100000 in
theorem c_X5_holes (l : Launch) (w : zP) (hw : zOK w) (Ω : Mem) (σ : Sg) (hσ : scM Ω = σ) (hv : scok σ) (x : Int64) : zM l w yX5_holes wsX5_holes 4 94 [.ref (wa w 49), .long x] Ω (zi (fun r Ω1 => r = cntPS σ (alld (σ 0 * σ 1) &&& (x ^^^ (-1))) (bordS σ) ∧ ∀ q, q ≠ 57 → Ω1 q = Ω q)) := by
  refine zM_of cX5_holes 7 (some .int) RX5 [some (.ref (wa w 49)), some (.long x), none, none, none, none, none] hw (by decide +kernel) rfl rfl (Nat.le_of_ble_eq_true rfl) rfl (fun E hC => ?_)
  have hN := sdots_le hv
  refine z_aload_n (pc := 0) hC (i := 0) dX5_holes_0 rfl rfl ?_
  refine z_lload_n (pc := 1) hC (i := 1) dX5_holes_1 rfl rfl ?_
  refine z_iconst (pc := 2) hC dX5_holes_2 ?_
  refine z_callV (n := 2) (T := TX5) (N := 15) (ci := 5) (pc := 3) hC (c_X5_laysPieces l w hw _ σ hv x 0 (Or.inl rfl) (alld (σ 0 * σ 1) &&& (x ^^^ (-1))) (fun k hk => ((compl_tb hv x k).mp hk).1) (fun k hk => by rw [compl_tb hv x k]; exact ⟨fun q => ⟨fun z => absurd z q.2, fun z => by omega⟩, fun q => ⟨hk, fun z => by have := q.mp z; omega⟩⟩) hσ) gX5_holes_X5_laysPieces rfl (by decide +kernel) (by decide) (by decide) rfl (by decide) (fun _ => rfl) rfl rfl (Nat.le_of_ble_eq_true rfl) dX5_holes_3 (zv_k fun Ω3 h3 => ?_)
  obtain ⟨hI3, hJ3, hF3⟩ := h3
  have hs3 : scM Ω3 = σ := (scM_cong (hF3 50 (by decide))).trans hσ
  refine z_aload_n (pc := 6) hC (i := 0) dX5_holes_6 rfl rfl ?_
  refine z_callV (n := 0) (T := TX5) (N := 15) (ci := 5) (pc := 7) hC (c_X5_pieces l w hw _ σ hs3 hv) gX5_holes_X5_pieces rfl (by decide +kernel) (by decide) (by decide) rfl (by decide) (fun _ => rfl) rfl rfl (Nat.le_of_ble_eq_true rfl) dX5_holes_7 (zi_k fun r7 Ω7 h7 => ?_)
  obtain ⟨rfl, hM7⟩ := h7
  obtain rfl := hM7.symm
  refine z_istore_n (pc := 10) hC (i := 3) dX5_holes_10 rfl (by decide) rfl (zS_s (zS_s (zS_s zS_0))) ?_
  refine z_iconst (pc := 11) hC dX5_holes_11 ?_
  refine z_istore (pc := 12) hC (i := 4) dX5_holes_12 (by decide) rfl (zS_s (zS_s (zS_s (zS_s zS_0)))) ?_
  have hh := fun K => L_X5_holes_14 hw hC Ω3 σ hs3 hv x K (sdots σ + 1) 0 none none (by omega) (by omega)
  rw [show sm (fun v => cI (brd σ (gt Ω3 57) v)) 0 = 0 from rfl, Int.sub_zero] at hh
  refine hh (fun o5 o6 => ?_)
  refine z_iload_n (pc := 108) hC (i := 3) dX5_holes_108 rfl rfl ?_
  exact z_iret (pc := 109) hC rfl ⟨_, rfl, holes_eq hv (fun k hk => ((compl_tb hv x k).mp hk).1) hI3 hJ3, hF3⟩ dX5_holes_109
