theorem fl_X1_send_24 : Cond.fieldLink RX1 24 "StrokeCuts$Network" "distance" "[I" ∈ wsX1_send := by decide +kernel
theorem fl_X1_send_15 : Cond.fieldLink RX1 15 "StrokeCuts$Network" "toGround" "[I" ∈ wsX1_send := by decide +kernel
set_option maxHeartbeats 4000000 in
set_option maxRecDepth 100000 in
/-- send: a dot's sending, by its distance -/
theorem c_X1_send (l : Launch) (w : zP) (hw : zOK w) (N : Nat) (nb L F : Nat → Int) (hN : N ≤ 36) (hg : grph N nb) (hL36 : ∀ u, u < N → 0 ≤ L u ∧ L u ≤ 36) : ∀ i : Nat, ∀ (Ω : Mem) (u : Nat) (a dp : Int), gt Ω 6 = nb → PI N nb L (flC Ω) → u < N → L u = (i : Int) → 0 < L u → gt Ω 8 u = L u → 0 ≤ a → a ≤ 2000000 → 1 ≤ dp → dp + L u ≤ 37 → zM l w yX1_send wsX1_send (sFr i) (sLo i) [.ref (wa w 3), .int (zI (u : Int)), .int (zI a), .int (zI dp)] Ω (zi (sendP N nb L F u a Ω)) := by
  intro i
  induction i with
  | zero =>
    intro Ω u a dp _ _ _ h1 h2
    exact absurd h2 (by omega)
  | succ i IH =>
    intro Ω v a dp hnb hP hv hLv hLp hD ha0 ha hd0 hdp
    have hL := hL36 v hv
    refine zM_of cX1_send 9 (some .int) RX1 [some (.ref (wa w 3)), some (.int (zI (v : Int))), some (.int (zI a)), some (.int (zI dp)), none, none, none, none, none] hw (by decide +kernel) rfl rfl (Nat.le_of_ble_eq_true rfl) rfl (fun E hC => ?_)
    refine z_iload_n (pc := 0) hC (i := 3) dX1_send_0 rfl rfl ?_
    refine z_bipush (pc := 1) hC dX1_send_1 rfl ?_
    refine z_icmp_le (pc := 3) hC 8 (by first | assumption | exact zb_gt _ _ _ | exact zcmp_zb _ _ | exact bI_zb _ | exact ⟨by omega, by omega⟩) (by first | assumption | exact zb_gt _ _ _ | exact zcmp_zb _ _ | exact bI_zb _ | exact ⟨by omega, by omega⟩) dX1_send_3 rfl (fun h3 => ?_) (fun h3 => ?_)
    · refine z_iconst (pc := 8) hC dX1_send_8 ?_
      refine z_istore (pc := 9) hC (i := 4) dX1_send_9 (by decide) rfl (zS_s (zS_s (zS_s (zS_s zS_0)))) ?_
      refine z_aload_n (pc := 11) hC (i := 0) dX1_send_11 rfl rfl ?_
      refine z_getR (C := RX1) (T := TX1) (N := 8) (ci := 1) (pc := 12) hC _ _ 5 in_X1_send_X1 rfl (by decide) (fun _ => rfl) (by decide) fl_X1_send_24 (fun _ => rfl) dX1_send_12 ?_
      refine z_iload_n (pc := 15) hC (i := 1) dX1_send_15 rfl rfl ?_
      refine z_ialk (pc := 16) hC _ v (by decide) (fun _ => rfl) rfl (by omega) (by decide) dX1_send_16 ?_
      rw [hD]
      refine z_iconst (pc := 17) hC dX1_send_17 ?_
      refine z_icmp_ne (pc := 18) hC 44 (by first | assumption | exact zb_gt _ _ _ | exact zcmp_zb _ _ | exact bI_zb _ | exact ⟨by omega, by omega⟩) (by first | assumption | exact zb_gt _ _ _ | exact zcmp_zb _ _ | exact bI_zb _ | exact ⟨by omega, by omega⟩) dX1_send_18 rfl (fun h18 => ?_) (fun h18 => ?_)
      · refine z_iconst (pc := 44) hC dX1_send_44 ?_
        refine z_istore (pc := 45) hC (i := 5) dX1_send_45 (by decide) rfl (zS_s (zS_s (zS_s (zS_s (zS_s zS_0))))) ?_
        refine L_X1_send_47 hw N nb L F hN hg hL36 i IH Ω v hv hLv a dp ha0 ha hd0 hdp hC (fun j s Ω o6 o7 o8 hj hex hnb hP hS hD hs hG hE hfr => ?_) 9 0 0 Ω none none none (by omega) (by omega) hnb hP (SP.refl _ _ _ _ _ _) hD (by omega) (fun h1 => absurd h1 (by omega)) (fun _ k hk => absurd hk (Nat.not_lt_zero k)) (fun _ _ _ _ => rfl)
        have hs0 := hS.1
        refine z_iload (pc := 175) hC (i := 4) dX1_send_175 rfl ?_
        refine z_iload_n (pc := 177) hC (i := 2) dX1_send_177 rfl rfl ?_
        refine z_icmp_ge (pc := 178) hC 188 (by first | assumption | exact zb_gt _ _ _ | exact zcmp_zb _ _ | exact bI_zb _ | exact ⟨by omega, by omega⟩) (by first | assumption | exact zb_gt _ _ _ | exact zcmp_zb _ _ | exact bI_zb _ | exact ⟨by omega, by omega⟩) dX1_send_178 rfl (fun h178 => ?_) (fun h178 => ?_)
        · refine z_iload (pc := 188) hC (i := 4) dX1_send_188 rfl ?_
          exact z_iret (pc := 190) hC rfl ⟨_, rfl, ⟨hs, hP, hS, fun q => absurd q (by omega), hfr⟩⟩ dX1_send_190
        · refine z_aload_n (pc := 181) hC (i := 0) dX1_send_181 rfl rfl ?_
          refine z_getR (C := RX1) (T := TX1) (N := 8) (ci := 1) (pc := 182) hC _ _ 5 in_X1_send_X1 rfl (by decide) (fun _ => rfl) (by decide) fl_X1_send_24 (fun _ => rfl) dX1_send_182 ?_
          refine z_iload_n (pc := 185) hC (i := 1) dX1_send_185 rfl rfl ?_
          refine z_iconst (pc := 186) hC dX1_send_186 ?_
          refine z_iask (pc := 187) hC _ v (by decide) (fun _ => rfl) rfl (by omega) (by decide) dX1_send_187 ?_
          refine z_iload (pc := 188) hC (i := 4) dX1_send_188 rfl ?_
          exact z_iret (pc := 190) hC rfl ⟨_, rfl, ⟨hs, by rw [flC_D _ zb_0]; exact (SP.dead (F := F) hP hv (fun h => hG h (by omega)) (fun k hk => hE (by omega) k (by omega))).1, by rw [flC_D _ zb_0]; have := hS.trans (SP.dead (F := F) hP hv (fun h => hG h (by omega)) (fun k hk => hE (by omega) k (by omega))).2; rw [Int.add_zero] at this; exact this, fun _ => gt_s _ _ _ zb_0, hfr.trans (fun q _ _ c => ups_n _ _ _ c)⟩⟩ dX1_send_190
      · refine z_iload_n (pc := 21) hC (i := 2) dX1_send_21 rfl rfl ?_
        refine z_aload_n (pc := 22) hC (i := 0) dX1_send_22 rfl rfl ?_
        refine z_getR (C := RX1) (T := TX1) (N := 8) (ci := 1) (pc := 23) hC _ _ 2 in_X1_send_X1 rfl (by decide) (fun _ => rfl) (by decide) fl_X1_send_15 (fun _ => rfl) dX1_send_23 ?_
        refine z_iload_n (pc := 26) hC (i := 1) dX1_send_26 rfl rfl ?_
        refine z_ialk (pc := 27) hC _ v (by decide) (fun _ => rfl) rfl (by omega) (by decide) dX1_send_27 ?_
        have hGv : 0 ≤ gt Ω 5 v := hP.2.1 v hv
        have hGb := (zb_gt Ω 5 v).2
        refine z_mmin (pc := 28) hC (by first | assumption | exact zb_gt _ _ _ | exact zcmp_zb _ _ | exact bI_zb _ | exact ⟨by omega, by omega⟩) (by first | assumption | exact zb_gt _ _ _ | exact zcmp_zb _ _ | exact bI_zb _ | exact ⟨by omega, by omega⟩) ml_X1_send_96 ms_X1_send_min mi_X1_send_Math mc_X1_send_min (by unfold sFr; omega) (Nat.le_trans (Nat.le_of_ble_eq_true rfl : _ ≤ 60) (by unfold sLo; omega)) dX1_send_28 ?_
        refine z_istore (pc := 31) hC (i := 4) dX1_send_31 (by decide) rfl (zS_s (zS_s (zS_s (zS_s zS_0)))) ?_
        refine z_aload_n (pc := 33) hC (i := 0) dX1_send_33 rfl rfl ?_
        refine z_getR (C := RX1) (T := TX1) (N := 8) (ci := 1) (pc := 34) hC _ _ 2 in_X1_send_X1 rfl (by decide) (fun _ => rfl) (by decide) fl_X1_send_15 (fun _ => rfl) dX1_send_34 ?_
        refine z_iload_n (pc := 37) hC (i := 1) dX1_send_37 rfl rfl ?_
        refine z_dup2 (pc := 38) hC dX1_send_38 rfl rfl ?_
        refine z_ialk (pc := 39) hC _ v (by decide) (fun _ => rfl) rfl (by omega) (by decide) dX1_send_39 ?_
        skip
        refine z_iload (pc := 40) hC (i := 4) dX1_send_40 rfl ?_
        refine z_isub (pc := 42) hC dX1_send_42 ?_
        have hzg : zb (gt Ω 5 v - min a (gt Ω 5 v)) := ⟨by omega, by omega⟩
        refine z_iask (pc := 43) hC _ v (by decide) (fun _ => rfl) rfl (by omega) (by decide) dX1_send_43 ?_
        refine z_iconst (pc := 44) hC dX1_send_44 ?_
        refine z_istore (pc := 45) hC (i := 5) dX1_send_45 (by decide) rfl (zS_s (zS_s (zS_s (zS_s (zS_s zS_0))))) ?_
        refine L_X1_send_47 hw N nb L F hN hg hL36 i IH Ω v hv hLv a dp ha0 ha hd0 hdp hC (fun j s Ω o6 o7 o8 hj hex hnb hP hS hD hs hG hE hfr => ?_) 9 0 (min a (gt Ω 5 v)) (ups Ω 5 v (gt Ω 5 v - min a (gt Ω 5 v))) none none none (by omega) (by omega) (by rw [← hnb]; funext k; exact gt_n _ _ _ _ (by decide)) (by rw [flC_G _ hzg]; exact (SP.ground (F := F) hP hv (by omega) hD (by omega) (by show min a (gt Ω 5 v) ≤ gt Ω 5 v; omega)).1) (by rw [flC_G _ hzg]; exact (SP.ground (F := F) hP hv (by omega) hD (by omega) (by show min a (gt Ω 5 v) ≤ gt Ω 5 v; omega)).2) (by rw [gt_n _ _ _ _ (by decide)]; exact hD) (by omega) (fun _ hlt => by rw [gt_s _ _ _ hzg]; omega) (fun _ k hk => absurd hk (Nat.not_lt_zero k)) (fun q x _ _ => ups_n _ _ _ x)
        have hs0 := hS.1
        refine z_iload (pc := 175) hC (i := 4) dX1_send_175 rfl ?_
        refine z_iload_n (pc := 177) hC (i := 2) dX1_send_177 rfl rfl ?_
        refine z_icmp_ge (pc := 178) hC 188 (by first | assumption | exact zb_gt _ _ _ | exact zcmp_zb _ _ | exact bI_zb _ | exact ⟨by omega, by omega⟩) (by first | assumption | exact zb_gt _ _ _ | exact zcmp_zb _ _ | exact bI_zb _ | exact ⟨by omega, by omega⟩) dX1_send_178 rfl (fun h178 => ?_) (fun h178 => ?_)
        · refine z_iload (pc := 188) hC (i := 4) dX1_send_188 rfl ?_
          exact z_iret (pc := 190) hC rfl ⟨_, rfl, ⟨hs, hP, hS, fun q => absurd q (by omega), hfr⟩⟩ dX1_send_190
        · refine z_aload_n (pc := 181) hC (i := 0) dX1_send_181 rfl rfl ?_
          refine z_getR (C := RX1) (T := TX1) (N := 8) (ci := 1) (pc := 182) hC _ _ 5 in_X1_send_X1 rfl (by decide) (fun _ => rfl) (by decide) fl_X1_send_24 (fun _ => rfl) dX1_send_182 ?_
          refine z_iload_n (pc := 185) hC (i := 1) dX1_send_185 rfl rfl ?_
          refine z_iconst (pc := 186) hC dX1_send_186 ?_
          refine z_iask (pc := 187) hC _ v (by decide) (fun _ => rfl) rfl (by omega) (by decide) dX1_send_187 ?_
          refine z_iload (pc := 188) hC (i := 4) dX1_send_188 rfl ?_
          exact z_iret (pc := 190) hC rfl ⟨_, rfl, ⟨hs, by rw [flC_D _ zb_0]; exact (SP.dead (F := F) hP hv (fun h => hG h (by omega)) (fun k hk => hE (by omega) k (by omega))).1, by rw [flC_D _ zb_0]; have := hS.trans (SP.dead (F := F) hP hv (fun h => hG h (by omega)) (fun k hk => hE (by omega) k (by omega))).2; rw [Int.add_zero] at this; exact this, fun _ => gt_s _ _ _ zb_0, hfr.trans (fun q _ _ c => ups_n _ _ _ c)⟩⟩ dX1_send_190
    · exact absurd h3 (by omega)
