theorem fl_X5_keeps_7 : Cond.fieldLink RX5 7 "StrokeCutsModel" "st" "[I" ∈ wsX5_keeps := by decide +kernel
theorem in_X5_keeps_X5 : ∀ x ∈ u_ws RX5 TX5 15, x ∈ wsX5_keeps := by decide +kernel
set_option maxHeartbeats 4000000 in
set_option maxRecDepth 100000 in
theorem L_X5_keeps_15 {E : zE} {w : zP} {l : Launch} {Post : Option Value → Mem → Prop} (hw : zOK w) (hC : zC E w l RX5 wsX5_keeps cX5_keeps 5 11 266 (some .int) Post) (s : Int64) (a : As) (hv0 : scok a.1) (Ω0 : Mem) (hN36 : sdots a.1 ≤ 36) (hdd : ∀ k, (sdots a.1 : Int) = sfR a.1 s k 0 * sfR a.1 s k 1) (K : ∀ Ω : Mem, RM Ω (aSet a (sfR a.1 s (sdots a.1))) → frG Ω0 Ω → X E Ω 70 [some (.ref (wa w 49)), some (.long s), none, some (.int (zI (sfRc a.1 (sdots a.1)))), some (.int (zI (sdots a.1 : Int)))] []) : ∀ (n : Nat) (k : Nat) (Ω : Mem), sdots a.1 < k + n → (k ≤ sdots a.1) → (RM Ω (aSet a (sfR a.1 s k))) → (frG Ω0 Ω) → X E Ω 15 [some (.ref (wa w 49)), some (.long s), none, some (.int (zI (sfRc a.1 k))), some (.int (zI (k : Int)))] [] := by
  intro n
  induction n with
  | zero =>
    intro k Ω hfu hk h hF
    exact absurd hfu (by omega)
  | succ n ih =>
    intro k Ω hfu hk h hF
    have q0 : gt Ω 50 0 * gt Ω 50 1 = (sdots a.1 : Int) := by rw [st_at h.1.1 (by decide), st_at h.1.1 (by decide)]; exact (hdd k).symm
    have hk44 : (sfR a.1 s k) (44 + k) = a.1 (44 + k) := sfR_at a.1 s k
    refine z_iload (pc := 15) hC (i := 4) dX5_keeps_15 rfl ?_
    refine z_aload_n (pc := 17) hC (i := 0) dX5_keeps_17 rfl rfl ?_
    refine z_callV (n := 0) (T := TX5) (N := 15) (ci := 5) (pc := 18) hC (c_X5_dots l w hw _) gX5_keeps_X5_dots rfl (by decide +kernel) (by decide) (by decide) rfl (by decide) (fun _ => rfl) rfl rfl (Nat.le_of_ble_eq_true rfl) dX5_keeps_18 (zi_k fun r18 Ω18 h18 => ?_)
    obtain ⟨rfl, hM18⟩ := h18
    obtain rfl := hM18.symm
    rw [q0]
    refine z_icmp_ge (pc := 21) hC 70 (by first | assumption | exact zb_gt _ _ _ | exact zcmp_zb _ _ | exact bI_zb _ | exact ⟨by omega, by omega⟩) (by first | assumption | exact zb_gt _ _ _ | exact zcmp_zb _ _ | exact bI_zb _ | exact ⟨by omega, by omega⟩) dX5_keeps_21 rfl (fun h21 => ?_) (fun h21 => ?_)
    · obtain rfl : k = sdots a.1 := by omega
      exact K Ω h hF
    · refine z_aload_n (pc := 24) hC (i := 0) dX5_keeps_24 rfl rfl ?_
      refine z_getR (C := RX5) (T := TX5) (N := 15) (ci := 5) (pc := 25) hC _ _ 0 in_X5_keeps_X5 rfl (by decide) (fun _ => rfl) (by decide) fl_X5_keeps_7 (fun _ => rfl) dX5_keeps_25 ?_
      refine z_bipush (pc := 28) hC dX5_keeps_28 rfl ?_
      refine z_iload (pc := 30) hC (i := 4) dX5_keeps_30 rfl ?_
      refine z_iadd (pc := 32) hC dX5_keeps_32 ?_
      refine z_ialk (pc := 33) hC _ (44 + k) (by decide) (fun _ => rfl) (by omega) (by omega) (by decide) dX5_keeps_33 ?_
      rw [show gt Ω 50 (44 + k) = (sfR a.1 s k) (44 + k) from st_at h.1.1 (by omega)]
      refine z_if_ne (pc := 34) hC 64 (by rw [hk44]; have := hv0.2.2.2.2.2.2.2.2.2 k (by omega); exact ⟨by omega, by omega⟩) dX5_keeps_34 rfl (fun h34 => ?_) (fun h34 => ?_)
      · refine z_iinc (pc := 64) hC (i := 4) dX5_keeps_64 rfl (by decide) rfl (zS_s (zS_s (zS_s (zS_s zS_0)))) ?_
        refine z_goto (pc := 67) hC 15 dX5_keeps_67 rfl ?_
        have hc : sfRc a.1 (k + 1) = sfRc a.1 k := by unfold sfRc; rw [sm_s, if_neg (by rw [← hk44]; omega)]; omega
        have hh := ih (k + 1) Ω (by omega) (by omega) (by rw [← sfR_n a.1 s k (by rw [← hk44]; omega)]; exact h) hF
        rw [hc] at hh
        exact hh
      · refine z_aload_n (pc := 37) hC (i := 0) dX5_keeps_37 rfl rfl ?_
        refine z_getR (C := RX5) (T := TX5) (N := 15) (ci := 5) (pc := 38) hC _ _ 0 in_X5_keeps_X5 rfl (by decide) (fun _ => rfl) (by decide) fl_X5_keeps_7 (fun _ => rfl) dX5_keeps_38 ?_
        refine z_bipush (pc := 41) hC dX5_keeps_41 rfl ?_
        refine z_iload (pc := 43) hC (i := 4) dX5_keeps_43 rfl ?_
        refine z_iadd (pc := 45) hC dX5_keeps_45 ?_
        refine z_lload_n (pc := 46) hC (i := 1) dX5_keeps_46 rfl rfl ?_
        refine z_iload (pc := 47) hC (i := 4) dX5_keeps_47 rfl ?_
        refine z_callS (n := 2) (pc := 49) hC (c_X5_isIn l w hw _ s k (by omega)) gX5_keeps_X5_isIn rfl (by decide +kernel) (by decide) (by decide) rfl rfl (Nat.le_of_ble_eq_true rfl) dX5_keeps_49 (zb_k fun r49 Ω49 h49 => ?_)
        obtain ⟨rfl, hM49⟩ := h49
        obtain rfl := hM49.symm
        refine z_ifd_eq (pc := 52) hC 59 dX5_keeps_52 rfl (fun h52 => ?_) (fun h52 => ?_)
        · refine z_iconst (pc := 59) hC dX5_keeps_59 ?_
          refine z_iask (pc := 60) hC _ (44 + k) (by decide) (fun _ => rfl) (by omega) (by omega) (by decide) dX5_keeps_60 ?_
          refine z_iinc (pc := 61) hC (i := 3) dX5_keeps_61 rfl (by decide) rfl (zS_s (zS_s (zS_s zS_0))) ?_
          refine z_iinc (pc := 64) hC (i := 4) dX5_keeps_64 rfl (by decide) rfl (zS_s (zS_s (zS_s (zS_s zS_0)))) ?_
          refine z_goto (pc := 67) hC 15 dX5_keeps_67 rfl ?_
          have hst := RM.st (a := aSet a (sfR a.1 s k)) h (i := 44 + k) (v := 2) (by omega) ⟨by decide, by decide⟩ (scok_mk (scok_sfR hv0 s k) (by omega) (by decide) (by decide))
          have hrs := sfR_s a.1 s k (by rw [← hk44]; omega)
          rw [if_neg h52] at hrs
          rw [show (aSet a (sfR a.1 s k)).1 = (sfR a.1 s k) from rfl, hrs] at hst
          have hc : sfRc a.1 (k + 1) = sfRc a.1 k + 1 := by unfold sfRc; rw [sm_s, if_pos (by rw [← hk44]; omega)]
          have hh := ih (k + 1) _ (by omega) (by omega) hst.1 (hF.trans hst.2)
          rw [hc] at hh
          exact hh
        · refine z_iconst (pc := 55) hC dX5_keeps_55 ?_
          refine z_goto (pc := 56) hC 60 dX5_keeps_56 rfl ?_
          refine z_iask (pc := 60) hC _ (44 + k) (by decide) (fun _ => rfl) (by omega) (by omega) (by decide) dX5_keeps_60 ?_
          refine z_iinc (pc := 61) hC (i := 3) dX5_keeps_61 rfl (by decide) rfl (zS_s (zS_s (zS_s zS_0))) ?_
          refine z_iinc (pc := 64) hC (i := 4) dX5_keeps_64 rfl (by decide) rfl (zS_s (zS_s (zS_s (zS_s zS_0)))) ?_
          refine z_goto (pc := 67) hC 15 dX5_keeps_67 rfl ?_
          have hst := RM.st (a := aSet a (sfR a.1 s k)) h (i := 44 + k) (v := 1) (by omega) ⟨by decide, by decide⟩ (scok_mk (scok_sfR hv0 s k) (by omega) (by decide) (by decide))
          have hrs := sfR_s a.1 s k (by rw [← hk44]; omega)
          rw [if_pos h52] at hrs
          rw [show (aSet a (sfR a.1 s k)).1 = (sfR a.1 s k) from rfl, hrs] at hst
          have hc : sfRc a.1 (k + 1) = sfRc a.1 k + 1 := by unfold sfRc; rw [sm_s, if_pos (by rw [← hk44]; omega)]
          have hh := ih (k + 1) _ (by omega) (by omega) hst.1 (hF.trans hst.2)
          rw [hc] at hh
          exact hh
set_option maxHeartbeats 4000000 in
set_option maxRecDepth 100000 in
theorem c_X5_keeps (l : Launch) (w : zP) (hw : zOK w) (Ω : Mem) (a : As) (h : RM Ω a) : zM l w yX5_keeps wsX5_keeps 11 266 [.ref (wa w 49)] Ω (zi (fun r Ω1 => r = (aKeeps a).1 ∧ RM Ω1 (aKeeps a).2 ∧ frG Ω Ω1)) := by
  refine zM_of cX5_keeps 5 (some .int) RX5 [some (.ref (wa w 49)), none, none, none, none] hw (by decide +kernel) rfl rfl (Nat.le_of_ble_eq_true rfl) rfl (fun E hC => ?_)
  have hv := h.1.2
  have hσ := h.1.1
  have z0 : gt Ω 50 0 = a.1 0 := st_at hσ (by decide)
  have z1 : gt Ω 50 1 = a.1 1 := st_at hσ (by decide)
  have hN := sdots_le hv
  have hw01 := hv.1
  have hh01 := hv.2.1
  refine z_aload_n (pc := 0) hC (i := 0) dX5_keeps_0 rfl rfl ?_
  refine z_iconst (pc := 1) hC dX5_keeps_1 ?_
  refine z_callV (n := 1) (T := TX5) (N := 15) (ci := 5) (pc := 2) hC (c_X5_sideOf l w hw _ a.1 hσ hv h.2.2.2.2 0 (Or.inl rfl)) gX5_keeps_X5_sideOf rfl (by decide +kernel) (by decide) (by decide) rfl (by decide) (fun _ => rfl) rfl rfl (Nat.le_of_ble_eq_true rfl) dX5_keeps_2 (zl_k fun r2 Ω2 h2 => ?_)
  obtain ⟨hr2, hF2⟩ := h2
  rw [if_pos rfl] at hr2
  subst hr2
  obtain ⟨g1, g2⟩ := h.scr hF2
  refine z_lstore_n (pc := 5) hC (i := 1) dX5_keeps_5 rfl (by decide) rfl (zS2_s zS2_0) ?_
  refine z_iconst (pc := 6) hC dX5_keeps_6 ?_
  refine z_istore_n (pc := 7) hC (i := 3) dX5_keeps_7 rfl (by decide) rfl (zS_s (zS_s (zS_s zS_0))) ?_
  refine z_aload_n (pc := 8) hC (i := 0) dX5_keeps_8 rfl rfl ?_
  refine z_callV (n := 0) (T := TX5) (N := 15) (ci := 5) (pc := 9) hC (c_X5_leaves l w hw _ a g1) gX5_keeps_X5_leaves rfl (by decide +kernel) (by decide) (by decide) rfl (by decide) (fun _ => rfl) rfl rfl (Nat.le_of_ble_eq_true rfl) dX5_keeps_9 (zv_k fun Ω9 h9 => ?_)
  obtain ⟨hR, hfr⟩ := h9
  refine z_iconst (pc := 12) hC dX5_keeps_12 ?_
  refine z_istore (pc := 13) hC (i := 4) dX5_keeps_13 (by decide) rfl (zS_s (zS_s (zS_s (zS_s zS_0)))) ?_
  have hdd : ∀ k, (sdots a.1 : Int) = sfR a.1 (loS a.1) k 0 * sfR a.1 (loS a.1) k 1 := fun k => by rw [show sfR a.1 (loS a.1) k 0 = a.1 0 by (unfold sfR sfG; exact if_neg (by omega)), show sfR a.1 (loS a.1) k 1 = a.1 1 by (unfold sfR sfG; exact if_neg (by omega))]; exact hN.2.2
  refine L_X5_keeps_15 hw hC (loS a.1) (aRem a) hv Ω hN.2.1 hdd (fun Ω1 hR1 hf1 => ?_) (sdots a.1 + 1) 0 _ (by show sdots a.1 < _; omega) (by omega) (by rw [sfR_0]; exact hR) (g2.trans hfr)
  refine z_iload_n (pc := 70) hC (i := 3) dX5_keeps_70 rfl rfl ?_
  exact z_iret (pc := 71) hC rfl ⟨_, rfl, ok_retM rfl hR1 hf1⟩ dX5_keeps_71
