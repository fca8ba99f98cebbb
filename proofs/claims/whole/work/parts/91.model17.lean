set_option maxHeartbeats 4000000 in
set_option maxRecDepth 100000 in
theorem c_X5_sure (l : Launch) (w : zP) (hw : zOK w) (Ω : Mem) (a : As) (h : RM Ω a) (x y : Int) (hx : zb x) (hy : zb y) : zM l w yX5_sure wsX5_sure 10 240 [.ref (wa w 49), .int (zI x), .int (zI y)] Ω (zi (fun r Ω1 => r = (aSure a x y).1 ∧ RM Ω1 (aSure a x y).2 ∧ frG Ω Ω1)) := by
  refine zM_of cX5_sure 6 (some .int) RX5 [some (.ref (wa w 49)), some (.int (zI x)), some (.int (zI y)), none, none, none] hw (by decide +kernel) rfl rfl (Nat.le_of_ble_eq_true rfl) rfl (fun E hC => ?_)
  have hv := h.1.2
  have hσ := h.1.1
  have z0 : gt Ω 50 0 = a.1 0 := st_at hσ (by decide)
  have z1 : gt Ω 50 1 = a.1 1 := st_at hσ (by decide)
  have hN := sdots_le hv
  have hw01 := hv.1
  have hh01 := hv.2.1
  have eω : omM a.1 Ω = om a.1 := omM_om h.2.2.2.2
  refine z_aload_n (pc := 0) hC (i := 0) dX5_sure_0 rfl rfl ?_
  refine z_iload_n (pc := 1) hC (i := 1) dX5_sure_1 rfl rfl ?_
  refine z_iload_n (pc := 2) hC (i := 2) dX5_sure_2 rfl rfl ?_
  refine z_callV (n := 2) (T := TX5) (N := 15) (ci := 5) (pc := 3) hC (c_X5_isDot l w hw _ _ _ (by first | assumption | exact ⟨by omega, by omega⟩) (by first | assumption | exact ⟨by omega, by omega⟩) (by omega) (by omega)) gX5_sure_X5_isDot rfl (by decide +kernel) (by decide) (by decide) rfl (by decide) (fun _ => rfl) rfl rfl (Nat.le_of_ble_eq_true rfl) dX5_sure_3 (zb_k fun r3 Ω3 h3 => ?_)
  obtain ⟨rfl, hM3⟩ := h3
  obtain rfl := hM3.symm
  refine z_ifd_ne (pc := 6) hC 14 dX5_sure_6 rfl (fun h6 => ?_) (fun h6 => ?_)
  · refine z_aload_n (pc := 14) hC (i := 0) dX5_sure_14 rfl rfl ?_
    refine z_callV (n := 0) (T := TX5) (N := 15) (ci := 5) (pc := 15) hC (c_X5_bestCost l w hw _ a.1 hσ hv (by rw [eω]; exact om_ok hv)) gX5_sure_X5_bestCost rfl (by decide +kernel) (by decide) (by decide) rfl (by decide) (fun _ => rfl) rfl rfl (Nat.le_of_ble_eq_true rfl) dX5_sure_15 (zi_k fun r15 Ω15 h15 => ?_)
    obtain ⟨hm15, hH15, hF15⟩ := h15
    rw [eω] at hm15
    obtain ⟨f1, f2⟩ := frH hF15 a.1
    have hH1N : ∀ u, u < sdots a.1 → gt Ω15 54 u = a.1 (44 + u) := fun u hu => hH15 u (by omega)
    have hH2 : ∀ u, u < sdots a.1 → 0 ≤ gt Ω15 54 u ∧ gt Ω15 54 u ≤ 2 := fun u hu => by rw [hH1N u hu]; exact hv.2.2.2.2.2.2.2.2.2 u (by omega)
    have z015 : gt Ω15 50 0 = a.1 0 := (gt_fr (hF15 50 (by decide) (by decide) (by decide)) 0).trans z0
    obtain ⟨sv0, sv2, sv1⟩ := sure_v hv hH1N hm15 (v := nO a.1 x y) (nO_lt hv (by unfold dIn; omega)).2
    have hmH : mnH a.1 (om a.1) (gt Ω15 54) r15 := (mnH_W hH1N).mpr hm15
    have i1 : Decidable (mayP a.1 (omM a.1 Ω15) (gt Ω15 54) r15 (nO a.1 x y) 1) := Classical.propDecidable _
    refine z_istore_n (pc := 18) hC (i := 3) dX5_sure_18 rfl (by decide) rfl (zS_s (zS_s (zS_s zS_0))) ?_
    refine z_aload_n (pc := 19) hC (i := 0) dX5_sure_19 rfl rfl ?_
    refine z_iload_n (pc := 20) hC (i := 1) dX5_sure_20 rfl rfl ?_
    refine z_iload_n (pc := 21) hC (i := 2) dX5_sure_21 rfl rfl ?_
    refine z_callV (n := 2) (T := TX5) (N := 15) (ci := 5) (pc := 22) hC (c_X5_numberOf l w hw _ _ _) gX5_sure_X5_numberOf rfl (by decide +kernel) (by decide) (by decide) rfl (by decide) (fun _ => rfl) rfl rfl (Nat.le_of_ble_eq_true rfl) dX5_sure_22 (zi_k fun r22 Ω22 h22 => ?_)
    obtain ⟨hr22, hm22⟩ := h22
    have hm22 := hm22.symm
    subst hm22
    obtain ⟨hn1, hn2⟩ := nO_lt hv (x := x) (y := y) (by unfold dIn; omega)
    rw [z015, hn1] at hr22
    subst hr22
    refine z_istore (pc := 25) hC (i := 4) dX5_sure_25 (by decide) rfl (zS_s (zS_s (zS_s (zS_s zS_0)))) ?_
    refine z_aload_n (pc := 27) hC (i := 0) dX5_sure_27 rfl rfl ?_
    refine z_iload (pc := 28) hC (i := 4) dX5_sure_28 rfl ?_
    refine z_iconst (pc := 30) hC dX5_sure_30 ?_
    refine z_iload_n (pc := 31) hC (i := 3) dX5_sure_31 rfl rfl ?_
    refine z_callV (n := 3) (T := TX5) (N := 15) (ci := 5) (pc := 32) hC (@c_X5_mayBe l w hw _ a.1 (f1.trans hσ) hv (by rw [f2, eω]; exact om_ok hv) hH2 (nO a.1 x y) hn2 1 r15 (by omega) (by rw [f2, eω]; exact hmH) i1) gX5_sure_X5_mayBe rfl (by decide +kernel) (by decide) (by decide) rfl (by decide) (fun _ => rfl) rfl rfl (Nat.le_of_ble_eq_true rfl) dX5_sure_32 (zb_k fun r32 Ω32 h32 => ?_)
    obtain ⟨rfl, hH32, hF32⟩ := h32
    obtain ⟨k1, k2⟩ := frH hF32 a.1
    have i2 : Decidable (mayP a.1 (omM a.1 Ω32) (gt Ω32 54) r15 (nO a.1 x y) 2) := Classical.propDecidable _
    refine z_istore (pc := 35) hC (i := 5) dX5_sure_35 (by decide) rfl (zS_s (zS_s (zS_s (zS_s (zS_s zS_0))))) ?_
    refine z_iload (pc := 37) hC (i := 5) dX5_sure_37 rfl ?_
    refine z_ifd_ne (pc := 39) hC 46 dX5_sure_39 rfl (fun h39 => ?_) (fun h39 => ?_)
    · have hS1 : mayP a.1 (om a.1) (gt Ω15 54) r15 (nO a.1 x y) 1 := by rw [f2, eω] at h39; exact h39
      refine z_aload_n (pc := 46) hC (i := 0) dX5_sure_46 rfl rfl ?_
      refine z_iload (pc := 47) hC (i := 4) dX5_sure_47 rfl ?_
      refine z_iconst (pc := 49) hC dX5_sure_49 ?_
      refine z_iload_n (pc := 50) hC (i := 3) dX5_sure_50 rfl rfl ?_
      refine z_callV (n := 3) (T := TX5) (N := 15) (ci := 5) (pc := 51) hC (@c_X5_mayBe l w hw _ a.1 ((k1.trans f1).trans hσ) hv (by rw [k2, f2, eω]; exact om_ok hv) (by rw [hH32]; exact hH2) (nO a.1 x y) hn2 2 r15 (by omega) (by rw [k2, f2, eω, hH32]; exact hmH) i2) gX5_sure_X5_mayBe rfl (by decide +kernel) (by decide) (by decide) rfl (by decide) (fun _ => rfl) rfl rfl (Nat.le_of_ble_eq_true rfl) dX5_sure_51 (zb_k fun r51 Ω51 h51 => ?_)
      obtain ⟨rfl, hH51, hF51⟩ := h51
      refine z_ifd_eq (pc := 54) hC 61 dX5_sure_54 rfl (fun h54 => ?_) (fun h54 => ?_)
      · refine z_iconst (pc := 61) hC dX5_sure_61 ?_
        exact z_iret (pc := 62) hC rfl ⟨_, rfl, by
      obtain ⟨g1, g2⟩ := h.scr (fun q u1 u2 u3 => (hF51 q u1 u2 u3).trans ((hF32 q u1 u2 u3).trans (hF15 q u1 u2 u3)))
      exact ok_retM (by unfold aSure; rw [if_pos (by unfold dIn; omega), sv1 hS1 (by rw [k2, f2, eω, hH32] at h54; exact h54)]) g1 g2⟩ dX5_sure_62
      · refine z_iconst (pc := 57) hC dX5_sure_57 ?_
        refine z_goto (pc := 58) hC 62 dX5_sure_58 rfl ?_
        exact z_iret (pc := 62) hC rfl ⟨_, rfl, by
      obtain ⟨g1, g2⟩ := h.scr (fun q u1 u2 u3 => (hF51 q u1 u2 u3).trans ((hF32 q u1 u2 u3).trans (hF15 q u1 u2 u3)))
      exact ok_retM (by unfold aSure; rw [if_pos (by unfold dIn; omega), sv2 hS1 (by rw [k2, f2, eω, hH32] at h54; exact h54)]) g1 g2⟩ dX5_sure_62
    · have hS1 : ¬ mayP a.1 (om a.1) (gt Ω15 54) r15 (nO a.1 x y) 1 := by rw [f2, eω] at h39; exact h39
      refine z_iconst (pc := 42) hC dX5_sure_42 ?_
      refine z_goto (pc := 43) hC 62 dX5_sure_43 rfl ?_
      exact z_iret (pc := 62) hC rfl ⟨_, rfl, by
      obtain ⟨g1, g2⟩ := h.scr (fun q u1 u2 u3 => (hF32 q u1 u2 u3).trans (hF15 q u1 u2 u3))
      exact ok_retM (by unfold aSure; rw [if_pos (by unfold dIn; omega), sv0 hS1]) g1 g2⟩ dX5_sure_62
  · refine z_aload_n (pc := 9) hC (i := 0) dX5_sure_9 rfl rfl ?_
    refine z_callV (n := 0) (T := TX5) (N := 15) (ci := 5) (pc := 10) hC (c_X5_bad l w hw _) gX5_sure_X5_bad rfl (by decide +kernel) (by decide) (by decide) rfl (by decide) (fun _ => rfl) rfl rfl (Nat.le_of_ble_eq_true rfl) dX5_sure_10 (zi_k fun r10 Ω10 h10 => ?_)
    obtain ⟨rfl, rfl⟩ := h10
    exact z_iret (pc := 13) hC rfl ⟨_, rfl, bad_retM h (if_neg (by unfold dIn; omega))⟩ dX5_sure_13
