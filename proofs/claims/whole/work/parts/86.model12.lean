theorem lo_in {σ : Sg} {x : Int64} (h : isLo σ x) {k : Nat} (hk : k < sdots σ) : tb x k = true ↔ ∀ T, best σ T → T k = true := by rw [h k]; exact ⟨fun q => q.2, fun q => ⟨hk, q⟩⟩
theorem mn_ex {σ : Sg} {m : Int} (hm : mnW σ (om σ) m) : ∃ S, best σ S := by
  obtain ⟨⟨S, s1, s2⟩, s3⟩ := hm
  exact ⟨S, s1, fun T hT => by have := s3 T hT; rw [cW_om] at s2 this; omega⟩
theorem mark_mn {σ : Sg} (hv : scok σ) {n : Nat} {v m : Int} {H : Nat → Int} (hn : n < sdots σ) (hH : ∀ u, u < sdots σ → H u = σ (44 + u)) (hm : mnH σ (om σ) (fup H n v) m) : mn (sup σ (44 + n) v) m := by
  have hN := sdots_le hv
  obtain ⟨c1, c2, c3, c4, c5, c6⟩ := pic_cong (τ := sup σ (44 + n) v) (σ := σ) (fun i hi => if_neg (by omega))
  have em : ∀ u, u < sdots σ → fup H n v u = sup σ (44 + n) v (44 + u) := fun u hu => by
    by_cases q : u = n
    · subst q; rw [fup_s]; exact (if_pos rfl).symm
    · rw [fup_n _ _ q, hH u hu]; exact (if_neg (by omega)).symm
  have hok1 : ∀ S, hok (fup H n v) S (sdots σ) ↔ cnb (sup σ (44 + n) v) S = 0 := fun S => by
    rw [← c1]
    exact hok_cnb (fun u hu => em u (by rw [← c1]; exact hu)) S
  have hc : ∀ S, cW σ (om σ) S = cst (sup σ (44 + n) v) S := fun S => by
    rw [cW_om]
    unfold cst
    rw [c1]
    apply sm_cong
    intro u hu
    unfold cV
    rw [c6 u _ (by omega) (by split <;> omega)]
    congr 1
    apply sm_cong
    intro d hd
    unfold sLd
    rw [c3]
    by_cases q : lk σ u d ≠ -1 ∧ S u ≠ S (lk σ u d).toNat
    · obtain ⟨o, e1, e2, -⟩ := lk_inv hv hu hd q.1
      rw [if_pos q, if_pos q, e1, Int.toNat_natCast, c5 _ _ _ (by omega) (by omega)]
    · rw [if_neg q, if_neg q]
  obtain ⟨⟨S, s1, s2⟩, s3⟩ := hm
  exact ⟨⟨S, (hok1 S).mp s1, by rw [← hc]; exact s2⟩, fun T hT => by rw [← hc]; exact s3 T ((hok1 T).mpr hT)⟩
set_option maxHeartbeats 4000000 in
set_option maxRecDepth 100000 in
theorem c_X5_were (l : Launch) (w : zP) (hw : zOK w) (Ω : Mem) (a : As) (h : RM Ω a) (x y v : Int) (hx : zb x) (hy : zb y) (hz : zb v) : zM l w yX5_were wsX5_were 9 217 [.ref (wa w 49), .int (zI x), .int (zI y), .int (zI v)] Ω (zi (fun r Ω1 => r = (aWere a x y v).1 ∧ RM Ω1 (aWere a x y v).2 ∧ frG Ω Ω1)) := by
  refine zM_of cX5_were 4 (some .int) RX5 [some (.ref (wa w 49)), some (.int (zI x)), some (.int (zI y)), some (.int (zI v))] hw (by decide +kernel) rfl rfl (Nat.le_of_ble_eq_true rfl) rfl (fun E hC => ?_)
  have hv := h.1.2
  have hσ := h.1.1
  have z0 : gt Ω 50 0 = a.1 0 := st_at hσ (by decide)
  have z1 : gt Ω 50 1 = a.1 1 := st_at hσ (by decide)
  have hN := sdots_le hv
  have hw01 := hv.1
  have hh01 := hv.2.1
  have eω : omM a.1 Ω = om a.1 := omM_om h.2.2.2.2
  refine z_aload_n (pc := 0) hC (i := 0) dX5_were_0 rfl rfl ?_
  refine z_iload_n (pc := 1) hC (i := 1) dX5_were_1 rfl rfl ?_
  refine z_iload_n (pc := 2) hC (i := 2) dX5_were_2 rfl rfl ?_
  refine z_callV (n := 2) (T := TX5) (N := 15) (ci := 5) (pc := 3) hC (c_X5_isDot l w hw _ _ _ (by first | assumption | exact ⟨by omega, by omega⟩) (by first | assumption | exact ⟨by omega, by omega⟩) (by omega) (by omega)) gX5_were_X5_isDot rfl (by decide +kernel) (by decide) (by decide) rfl (by decide) (fun _ => rfl) rfl rfl (Nat.le_of_ble_eq_true rfl) dX5_were_3 (zb_k fun r3 Ω3 h3 => ?_)
  obtain ⟨rfl, hM3⟩ := h3
  obtain rfl := hM3.symm
  refine z_ifd_eq (pc := 6) hC 18 dX5_were_6 rfl (fun h6 => ?_) (fun h6 => ?_)
  · refine z_aload_n (pc := 18) hC (i := 0) dX5_were_18 rfl rfl ?_
    refine z_callV (n := 0) (T := TX5) (N := 15) (ci := 5) (pc := 19) hC (c_X5_bad l w hw _) gX5_were_X5_bad rfl (by decide +kernel) (by decide) (by decide) rfl (by decide) (fun _ => rfl) rfl rfl (Nat.le_of_ble_eq_true rfl) dX5_were_19 (zi_k fun r19 Ω19 h19 => ?_)
    obtain ⟨rfl, rfl⟩ := h19
    exact z_iret (pc := 22) hC rfl ⟨_, rfl, bad_retM h (if_neg (by unfold dIn; omega))⟩ dX5_were_22
  · refine z_iload_n (pc := 9) hC (i := 3) dX5_were_9 rfl rfl ?_
    refine z_iconst (pc := 10) hC dX5_were_10 ?_
    refine z_iconst (pc := 11) hC dX5_were_11 ?_
    refine z_callS (n := 3) (pc := 12) hC (c_X5_in l w hw _ _ _ _ (by first | assumption | exact zb_gt _ _ _ | exact zcmp_zb _ _ | exact bI_zb _ | exact ⟨by omega, by omega⟩) (by first | assumption | exact zb_gt _ _ _ | exact zcmp_zb _ _ | exact bI_zb _ | exact ⟨by omega, by omega⟩) (by first | assumption | exact zb_gt _ _ _ | exact zcmp_zb _ _ | exact bI_zb _ | exact ⟨by omega, by omega⟩)) gX5_were_X5_in rfl (by decide +kernel) (by decide) (by decide) rfl rfl (Nat.le_of_ble_eq_true rfl) dX5_were_12 (zb_k fun r12 Ω12 h12 => ?_)
    obtain ⟨rfl, hM12⟩ := h12
    obtain rfl := hM12.symm
    refine z_ifd_ne (pc := 15) hC 23 dX5_were_15 rfl (fun h15 => ?_) (fun h15 => ?_)
    · refine z_aload_n (pc := 23) hC (i := 0) dX5_were_23 rfl rfl ?_
      refine z_callV (n := 0) (T := TX5) (N := 15) (ci := 5) (pc := 24) hC (c_X5_holdsMarks l w hw _) gX5_were_X5_holdsMarks rfl (by decide +kernel) (by decide) (by decide) rfl (by decide) (fun _ => rfl) rfl rfl (Nat.le_of_ble_eq_true rfl) dX5_were_24 (zv_k fun Ω24 h24 => ?_)
      subst h24
      obtain ⟨hn1, hn2⟩ := nO_lt hv (x := x) (y := y) (by unfold dIn; omega)
      have hb : ∀ t, t < 36 → gt (brg Ω 50 54 44 0 36) 54 t = a.1 (44 + t) := fun t ht => by rw [brg_at _ _ _ _ _ _ (Nat.zero_le t) (by omega), Nat.sub_zero]; exact st_at hσ (by omega)
      have eω1 : omM a.1 (brg Ω 50 54 44 0 36) = om a.1 := (omM_fr (brg_n _ _ _ _ _ (by decide))).trans eω
      have z01 : gt (brg Ω 50 54 44 0 36) 50 0 = a.1 0 := (gt_fr (brg_n _ _ _ _ _ (by decide)) 0).trans z0
      have hvm : scok (sup a.1 (44 + nO a.1 x y) v) := scok_mk hv (by omega) (by omega) (by omega)
      obtain ⟨c1, c2, c3, c4, c5, c6⟩ := pic_cong (τ := sup a.1 (44 + nO a.1 x y) v) (σ := a.1) (fun i hi => if_neg (by omega))
      refine z_aload_n (pc := 27) hC (i := 0) dX5_were_27 rfl rfl ?_
      refine z_aload_n (pc := 28) hC (i := 0) dX5_were_28 rfl rfl ?_
      refine z_iload_n (pc := 29) hC (i := 1) dX5_were_29 rfl rfl ?_
      refine z_iload_n (pc := 30) hC (i := 2) dX5_were_30 rfl rfl ?_
      refine z_callV (n := 2) (T := TX5) (N := 15) (ci := 5) (pc := 31) hC (c_X5_numberOf l w hw _ _ _) gX5_were_X5_numberOf rfl (by decide +kernel) (by decide) (by decide) rfl (by decide) (fun _ => rfl) rfl rfl (Nat.le_of_ble_eq_true rfl) dX5_were_31 (zi_k fun r31 Ω31 h31 => ?_)
      obtain ⟨hr31, hm31⟩ := h31
      have hm31 := hm31.symm
      subst hm31
      rw [z01, hn1] at hr31
      subst hr31
      refine z_iload_n (pc := 34) hC (i := 3) dX5_were_34 rfl rfl ?_
      refine z_callV (n := 2) (T := TX5) (N := 15) (ci := 5) (pc := 35) hC (c_X5_costWith l w hw _ a.1 ((scM_cong (brg_n _ _ _ _ _ (by decide))).trans hσ) hv (by rw [eω1]; exact om_ok hv) (fun u hu => by rw [hb u (by omega)]; exact hv.2.2.2.2.2.2.2.2.2 u (by omega)) (nO a.1 x y) hn2 v (by assumption) (by omega)) gX5_were_X5_costWith rfl (by decide +kernel) (by decide) (by decide) rfl (by decide) (fun _ => rfl) rfl rfl (Nat.le_of_ble_eq_true rfl) dX5_were_35 (zi_k fun r35 Ω35 h35 => ?_)
      obtain ⟨hm35, hH35, hF35⟩ := h35
      rw [eω1] at hm35
      obtain ⟨g1, g2⟩ := h.scr (Ω1 := Ω35) (fun q u1 u2 u3 => by rw [hF35 q u1 u2 u3]; exact brg_n _ _ _ _ _ u1)
      have hmn : mn (sup a.1 (44 + nO a.1 x y) v) r35 := mark_mn hv hn2 (fun u hu => hb u (by omega)) hm35
      exact z_iret (pc := 38) hC rfl ⟨_, rfl, by rw [lcV_eq hmn]; exact ok_retM (if_pos ⟨by unfold dIn; omega, by omega⟩) g1 g2⟩ dX5_were_38
    · refine z_aload_n (pc := 18) hC (i := 0) dX5_were_18 rfl rfl ?_
      refine z_callV (n := 0) (T := TX5) (N := 15) (ci := 5) (pc := 19) hC (c_X5_bad l w hw _) gX5_were_X5_bad rfl (by decide +kernel) (by decide) (by decide) rfl (by decide) (fun _ => rfl) rfl rfl (Nat.le_of_ble_eq_true rfl) dX5_were_19 (zi_k fun r19 Ω19 h19 => ?_)
      obtain ⟨rfl, rfl⟩ := h19
      exact z_iret (pc := 22) hC rfl ⟨_, rfl, bad_retM h (if_neg (by unfold dIn; omega))⟩ dX5_were_22
