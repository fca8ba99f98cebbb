theorem hok_cnb {σ : Sg} {H : Nat → Int} (h : ∀ u, u < sdots σ → H u = σ (44 + u)) (S : Nat → Bool) : hok H S (sdots σ) ↔ cnb σ S = 0 := by
  constructor
  · intro hS
    apply sm_z
    intro v hv
    have := hS v hv
    rw [h v hv] at this
    exact if_neg this
  · intro e u hu
    have := sm_z_inv (f := bad σ S) (n := sdots σ) (fun k _ => (bad_b σ S k).1) e u hu
    rw [h u hu]
    intro q
    rw [show bad σ S u = 1 from if_pos q] at this
    omega
theorem mnH_W {σ : Sg} {ω : Nat → Nat → Int} {H : Nat → Int} (h : ∀ u, u < sdots σ → H u = σ (44 + u)) {m : Int} : mnH σ ω H m ↔ mnW σ ω m := by
  unfold mnH mnW
  simp only [hok_cnb h]
theorem mnH_b {σ : Sg} (h : scok σ) {ω : Nat → Nat → Int} (hω : omok σ ω) {H : Nat → Int} {m : Int} (hm : mnH σ ω H m) : 0 ≤ m ∧ m ≤ 17172 := by
  obtain ⟨⟨S, -, e⟩, -⟩ := hm
  rw [← e]
  exact cW_b h hω S
theorem hok_fup {H : Nat → Int} {S : Nat → Bool} {N v : Nat} {x : Int} (hv : v < N) (hx : x = 1 ∨ x = 2) (hH : H v = 0 ∨ H v = x) : hok (fup H v x) S N ↔ hok H S N ∧ S v = decide (x = 1) := by
  constructor
  · intro h
    have hvv := h v hv
    rw [fup_s] at hvv
    have e : S v = decide (x = 1) := by
      cases c : S v
      · rw [c] at hvv
        simp at hvv
        symm; exact decide_eq_false hvv
      · rw [c] at hvv
        simp at hvv
        symm; exact decide_eq_true (by omega)
    refine ⟨fun u hu => ?_, e⟩
    by_cases q : u = v
    · subst q
      rcases hH with z | z
      · rw [z]; split <;> omega
      · rw [z]; exact hvv
    · have := h u hu
      rw [fup_n _ _ q] at this
      exact this
  · rintro ⟨h, e⟩ u hu
    by_cases q : u = v
    · subst q
      rw [fup_s, e]
      rcases hx with rfl | rfl
      · decide
      · decide
    · rw [fup_n _ _ q]; exact h u hu
/-- whether some best one lies so at a dot -/
def mayP (σ : Sg) (ω : Nat → Nat → Int) (H : Nat → Int) (m : Int) (v : Nat) (x : Int) : Prop := ∃ S, hok H S (sdots σ) ∧ cW σ ω S = m ∧ S v = decide (x = 1)
theorem mayP_iff {σ : Sg} {ω : Nat → Nat → Int} {H : Nat → Int} {m r : Int} {v : Nat} {x : Int} (hm : mnH σ ω H m) (hv : v < sdots σ) (hx : x = 1 ∨ x = 2) (hH : H v = 0 ∨ H v = x) (hr : mnH σ ω (fup H v x) r) : r = m ↔ mayP σ ω H m v x := by
  obtain ⟨⟨S, s1, s2⟩, s3⟩ := hr
  obtain ⟨⟨T, t1, t2⟩, t3⟩ := hm
  rw [hok_fup hv hx hH] at s1
  constructor
  · intro e
    exact ⟨S, s1.1, by omega, s1.2⟩
  · rintro ⟨U, u1, u2, u3⟩
    have := s3 U ((hok_fup hv hx hH).mpr ⟨u1, u3⟩)
    have := t3 S s1.1
    omega
theorem mayP_no {σ : Sg} {ω : Nat → Nat → Int} {H : Nat → Int} {m : Int} {v : Nat} {x : Int} (hv : v < sdots σ) (hx : x = 1 ∨ x = 2) (hH : H v = 3 - x) : ¬ mayP σ ω H m v x := by
  rintro ⟨S, s1, -, s3⟩
  have := s1 v hv
  rw [hH, s3] at this
  rcases hx with rfl | rfl
  · exact this rfl
  · exact this rfl
theorem frH {Ω Ω1 : Mem} (h : ∀ q, q ≠ 54 → q ≠ 55 → q ≠ 56 → Ω1 q = Ω q) (σ : Sg) : scM Ω1 = scM Ω ∧ omM σ Ω1 = omM σ Ω := ⟨scM_cong (h 50 (by decide) (by decide) (by decide)), omM_fr (h 49 (by decide) (by decide) (by decide))⟩
theorem fl_X5_holdsMarks_7 : Cond.fieldLink RX5 7 "StrokeCutsModel" "st" "[I" ∈ wsX5_holdsMarks := by decide +kernel
theorem in_X5_holdsMarks_X5 : ∀ x ∈ u_ws RX5 TX5 15, x ∈ wsX5_holdsMarks := by decide +kernel
theorem fl_X5_holdsMarks_26 : Cond.fieldLink RX5 26 "StrokeCutsModel" "held" "[I" ∈ wsX5_holdsMarks := by decide +kernel
set_option maxHeartbeats 4000000 in
set_option maxRecDepth 100000 in
theorem c_X5_holdsMarks (l : Launch) (w : zP) (hw : zOK w) (Ω : Mem) : zM l w yX5_holdsMarks wsX5_holdsMarks 1 25 [.ref (wa w 49)] Ω (zvo (fun Ω1 => Ω1 = brg Ω 50 54 44 0 36)) := by
  refine zM_of cX5_holdsMarks 1 none RX5 [some (.ref (wa w 49))] hw (by decide +kernel) rfl rfl (Nat.le_of_ble_eq_true rfl) rfl (fun E hC => ?_)
  refine z_aload_n (pc := 0) hC (i := 0) dX5_holdsMarks_0 rfl rfl ?_
  refine z_getR (C := RX5) (T := TX5) (N := 15) (ci := 5) (pc := 1) hC _ _ 0 in_X5_holdsMarks_X5 rfl (by decide) (fun _ => rfl) (by decide) fl_X5_holdsMarks_7 (fun _ => rfl) dX5_holdsMarks_1 ?_
  refine z_bipush (pc := 4) hC dX5_holdsMarks_4 rfl ?_
  refine z_aload_n (pc := 6) hC (i := 0) dX5_holdsMarks_6 rfl rfl ?_
  refine z_getR (C := RX5) (T := TX5) (N := 15) (ci := 5) (pc := 7) hC _ _ 8 in_X5_holdsMarks_X5 rfl (by decide) (fun _ => rfl) (by decide) fl_X5_holdsMarks_26 (fun _ => rfl) dX5_holdsMarks_7 ?_
  refine z_iconst (pc := 10) hC dX5_holdsMarks_10 ?_
  refine z_bipush (pc := 11) hC dX5_holdsMarks_11 rfl ?_
  refine z_callS (n := 5) (pc := 13) hC (c_X5_bring l w hw _ 50 54 80 36 44 0 36 (by decide) (by decide) (fun _ => rfl) (fun _ => rfl) (by decide) (by decide) (by decide) (by decide) (Or.inl (by decide))) gX5_holdsMarks_X5_bring rfl (by decide +kernel) (by decide) (by decide) rfl rfl (Nat.le_of_ble_eq_true rfl) dX5_holdsMarks_13 (zv_k fun Ω13 h13 => ?_)
  subst h13
  exact z_vret (pc := 16) hC rfl ⟨rfl, rfl⟩ dX5_holdsMarks_16
theorem fl_X5_costWith_26 : Cond.fieldLink RX5 26 "StrokeCutsModel" "held" "[I" ∈ wsX5_costWith := by decide +kernel
theorem in_X5_costWith_X5 : ∀ x ∈ u_ws RX5 TX5 15, x ∈ wsX5_costWith := by decide +kernel
set_option maxHeartbeats 4000000 in
set_option maxRecDepth 100000 in
theorem c_X5_costWith (l : Launch) (w : zP) (hw : zOK w) (Ω : Mem) (σ : Sg) (hσ : scM Ω = σ) (hv : scok σ) (hω : omok σ (omM σ Ω)) (hH : ∀ u, u < sdots σ → 0 ≤ gt Ω 54 u ∧ gt Ω 54 u ≤ 2) (v : Nat) (hvN : v < sdots σ) (x : Int) (hx : zb x) (hx0 : 0 ≤ x ∧ x ≤ 2) : zM l w yX5_costWith wsX5_costWith 8 193 [.ref (wa w 49), .int (zI (v : Int)), .int (zI x)] Ω (zi (fun r Ω1 => mnH σ (omM σ Ω) (fup (gt Ω 54) v x) r ∧ gt Ω1 54 = gt Ω 54 ∧ ∀ q, q ≠ 54 → q ≠ 55 → q ≠ 56 → Ω1 q = Ω q)) := by
  refine zM_of cX5_costWith 5 (some .int) RX5 [some (.ref (wa w 49)), some (.int (zI (v : Int))), some (.int (zI x)), none, none] hw (by decide +kernel) rfl rfl (Nat.le_of_ble_eq_true rfl) rfl (fun E hC => ?_)
  have hN := sdots_le hv
  refine z_aload_n (pc := 0) hC (i := 0) dX5_costWith_0 rfl rfl ?_
  refine z_getR (C := RX5) (T := TX5) (N := 15) (ci := 5) (pc := 1) hC _ _ 8 in_X5_costWith_X5 rfl (by decide) (fun _ => rfl) (by decide) fl_X5_costWith_26 (fun _ => rfl) dX5_costWith_1 ?_
  refine z_iload_n (pc := 4) hC (i := 1) dX5_costWith_4 rfl rfl ?_
  refine z_ialk (pc := 5) hC _ v (by decide) (fun _ => rfl) rfl (by omega) (by decide) dX5_costWith_5 ?_
  refine z_istore_n (pc := 6) hC (i := 3) dX5_costWith_6 rfl (by decide) rfl (zS_s (zS_s (zS_s zS_0))) ?_
  refine z_aload_n (pc := 7) hC (i := 0) dX5_costWith_7 rfl rfl ?_
  refine z_getR (C := RX5) (T := TX5) (N := 15) (ci := 5) (pc := 8) hC _ _ 8 in_X5_costWith_X5 rfl (by decide) (fun _ => rfl) (by decide) fl_X5_costWith_26 (fun _ => rfl) dX5_costWith_8 ?_
  refine z_iload_n (pc := 11) hC (i := 1) dX5_costWith_11 rfl rfl ?_
  refine z_iload_n (pc := 12) hC (i := 2) dX5_costWith_12 rfl rfl ?_
  refine z_iask (pc := 13) hC _ v (by decide) (fun _ => rfl) rfl (by omega) (by decide) dX5_costWith_13 ?_
  have eω : omM σ (ups Ω 54 v x) = omM σ Ω := omM_fr (ups_n _ _ _ (by decide))
  have hH1 : ∀ u, u < sdots σ → 0 ≤ fup (gt Ω 54) v x u ∧ fup (gt Ω 54) v x u ≤ 2 := fun u hu => by
    by_cases e : u = v
    · subst e; rw [fup_s]; omega
    · rw [fup_n _ _ e]; exact hH u hu
  refine z_aload_n (pc := 14) hC (i := 0) dX5_costWith_14 rfl rfl ?_
  refine z_callV (n := 0) (T := TX5) (N := 15) (ci := 5) (pc := 15) hC (c_X5_leastCost l w hw _ σ hv ((scM_cong (ups_n _ _ _ (by decide))).trans hσ) (fup (gt Ω 54) v x) hH1 (by rw [eω]; exact hω) (gt_fup _ _ _ hx)) gX5_costWith_X5_leastCost rfl (by decide +kernel) (by decide) (by decide) rfl (by decide) (fun _ => rfl) rfl rfl (Nat.le_of_ble_eq_true rfl) dX5_costWith_15 (zi_k fun r15 Ω15 h15 => ?_)
  obtain ⟨hm15, hF15⟩ := h15
  have hM : ∀ q, q ≠ 54 → q ≠ 55 → q ≠ 56 → ups Ω15 54 v (gt Ω 54 v) q = Ω q := fun q h1 h2 h3 => by rw [ups_n _ _ _ h1, hF15 q h2 h3, ups_n _ _ _ h1]
  have h54 : gt (ups Ω15 54 v (gt Ω 54 v)) 54 = gt Ω 54 := by
    rw [gt_fup _ _ _ (zb_gt _ _ _), show gt Ω15 54 = gt (ups Ω 54 v x) 54 from funext fun t => gt_fr (hF15 54 (by decide) (by decide)) t, gt_fup _ _ _ hx]
    funext t
    by_cases e : t = v
    · subst e; rw [fup_s]
    · rw [fup_n _ _ e, fup_n _ _ e]
  rw [eω] at hm15
  refine z_istore (pc := 18) hC (i := 4) dX5_costWith_18 (by decide) rfl (zS_s (zS_s (zS_s (zS_s zS_0)))) ?_
  refine z_aload_n (pc := 20) hC (i := 0) dX5_costWith_20 rfl rfl ?_
  refine z_getR (C := RX5) (T := TX5) (N := 15) (ci := 5) (pc := 21) hC _ _ 8 in_X5_costWith_X5 rfl (by decide) (fun _ => rfl) (by decide) fl_X5_costWith_26 (fun _ => rfl) dX5_costWith_21 ?_
  refine z_iload_n (pc := 24) hC (i := 1) dX5_costWith_24 rfl rfl ?_
  refine z_iload_n (pc := 25) hC (i := 3) dX5_costWith_25 rfl rfl ?_
  refine z_iask (pc := 26) hC _ v (by decide) (fun _ => rfl) rfl (by omega) (by decide) dX5_costWith_26 ?_
  refine z_iload (pc := 27) hC (i := 4) dX5_costWith_27 rfl ?_
  exact z_iret (pc := 29) hC rfl ⟨_, rfl, ⟨hm15, h54, hM⟩⟩ dX5_costWith_29
set_option maxHeartbeats 4000000 in
set_option maxRecDepth 100000 in
theorem c_X5_bestCost (l : Launch) (w : zP) (hw : zOK w) (Ω : Mem) (σ : Sg) (hσ : scM Ω = σ) (hv : scok σ) (hω : omok σ (omM σ Ω)) : zM l w yX5_bestCost wsX5_bestCost 8 193 [.ref (wa w 49)] Ω (zi (fun r Ω1 => mnW σ (omM σ Ω) r ∧ (∀ t, t < 36 → gt Ω1 54 t = σ (44 + t)) ∧ ∀ q, q ≠ 54 → q ≠ 55 → q ≠ 56 → Ω1 q = Ω q)) := by
  refine zM_of cX5_bestCost 1 (some .int) RX5 [some (.ref (wa w 49))] hw (by decide +kernel) rfl rfl (Nat.le_of_ble_eq_true rfl) rfl (fun E hC => ?_)
  refine z_aload_n (pc := 0) hC (i := 0) dX5_bestCost_0 rfl rfl ?_
  refine z_callV (n := 0) (T := TX5) (N := 15) (ci := 5) (pc := 1) hC (c_X5_holdsMarks l w hw _) gX5_bestCost_X5_holdsMarks rfl (by decide +kernel) (by decide) (by decide) rfl (by decide) (fun _ => rfl) rfl rfl (Nat.le_of_ble_eq_true rfl) dX5_bestCost_1 (zv_k fun Ω1 h1 => ?_)
  subst h1
  have hN := sdots_le hv
  have hb : ∀ t, t < 36 → gt (brg Ω 50 54 44 0 36) 54 t = σ (44 + t) := fun t ht => by rw [brg_at _ _ _ _ _ _ (Nat.zero_le t) (by omega), Nat.sub_zero]; exact st_at hσ (by omega)
  have eω : omM σ (brg Ω 50 54 44 0 36) = omM σ Ω := omM_fr (brg_n _ _ _ _ _ (by decide))
  refine z_aload_n (pc := 4) hC (i := 0) dX5_bestCost_4 rfl rfl ?_
  refine z_callV (n := 0) (T := TX5) (N := 15) (ci := 5) (pc := 5) hC (c_X5_leastCost l w hw _ σ hv ((scM_cong (brg_n _ _ _ _ _ (by decide))).trans hσ) (gt (brg Ω 50 54 44 0 36) 54) (fun u hu => by rw [hb u (by omega)]; exact hv.2.2.2.2.2.2.2.2.2 u (by omega)) (by rw [eω]; exact hω) rfl) gX5_bestCost_X5_leastCost rfl (by decide +kernel) (by decide) (by decide) rfl (by decide) (fun _ => rfl) rfl rfl (Nat.le_of_ble_eq_true rfl) dX5_bestCost_5 (zi_k fun r5 Ω5 h5 => ?_)
  obtain ⟨hm5, hF5⟩ := h5
  rw [eω] at hm5
  exact z_iret (pc := 8) hC rfl ⟨_, rfl, ⟨(mnH_W (fun u hu => hb u (by omega))).mp hm5, fun t ht => by rw [gt_fr (hF5 54 (by decide) (by decide))]; exact hb t ht, fun q h1 h2 h3 => by rw [hF5 q h2 h3]; exact brg_n _ _ _ _ _ h1⟩⟩ dX5_bestCost_8

theorem fl_X5_mayBe_26 : Cond.fieldLink RX5 26 "StrokeCutsModel" "held" "[I" ∈ wsX5_mayBe := by decide +kernel
theorem in_X5_mayBe_X5 : ∀ x ∈ u_ws RX5 TX5 15, x ∈ wsX5_mayBe := by decide +kernel
set_option maxHeartbeats 4000000 in
set_option maxRecDepth 100000 in
theorem c_X5_mayBe (l : Launch) (w : zP) (hw : zOK w) (Ω : Mem) (σ : Sg) (hσ : scM Ω = σ) (hv : scok σ) (hω : omok σ (omM σ Ω)) (hH : ∀ u, u < sdots σ → 0 ≤ gt Ω 54 u ∧ gt Ω 54 u ≤ 2) (v : Nat) (hvN : v < sdots σ) (x mm : Int) (hx : x = 1 ∨ x = 2) (hm : mnH σ (omM σ Ω) (gt Ω 54) mm) [Decidable (mayP σ (omM σ Ω) (gt Ω 54) mm v x)] : zM l w yX5_mayBe wsX5_mayBe 9 217 [.ref (wa w 49), .int (zI (v : Int)), .int (zI x), .int (zI mm)] Ω (zbo (fun b Ω1 => b = decide (mayP σ (omM σ Ω) (gt Ω 54) mm v x) ∧ gt Ω1 54 = gt Ω 54 ∧ ∀ q, q ≠ 54 → q ≠ 55 → q ≠ 56 → Ω1 q = Ω q)) := by
  refine zM_of cX5_mayBe 4 (some .boolean) RX5 [some (.ref (wa w 49)), some (.int (zI (v : Int))), some (.int (zI x)), some (.int (zI mm))] hw (by decide +kernel) rfl rfl (Nat.le_of_ble_eq_true rfl) rfl (fun E hC => ?_)
  have hN := sdots_le hv
  have hHv := hH v hvN
  have hmb := mnH_b hv hω hm
  refine z_aload_n (pc := 0) hC (i := 0) dX5_mayBe_0 rfl rfl ?_
  refine z_getR (C := RX5) (T := TX5) (N := 15) (ci := 5) (pc := 1) hC _ _ 8 in_X5_mayBe_X5 rfl (by decide) (fun _ => rfl) (by decide) fl_X5_mayBe_26 (fun _ => rfl) dX5_mayBe_1 ?_
  refine z_iload_n (pc := 4) hC (i := 1) dX5_mayBe_4 rfl rfl ?_
  refine z_ialk (pc := 5) hC _ v (by decide) (fun _ => rfl) rfl (by omega) (by decide) dX5_mayBe_5 ?_
  refine z_if_eq (pc := 6) hC 19 (by first | assumption | exact zb_gt _ _ _ | exact zcmp_zb _ _ | exact bI_zb _ | exact ⟨by omega, by omega⟩) dX5_mayBe_6 rfl (fun h6 => ?_) (fun h6 => ?_)
  · refine z_aload_n (pc := 19) hC (i := 0) dX5_mayBe_19 rfl rfl ?_
    refine z_iload_n (pc := 20) hC (i := 1) dX5_mayBe_20 rfl rfl ?_
    refine z_iload_n (pc := 21) hC (i := 2) dX5_mayBe_21 rfl rfl ?_
    refine z_callV (n := 2) (T := TX5) (N := 15) (ci := 5) (pc := 22) hC (c_X5_costWith l w hw _ σ hσ hv hω hH v hvN x ⟨by omega, by omega⟩ (by omega)) gX5_mayBe_X5_costWith rfl (by decide +kernel) (by decide) (by decide) rfl (by decide) (fun _ => rfl) rfl rfl (Nat.le_of_ble_eq_true rfl) dX5_mayBe_22 (zi_k fun r22 Ω22 h22 => ?_)
    obtain ⟨hm22, hH22, hF22⟩ := h22
    have hib := mnH_b hv hω hm22
    have hiff := mayP_iff hm hvN hx (by omega) hm22
    refine z_iload_n (pc := 25) hC (i := 3) dX5_mayBe_25 rfl rfl ?_
    refine z_icmp_ne (pc := 26) hC 33 (by first | assumption | exact zb_gt _ _ _ | exact zcmp_zb _ _ | exact bI_zb _ | exact ⟨by omega, by omega⟩) (by first | assumption | exact zb_gt _ _ _ | exact zcmp_zb _ _ | exact bI_zb _ | exact ⟨by omega, by omega⟩) dX5_mayBe_26 rfl (fun h26 => ?_) (fun h26 => ?_)
    · refine z_iconst (pc := 33) hC dX5_mayBe_33 ?_
      exact z_zret (b := false) (pc := 34) hC rfl ⟨false, rfl, (by first | exact ⟨(decide_eq_false (fun q => h26 (hiff.mpr q))).symm, hH22, hF22⟩ | exact ⟨(decide_eq_false (mayP_no hvN hx (by omega))).symm, rfl, fun _ _ _ _ => rfl⟩)⟩ dX5_mayBe_34
    · refine z_iconst (pc := 29) hC dX5_mayBe_29 ?_
      refine z_goto (pc := 30) hC 34 dX5_mayBe_30 rfl ?_
      exact z_zret (b := true) (pc := 34) hC rfl ⟨true, rfl, ⟨(decide_eq_true (hiff.mp (by omega))).symm, hH22, hF22⟩⟩ dX5_mayBe_34
  · refine z_aload_n (pc := 9) hC (i := 0) dX5_mayBe_9 rfl rfl ?_
    refine z_getR (C := RX5) (T := TX5) (N := 15) (ci := 5) (pc := 10) hC _ _ 8 in_X5_mayBe_X5 rfl (by decide) (fun _ => rfl) (by decide) fl_X5_mayBe_26 (fun _ => rfl) dX5_mayBe_10 ?_
    refine z_iload_n (pc := 13) hC (i := 1) dX5_mayBe_13 rfl rfl ?_
    refine z_ialk (pc := 14) hC _ v (by decide) (fun _ => rfl) rfl (by omega) (by decide) dX5_mayBe_14 ?_
    refine z_iload_n (pc := 15) hC (i := 2) dX5_mayBe_15 rfl rfl ?_
    refine z_icmp_ne (pc := 16) hC 33 (by first | assumption | exact zb_gt _ _ _ | exact zcmp_zb _ _ | exact bI_zb _ | exact ⟨by omega, by omega⟩) (by first | assumption | exact zb_gt _ _ _ | exact zcmp_zb _ _ | exact bI_zb _ | exact ⟨by omega, by omega⟩) dX5_mayBe_16 rfl (fun h16 => ?_) (fun h16 => ?_)
    · refine z_iconst (pc := 33) hC dX5_mayBe_33 ?_
      exact z_zret (b := false) (pc := 34) hC rfl ⟨false, rfl, (by first | exact ⟨(decide_eq_false (fun q => h26 (hiff.mpr q))).symm, hH22, hF22⟩ | exact ⟨(decide_eq_false (mayP_no hvN hx (by omega))).symm, rfl, fun _ _ _ _ => rfl⟩)⟩ dX5_mayBe_34
    · refine z_aload_n (pc := 19) hC (i := 0) dX5_mayBe_19 rfl rfl ?_
      refine z_iload_n (pc := 20) hC (i := 1) dX5_mayBe_20 rfl rfl ?_
      refine z_iload_n (pc := 21) hC (i := 2) dX5_mayBe_21 rfl rfl ?_
      refine z_callV (n := 2) (T := TX5) (N := 15) (ci := 5) (pc := 22) hC (c_X5_costWith l w hw _ σ hσ hv hω hH v hvN x ⟨by omega, by omega⟩ (by omega)) gX5_mayBe_X5_costWith rfl (by decide +kernel) (by decide) (by decide) rfl (by decide) (fun _ => rfl) rfl rfl (Nat.le_of_ble_eq_true rfl) dX5_mayBe_22 (zi_k fun r22 Ω22 h22 => ?_)
      obtain ⟨hm22, hH22, hF22⟩ := h22
      have hib := mnH_b hv hω hm22
      have hiff := mayP_iff hm hvN hx (by omega) hm22
      refine z_iload_n (pc := 25) hC (i := 3) dX5_mayBe_25 rfl rfl ?_
      refine z_icmp_ne (pc := 26) hC 33 (by first | assumption | exact zb_gt _ _ _ | exact zcmp_zb _ _ | exact bI_zb _ | exact ⟨by omega, by omega⟩) (by first | assumption | exact zb_gt _ _ _ | exact zcmp_zb _ _ | exact bI_zb _ | exact ⟨by omega, by omega⟩) dX5_mayBe_26 rfl (fun h26 => ?_) (fun h26 => ?_)
      · refine z_iconst (pc := 33) hC dX5_mayBe_33 ?_
        exact z_zret (b := false) (pc := 34) hC rfl ⟨false, rfl, (by first | exact ⟨(decide_eq_false (fun q => h26 (hiff.mpr q))).symm, hH22, hF22⟩ | exact ⟨(decide_eq_false (mayP_no hvN hx (by omega))).symm, rfl, fun _ _ _ _ => rfl⟩)⟩ dX5_mayBe_34
      · refine z_iconst (pc := 29) hC dX5_mayBe_29 ?_
        refine z_goto (pc := 30) hC 34 dX5_mayBe_30 rfl ?_
        exact z_zret (b := true) (pc := 34) hC rfl ⟨true, rfl, ⟨(decide_eq_true (hiff.mp (by omega))).symm, hH22, hF22⟩⟩ dX5_mayBe_34
