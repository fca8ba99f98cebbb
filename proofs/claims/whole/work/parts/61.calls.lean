theorem bad_ret {Ω : Mem} {a : As} {F : Int × As} (h : RC Ω a) (e : F = ((-2 : Int), aInc a 0)) : (-2 : Int) = F.1 ∧ RC (ups Ω 0 4 (gt Ω 0 4 + 1)) F.2 ∧ frC Ω (ups Ω 0 4 (gt Ω 0 4 + 1)) := by
  rw [e]; exact ⟨rfl, h.inc (i := 0) (by decide) rfl, frC_up _ _ _ (by decide)⟩
theorem ok_ret {Ω Ω1 : Mem} {a1 : As} {r : Int} {F : Int × As} (e : F = (r, a1)) (h : RC Ω1 a1) (hf : frC Ω Ω1) : r = F.1 ∧ RC Ω1 F.2 ∧ frC Ω Ω1 := by
  rw [e]; exact ⟨rfl, h, hf⟩
abbrev dIn (σ : Sg) (x y : Int) : Prop := 0 ≤ x ∧ x < σ 0 ∧ 0 ≤ y ∧ y < σ 1
def nO (σ : Sg) (x y : Int) : Nat := (σ 0 * y + x).toNat
theorem nO_lt {σ : Sg} (h : scok σ) {x y : Int} (d : dIn σ x y) : σ 0 * y + x = (nO σ x y : Int) ∧ nO σ x y < sdots σ := by
  have h1 := sN_lt h d.1 d.2.1 d.2.2.1 d.2.2.2
  have h2 := sdots_le h
  unfold nO
  omega
theorem nO_xy {σ : Sg} (h : scok σ) {x y : Int} (d : dIn σ x y) : ((nO σ x y % sw σ : Nat) : Int) = x ∧ ((nO σ x y / sw σ : Nat) : Int) = y := by
  obtain ⟨X1, rfl⟩ := nat_of d.1
  obtain ⟨Y1, rfl⟩ := nat_of d.2.2.1
  have hW := sw_eq h
  have h1 := (nO_lt h d).1
  rw [sw_num h] at h1
  have h2 : nO σ X1 Y1 = sw σ * Y1 + X1 := by omega
  have h3 := sw_mod (σ := σ) (x := X1) (y := Y1) (by have := d.2.1; omega)
  rw [h2, h3.1, h3.2]
  exact ⟨rfl, rfl⟩
theorem lk_xy {σ : Sg} (h : scok σ) {x y : Int} (d : dIn σ x y) (k : Nat) : lk σ (nO σ x y) k = sLk σ x y k := by
  obtain ⟨h1, h2⟩ := nO_xy h d
  unfold lk
  rw [h1, h2]
theorem frC_of {Ω Ω1 : Mem} {q0 : Nat} (hq0 : q0 < 49) (h : ∀ q, q ≠ q0 → Ω1 q = Ω q) : frC Ω Ω1 := fun q hq => h q (by omega)
def aPicture (a : As) (x y : Int) : Int × As := if (2 ≤ x ∧ x ≤ 6) ∧ (2 ≤ y ∧ y ≤ 6) then (x * y, aSet (aRem a) (sbl a.1 x y 36)) else (-2, aInc a 0)
def aShade (a : As) (x y v : Int) : Int × As := if dIn a.1 x y ∧ (0 ≤ v ∧ v ≤ 9) then (a.1 (8 + nO a.1 x y), aSet (aRem a) (sup a.1 (8 + nO a.1 x y) v)) else (-2, aInc a 0)
def aBlot (a : As) (x y r v : Int) : Int × As := if dIn a.1 x y ∧ (0 ≤ r ∧ r ≤ 10) ∧ (0 ≤ v ∧ v ≤ 9) then (nearC a.1 x y r (sdots a.1), aSet (aRem a) (sfH a.1 (nearB a.1 x y r) v (sdots a.1))) else (-2, aInc a 0)
def aMark (a : As) (x y v : Int) : Int × As := if dIn a.1 x y ∧ (0 ≤ v ∧ v ≤ 2) then (a.1 (44 + nO a.1 x y), aSet (aRem a) (sup a.1 (44 + nO a.1 x y) v)) else (-2, aInc a 0)
def aStroke (a : As) (m x y tx ty : Int) : Int × As := if (0 ≤ m ∧ m ≤ 2) ∧ dIn a.1 x y ∧ dIn a.1 tx ty then (sfAc a.1 (lineS a.1 x y tx ty) m (sdots a.1), aSet (aRem a) (sfA a.1 (lineS a.1 x y tx ty) m (sdots a.1))) else (-2, aInc a 0)
abbrev okSet (k v : Int) : Prop := (k = 0 ∧ 1 ≤ v ∧ v ≤ 50) ∨ (1 ≤ k ∧ k ≤ 4 ∧ 0 ≤ v ∧ v ≤ 9) ∨ (k = 5 ∧ (v = 4 ∨ v = 8))
def aSets (a : As) (k v : Int) : Int × As := if okSet k v then (a.1 (2 + k.toNat), aSet (aRem a) (sup a.1 (2 + k.toNat) v)) else (-2, aInc a 0)
def dotV (σ : Sg) (n : Nat) (k : Int) : Int := if k = 0 then σ (8 + n) else if k = 1 then σ (44 + n) else if k = 2 then sPl σ n 3 else sPl σ n 4
def aDot (a : As) (x y k : Int) : Int × As := if dIn a.1 x y ∧ (0 ≤ k ∧ k ≤ 3) then (dotV a.1 (nO a.1 x y) k, a) else (-2, aInc a 0)
def aLink (a : As) (x y d : Int) : Int × As := if dIn a.1 x y ∧ (0 ≤ d ∧ d ≤ 3) then (if lk a.1 (nO a.1 x y) d.toNat = -1 then -1 else sWt a.1 (nO a.1 x y) (lk a.1 (nO a.1 x y) d.toNat).toNat d.toNat, a) else (-2, aInc a 0)

theorem fl_X4_refuseBad_236 : Cond.fieldLink RX4 236 "StrokeCuts" "badCalls" "I" ∈ wsX4_refuseBad := by decide +kernel
theorem in_X4_refuseBad_X4 : ∀ x ∈ u_ws RX4 TX4 7, x ∈ wsX4_refuseBad := by decide +kernel
set_option maxHeartbeats 4000000 in
set_option maxRecDepth 100000 in
theorem c_X4_refuseBad (l : Launch) (w : zP) (hw : zOK w) (Ω : Mem) : zM l w yX4_refuseBad wsX4_refuseBad 0 0 [.ref (wa w 0)] Ω (zi (fun r Ω1 => r = -2 ∧ Ω1 = ups Ω 0 4 (gt Ω 0 4 + 1))) := by
  refine zM_of cX4_refuseBad 1 (some .int) RX4 [some (.ref (wa w 0))] hw (by decide +kernel) rfl rfl (Nat.le_of_ble_eq_true rfl) rfl (fun E hC => ?_)
  refine z_aload_n (pc := 0) hC (i := 0) dX4_refuseBad_0 rfl rfl ?_
  refine z_dup (pc := 1) hC dX4_refuseBad_1 rfl ?_
  refine z_getI (C := RX4) (T := TX4) (N := 7) (ci := 4) (pc := 2) hC _ 4 in_X4_refuseBad_X4 rfl (by decide) (fun _ => rfl) (by decide) fl_X4_refuseBad_236 (fun _ => rfl) dX4_refuseBad_2 ?_
  refine z_iconst (pc := 5) hC dX4_refuseBad_5 ?_
  refine z_iadd (pc := 6) hC dX4_refuseBad_6 ?_
  refine z_putI (C := RX4) (T := TX4) (N := 7) (ci := 4) (pc := 7) hC _ 4 in_X4_refuseBad_X4 rfl (by decide) (fun _ => rfl) (by decide) fl_X4_refuseBad_236 tyX4_ok nmX4 rfl (by decide +kernel) (fun _ => Nat.le_of_ble_eq_true rfl) (fun _ _ => rfl) dX4_refuseBad_7 ?_
  refine z_bipush (pc := 10) hC dX4_refuseBad_10 rfl ?_
  exact z_iret (pc := 12) hC rfl ⟨_, rfl, ⟨rfl, rfl⟩⟩ dX4_refuseBad_12
theorem fl_X4_picture_19 : Cond.fieldLink RX4 19 "StrokeCuts" "past" "LStrokeCuts$History;" ∈ wsX4_picture := by decide +kernel
theorem in_X4_picture_X4 : ∀ x ∈ u_ws RX4 TX4 7, x ∈ wsX4_picture := by decide +kernel
theorem fl_X4_picture_12 : Cond.fieldLink RX4 12 "StrokeCuts" "scene" "LStrokeCuts$Scene;" ∈ wsX4_picture := by decide +kernel
set_option maxHeartbeats 4000000 in
set_option maxRecDepth 100000 in
theorem c_X4_picture (l : Launch) (w : zP) (hw : zOK w) (Ω : Mem) (a : As) (h : RC Ω a) (x y : Int) (hx : zb x) (hy : zb y) : zM l w yX4_picture wsX4_picture 3 103 [.ref (wa w 0), .int (zI x), .int (zI y)] Ω (zi (fun r Ω1 => r = (aPicture a x y).1 ∧ RC Ω1 (aPicture a x y).2 ∧ frC Ω Ω1)) := by
  refine zM_of cX4_picture 3 (some .int) RX4 [some (.ref (wa w 0)), some (.int (zI x)), some (.int (zI y))] hw (by decide +kernel) rfl rfl (Nat.le_of_ble_eq_true rfl) rfl (fun E hC => ?_)
  have hv := h.1.2
  have hv1 : scok (scC Ω) := by rw [h.1.1]; exact h.1.2
  have q0 : gt Ω 13 0 = a.1 0 := by rw [← scC_0, h.1.1]
  have q1 : gt Ω 13 1 = a.1 1 := by rw [← scC_1, h.1.1]
  have hN := sdots_le hv
  have hw01 := hv.1
  have hh01 := hv.2.1
  refine z_iload_n (pc := 0) hC (i := 1) dX4_picture_0 rfl rfl ?_
  refine z_iconst (pc := 1) hC dX4_picture_1 ?_
  refine z_bipush (pc := 2) hC dX4_picture_2 rfl ?_
  refine z_callS (n := 3) (pc := 4) hC (c_X4_isWithin l w hw _ _ _ _ (by first | assumption | exact zb_gt _ _ _ | exact zcmp_zb _ _ | exact bI_zb _ | exact ⟨by omega, by omega⟩) (by first | assumption | exact zb_gt _ _ _ | exact zcmp_zb _ _ | exact bI_zb _ | exact ⟨by omega, by omega⟩) (by first | assumption | exact zb_gt _ _ _ | exact zcmp_zb _ _ | exact bI_zb _ | exact ⟨by omega, by omega⟩)) gX4_picture_X4_isWithin rfl (by decide +kernel) (by decide) (by decide) rfl rfl (Nat.le_of_ble_eq_true rfl) dX4_picture_4 (zb_k fun r4 Ω4 h4 => ?_)
  obtain ⟨rfl, hM4⟩ := h4
  obtain rfl := hM4.symm
  refine z_ifd_eq (pc := 7) hC 20 dX4_picture_7 rfl (fun h7 => ?_) (fun h7 => ?_)
  · refine z_aload_n (pc := 20) hC (i := 0) dX4_picture_20 rfl rfl ?_
    refine z_callV (n := 0) (T := TX4) (N := 7) (ci := 4) (pc := 21) hC (c_X4_refuseBad l w hw _) gX4_picture_X4_refuseBad rfl (by decide +kernel) (by decide) (by decide) rfl (by decide) (fun _ => rfl) rfl rfl (Nat.le_of_ble_eq_true rfl) dX4_picture_21 (zi_k fun r21 Ω21 h21 => ?_)
    obtain ⟨rfl, rfl⟩ := h21
    exact z_iret (pc := 24) hC rfl ⟨_, rfl, bad_ret h (if_neg (by omega))⟩ dX4_picture_24
  · refine z_iload_n (pc := 10) hC (i := 2) dX4_picture_10 rfl rfl ?_
    refine z_iconst (pc := 11) hC dX4_picture_11 ?_
    refine z_bipush (pc := 12) hC dX4_picture_12 rfl ?_
    refine z_callS (n := 3) (pc := 14) hC (c_X4_isWithin l w hw _ _ _ _ (by first | assumption | exact zb_gt _ _ _ | exact zcmp_zb _ _ | exact bI_zb _ | exact ⟨by omega, by omega⟩) (by first | assumption | exact zb_gt _ _ _ | exact zcmp_zb _ _ | exact bI_zb _ | exact ⟨by omega, by omega⟩) (by first | assumption | exact zb_gt _ _ _ | exact zcmp_zb _ _ | exact bI_zb _ | exact ⟨by omega, by omega⟩)) gX4_picture_X4_isWithin rfl (by decide +kernel) (by decide) (by decide) rfl rfl (Nat.le_of_ble_eq_true rfl) dX4_picture_14 (zb_k fun r14 Ω14 h14 => ?_)
    obtain ⟨rfl, hM14⟩ := h14
    obtain rfl := hM14.symm
    refine z_ifd_ne (pc := 17) hC 25 dX4_picture_17 rfl (fun h17 => ?_) (fun h17 => ?_)
    · refine z_aload_n (pc := 25) hC (i := 0) dX4_picture_25 rfl rfl ?_
      refine z_getR (C := RX4) (T := TX4) (N := 7) (ci := 4) (pc := 26) hC _ _ 1 in_X4_picture_X4 rfl (by decide) (fun _ => rfl) (by decide) fl_X4_picture_19 (fun _ => rfl) dX4_picture_26 ?_
      refine z_aload_n (pc := 29) hC (i := 0) dX4_picture_29 rfl rfl ?_
      refine z_getR (C := RX4) (T := TX4) (N := 7) (ci := 4) (pc := 30) hC _ _ 0 in_X4_picture_X4 rfl (by decide) (fun _ => rfl) (by decide) fl_X4_picture_12 (fun _ => rfl) dX4_picture_30 ?_
      refine z_callV (n := 1) (T := TX0) (N := 3) (ci := 0) (pc := 33) hC (c_X0_remember l w hw _ h.2.1.2.2.1.1 h.2.1.2.2.1.2 (by rw [h.2.1.1]; omega) (by rw [h.2.1.1]; have := h.2.1.2.1; omega)) gX4_picture_X0_remember rfl (by decide +kernel) (by decide) (by decide) rfl (by decide) (fun _ => rfl) rfl rfl (Nat.le_of_ble_eq_true rfl) dX4_picture_33 (zv_k fun Ω33 h33 => ?_)
      obtain ⟨g1, g2, g3, g4⟩ := h33
      obtain ⟨hR, hfr, hs⟩ := h.rem g1 g2 g3 g4
      have q0R : gt Ω33 13 0 = a.1 0 := by rw [← scC_0, hs]
      have q1R : gt Ω33 13 1 = a.1 1 := by rw [← scC_1, hs]
      refine z_aload_n (pc := 36) hC (i := 0) dX4_picture_36 rfl rfl ?_
      refine z_getR (C := RX4) (T := TX4) (N := 7) (ci := 4) (pc := 37) hC _ _ 0 in_X4_picture_X4 rfl (by decide) (fun _ => rfl) (by decide) fl_X4_picture_12 (fun _ => rfl) dX4_picture_37 ?_
      refine z_iload_n (pc := 40) hC (i := 1) dX4_picture_40 rfl rfl ?_
      refine z_iload_n (pc := 41) hC (i := 2) dX4_picture_41 rfl rfl ?_
      refine z_callV (n := 2) (T := TX2) (N := 5) (ci := 2) (pc := 42) hC (c_X2_startBlank l w hw _ x y (by assumption) (by assumption)) gX4_picture_X2_startBlank rfl (by decide +kernel) (by decide) (by decide) rfl (by decide) (fun _ => rfl) rfl rfl (Nat.le_of_ble_eq_true rfl) dX4_picture_42 (zv_k fun Ω42 h42 => ?_)
      obtain ⟨t1, t2⟩ := h42
      have e0 : gt Ω42 13 0 = x := by rw [← scC_0, t1]; rfl
      have e1 : gt Ω42 13 1 = y := by rw [← scC_1, t1]; rfl
      refine z_aload_n (pc := 45) hC (i := 0) dX4_picture_45 rfl rfl ?_
      refine z_getR (C := RX4) (T := TX4) (N := 7) (ci := 4) (pc := 46) hC _ _ 0 in_X4_picture_X4 rfl (by decide) (fun _ => rfl) (by decide) fl_X4_picture_12 (fun _ => rfl) dX4_picture_46 ?_
      refine z_callV (n := 0) (T := TX2) (N := 5) (ci := 2) (pc := 49) hC (c_X2_dots l w hw _) gX4_picture_X2_dots rfl (by decide +kernel) (by decide) (by decide) rfl (by decide) (fun _ => rfl) rfl rfl (Nat.le_of_ble_eq_true rfl) dX4_picture_49 (zi_k fun r49 Ω49 h49 => ?_)
      obtain ⟨rfl, hM49⟩ := h49
      obtain rfl := hM49.symm
      exact z_iret (pc := 52) hC rfl ⟨_, rfl, by
      rw [e0, e1]
      exact ok_ret (if_pos ⟨by omega, by omega⟩) (hR.set (by rw [t1, hs]) (scok_sbl hv (by omega) (by omega)) (fun q u v => t2 q (by omega) (by omega) (by omega))) (hfr.trans (fun q hq => t2 q (by omega) (by omega) (by omega)))⟩ dX4_picture_52
    · refine z_aload_n (pc := 20) hC (i := 0) dX4_picture_20 rfl rfl ?_
      refine z_callV (n := 0) (T := TX4) (N := 7) (ci := 4) (pc := 21) hC (c_X4_refuseBad l w hw _) gX4_picture_X4_refuseBad rfl (by decide +kernel) (by decide) (by decide) rfl (by decide) (fun _ => rfl) rfl rfl (Nat.le_of_ble_eq_true rfl) dX4_picture_21 (zi_k fun r21 Ω21 h21 => ?_)
      obtain ⟨rfl, rfl⟩ := h21
      exact z_iret (pc := 24) hC rfl ⟨_, rfl, bad_ret h (if_neg (by omega))⟩ dX4_picture_24
theorem fl_X4_shade_12 : Cond.fieldLink RX4 12 "StrokeCuts" "scene" "LStrokeCuts$Scene;" ∈ wsX4_shade := by decide +kernel
theorem in_X4_shade_X4 : ∀ x ∈ u_ws RX4 TX4 7, x ∈ wsX4_shade := by decide +kernel
theorem fl_X4_shade_19 : Cond.fieldLink RX4 19 "StrokeCuts" "past" "LStrokeCuts$History;" ∈ wsX4_shade := by decide +kernel
theorem fl_X4_shade_64 : Cond.fieldLink RX4 64 "StrokeCuts$Scene" "shades" "[I" ∈ wsX4_shade := by decide +kernel
theorem in_X4_shade_X2 : ∀ x ∈ u_ws RX2 TX2 5, x ∈ wsX4_shade := by decide +kernel
set_option maxHeartbeats 4000000 in
set_option maxRecDepth 100000 in
theorem c_X4_shade (l : Launch) (w : zP) (hw : zOK w) (Ω : Mem) (a : As) (h : RC Ω a) (x y v : Int) (hx : zb x) (hy : zb y) (hz : zb v) : zM l w yX4_shade wsX4_shade 3 103 [.ref (wa w 0), .int (zI x), .int (zI y), .int (zI v)] Ω (zi (fun r Ω1 => r = (aShade a x y v).1 ∧ RC Ω1 (aShade a x y v).2 ∧ frC Ω Ω1)) := by
  refine zM_of cX4_shade 6 (some .int) RX4 [some (.ref (wa w 0)), some (.int (zI x)), some (.int (zI y)), some (.int (zI v)), none, none] hw (by decide +kernel) rfl rfl (Nat.le_of_ble_eq_true rfl) rfl (fun E hC => ?_)
  have hv := h.1.2
  have hv1 : scok (scC Ω) := by rw [h.1.1]; exact h.1.2
  have q0 : gt Ω 13 0 = a.1 0 := by rw [← scC_0, h.1.1]
  have q1 : gt Ω 13 1 = a.1 1 := by rw [← scC_1, h.1.1]
  have hN := sdots_le hv
  have hw01 := hv.1
  have hh01 := hv.2.1
  refine z_aload_n (pc := 0) hC (i := 0) dX4_shade_0 rfl rfl ?_
  refine z_getR (C := RX4) (T := TX4) (N := 7) (ci := 4) (pc := 1) hC _ _ 0 in_X4_shade_X4 rfl (by decide) (fun _ => rfl) (by decide) fl_X4_shade_12 (fun _ => rfl) dX4_shade_1 ?_
  refine z_iload_n (pc := 4) hC (i := 1) dX4_shade_4 rfl rfl ?_
  refine z_iload_n (pc := 5) hC (i := 2) dX4_shade_5 rfl rfl ?_
  refine z_callV (n := 2) (T := TX2) (N := 5) (ci := 2) (pc := 6) hC (c_X2_hasDot l w hw _ _ _ (by first | assumption | exact zb_gt _ _ _ | exact zcmp_zb _ _ | exact bI_zb _ | exact ⟨by omega, by omega⟩) (by first | assumption | exact zb_gt _ _ _ | exact zcmp_zb _ _ | exact bI_zb _ | exact ⟨by omega, by omega⟩)) gX4_shade_X2_hasDot rfl (by decide +kernel) (by decide) (by decide) rfl (by decide) (fun _ => rfl) rfl rfl (Nat.le_of_ble_eq_true rfl) dX4_shade_6 (zb_k fun r6 Ω6 h6 => ?_)
  obtain ⟨rfl, hM6⟩ := h6
  obtain rfl := hM6.symm
  refine z_ifd_eq (pc := 9) hC 22 dX4_shade_9 rfl (fun h9 => ?_) (fun h9 => ?_)
  · refine z_aload_n (pc := 22) hC (i := 0) dX4_shade_22 rfl rfl ?_
    refine z_callV (n := 0) (T := TX4) (N := 7) (ci := 4) (pc := 23) hC (c_X4_refuseBad l w hw _) gX4_shade_X4_refuseBad rfl (by decide +kernel) (by decide) (by decide) rfl (by decide) (fun _ => rfl) rfl rfl (Nat.le_of_ble_eq_true rfl) dX4_shade_23 (zi_k fun r23 Ω23 h23 => ?_)
    obtain ⟨rfl, rfl⟩ := h23
    exact z_iret (pc := 26) hC rfl ⟨_, rfl, bad_ret h (if_neg (by unfold dIn; omega))⟩ dX4_shade_26
  · refine z_iload_n (pc := 12) hC (i := 3) dX4_shade_12 rfl rfl ?_
    refine z_iconst (pc := 13) hC dX4_shade_13 ?_
    refine z_bipush (pc := 14) hC dX4_shade_14 rfl ?_
    refine z_callS (n := 3) (pc := 16) hC (c_X4_isWithin l w hw _ _ _ _ (by first | assumption | exact zb_gt _ _ _ | exact zcmp_zb _ _ | exact bI_zb _ | exact ⟨by omega, by omega⟩) (by first | assumption | exact zb_gt _ _ _ | exact zcmp_zb _ _ | exact bI_zb _ | exact ⟨by omega, by omega⟩) (by first | assumption | exact zb_gt _ _ _ | exact zcmp_zb _ _ | exact bI_zb _ | exact ⟨by omega, by omega⟩)) gX4_shade_X4_isWithin rfl (by decide +kernel) (by decide) (by decide) rfl rfl (Nat.le_of_ble_eq_true rfl) dX4_shade_16 (zb_k fun r16 Ω16 h16 => ?_)
    obtain ⟨rfl, hM16⟩ := h16
    obtain rfl := hM16.symm
    refine z_ifd_ne (pc := 19) hC 27 dX4_shade_19 rfl (fun h19 => ?_) (fun h19 => ?_)
    · refine z_aload_n (pc := 27) hC (i := 0) dX4_shade_27 rfl rfl ?_
      refine z_getR (C := RX4) (T := TX4) (N := 7) (ci := 4) (pc := 28) hC _ _ 1 in_X4_shade_X4 rfl (by decide) (fun _ => rfl) (by decide) fl_X4_shade_19 (fun _ => rfl) dX4_shade_28 ?_
      refine z_aload_n (pc := 31) hC (i := 0) dX4_shade_31 rfl rfl ?_
      refine z_getR (C := RX4) (T := TX4) (N := 7) (ci := 4) (pc := 32) hC _ _ 0 in_X4_shade_X4 rfl (by decide) (fun _ => rfl) (by decide) fl_X4_shade_12 (fun _ => rfl) dX4_shade_32 ?_
      refine z_callV (n := 1) (T := TX0) (N := 3) (ci := 0) (pc := 35) hC (c_X0_remember l w hw _ h.2.1.2.2.1.1 h.2.1.2.2.1.2 (by rw [h.2.1.1]; omega) (by rw [h.2.1.1]; have := h.2.1.2.1; omega)) gX4_shade_X0_remember rfl (by decide +kernel) (by decide) (by decide) rfl (by decide) (fun _ => rfl) rfl rfl (Nat.le_of_ble_eq_true rfl) dX4_shade_35 (zv_k fun Ω35 h35 => ?_)
      obtain ⟨g1, g2, g3, g4⟩ := h35
      obtain ⟨hR, hfr, hs⟩ := h.rem g1 g2 g3 g4
      have q0R : gt Ω35 13 0 = a.1 0 := by rw [← scC_0, hs]
      have q1R : gt Ω35 13 1 = a.1 1 := by rw [← scC_1, hs]
      refine z_aload_n (pc := 38) hC (i := 0) dX4_shade_38 rfl rfl ?_
      refine z_getR (C := RX4) (T := TX4) (N := 7) (ci := 4) (pc := 39) hC _ _ 0 in_X4_shade_X4 rfl (by decide) (fun _ => rfl) (by decide) fl_X4_shade_12 (fun _ => rfl) dX4_shade_39 ?_
      refine z_iload_n (pc := 42) hC (i := 1) dX4_shade_42 rfl rfl ?_
      refine z_iload_n (pc := 43) hC (i := 2) dX4_shade_43 rfl rfl ?_
      refine z_callV (n := 2) (T := TX2) (N := 5) (ci := 2) (pc := 44) hC (c_X2_numberOf l w hw _ _ _) gX4_shade_X2_numberOf rfl (by decide +kernel) (by decide) (by decide) rfl (by decide) (fun _ => rfl) rfl rfl (Nat.le_of_ble_eq_true rfl) dX4_shade_44 (zi_k fun r44 Ω44 h44 => ?_)
      obtain ⟨hr44, hm44⟩ := h44
      have hm44 := hm44.symm
      subst hm44
      obtain ⟨hn1, hn2⟩ := nO_lt hv (x := x) (y := y) (by unfold dIn; omega)
      rw [q0R, hn1] at hr44
      subst hr44
      refine z_istore (pc := 47) hC (i := 4) dX4_shade_47 (by decide) rfl (zS_s (zS_s (zS_s (zS_s zS_0)))) ?_
      refine z_aload_n (pc := 49) hC (i := 0) dX4_shade_49 rfl rfl ?_
      refine z_getR (C := RX4) (T := TX4) (N := 7) (ci := 4) (pc := 50) hC _ _ 0 in_X4_shade_X4 rfl (by decide) (fun _ => rfl) (by decide) fl_X4_shade_12 (fun _ => rfl) dX4_shade_50 ?_
      refine z_getR (C := RX2) (T := TX2) (N := 5) (ci := 2) (pc := 53) hC (.ref (wa w 15)) _ 3 in_X4_shade_X2 rfl (by decide) (fun _ => rfl) (by decide) fl_X4_shade_64 (fun _ => rfl) dX4_shade_53 ?_
      refine z_iload (pc := 56) hC (i := 4) dX4_shade_56 rfl ?_
      refine z_ialk (pc := 58) hC _ (nO a.1 x y) (by decide) (fun _ => rfl) rfl (by omega) (by decide) dX4_shade_58 ?_
      refine z_istore (pc := 59) hC (i := 5) dX4_shade_59 (by decide) rfl (zS_s (zS_s (zS_s (zS_s (zS_s zS_0))))) ?_
      refine z_aload_n (pc := 61) hC (i := 0) dX4_shade_61 rfl rfl ?_
      refine z_getR (C := RX4) (T := TX4) (N := 7) (ci := 4) (pc := 62) hC _ _ 0 in_X4_shade_X4 rfl (by decide) (fun _ => rfl) (by decide) fl_X4_shade_12 (fun _ => rfl) dX4_shade_62 ?_
      refine z_getR (C := RX2) (T := TX2) (N := 5) (ci := 2) (pc := 65) hC (.ref (wa w 15)) _ 3 in_X4_shade_X2 rfl (by decide) (fun _ => rfl) (by decide) fl_X4_shade_64 (fun _ => rfl) dX4_shade_65 ?_
      refine z_iload (pc := 68) hC (i := 4) dX4_shade_68 rfl ?_
      refine z_iload_n (pc := 70) hC (i := 3) dX4_shade_70 rfl rfl ?_
      refine z_iask (pc := 71) hC _ (nO a.1 x y) (by decide) (fun _ => rfl) rfl (by omega) (by decide) dX4_shade_71 ?_
      refine z_iload (pc := 72) hC (i := 5) dX4_shade_72 rfl ?_
      exact z_iret (pc := 74) hC rfl ⟨_, rfl, by
      rw [← scC_sh Ω35 (k := nO a.1 x y) (by omega), hs]
      exact ok_ret (if_pos ⟨by unfold dIn; omega, by omega⟩) (hR.set (by rw [scC_upsh _ (by omega) ⟨by omega, by omega⟩, hs]) (scok_sh hv (by omega) (by omega) (by omega)) (fun q u v => ups_n _ _ _ (by omega))) (hfr.trans (frC_up _ _ _ (by decide)))⟩ dX4_shade_74
    · refine z_aload_n (pc := 22) hC (i := 0) dX4_shade_22 rfl rfl ?_
      refine z_callV (n := 0) (T := TX4) (N := 7) (ci := 4) (pc := 23) hC (c_X4_refuseBad l w hw _) gX4_shade_X4_refuseBad rfl (by decide +kernel) (by decide) (by decide) rfl (by decide) (fun _ => rfl) rfl rfl (Nat.le_of_ble_eq_true rfl) dX4_shade_23 (zi_k fun r23 Ω23 h23 => ?_)
      obtain ⟨rfl, rfl⟩ := h23
      exact z_iret (pc := 26) hC rfl ⟨_, rfl, bad_ret h (if_neg (by unfold dIn; omega))⟩ dX4_shade_26
theorem fl_X4_mark_12 : Cond.fieldLink RX4 12 "StrokeCuts" "scene" "LStrokeCuts$Scene;" ∈ wsX4_mark := by decide +kernel
theorem in_X4_mark_X4 : ∀ x ∈ u_ws RX4 TX4 7, x ∈ wsX4_mark := by decide +kernel
theorem fl_X4_mark_19 : Cond.fieldLink RX4 19 "StrokeCuts" "past" "LStrokeCuts$History;" ∈ wsX4_mark := by decide +kernel
theorem fl_X4_mark_81 : Cond.fieldLink RX4 81 "StrokeCuts$Scene" "marks" "[I" ∈ wsX4_mark := by decide +kernel
theorem in_X4_mark_X2 : ∀ x ∈ u_ws RX2 TX2 5, x ∈ wsX4_mark := by decide +kernel
set_option maxHeartbeats 4000000 in
set_option maxRecDepth 100000 in
theorem c_X4_mark (l : Launch) (w : zP) (hw : zOK w) (Ω : Mem) (a : As) (h : RC Ω a) (x y v : Int) (hx : zb x) (hy : zb y) (hz : zb v) : zM l w yX4_mark wsX4_mark 3 103 [.ref (wa w 0), .int (zI x), .int (zI y), .int (zI v)] Ω (zi (fun r Ω1 => r = (aMark a x y v).1 ∧ RC Ω1 (aMark a x y v).2 ∧ frC Ω Ω1)) := by
  refine zM_of cX4_mark 6 (some .int) RX4 [some (.ref (wa w 0)), some (.int (zI x)), some (.int (zI y)), some (.int (zI v)), none, none] hw (by decide +kernel) rfl rfl (Nat.le_of_ble_eq_true rfl) rfl (fun E hC => ?_)
  have hv := h.1.2
  have hv1 : scok (scC Ω) := by rw [h.1.1]; exact h.1.2
  have q0 : gt Ω 13 0 = a.1 0 := by rw [← scC_0, h.1.1]
  have q1 : gt Ω 13 1 = a.1 1 := by rw [← scC_1, h.1.1]
  have hN := sdots_le hv
  have hw01 := hv.1
  have hh01 := hv.2.1
  refine z_aload_n (pc := 0) hC (i := 0) dX4_mark_0 rfl rfl ?_
  refine z_getR (C := RX4) (T := TX4) (N := 7) (ci := 4) (pc := 1) hC _ _ 0 in_X4_mark_X4 rfl (by decide) (fun _ => rfl) (by decide) fl_X4_mark_12 (fun _ => rfl) dX4_mark_1 ?_
  refine z_iload_n (pc := 4) hC (i := 1) dX4_mark_4 rfl rfl ?_
  refine z_iload_n (pc := 5) hC (i := 2) dX4_mark_5 rfl rfl ?_
  refine z_callV (n := 2) (T := TX2) (N := 5) (ci := 2) (pc := 6) hC (c_X2_hasDot l w hw _ _ _ (by first | assumption | exact zb_gt _ _ _ | exact zcmp_zb _ _ | exact bI_zb _ | exact ⟨by omega, by omega⟩) (by first | assumption | exact zb_gt _ _ _ | exact zcmp_zb _ _ | exact bI_zb _ | exact ⟨by omega, by omega⟩)) gX4_mark_X2_hasDot rfl (by decide +kernel) (by decide) (by decide) rfl (by decide) (fun _ => rfl) rfl rfl (Nat.le_of_ble_eq_true rfl) dX4_mark_6 (zb_k fun r6 Ω6 h6 => ?_)
  obtain ⟨rfl, hM6⟩ := h6
  obtain rfl := hM6.symm
  refine z_ifd_eq (pc := 9) hC 21 dX4_mark_9 rfl (fun h9 => ?_) (fun h9 => ?_)
  · refine z_aload_n (pc := 21) hC (i := 0) dX4_mark_21 rfl rfl ?_
    refine z_callV (n := 0) (T := TX4) (N := 7) (ci := 4) (pc := 22) hC (c_X4_refuseBad l w hw _) gX4_mark_X4_refuseBad rfl (by decide +kernel) (by decide) (by decide) rfl (by decide) (fun _ => rfl) rfl rfl (Nat.le_of_ble_eq_true rfl) dX4_mark_22 (zi_k fun r22 Ω22 h22 => ?_)
    obtain ⟨rfl, rfl⟩ := h22
    exact z_iret (pc := 25) hC rfl ⟨_, rfl, bad_ret h (if_neg (by unfold dIn; omega))⟩ dX4_mark_25
  · refine z_iload_n (pc := 12) hC (i := 3) dX4_mark_12 rfl rfl ?_
    refine z_iconst (pc := 13) hC dX4_mark_13 ?_
    refine z_iconst (pc := 14) hC dX4_mark_14 ?_
    refine z_callS (n := 3) (pc := 15) hC (c_X4_isWithin l w hw _ _ _ _ (by first | assumption | exact zb_gt _ _ _ | exact zcmp_zb _ _ | exact bI_zb _ | exact ⟨by omega, by omega⟩) (by first | assumption | exact zb_gt _ _ _ | exact zcmp_zb _ _ | exact bI_zb _ | exact ⟨by omega, by omega⟩) (by first | assumption | exact zb_gt _ _ _ | exact zcmp_zb _ _ | exact bI_zb _ | exact ⟨by omega, by omega⟩)) gX4_mark_X4_isWithin rfl (by decide +kernel) (by decide) (by decide) rfl rfl (Nat.le_of_ble_eq_true rfl) dX4_mark_15 (zb_k fun r15 Ω15 h15 => ?_)
    obtain ⟨rfl, hM15⟩ := h15
    obtain rfl := hM15.symm
    refine z_ifd_ne (pc := 18) hC 26 dX4_mark_18 rfl (fun h18 => ?_) (fun h18 => ?_)
    · refine z_aload_n (pc := 26) hC (i := 0) dX4_mark_26 rfl rfl ?_
      refine z_getR (C := RX4) (T := TX4) (N := 7) (ci := 4) (pc := 27) hC _ _ 1 in_X4_mark_X4 rfl (by decide) (fun _ => rfl) (by decide) fl_X4_mark_19 (fun _ => rfl) dX4_mark_27 ?_
      refine z_aload_n (pc := 30) hC (i := 0) dX4_mark_30 rfl rfl ?_
      refine z_getR (C := RX4) (T := TX4) (N := 7) (ci := 4) (pc := 31) hC _ _ 0 in_X4_mark_X4 rfl (by decide) (fun _ => rfl) (by decide) fl_X4_mark_12 (fun _ => rfl) dX4_mark_31 ?_
      refine z_callV (n := 1) (T := TX0) (N := 3) (ci := 0) (pc := 34) hC (c_X0_remember l w hw _ h.2.1.2.2.1.1 h.2.1.2.2.1.2 (by rw [h.2.1.1]; omega) (by rw [h.2.1.1]; have := h.2.1.2.1; omega)) gX4_mark_X0_remember rfl (by decide +kernel) (by decide) (by decide) rfl (by decide) (fun _ => rfl) rfl rfl (Nat.le_of_ble_eq_true rfl) dX4_mark_34 (zv_k fun Ω34 h34 => ?_)
      obtain ⟨g1, g2, g3, g4⟩ := h34
      obtain ⟨hR, hfr, hs⟩ := h.rem g1 g2 g3 g4
      have q0R : gt Ω34 13 0 = a.1 0 := by rw [← scC_0, hs]
      have q1R : gt Ω34 13 1 = a.1 1 := by rw [← scC_1, hs]
      refine z_aload_n (pc := 37) hC (i := 0) dX4_mark_37 rfl rfl ?_
      refine z_getR (C := RX4) (T := TX4) (N := 7) (ci := 4) (pc := 38) hC _ _ 0 in_X4_mark_X4 rfl (by decide) (fun _ => rfl) (by decide) fl_X4_mark_12 (fun _ => rfl) dX4_mark_38 ?_
      refine z_iload_n (pc := 41) hC (i := 1) dX4_mark_41 rfl rfl ?_
      refine z_iload_n (pc := 42) hC (i := 2) dX4_mark_42 rfl rfl ?_
      refine z_callV (n := 2) (T := TX2) (N := 5) (ci := 2) (pc := 43) hC (c_X2_numberOf l w hw _ _ _) gX4_mark_X2_numberOf rfl (by decide +kernel) (by decide) (by decide) rfl (by decide) (fun _ => rfl) rfl rfl (Nat.le_of_ble_eq_true rfl) dX4_mark_43 (zi_k fun r43 Ω43 h43 => ?_)
      obtain ⟨hr43, hm43⟩ := h43
      have hm43 := hm43.symm
      subst hm43
      obtain ⟨hn1, hn2⟩ := nO_lt hv (x := x) (y := y) (by unfold dIn; omega)
      rw [q0R, hn1] at hr43
      subst hr43
      refine z_istore (pc := 46) hC (i := 4) dX4_mark_46 (by decide) rfl (zS_s (zS_s (zS_s (zS_s zS_0)))) ?_
      refine z_aload_n (pc := 48) hC (i := 0) dX4_mark_48 rfl rfl ?_
      refine z_getR (C := RX4) (T := TX4) (N := 7) (ci := 4) (pc := 49) hC _ _ 0 in_X4_mark_X4 rfl (by decide) (fun _ => rfl) (by decide) fl_X4_mark_12 (fun _ => rfl) dX4_mark_49 ?_
      refine z_getR (C := RX2) (T := TX2) (N := 5) (ci := 2) (pc := 52) hC (.ref (wa w 16)) _ 4 in_X4_mark_X2 rfl (by decide) (fun _ => rfl) (by decide) fl_X4_mark_81 (fun _ => rfl) dX4_mark_52 ?_
      refine z_iload (pc := 55) hC (i := 4) dX4_mark_55 rfl ?_
      refine z_ialk (pc := 57) hC _ (nO a.1 x y) (by decide) (fun _ => rfl) rfl (by omega) (by decide) dX4_mark_57 ?_
      refine z_istore (pc := 58) hC (i := 5) dX4_mark_58 (by decide) rfl (zS_s (zS_s (zS_s (zS_s (zS_s zS_0))))) ?_
      refine z_aload_n (pc := 60) hC (i := 0) dX4_mark_60 rfl rfl ?_
      refine z_getR (C := RX4) (T := TX4) (N := 7) (ci := 4) (pc := 61) hC _ _ 0 in_X4_mark_X4 rfl (by decide) (fun _ => rfl) (by decide) fl_X4_mark_12 (fun _ => rfl) dX4_mark_61 ?_
      refine z_getR (C := RX2) (T := TX2) (N := 5) (ci := 2) (pc := 64) hC (.ref (wa w 16)) _ 4 in_X4_mark_X2 rfl (by decide) (fun _ => rfl) (by decide) fl_X4_mark_81 (fun _ => rfl) dX4_mark_64 ?_
      refine z_iload (pc := 67) hC (i := 4) dX4_mark_67 rfl ?_
      refine z_iload_n (pc := 69) hC (i := 3) dX4_mark_69 rfl rfl ?_
      refine z_iask (pc := 70) hC _ (nO a.1 x y) (by decide) (fun _ => rfl) rfl (by omega) (by decide) dX4_mark_70 ?_
      refine z_iload (pc := 71) hC (i := 5) dX4_mark_71 rfl ?_
      exact z_iret (pc := 73) hC rfl ⟨_, rfl, by
      rw [← scC_mk Ω34 (k := nO a.1 x y) (by omega), hs]
      exact ok_ret (if_pos ⟨by unfold dIn; omega, by omega⟩) (hR.set (by rw [scC_upmk _ (by omega) ⟨by omega, by omega⟩, hs]) (scok_mk hv (by omega) (by omega) (by omega)) (fun q u v => ups_n _ _ _ (by omega))) (hfr.trans (frC_up _ _ _ (by decide)))⟩ dX4_mark_73
    · refine z_aload_n (pc := 21) hC (i := 0) dX4_mark_21 rfl rfl ?_
      refine z_callV (n := 0) (T := TX4) (N := 7) (ci := 4) (pc := 22) hC (c_X4_refuseBad l w hw _) gX4_mark_X4_refuseBad rfl (by decide +kernel) (by decide) (by decide) rfl (by decide) (fun _ => rfl) rfl rfl (Nat.le_of_ble_eq_true rfl) dX4_mark_22 (zi_k fun r22 Ω22 h22 => ?_)
      obtain ⟨rfl, rfl⟩ := h22
      exact z_iret (pc := 25) hC rfl ⟨_, rfl, bad_ret h (if_neg (by unfold dIn; omega))⟩ dX4_mark_25
