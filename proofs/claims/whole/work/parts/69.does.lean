theorem fl_X4_markLine_12 : Cond.fieldLink RX4 12 "StrokeCuts" "scene" "LStrokeCuts$Scene;" ∈ wsX4_markLine := by decide +kernel
theorem in_X4_markLine_X4 : ∀ x ∈ u_ws RX4 TX4 7, x ∈ wsX4_markLine := by decide +kernel
set_option maxHeartbeats 4000000 in
set_option maxRecDepth 100000 in
theorem S_X4_markLine_56 {E : zE} {w : zP} {l : Launch} {Post : Option Value → Mem → Prop} (hw : zOK w) (hC : zC E w l RX4 wsX4_markLine cX4_markLine 7 2 52 none Post) {Ω : Mem} (a : As) (h : RC Ω a) (x y t : Int) (hx : 0 ≤ x ∧ x < a.1 0) (hy : 0 ≤ y ∧ y < a.1 1) (ht : 0 ≤ t ∧ t ≤ 2) (tx ty : Int) (o4 : Option Value) (hx2 : 0 ≤ tx ∧ tx < a.1 0) (hy2 : 0 ≤ ty ∧ ty < a.1 1) (K : ∀ Ω1 : Mem, scC Ω1 = sfA a.1 (lineS a.1 x y tx ty) t (sdots a.1) → (∀ q, q ≠ 16 → Ω1 q = Ω q) → Post none Ω1)  : X E Ω 56 [some (.ref (wa w 0)), some (.int (zI x)), some (.int (zI y)), some (.int (zI t)), o4, some (.int (zI tx)), some (.int (zI ty))] [] := by
  have hv := h.1.2
  have hv1 : scok (scC Ω) := by rw [h.1.1]; exact h.1.2
  have q0 : gt Ω 13 0 = a.1 0 := by rw [← scC_0, h.1.1]
  have q1 : gt Ω 13 1 = a.1 1 := by rw [← scC_1, h.1.1]
  refine z_aload_n (pc := 56) hC (i := 0) dX4_markLine_56 rfl rfl ?_
  refine z_getR (C := RX4) (T := TX4) (N := 7) (ci := 4) (pc := 57) hC _ _ 0 in_X4_markLine_X4 rfl (by decide) (fun _ => rfl) (by decide) fl_X4_markLine_12 (fun _ => rfl) dX4_markLine_57 ?_
  refine z_aload_n (pc := 60) hC (i := 0) dX4_markLine_60 rfl rfl ?_
  refine z_getR (C := RX4) (T := TX4) (N := 7) (ci := 4) (pc := 61) hC _ _ 0 in_X4_markLine_X4 rfl (by decide) (fun _ => rfl) (by decide) fl_X4_markLine_12 (fun _ => rfl) dX4_markLine_61 ?_
  refine z_iload_n (pc := 64) hC (i := 1) dX4_markLine_64 rfl rfl ?_
  refine z_iload_n (pc := 65) hC (i := 2) dX4_markLine_65 rfl rfl ?_
  refine z_iload (pc := 66) hC (i := 5) dX4_markLine_66 rfl ?_
  refine z_iload (pc := 68) hC (i := 6) dX4_markLine_68 rfl ?_
  refine z_callV (n := 4) (T := TX2) (N := 5) (ci := 2) (pc := 70) hC (c_X2_lineOf l w hw _ x y tx ty hv1 (by omega) (by omega) (by omega) (by omega)) gX4_markLine_X2_lineOf rfl (by decide +kernel) (by decide) (by decide) rfl (by decide) (fun _ => rfl) rfl rfl (Nat.le_of_ble_eq_true rfl) dX4_markLine_70 (zl_k fun r70 Ω70 h70 => ?_)
  obtain ⟨t0, hm70⟩ := h70
  have hm70 := hm70.symm
  subst hm70
  rw [h.1.1] at t0
  refine z_iload_n (pc := 73) hC (i := 3) dX4_markLine_73 rfl rfl ?_
  refine z_callV (n := 2) (T := TX2) (N := 5) (ci := 2) (pc := 74) hC (c_X2_markAll l w hw _ r70 t hv1 ⟨by omega, by omega⟩) gX4_markLine_X2_markAll rfl (by decide +kernel) (by decide) (by decide) rfl (by decide) (fun _ => rfl) rfl rfl (Nat.le_of_ble_eq_true rfl) dX4_markLine_74 (zi_k fun r74 Ω74 h74 => ?_)
  obtain ⟨u0, u1, u2⟩ := h74
  rw [h.1.1, t0] at u1
  refine z_pop (pc := 77) hC dX4_markLine_77 rfl ?_
  exact z_vret (pc := 78) hC rfl (K _ u1 u2) dX4_markLine_78
theorem fl_X4_markLine_33 : Cond.fieldLink RX4 33 "StrokeCuts" "script" "LStrokeCuts$Script;" ∈ wsX4_markLine := by decide +kernel
set_option maxHeartbeats 4000000 in
set_option maxRecDepth 100000 in
theorem S_X4_markLine_18 {E : zE} {w : zP} {l : Launch} {Post : Option Value → Mem → Prop} (hw : zOK w) (hC : zC E w l RX4 wsX4_markLine cX4_markLine 7 2 52 none Post) {Ω : Mem} (a : As) (h : RC Ω a) (x y t : Int) (hx : 0 ≤ x ∧ x < a.1 0) (hy : 0 ≤ y ∧ y < a.1 1) (ht : 0 ≤ t ∧ t ≤ 2) (b : Int) (hb : (b = 1 ∧ gt Ω 10 6 = 4) ∨ (b = 0 ∧ ¬ gt Ω 10 6 = 4)) (h6 : 0 ≤ gt Ω 10 6 ∧ gt Ω 10 6 ≤ 4) (h4 : gt Ω 10 6 = 4 → (0 ≤ gt Ω 12 2 ∧ gt Ω 12 2 < a.1 0) ∧ (0 ≤ gt Ω 12 3 ∧ gt Ω 12 3 < a.1 1)) (K : ∀ Ω1 : Mem, scC Ω1 = sfA a.1 (lineS a.1 x y (if gt Ω 10 6 = 4 then gt Ω 12 2 else x) (if gt Ω 10 6 = 4 then gt Ω 12 3 else y)) t (sdots a.1) → (∀ q, q ≠ 16 → Ω1 q = Ω q) → Post none Ω1)  : X E Ω 18 [some (.ref (wa w 0)), some (.int (zI x)), some (.int (zI y)), some (.int (zI t)), some (.int (zI b)), none, none] [] := by
  have hbz : zb b := ⟨by omega, by omega⟩
  refine z_iload (pc := 18) hC (i := 4) dX4_markLine_18 rfl ?_
  refine z_if_eq (pc := 20) hC 34 hbz dX4_markLine_20 rfl (fun h20 => ?_) (fun h20 => ?_)
  · refine z_iload_n (pc := 34) hC (i := 1) dX4_markLine_34 rfl rfl ?_
    refine z_istore (pc := 35) hC (i := 5) dX4_markLine_35 (by decide) rfl (zS_s (zS_s (zS_s (zS_s (zS_s zS_0))))) ?_
    refine z_iload (pc := 37) hC (i := 4) dX4_markLine_37 rfl ?_
    refine z_if_eq (pc := 39) hC 53 hbz dX4_markLine_39 rfl (fun h39 => ?_) (fun h39 => ?_)
    · refine z_iload_n (pc := 53) hC (i := 2) dX4_markLine_53 rfl rfl ?_
      refine z_istore (pc := 54) hC (i := 6) dX4_markLine_54 (by decide) rfl (zS_s (zS_s (zS_s (zS_s (zS_s (zS_s zS_0)))))) ?_
      exact S_X4_markLine_56 hw hC a h x y t hx hy ht _ _ _ hx hy (fun Ω1 e1 e2 => K Ω1 (by rw [if_neg (show ¬ gt Ω 10 6 = 4 by omega), if_neg (show ¬ gt Ω 10 6 = 4 by omega)]; exact e1) e2)
    · refine z_aload_n (pc := 42) hC (i := 0) dX4_markLine_42 rfl rfl ?_
      refine z_getR (C := RX4) (T := TX4) (N := 7) (ci := 4) (pc := 43) hC _ _ 3 in_X4_markLine_X4 rfl (by decide) (fun _ => rfl) (by decide) fl_X4_markLine_33 (fun _ => rfl) dX4_markLine_43 ?_
      refine z_iconst (pc := 46) hC dX4_markLine_46 ?_
      refine z_callV (n := 1) (T := TX3) (N := 7) (ci := 3) (pc := 47) hC (c_X3_number l w hw _ 3 (by decide) (by omega)) gX4_markLine_X3_number rfl (by decide +kernel) (by decide) (by decide) rfl (by decide) (fun _ => rfl) rfl rfl (Nat.le_of_ble_eq_true rfl) dX4_markLine_47 (zi_k fun r47 Ω47 h47 => ?_)
      obtain ⟨hr47, hm47⟩ := h47
      have hm47 := hm47.symm
      subst hm47
      rw [if_pos (by omega)] at hr47
      subst hr47
      refine z_goto (pc := 50) hC 54 dX4_markLine_50 rfl ?_
      refine z_istore (pc := 54) hC (i := 6) dX4_markLine_54 (by decide) rfl (zS_s (zS_s (zS_s (zS_s (zS_s (zS_s zS_0)))))) ?_
      exact absurd h39 (by omega)
  · refine z_aload_n (pc := 23) hC (i := 0) dX4_markLine_23 rfl rfl ?_
    refine z_getR (C := RX4) (T := TX4) (N := 7) (ci := 4) (pc := 24) hC _ _ 3 in_X4_markLine_X4 rfl (by decide) (fun _ => rfl) (by decide) fl_X4_markLine_33 (fun _ => rfl) dX4_markLine_24 ?_
    refine z_iconst (pc := 27) hC dX4_markLine_27 ?_
    refine z_callV (n := 1) (T := TX3) (N := 7) (ci := 3) (pc := 28) hC (c_X3_number l w hw _ 2 (by decide) (by omega)) gX4_markLine_X3_number rfl (by decide +kernel) (by decide) (by decide) rfl (by decide) (fun _ => rfl) rfl rfl (Nat.le_of_ble_eq_true rfl) dX4_markLine_28 (zi_k fun r28 Ω28 h28 => ?_)
    obtain ⟨hr28, hm28⟩ := h28
    have hm28 := hm28.symm
    subst hm28
    rw [if_pos (by omega)] at hr28
    subst hr28
    refine z_goto (pc := 31) hC 35 dX4_markLine_31 rfl ?_
    refine z_istore (pc := 35) hC (i := 5) dX4_markLine_35 (by decide) rfl (zS_s (zS_s (zS_s (zS_s (zS_s zS_0))))) ?_
    refine z_iload (pc := 37) hC (i := 4) dX4_markLine_37 rfl ?_
    refine z_if_eq (pc := 39) hC 53 hbz dX4_markLine_39 rfl (fun h39 => ?_) (fun h39 => ?_)
    · refine z_iload_n (pc := 53) hC (i := 2) dX4_markLine_53 rfl rfl ?_
      refine z_istore (pc := 54) hC (i := 6) dX4_markLine_54 (by decide) rfl (zS_s (zS_s (zS_s (zS_s (zS_s (zS_s zS_0)))))) ?_
      exact absurd h39 (by omega)
    · refine z_aload_n (pc := 42) hC (i := 0) dX4_markLine_42 rfl rfl ?_
      refine z_getR (C := RX4) (T := TX4) (N := 7) (ci := 4) (pc := 43) hC _ _ 3 in_X4_markLine_X4 rfl (by decide) (fun _ => rfl) (by decide) fl_X4_markLine_33 (fun _ => rfl) dX4_markLine_43 ?_
      refine z_iconst (pc := 46) hC dX4_markLine_46 ?_
      refine z_callV (n := 1) (T := TX3) (N := 7) (ci := 3) (pc := 47) hC (c_X3_number l w hw _ 3 (by decide) (by omega)) gX4_markLine_X3_number rfl (by decide +kernel) (by decide) (by decide) rfl (by decide) (fun _ => rfl) rfl rfl (Nat.le_of_ble_eq_true rfl) dX4_markLine_47 (zi_k fun r47 Ω47 h47 => ?_)
      obtain ⟨hr47, hm47⟩ := h47
      have hm47 := hm47.symm
      subst hm47
      rw [if_pos (by omega)] at hr47
      subst hr47
      refine z_goto (pc := 50) hC 54 dX4_markLine_50 rfl ?_
      refine z_istore (pc := 54) hC (i := 6) dX4_markLine_54 (by decide) rfl (zS_s (zS_s (zS_s (zS_s (zS_s (zS_s zS_0)))))) ?_
      exact S_X4_markLine_56 hw hC a h x y t hx hy ht _ _ _ (h4 (by omega)).1 (h4 (by omega)).2 (fun Ω1 e1 e2 => K Ω1 (by rw [if_pos (show gt Ω 10 6 = 4 by omega), if_pos (show gt Ω 10 6 = 4 by omega)]; exact e1) e2)
theorem fl_X4_markLine_259 : Cond.fieldLink RX4 259 "StrokeCuts$Script" "numberCount" "I" ∈ wsX4_markLine := by decide +kernel
theorem in_X4_markLine_X3 : ∀ x ∈ u_ws RX3 TX3 7, x ∈ wsX4_markLine := by decide +kernel
set_option maxHeartbeats 4000000 in
set_option maxRecDepth 100000 in
theorem c_X4_markLine (l : Launch) (w : zP) (hw : zOK w) (Ω : Mem) (a : As) (h : RC Ω a) (x y t : Int) (hx : 0 ≤ x ∧ x < a.1 0) (hy : 0 ≤ y ∧ y < a.1 1) (ht : 0 ≤ t ∧ t ≤ 2) (h4 : gt Ω 10 6 = 4 → (0 ≤ gt Ω 12 2 ∧ gt Ω 12 2 < a.1 0) ∧ (0 ≤ gt Ω 12 3 ∧ gt Ω 12 3 < a.1 1)) : zM l w yX4_markLine wsX4_markLine 2 52 [.ref (wa w 0), .int (zI x), .int (zI y), .int (zI t)] Ω (zvo (fun Ω1 => scC Ω1 = sfA a.1 (lineS a.1 x y (if gt Ω 10 6 = 4 then gt Ω 12 2 else x) (if gt Ω 10 6 = 4 then gt Ω 12 3 else y)) t (sdots a.1) ∧ ∀ q, q ≠ 16 → Ω1 q = Ω q)) := by
  refine zM_of cX4_markLine 7 none RX4 [some (.ref (wa w 0)), some (.int (zI x)), some (.int (zI y)), some (.int (zI t)), none, none, none] hw (by decide +kernel) rfl rfl (Nat.le_of_ble_eq_true rfl) rfl (fun E hC => ?_)
  refine z_aload_n (pc := 0) hC (i := 0) dX4_markLine_0 rfl rfl ?_
  refine z_getR (C := RX4) (T := TX4) (N := 7) (ci := 4) (pc := 1) hC _ _ 3 in_X4_markLine_X4 rfl (by decide) (fun _ => rfl) (by decide) fl_X4_markLine_33 (fun _ => rfl) dX4_markLine_1 ?_
  refine z_getI (C := RX3) (T := TX3) (N := 7) (ci := 3) (pc := 4) hC _ 6 in_X4_markLine_X3 rfl (by decide) (fun _ => rfl) (by decide) fl_X4_markLine_259 (fun _ => rfl) dX4_markLine_4 ?_
  refine z_iconst (pc := 7) hC dX4_markLine_7 ?_
  refine z_icmp_ne (pc := 8) hC 15 (by first | assumption | exact zb_gt _ _ _ | exact zcmp_zb _ _ | exact bI_zb _ | exact ⟨by omega, by omega⟩) (by first | assumption | exact zb_gt _ _ _ | exact zcmp_zb _ _ | exact bI_zb _ | exact ⟨by omega, by omega⟩) dX4_markLine_8 rfl (fun h8 => ?_) (fun h8 => ?_)
  · refine z_iconst (pc := 15) hC dX4_markLine_15 ?_
    refine z_istore (pc := 16) hC (i := 4) dX4_markLine_16 (by decide) rfl (zS_s (zS_s (zS_s (zS_s zS_0)))) ?_
    exact S_X4_markLine_18 hw hC a h x y t hx hy ht _ (Or.inr ⟨rfl, h8⟩) h.2.2.2.2.2.2.2 h4 (fun Ω1 e1 e2 => ⟨rfl, e1, e2⟩)
  · refine z_iconst (pc := 11) hC dX4_markLine_11 ?_
    refine z_goto (pc := 12) hC 16 dX4_markLine_12 rfl ?_
    refine z_istore (pc := 16) hC (i := 4) dX4_markLine_16 (by decide) rfl (zS_s (zS_s (zS_s (zS_s zS_0)))) ?_
    exact S_X4_markLine_18 hw hC a h x y t hx hy ht _ (Or.inl ⟨rfl, by omega⟩) h.2.2.2.2.2.2.2 h4 (fun Ω1 e1 e2 => ⟨rfl, e1, e2⟩)
theorem ls25 {a : Int} {tgt : Nat} (h : (tgt : Int) = (25 : Nat) + Op.lookupswitch.offset (#[(102, 43), (103, 53), (110, 63), (115, 73)] : Array (Int × Int)).toList 101 a) : (tgt = 68 ∧ a = 102) ∨ (tgt = 78 ∧ a = 103) ∨ (tgt = 88 ∧ a = 110) ∨ (tgt = 98 ∧ a = 115) ∨ (tgt = 126 ∧ ¬ (a = 102 ∨ a = 103 ∨ a = 110 ∨ a = 115)) := by
  have e : Op.lookupswitch.offset (#[(102, 43), (103, 53), (110, 63), (115, 73)] : Array (Int × Int)).toList 101 a = if 102 = a then 43 else if 103 = a then 53 else if 110 = a then 63 else if 115 = a then 73 else 101 := rfl
  rw [e] at h
  by_cases c1 : 102 = a
  · rw [if_pos c1] at h; omega
  · rw [if_neg c1] at h
    by_cases c2 : 103 = a
    · rw [if_pos c2] at h; omega
    · rw [if_neg c2] at h
      by_cases c3 : 110 = a
      · rw [if_pos c3] at h; omega
      · rw [if_neg c3] at h
        by_cases c4 : 115 = a
        · rw [if_pos c4] at h; omega
        · rw [if_neg c4] at h; omega
theorem ls_nn (a : Int) : Op.lookupswitch.offset (#[(102, 43), (103, 53), (110, 63), (115, 73)] : Array (Int × Int)).toList 101 a = if 102 = a then 43 else if 103 = a then 53 else if 110 = a then 63 else if 115 = a then 73 else 101 := rfl
theorem fl_X4_obeyOrder_33 : Cond.fieldLink RX4 33 "StrokeCuts" "script" "LStrokeCuts$Script;" ∈ wsX4_obeyOrder := by decide +kernel
theorem in_X4_obeyOrder_X4 : ∀ x ∈ u_ws RX4 TX4 7, x ∈ wsX4_obeyOrder := by decide +kernel
theorem fl_X4_obeyOrder_252 : Cond.fieldLink RX4 252 "StrokeCuts$Script" "kind" "I" ∈ wsX4_obeyOrder := by decide +kernel
theorem in_X4_obeyOrder_X3 : ∀ x ∈ u_ws RX3 TX3 7, x ∈ wsX4_obeyOrder := by decide +kernel
theorem fl_X4_obeyOrder_12 : Cond.fieldLink RX4 12 "StrokeCuts" "scene" "LStrokeCuts$Scene;" ∈ wsX4_obeyOrder := by decide +kernel
theorem fl_X4_obeyOrder_64 : Cond.fieldLink RX4 64 "StrokeCuts$Scene" "shades" "[I" ∈ wsX4_obeyOrder := by decide +kernel
theorem in_X4_obeyOrder_X2 : ∀ x ∈ u_ws RX2 TX2 5, x ∈ wsX4_obeyOrder := by decide +kernel
set_option maxHeartbeats 4000000 in
set_option maxRecDepth 100000 in
theorem c_X4_obeyOrder (l : Launch) (w : zP) (hw : zOK w) (Ω : Mem) (a : As) (h : RC Ω a) (ho : ordV (a.1 0) (a.1 1) (gt Ω 10 5) (gt Ω 10 6).toNat (gt Ω 12)) : zM l w yX4_obeyOrder wsX4_obeyOrder 42 1165 [.ref (wa w 0)] Ω (zvo (fun Ω1 => RC Ω1 (aSet a (obey a.1 (gt Ω 10 5) (gt Ω 10 6).toNat (gt Ω 12))) ∧ frD Ω Ω1)) := by
  refine zM_of cX4_obeyOrder 3 none RX4 [some (.ref (wa w 0)), none, none] hw (by decide +kernel) rfl rfl (Nat.le_of_ble_eq_true rfl) rfl (fun E hC => ?_)
  have hv := h.1.2
  have hv1 : scok (scC Ω) := by rw [h.1.1]; exact h.1.2
  have q0 : gt Ω 13 0 = a.1 0 := by rw [← scC_0, h.1.1]
  have q1 : gt Ω 13 1 = a.1 1 := by rw [← scC_1, h.1.1]
  have hN := sdots_le hv
  have hw01 := hv.1
  have hh01 := hv.2.1
  have h6 := h.2.2.2.2.2.2.2
  refine z_aload_n (pc := 0) hC (i := 0) dX4_obeyOrder_0 rfl rfl ?_
  refine z_getR (C := RX4) (T := TX4) (N := 7) (ci := 4) (pc := 1) hC _ _ 3 in_X4_obeyOrder_X4 rfl (by decide) (fun _ => rfl) (by decide) fl_X4_obeyOrder_33 (fun _ => rfl) dX4_obeyOrder_1 ?_
  refine z_iconst (pc := 4) hC dX4_obeyOrder_4 ?_
  refine z_callV (n := 1) (T := TX3) (N := 7) (ci := 3) (pc := 5) hC (c_X3_number l w hw _ 0 (by decide) h.2.2.2.2.2.2.2.2) gX4_obeyOrder_X3_number rfl (by decide +kernel) (by decide) (by decide) rfl (by decide) (fun _ => rfl) rfl rfl (Nat.le_of_ble_eq_true rfl) dX4_obeyOrder_5 (zi_k fun r5 Ω5 h5 => ?_)
  obtain ⟨rfl, hM5⟩ := h5
  obtain rfl := hM5.symm
  refine z_istore_n (pc := 8) hC (i := 1) dX4_obeyOrder_8 rfl (by decide) rfl (zS_s zS_0) ?_
  refine z_aload_n (pc := 9) hC (i := 0) dX4_obeyOrder_9 rfl rfl ?_
  refine z_getR (C := RX4) (T := TX4) (N := 7) (ci := 4) (pc := 10) hC _ _ 3 in_X4_obeyOrder_X4 rfl (by decide) (fun _ => rfl) (by decide) fl_X4_obeyOrder_33 (fun _ => rfl) dX4_obeyOrder_10 ?_
  refine z_iconst (pc := 13) hC dX4_obeyOrder_13 ?_
  refine z_callV (n := 1) (T := TX3) (N := 7) (ci := 3) (pc := 14) hC (c_X3_number l w hw _ 1 (by decide) h.2.2.2.2.2.2.2.2) gX4_obeyOrder_X3_number rfl (by decide +kernel) (by decide) (by decide) rfl (by decide) (fun _ => rfl) rfl rfl (Nat.le_of_ble_eq_true rfl) dX4_obeyOrder_14 (zi_k fun r14 Ω14 h14 => ?_)
  obtain ⟨rfl, hM14⟩ := h14
  obtain rfl := hM14.symm
  refine z_istore_n (pc := 17) hC (i := 2) dX4_obeyOrder_17 rfl (by decide) rfl (zS_s (zS_s zS_0)) ?_
  refine z_aload_n (pc := 18) hC (i := 0) dX4_obeyOrder_18 rfl rfl ?_
  refine z_getR (C := RX4) (T := TX4) (N := 7) (ci := 4) (pc := 19) hC _ _ 3 in_X4_obeyOrder_X4 rfl (by decide) (fun _ => rfl) (by decide) fl_X4_obeyOrder_33 (fun _ => rfl) dX4_obeyOrder_19 ?_
  refine z_getI (C := RX3) (T := TX3) (N := 7) (ci := 3) (pc := 22) hC _ 5 in_X4_obeyOrder_X3 rfl (by decide) (fun _ => rfl) (by decide) fl_X4_obeyOrder_252 (fun _ => rfl) dX4_obeyOrder_22 ?_
  refine z_ls (pc := 25) hC (zb_gt _ _ _) dX4_obeyOrder_25 (by decide) (by rw [ls_nn]; omega) (fun tgt ht => ?_)
  rcases ls25 ht with ⟨rfl, hk⟩ | ⟨rfl, hk⟩ | ⟨rfl, hk⟩ | ⟨rfl, hk⟩ | ⟨rfl, hk⟩
  · have hl : ((gt Ω 10 6).toNat = 2 ∨ (gt Ω 10 6).toNat = 4) ∧ ((0 ≤ gt Ω 12 0 ∧ gt Ω 12 0 < a.1 0) ∧ (0 ≤ gt Ω 12 1 ∧ gt Ω 12 1 < a.1 1)) ∧ True ∧ ((gt Ω 10 6).toNat = 4 → (0 ≤ gt Ω 12 2 ∧ gt Ω 12 2 < a.1 0) ∧ (0 ≤ gt Ω 12 3 ∧ gt Ω 12 3 < a.1 1)) := by
      rcases ho with ⟨_, o2, o3, o4⟩ | ⟨o1, _⟩ | ⟨o1, _⟩
      · exact ⟨o2, o3, trivial, o4⟩
      · omega
      · omega
    rw [if_pos (show ((0 : Nat) : Int) < gt Ω 10 6 by omega), if_pos (show ((1 : Nat) : Int) < gt Ω 10 6 by omega)]
    refine z_aload_n (pc := 68) hC (i := 0) dX4_obeyOrder_68 rfl rfl ?_
    refine z_iload_n (pc := 69) hC (i := 1) dX4_obeyOrder_69 rfl rfl ?_
    refine z_iload_n (pc := 70) hC (i := 2) dX4_obeyOrder_70 rfl rfl ?_
    refine z_iconst (pc := 71) hC dX4_obeyOrder_71 ?_
    refine z_callV (n := 3) (T := TX4) (N := 7) (ci := 4) (pc := 72) hC (c_X4_markLine l w hw _ a h (gt Ω 12 0) (gt Ω 12 1) 1 (by omega) (by omega) (by omega) (fun q => (hl.2.2.2 (by omega)))) gX4_obeyOrder_X4_markLine rfl (by decide +kernel) (by decide) (by decide) rfl (by decide) (fun _ => rfl) rfl rfl (Nat.le_of_ble_eq_true rfl) dX4_obeyOrder_72 (zv_k fun Ω72 h72 => ?_)
    obtain ⟨t1, t2⟩ := h72
    have hob : scC Ω72 = obey a.1 (gt Ω 10 5) (gt Ω 10 6).toNat (gt Ω 12) := by
      rw [t1, obey_l (by omega) (by omega)]
      by_cases c4 : gt Ω 10 6 = 4
      · rw [if_pos c4, if_pos c4, if_pos (show (gt Ω 10 6).toNat = 4 by omega), if_pos (show (gt Ω 10 6).toNat = 4 by omega), if_pos hk]
      · rw [if_neg c4, if_neg c4, if_neg (show ¬ (gt Ω 10 6).toNat = 4 by omega), if_neg (show ¬ (gt Ω 10 6).toNat = 4 by omega), if_pos hk]
    have hfin := h.set hob (obey_ok hv ho).1 (fun q u v => t2 q (by omega))
    have hfd : frD Ω Ω72 := fun q hq => t2 q (by omega)
    refine z_goto (pc := 75) hC 139 dX4_obeyOrder_75 rfl ?_
    exact z_vret (pc := 139) hC rfl ⟨rfl, ⟨hfin, hfd⟩⟩ dX4_obeyOrder_139
  · have hl : ((gt Ω 10 6).toNat = 2 ∨ (gt Ω 10 6).toNat = 4) ∧ ((0 ≤ gt Ω 12 0 ∧ gt Ω 12 0 < a.1 0) ∧ (0 ≤ gt Ω 12 1 ∧ gt Ω 12 1 < a.1 1)) ∧ True ∧ ((gt Ω 10 6).toNat = 4 → (0 ≤ gt Ω 12 2 ∧ gt Ω 12 2 < a.1 0) ∧ (0 ≤ gt Ω 12 3 ∧ gt Ω 12 3 < a.1 1)) := by
      rcases ho with ⟨_, o2, o3, o4⟩ | ⟨o1, _⟩ | ⟨o1, _⟩
      · exact ⟨o2, o3, trivial, o4⟩
      · omega
      · omega
    rw [if_pos (show ((0 : Nat) : Int) < gt Ω 10 6 by omega), if_pos (show ((1 : Nat) : Int) < gt Ω 10 6 by omega)]
    refine z_aload_n (pc := 78) hC (i := 0) dX4_obeyOrder_78 rfl rfl ?_
    refine z_iload_n (pc := 79) hC (i := 1) dX4_obeyOrder_79 rfl rfl ?_
    refine z_iload_n (pc := 80) hC (i := 2) dX4_obeyOrder_80 rfl rfl ?_
    refine z_iconst (pc := 81) hC dX4_obeyOrder_81 ?_
    refine z_callV (n := 3) (T := TX4) (N := 7) (ci := 4) (pc := 82) hC (c_X4_markLine l w hw _ a h (gt Ω 12 0) (gt Ω 12 1) 2 (by omega) (by omega) (by omega) (fun q => (hl.2.2.2 (by omega)))) gX4_obeyOrder_X4_markLine rfl (by decide +kernel) (by decide) (by decide) rfl (by decide) (fun _ => rfl) rfl rfl (Nat.le_of_ble_eq_true rfl) dX4_obeyOrder_82 (zv_k fun Ω82 h82 => ?_)
    obtain ⟨t1, t2⟩ := h82
    have hob : scC Ω82 = obey a.1 (gt Ω 10 5) (gt Ω 10 6).toNat (gt Ω 12) := by
      rw [t1, obey_l (by omega) (by omega)]
      by_cases c4 : gt Ω 10 6 = 4
      · rw [if_pos c4, if_pos c4, if_pos (show (gt Ω 10 6).toNat = 4 by omega), if_pos (show (gt Ω 10 6).toNat = 4 by omega), if_neg (by omega), if_pos hk]
      · rw [if_neg c4, if_neg c4, if_neg (show ¬ (gt Ω 10 6).toNat = 4 by omega), if_neg (show ¬ (gt Ω 10 6).toNat = 4 by omega), if_neg (by omega), if_pos hk]
    have hfin := h.set hob (obey_ok hv ho).1 (fun q u v => t2 q (by omega))
    have hfd : frD Ω Ω82 := fun q hq => t2 q (by omega)
    refine z_goto (pc := 85) hC 139 dX4_obeyOrder_85 rfl ?_
    exact z_vret (pc := 139) hC rfl ⟨rfl, ⟨hfin, hfd⟩⟩ dX4_obeyOrder_139
  · have hl : ((gt Ω 10 6).toNat = 2 ∨ (gt Ω 10 6).toNat = 4) ∧ ((0 ≤ gt Ω 12 0 ∧ gt Ω 12 0 < a.1 0) ∧ (0 ≤ gt Ω 12 1 ∧ gt Ω 12 1 < a.1 1)) ∧ True ∧ ((gt Ω 10 6).toNat = 4 → (0 ≤ gt Ω 12 2 ∧ gt Ω 12 2 < a.1 0) ∧ (0 ≤ gt Ω 12 3 ∧ gt Ω 12 3 < a.1 1)) := by
      rcases ho with ⟨_, o2, o3, o4⟩ | ⟨o1, _⟩ | ⟨o1, _⟩
      · exact ⟨o2, o3, trivial, o4⟩
      · omega
      · omega
    rw [if_pos (show ((0 : Nat) : Int) < gt Ω 10 6 by omega), if_pos (show ((1 : Nat) : Int) < gt Ω 10 6 by omega)]
    refine z_aload_n (pc := 88) hC (i := 0) dX4_obeyOrder_88 rfl rfl ?_
    refine z_iload_n (pc := 89) hC (i := 1) dX4_obeyOrder_89 rfl rfl ?_
    refine z_iload_n (pc := 90) hC (i := 2) dX4_obeyOrder_90 rfl rfl ?_
    refine z_iconst (pc := 91) hC dX4_obeyOrder_91 ?_
    refine z_callV (n := 3) (T := TX4) (N := 7) (ci := 4) (pc := 92) hC (c_X4_markLine l w hw _ a h (gt Ω 12 0) (gt Ω 12 1) 0 (by omega) (by omega) (by omega) (fun q => (hl.2.2.2 (by omega)))) gX4_obeyOrder_X4_markLine rfl (by decide +kernel) (by decide) (by decide) rfl (by decide) (fun _ => rfl) rfl rfl (Nat.le_of_ble_eq_true rfl) dX4_obeyOrder_92 (zv_k fun Ω92 h92 => ?_)
    obtain ⟨t1, t2⟩ := h92
    have hob : scC Ω92 = obey a.1 (gt Ω 10 5) (gt Ω 10 6).toNat (gt Ω 12) := by
      rw [t1, obey_l (by omega) (by omega)]
      by_cases c4 : gt Ω 10 6 = 4
      · rw [if_pos c4, if_pos c4, if_pos (show (gt Ω 10 6).toNat = 4 by omega), if_pos (show (gt Ω 10 6).toNat = 4 by omega), if_neg (by omega), if_neg (by omega)]
      · rw [if_neg c4, if_neg c4, if_neg (show ¬ (gt Ω 10 6).toNat = 4 by omega), if_neg (show ¬ (gt Ω 10 6).toNat = 4 by omega), if_neg (by omega), if_neg (by omega)]
    have hfin := h.set hob (obey_ok hv ho).1 (fun q u v => t2 q (by omega))
    have hfd : frD Ω Ω92 := fun q hq => t2 q (by omega)
    refine z_goto (pc := 95) hC 139 dX4_obeyOrder_95 rfl ?_
    exact z_vret (pc := 139) hC rfl ⟨rfl, ⟨hfin, hfd⟩⟩ dX4_obeyOrder_139
  · have hl : (gt Ω 10 6).toNat = 3 ∧ ((0 ≤ gt Ω 12 0 ∧ gt Ω 12 0 < a.1 0) ∧ (0 ≤ gt Ω 12 1 ∧ gt Ω 12 1 < a.1 1)) ∧ 0 ≤ gt Ω 12 2 ∧ gt Ω 12 2 ≤ 9 := by
      rcases ho with ⟨o1, _⟩ | ⟨o1, o2, o3, o4⟩ | ⟨o1, _⟩
      · omega
      · exact ⟨o2, o3, o4⟩
      · omega
    obtain ⟨hn1, hn2⟩ := nO_lt hv (x := gt Ω 12 0) (y := gt Ω 12 1) ⟨hl.2.1.1.1, hl.2.1.1.2, hl.2.1.2.1, hl.2.1.2.2⟩
    rw [if_pos (show ((0 : Nat) : Int) < gt Ω 10 6 by omega), if_pos (show ((1 : Nat) : Int) < gt Ω 10 6 by omega)]
    refine z_aload_n (pc := 98) hC (i := 0) dX4_obeyOrder_98 rfl rfl ?_
    refine z_getR (C := RX4) (T := TX4) (N := 7) (ci := 4) (pc := 99) hC _ _ 0 in_X4_obeyOrder_X4 rfl (by decide) (fun _ => rfl) (by decide) fl_X4_obeyOrder_12 (fun _ => rfl) dX4_obeyOrder_99 ?_
    refine z_getR (C := RX2) (T := TX2) (N := 5) (ci := 2) (pc := 102) hC (.ref (wa w 15)) _ 3 in_X4_obeyOrder_X2 rfl (by decide) (fun _ => rfl) (by decide) fl_X4_obeyOrder_64 (fun _ => rfl) dX4_obeyOrder_102 ?_
    refine z_aload_n (pc := 105) hC (i := 0) dX4_obeyOrder_105 rfl rfl ?_
    refine z_getR (C := RX4) (T := TX4) (N := 7) (ci := 4) (pc := 106) hC _ _ 0 in_X4_obeyOrder_X4 rfl (by decide) (fun _ => rfl) (by decide) fl_X4_obeyOrder_12 (fun _ => rfl) dX4_obeyOrder_106 ?_
    refine z_iload_n (pc := 109) hC (i := 1) dX4_obeyOrder_109 rfl rfl ?_
    refine z_iload_n (pc := 110) hC (i := 2) dX4_obeyOrder_110 rfl rfl ?_
    refine z_callV (n := 2) (T := TX2) (N := 5) (ci := 2) (pc := 111) hC (c_X2_numberOf l w hw _ _ _) gX4_obeyOrder_X2_numberOf rfl (by decide +kernel) (by decide) (by decide) rfl (by decide) (fun _ => rfl) rfl rfl (Nat.le_of_ble_eq_true rfl) dX4_obeyOrder_111 (zi_k fun r111 Ω111 h111 => ?_)
    obtain ⟨hr111, hm111⟩ := h111
    have hm111 := hm111.symm
    subst hm111
    rw [q0, hn1] at hr111
    subst hr111
    refine z_aload_n (pc := 114) hC (i := 0) dX4_obeyOrder_114 rfl rfl ?_
    refine z_getR (C := RX4) (T := TX4) (N := 7) (ci := 4) (pc := 115) hC _ _ 3 in_X4_obeyOrder_X4 rfl (by decide) (fun _ => rfl) (by decide) fl_X4_obeyOrder_33 (fun _ => rfl) dX4_obeyOrder_115 ?_
    refine z_iconst (pc := 118) hC dX4_obeyOrder_118 ?_
    refine z_callV (n := 1) (T := TX3) (N := 7) (ci := 3) (pc := 119) hC (c_X3_number l w hw _ 2 (by decide) h.2.2.2.2.2.2.2.2) gX4_obeyOrder_X3_number rfl (by decide +kernel) (by decide) (by decide) rfl (by decide) (fun _ => rfl) rfl rfl (Nat.le_of_ble_eq_true rfl) dX4_obeyOrder_119 (zi_k fun r119 Ω119 h119 => ?_)
    obtain ⟨hr119, hm119⟩ := h119
    have hm119 := hm119.symm
    subst hm119
    rw [if_pos (show ((2 : Nat) : Int) < gt Ω 10 6 by omega)] at hr119
    subst hr119
    refine z_iask (pc := 122) hC _ (nO a.1 (gt Ω 12 0) (gt Ω 12 1)) (by decide) (fun _ => rfl) rfl (by omega) (by decide) dX4_obeyOrder_122 ?_
    have hob : scC (ups Ω 15 (nO a.1 (gt Ω 12 0) (gt Ω 12 1)) (gt Ω 12 2)) = obey a.1 (gt Ω 10 5) (gt Ω 10 6).toNat (gt Ω 12) := by
      unfold obey
      rw [if_neg (by omega), if_pos hk, scC_upsh Ω (k := nO a.1 (gt Ω 12 0) (gt Ω 12 1)) (v := gt Ω 12 2) (by omega) (zb_gt _ _ _), h.1.1]
    have hfin := h.set hob (obey_ok hv ho).1 (fun q u v => ups_n _ _ _ (by omega))
    have hfd : frD Ω (ups Ω 15 (nO a.1 (gt Ω 12 0) (gt Ω 12 1)) (gt Ω 12 2)) := fun q hq => ups_n _ _ _ (by omega)
    refine z_goto (pc := 123) hC 139 dX4_obeyOrder_123 rfl ?_
    exact z_vret (pc := 139) hC rfl ⟨rfl, ⟨hfin, hfd⟩⟩ dX4_obeyOrder_139
  · have hl : gt Ω 10 5 = 108 ∧ (gt Ω 10 6).toNat = 1 ∧ 1 ≤ gt Ω 12 0 ∧ gt Ω 12 0 ≤ 9 := by
      rcases ho with ⟨o1, _⟩ | ⟨o1, _⟩ | ⟨o1, o2, o3⟩
      · omega
      · omega
      · exact ⟨o1, o2, o3⟩
    obtain ⟨j, hj⟩ := nat_of (show 0 ≤ gt Ω 12 0 by omega)
    refine z_aload_n (pc := 126) hC (i := 0) dX4_obeyOrder_126 rfl rfl ?_
    refine z_aload_n (pc := 127) hC (i := 0) dX4_obeyOrder_127 rfl rfl ?_
    refine z_getR (C := RX4) (T := TX4) (N := 7) (ci := 4) (pc := 128) hC _ _ 3 in_X4_obeyOrder_X4 rfl (by decide) (fun _ => rfl) (by decide) fl_X4_obeyOrder_33 (fun _ => rfl) dX4_obeyOrder_128 ?_
    refine z_iconst (pc := 131) hC dX4_obeyOrder_131 ?_
    refine z_callV (n := 1) (T := TX3) (N := 7) (ci := 3) (pc := 132) hC (c_X3_number l w hw _ 0 (by decide) h.2.2.2.2.2.2.2.2) gX4_obeyOrder_X3_number rfl (by decide +kernel) (by decide) (by decide) rfl (by decide) (fun _ => rfl) rfl rfl (Nat.le_of_ble_eq_true rfl) dX4_obeyOrder_132 (zi_k fun r132 Ω132 h132 => ?_)
    obtain ⟨hr132, hm132⟩ := h132
    have hm132 := hm132.symm
    subst hm132
    rw [if_pos (show ((0 : Nat) : Int) < gt Ω 10 6 by omega), hj] at hr132
    subst hr132
    refine z_callV (n := 1) (T := TX4) (N := 7) (ci := 4) (pc := 135) hC (c_X4_learnRounds l w hw _ a h j (by omega)) gX4_obeyOrder_X4_learnRounds rfl (by decide +kernel) (by decide) (by decide) rfl (by decide) (fun _ => rfl) rfl rfl (Nat.le_of_ble_eq_true rfl) dX4_obeyOrder_135 (zi_k fun r135 Ω135 h135 => ?_)
    obtain ⟨t0, t1, hfd⟩ := h135
    have hfin : RC Ω135 (aSet a (obey a.1 (gt Ω 10 5) (gt Ω 10 6).toNat (gt Ω 12))) := by
      unfold obey
      rw [if_pos hl.1, hj, Int.toNat_natCast]
      exact t1
    refine z_pop (pc := 138) hC dX4_obeyOrder_138 rfl ?_
    exact z_vret (pc := 139) hC rfl ⟨rfl, ⟨hfin, hfd⟩⟩ dX4_obeyOrder_139
