set_option maxHeartbeats 4000000 in
set_option maxRecDepth 100000 in
theorem c_X1_reverse (l : Launch) (w : zP) (hw : zOK w) (Ω : Mem) (j : Nat) (hj : j < 8) : zM l w yX1_reverse wsX1_reverse 0 0 [.int (zI (j : Int))] Ω (zi (fun r Ω1 => r = (rv j : Int) ∧ Ω1 = Ω)) := by
  refine zM_of cX1_reverse 1 (some .int) RX1 [some (.int (zI (j : Int)))] hw (by decide +kernel) rfl rfl (Nat.le_of_ble_eq_true rfl) rfl (fun E hC => ?_)
  refine z_iload_n (pc := 0) hC (i := 0) dX1_reverse_0 rfl rfl ?_
  refine z_iconst (pc := 1) hC dX1_reverse_1 ?_
  refine z_icmp_ge (pc := 2) hC 11 (by first | assumption | exact zb_gt _ _ _ | exact zcmp_zb _ _ | exact bI_zb _ | exact ⟨by omega, by omega⟩) (by first | assumption | exact zb_gt _ _ _ | exact zcmp_zb _ _ | exact bI_zb _ | exact ⟨by omega, by omega⟩) dX1_reverse_2 rfl (fun h2 => ?_) (fun h2 => ?_)
  · refine z_iload_n (pc := 11) hC (i := 0) dX1_reverse_11 rfl rfl ?_
    refine z_iconst (pc := 12) hC dX1_reverse_12 ?_
    refine z_isub (pc := 13) hC dX1_reverse_13 ?_
    exact z_iret (pc := 14) hC rfl ⟨_, rfl, ⟨by unfold rv; rw [if_neg (by omega)]; omega, rfl⟩⟩ dX1_reverse_14
  · refine z_iload_n (pc := 5) hC (i := 0) dX1_reverse_5 rfl rfl ?_
    refine z_iconst (pc := 6) hC dX1_reverse_6 ?_
    refine z_iadd (pc := 7) hC dX1_reverse_7 ?_
    refine z_goto (pc := 8) hC 14 dX1_reverse_8 rfl ?_
    exact z_iret (pc := 14) hC rfl ⟨_, rfl, ⟨by unfold rv; rw [if_pos (by omega)]; omega, rfl⟩⟩ dX1_reverse_14
theorem fl_X1_isNext_24 : Cond.fieldLink RX1 24 "StrokeCuts$Network" "distance" "[I" ∈ wsX1_isNext := by decide +kernel
theorem in_X1_isNext_X1 : ∀ x ∈ u_ws RX1 TX1 8, x ∈ wsX1_isNext := by decide +kernel
set_option maxHeartbeats 4000000 in
set_option maxRecDepth 100000 in
theorem c_X1_isNext (l : Launch) (w : zP) (hw : zOK w) (Ω : Mem) (v u : Nat) (hv : v < 36) (hu : u < 36) (hb : 0 ≤ gt Ω 8 v) : zM l w yX1_isNext wsX1_isNext 0 0 [.ref (wa w 3), .int (zI (v : Int)), .int (zI (u : Int))] Ω (zbo (fun b Ω1 => b = decide (0 < gt Ω 8 u ∧ gt Ω 8 u = gt Ω 8 v - 1) ∧ Ω1 = Ω)) := by
  refine zM_of cX1_isNext 3 (some .boolean) RX1 [some (.ref (wa w 3)), some (.int (zI (v : Int))), some (.int (zI (u : Int)))] hw (by decide +kernel) rfl rfl (Nat.le_of_ble_eq_true rfl) rfl (fun E hC => ?_)
  have hvb := zb_gt Ω 8 v
  have hvb1 := hvb.1
  have hvb2 := hvb.2
  refine z_aload_n (pc := 0) hC (i := 0) dX1_isNext_0 rfl rfl ?_
  refine z_getR (C := RX1) (T := TX1) (N := 8) (ci := 1) (pc := 1) hC _ _ 5 in_X1_isNext_X1 rfl (by decide) (fun _ => rfl) (by decide) fl_X1_isNext_24 (fun _ => rfl) dX1_isNext_1 ?_
  refine z_iload_n (pc := 4) hC (i := 2) dX1_isNext_4 rfl rfl ?_
  skip
  refine z_ialk (pc := 5) hC _ _ (by decide) (fun _ => rfl) rfl (by omega) (by decide) dX1_isNext_5 ?_
  refine z_if_le (pc := 6) hC 30 (by first | assumption | exact zb_gt _ _ _ | exact zcmp_zb _ _ | exact bI_zb _ | exact ⟨by omega, by omega⟩) dX1_isNext_6 rfl (fun h6 => ?_) (fun h6 => ?_)
  · refine z_iconst (pc := 30) hC dX1_isNext_30 ?_
    exact z_zret (b := false) (pc := 31) hC rfl ⟨false, rfl, ⟨(decide_eq_false (by omega)).symm, rfl⟩⟩ dX1_isNext_31
  · refine z_aload_n (pc := 9) hC (i := 0) dX1_isNext_9 rfl rfl ?_
    refine z_getR (C := RX1) (T := TX1) (N := 8) (ci := 1) (pc := 10) hC _ _ 5 in_X1_isNext_X1 rfl (by decide) (fun _ => rfl) (by decide) fl_X1_isNext_24 (fun _ => rfl) dX1_isNext_10 ?_
    refine z_iload_n (pc := 13) hC (i := 2) dX1_isNext_13 rfl rfl ?_
    refine z_ialk (pc := 14) hC _ _ (by decide) (fun _ => rfl) rfl (by omega) (by decide) dX1_isNext_14 ?_
    refine z_aload_n (pc := 15) hC (i := 0) dX1_isNext_15 rfl rfl ?_
    refine z_getR (C := RX1) (T := TX1) (N := 8) (ci := 1) (pc := 16) hC _ _ 5 in_X1_isNext_X1 rfl (by decide) (fun _ => rfl) (by decide) fl_X1_isNext_24 (fun _ => rfl) dX1_isNext_16 ?_
    refine z_iload_n (pc := 19) hC (i := 1) dX1_isNext_19 rfl rfl ?_
    refine z_ialk (pc := 20) hC _ _ (by decide) (fun _ => rfl) rfl (by omega) (by decide) dX1_isNext_20 ?_
    refine z_iconst (pc := 21) hC dX1_isNext_21 ?_
    refine z_isub (pc := 22) hC dX1_isNext_22 ?_
    refine z_icmp_ne (pc := 23) hC 30 (zb_gt _ _ _) ⟨by omega, by omega⟩ dX1_isNext_23 rfl (fun h23 => ?_) (fun h23 => ?_)
    · refine z_iconst (pc := 30) hC dX1_isNext_30 ?_
      exact z_zret (b := false) (pc := 31) hC rfl ⟨false, rfl, ⟨(decide_eq_false (by omega)).symm, rfl⟩⟩ dX1_isNext_31
    · refine z_iconst (pc := 26) hC dX1_isNext_26 ?_
      refine z_goto (pc := 27) hC 31 dX1_isNext_27 rfl ?_
      exact z_zret (b := true) (pc := 31) hC rfl ⟨true, rfl, ⟨(decide_eq_true (by omega)).symm, rfl⟩⟩ dX1_isNext_31
theorem fl_X1_enqueue_89 : Cond.fieldLink RX1 89 "StrokeCuts$Network" "queued" "I" ∈ wsX1_enqueue := by decide +kernel
theorem in_X1_enqueue_X1 : ∀ x ∈ u_ws RX1 TX1 8, x ∈ wsX1_enqueue := by decide +kernel
theorem fl_X1_enqueue_27 : Cond.fieldLink RX1 27 "StrokeCuts$Network" "queue" "[I" ∈ wsX1_enqueue := by decide +kernel
set_option maxHeartbeats 4000000 in
set_option maxRecDepth 100000 in
theorem c_X1_enqueue (l : Launch) (w : zP) (hw : zOK w) (Ω : Mem) (u : Nat) (h0 : 0 ≤ gt Ω 3 7) (h1 : gt Ω 3 7 < 36) : zM l w yX1_enqueue wsX1_enqueue 0 0 [.ref (wa w 3), .int (zI (u : Int))] Ω (zvo (fun Ω1 => Ω1 = ups (ups Ω 9 (gt Ω 3 7).toNat (u : Int)) 3 7 (gt Ω 3 7 + 1))) := by
  refine zM_of cX1_enqueue 2 none RX1 [some (.ref (wa w 3)), some (.int (zI (u : Int)))] hw (by decide +kernel) rfl rfl (Nat.le_of_ble_eq_true rfl) rfl (fun E hC => ?_)
  obtain ⟨c, hc⟩ := nat_of h0
  refine z_aload_n (pc := 0) hC (i := 0) dX1_enqueue_0 rfl rfl ?_
  refine z_getI (C := RX1) (T := TX1) (N := 8) (ci := 1) (pc := 1) hC _ 7 in_X1_enqueue_X1 rfl (by decide) (fun _ => rfl) (by decide) fl_X1_enqueue_89 (fun _ => rfl) dX1_enqueue_1 ?_
  refine z_aload_n (pc := 4) hC (i := 0) dX1_enqueue_4 rfl rfl ?_
  refine z_getR (C := RX1) (T := TX1) (N := 8) (ci := 1) (pc := 5) hC _ _ 6 in_X1_enqueue_X1 rfl (by decide) (fun _ => rfl) (by decide) fl_X1_enqueue_27 (fun _ => rfl) dX1_enqueue_5 ?_
  refine z_alen (pc := 8) hC _ (by decide) (fun _ => rfl) dX1_enqueue_8 ?_
  rw [hc]
  refine z_icmp_ge (pc := 9) hC 32 (by first | assumption | exact zb_gt _ _ _ | exact zcmp_zb _ _ | exact bI_zb _ | exact ⟨by omega, by omega⟩) (by first | assumption | exact zb_gt _ _ _ | exact zcmp_zb _ _ | exact bI_zb _ | exact ⟨by omega, by omega⟩) dX1_enqueue_9 rfl (fun h9 => ?_) (fun h9 => ?_)
  · exact z_vret (pc := 32) hC rfl ⟨rfl, absurd h9 (by omega)⟩ dX1_enqueue_32
  · refine z_aload_n (pc := 12) hC (i := 0) dX1_enqueue_12 rfl rfl ?_
    refine z_getR (C := RX1) (T := TX1) (N := 8) (ci := 1) (pc := 13) hC _ _ 6 in_X1_enqueue_X1 rfl (by decide) (fun _ => rfl) (by decide) fl_X1_enqueue_27 (fun _ => rfl) dX1_enqueue_13 ?_
    refine z_aload_n (pc := 16) hC (i := 0) dX1_enqueue_16 rfl rfl ?_
    refine z_getI (C := RX1) (T := TX1) (N := 8) (ci := 1) (pc := 17) hC _ 7 in_X1_enqueue_X1 rfl (by decide) (fun _ => rfl) (by decide) fl_X1_enqueue_89 (fun _ => rfl) dX1_enqueue_17 ?_
    rw [hc]
    refine z_iload_n (pc := 20) hC (i := 1) dX1_enqueue_20 rfl rfl ?_
    refine z_iask (pc := 21) hC _ _ (by decide) (fun _ => rfl) rfl (by omega) (by decide) dX1_enqueue_21 ?_
    refine z_aload_n (pc := 22) hC (i := 0) dX1_enqueue_22 rfl rfl ?_
    refine z_dup (pc := 23) hC dX1_enqueue_23 rfl ?_
    have e7 := gt_n Ω (q := 9) (r := 3) c 7 (u : Int) (by decide)
    refine z_getI (C := RX1) (T := TX1) (N := 8) (ci := 1) (pc := 24) hC _ 7 in_X1_enqueue_X1 rfl (by decide) (fun _ => rfl) (by decide) fl_X1_enqueue_89 (fun _ => rfl) dX1_enqueue_24 ?_
    rw [e7, hc]
    refine z_iconst (pc := 27) hC dX1_enqueue_27 ?_
    refine z_iadd (pc := 28) hC dX1_enqueue_28 ?_
    refine z_putI (C := RX1) (T := TX1) (N := 8) (ci := 1) (pc := 29) hC _ 7 in_X1_enqueue_X1 rfl (by decide) (fun _ => rfl) (by decide) fl_X1_enqueue_89 tyX1_ok nmX1 rfl (by decide +kernel) (fun _ => Nat.le_of_ble_eq_true rfl) (fun _ _ => rfl) dX1_enqueue_29 ?_
    exact z_vret (pc := 32) hC rfl ⟨rfl, by rw [hc, Int.toNat_natCast]⟩ dX1_enqueue_32
def flC (Ω : Mem) : Fl := (gt Ω 5, gt Ω 7, gt Ω 8)
/-- what sending leaves alone -/
def frN (Ω Ω1 : Mem) : Prop := ∀ q, q ≠ 5 → q ≠ 7 → q ≠ 8 → Ω1 q = Ω q
theorem frN.trans {A B C : Mem} (h : frN A B) (g : frN B C) : frN A C := fun q a b c => (g q a b c).trans (h q a b c)
theorem flC_G (Ω : Mem) {k : Nat} {v : Int} (h : zb v) : flC (ups Ω 5 k v) = (fup (gt Ω 5) k v, gt Ω 7, gt Ω 8) := by
  unfold flC
  rw [gt_fup _ _ _ h, show gt (ups Ω 5 k v) 7 = gt Ω 7 from funext fun j => gt_n _ _ _ _ (by decide), show gt (ups Ω 5 k v) 8 = gt Ω 8 from funext fun j => gt_n _ _ _ _ (by decide)]
theorem flC_R (Ω : Mem) {k : Nat} {v : Int} (h : zb v) : flC (ups Ω 7 k v) = (gt Ω 5, fup (gt Ω 7) k v, gt Ω 8) := by
  unfold flC
  rw [gt_fup _ _ _ h, show gt (ups Ω 7 k v) 5 = gt Ω 5 from funext fun j => gt_n _ _ _ _ (by decide), show gt (ups Ω 7 k v) 8 = gt Ω 8 from funext fun j => gt_n _ _ _ _ (by decide)]
theorem flC_D (Ω : Mem) {k : Nat} {v : Int} (h : zb v) : flC (ups Ω 8 k v) = (gt Ω 5, gt Ω 7, fup (gt Ω 8) k v) := by
  unfold flC
  rw [gt_fup _ _ _ h, show gt (ups Ω 8 k v) 5 = gt Ω 5 from funext fun j => gt_n _ _ _ _ (by decide), show gt (ups Ω 8 k v) 7 = gt Ω 7 from funext fun j => gt_n _ _ _ _ (by decide)]
/-- a dot's sending, as its callers see it -/
def sendP (N : Nat) (nb L F : Nat → Int) (v : Nat) (a : Int) (Ω : Mem) : Int → Mem → Prop := fun s Ω1 => s ≤ a ∧ PI N nb L (flC Ω1) ∧ SP N nb L F v s (flC Ω) (flC Ω1) ∧ (s < a → gt Ω1 8 v = 0) ∧ frN Ω Ω1

def sFr (i : Nat) : Nat := 2 + i
def sLo (i : Nat) : Nat := 60 + 28 * i
theorem fl_X1_send_18 : Cond.fieldLink RX1 18 "StrokeCuts$Network" "neighbour" "[I" ∈ wsX1_send := by decide +kernel
theorem in_X1_send_X1 : ∀ x ∈ u_ws RX1 TX1 8, x ∈ wsX1_send := by decide +kernel
theorem fl_X1_send_21 : Cond.fieldLink RX1 21 "StrokeCuts$Network" "room" "[I" ∈ wsX1_send := by decide +kernel
theorem ml_X1_send_96 : Cond.methodLink RX1 96 Lib.Math.min.name ∈ wsX1_send := by decide +kernel
theorem ms_X1_send_min : Cond.static Lib.Math.min.name ∈ wsX1_send := by decide +kernel
theorem mi_X1_send_Math : Cond.initialized "java/lang/Math" ∈ wsX1_send := by decide +kernel
theorem mc_X1_send_min : Cond.code Lib.Math.min.name Lib.Math.min.code 2 (some .int) ∈ wsX1_send := by decide +kernel
set_option maxHeartbeats 4000000 in
set_option maxRecDepth 100000 in
theorem L_X1_send_47 {E : zE} {w : zP} {l : Launch} {Post : Option Value → Mem → Prop} (hw : zOK w) (N : Nat) (nb L F : Nat → Int) (hN : N ≤ 36) (hg : grph N nb) (hL36 : ∀ u, u < N → 0 ≤ L u ∧ L u ≤ 36) (i : Nat) (IH : ∀ (Ω : Mem) (u : Nat) (a dp : Int), gt Ω 6 = nb → PI N nb L (flC Ω) → u < N → L u = (i : Int) → 0 < L u → gt Ω 8 u = L u → 0 ≤ a → a ≤ 2000000 → 1 ≤ dp → dp + L u ≤ 37 → zM l w yX1_send wsX1_send (sFr i) (sLo i) [.ref (wa w 3), .int (zI (u : Int)), .int (zI a), .int (zI dp)] Ω (zi (sendP N nb L F u a Ω))) (Ω0 : Mem) (v : Nat) (hv : v < N) (hLv : L v = ((i + 1 : Nat) : Int)) (a dp : Int) (ha0 : 0 ≤ a) (ha : a ≤ 2000000) (hd0 : 1 ≤ dp) (hdp : dp + L v ≤ 37) (hC : zC E w l RX1 wsX1_send cX1_send 9 (sFr (i + 1)) (sLo (i + 1)) (some .int) Post) (K : ∀ (j : Nat) (s : Int) (Ω : Mem) (o6 o7 o8 : Option Value), j ≤ 8 → (j = 8 ∨ s = a) → (gt Ω 6 = nb) → (PI N nb L (flC Ω)) → (SP N nb L F v s (flC Ω0) (flC Ω)) → (gt Ω 8 v = L v) → (s ≤ a) → (L v = 1 → s < a → gt Ω 5 v = 0) → (s < a → ∀ k, k < j → 0 ≤ nb (v * 8 + k) → 0 < gt Ω 7 (v * 8 + k) → L (nb (v * 8 + k)).toNat = L v - 1 → 0 < L (nb (v * 8 + k)).toNat → gt Ω 8 (nb (v * 8 + k)).toNat = 0) → (frN Ω0 Ω) → X E Ω 175 [some (.ref (wa w 3)), some (.int (zI (v : Int))), some (.int (zI a)), some (.int (zI dp)), some (.int (zI s)), some (.int (zI (j : Int))), o6, o7, o8] []) : ∀ (n j : Nat) (s : Int) (Ω : Mem) (o6 o7 o8 : Option Value), 8 < j + n → j ≤ 8 → (gt Ω 6 = nb) → (PI N nb L (flC Ω)) → (SP N nb L F v s (flC Ω0) (flC Ω)) → (gt Ω 8 v = L v) → (s ≤ a) → (L v = 1 → s < a → gt Ω 5 v = 0) → (s < a → ∀ k, k < j → 0 ≤ nb (v * 8 + k) → 0 < gt Ω 7 (v * 8 + k) → L (nb (v * 8 + k)).toNat = L v - 1 → 0 < L (nb (v * 8 + k)).toNat → gt Ω 8 (nb (v * 8 + k)).toNat = 0) → (frN Ω0 Ω) → X E Ω 47 [some (.ref (wa w 3)), some (.int (zI (v : Int))), some (.int (zI a)), some (.int (zI dp)), some (.int (zI s)), some (.int (zI (j : Int))), o6, o7, o8] [] := by
  intro n
  induction n with
  | zero =>
    intro j s Ω o6 o7 o8 hfu hj
    exact absurd hfu (by omega)
  | succ n ih =>
    intro j s Ω o6 o7 o8 hfu hj hnb hP hS hD hs hG hE hfr
    have hs0 := hS.1
    refine z_iload (pc := 47) hC (i := 5) dX1_send_47 rfl ?_
    refine z_bipush (pc := 49) hC dX1_send_49 rfl ?_
    refine z_icmp_ge (pc := 51) hC 175 (by first | assumption | exact zb_gt _ _ _ | exact zcmp_zb _ _ | exact bI_zb _ | exact ⟨by omega, by omega⟩) (by first | assumption | exact zb_gt _ _ _ | exact zcmp_zb _ _ | exact bI_zb _ | exact ⟨by omega, by omega⟩) dX1_send_51 rfl (fun h51 => ?_) (fun h51 => ?_)
    · exact K j s Ω _ _ _ (by omega) (Or.inl (by omega)) hnb hP hS hD hs hG hE hfr
    · refine z_iload (pc := 54) hC (i := 4) dX1_send_54 rfl ?_
      refine z_iload_n (pc := 56) hC (i := 2) dX1_send_56 rfl rfl ?_
      refine z_icmp_ge (pc := 57) hC 175 (by first | assumption | exact zb_gt _ _ _ | exact zcmp_zb _ _ | exact bI_zb _ | exact ⟨by omega, by omega⟩) (by first | assumption | exact zb_gt _ _ _ | exact zcmp_zb _ _ | exact bI_zb _ | exact ⟨by omega, by omega⟩) dX1_send_57 rfl (fun h57 => ?_) (fun h57 => ?_)
      · exact K j s Ω _ _ _ (by omega) (Or.inr (by omega)) hnb hP hS hD hs hG hE hfr
      · have hnz : zb (nb (v * 8 + j)) := by rw [← hnb]; exact zb_gt _ _ _
        refine z_iload_n (pc := 60) hC (i := 1) dX1_send_60 rfl rfl ?_
        refine z_bipush (pc := 61) hC dX1_send_61 rfl ?_
        refine z_imul (pc := 63) hC dX1_send_63 ?_
        refine z_iload (pc := 64) hC (i := 5) dX1_send_64 rfl ?_
        refine z_iadd (pc := 66) hC dX1_send_66 ?_
        refine z_istore (pc := 67) hC (i := 6) dX1_send_67 (by decide) rfl (zS_s (zS_s (zS_s (zS_s (zS_s (zS_s zS_0)))))) ?_
        refine z_aload_n (pc := 69) hC (i := 0) dX1_send_69 rfl rfl ?_
        refine z_getR (C := RX1) (T := TX1) (N := 8) (ci := 1) (pc := 70) hC _ _ 3 in_X1_send_X1 rfl (by decide) (fun _ => rfl) (by decide) fl_X1_send_18 (fun _ => rfl) dX1_send_70 ?_
        refine z_iload (pc := 73) hC (i := 6) dX1_send_73 rfl ?_
        refine z_ialk (pc := 75) hC _ (v * 8 + j) (by decide) (fun _ => rfl) (by omega) (by omega) (by decide) dX1_send_75 ?_
        rw [show gt Ω 6 (v * 8 + j) = nb (v * 8 + j) by rw [hnb]]
        refine z_istore (pc := 76) hC (i := 7) dX1_send_76 (by decide) rfl (zS_s (zS_s (zS_s (zS_s (zS_s (zS_s (zS_s zS_0))))))) ?_
        refine z_iload (pc := 78) hC (i := 7) dX1_send_78 rfl ?_
        refine z_iconst (pc := 80) hC dX1_send_80 ?_
        refine z_icmp_eq (pc := 81) hC 169 (by first | assumption | exact zb_gt _ _ _ | exact zcmp_zb _ _ | exact bI_zb _ | exact ⟨by omega, by omega⟩) (by first | assumption | exact zb_gt _ _ _ | exact zcmp_zb _ _ | exact bI_zb _ | exact ⟨by omega, by omega⟩) dX1_send_81 rfl (fun h81 => ?_) (fun h81 => ?_)
        · refine z_iinc (pc := 169) hC (i := 5) dX1_send_169 rfl (by decide) rfl (zS_s (zS_s (zS_s (zS_s (zS_s zS_0))))) ?_
          refine z_goto (pc := 172) hC 47 dX1_send_172 rfl ?_
          exact ih (j + 1) s Ω _ _ _ (by omega) (by omega) hnb hP hS hD hs hG (fun hsa k hk => by
            by_cases e : k = j
            · subst e
              intro q1; exact absurd q1 (by omega)
            · exact hE hsa k (by omega)) hfr
        · obtain ⟨u, hu⟩ : ∃ u : Nat, nb (v * 8 + j) = u := nat_of (by rcases hg (v * 8 + j) (by omega) with q | q <;> omega)
          have hgat := hg.at (show v * 8 + j < 8 * N by omega) (by omega)
          have hut : (nb (v * 8 + j)).toNat = u := by omega
          rw [hut] at hgat
          have huN := hgat.1
          have hj8 := rv_lt (j := j) (by omega)
          rw [hu]
          refine z_aload_n (pc := 84) hC (i := 0) dX1_send_84 rfl rfl ?_
          refine z_getR (C := RX1) (T := TX1) (N := 8) (ci := 1) (pc := 85) hC _ _ 4 in_X1_send_X1 rfl (by decide) (fun _ => rfl) (by decide) fl_X1_send_21 (fun _ => rfl) dX1_send_85 ?_
          refine z_iload (pc := 88) hC (i := 6) dX1_send_88 rfl ?_
          refine z_ialk (pc := 90) hC _ (v * 8 + j) (by decide) (fun _ => rfl) (by omega) (by omega) (by decide) dX1_send_90 ?_
          refine z_if_le (pc := 91) hC 169 (by first | assumption | exact zb_gt _ _ _ | exact zcmp_zb _ _ | exact bI_zb _ | exact ⟨by omega, by omega⟩) dX1_send_91 rfl (fun h91 => ?_) (fun h91 => ?_)
          · refine z_iinc (pc := 169) hC (i := 5) dX1_send_169 rfl (by decide) rfl (zS_s (zS_s (zS_s (zS_s (zS_s zS_0))))) ?_
            refine z_goto (pc := 172) hC 47 dX1_send_172 rfl ?_
            exact ih (j + 1) s Ω _ _ _ (by omega) (by omega) hnb hP hS hD hs hG (fun hsa k hk => by
              by_cases e : k = j
              · subst e
                intro q1 q2; exact absurd q2 (by omega)
              · exact hE hsa k (by omega)) hfr
          · refine z_aload_n (pc := 94) hC (i := 0) dX1_send_94 rfl rfl ?_
            refine z_iload_n (pc := 95) hC (i := 1) dX1_send_95 rfl rfl ?_
            refine z_iload (pc := 96) hC (i := 7) dX1_send_96 rfl ?_
            refine z_callV (n := 2) (T := TX1) (N := 8) (ci := 1) (pc := 98) hC (c_X1_isNext l w hw _ v u (by omega) (by omega) (by omega)) gX1_send_X1_isNext rfl (by decide +kernel) (by unfold sFr; omega) (by unfold sLo; omega) rfl (by decide) (fun _ => rfl) rfl rfl (Nat.le_of_ble_eq_true rfl) dX1_send_98 (zb_k fun r98 Ω98 h98 => ?_)
            obtain ⟨rfl, hM98⟩ := h98
            obtain rfl := hM98.symm
            refine z_ifd_eq (pc := 101) hC 169 dX1_send_101 rfl (fun h101 => ?_) (fun h101 => ?_)
            · refine z_iinc (pc := 169) hC (i := 5) dX1_send_169 rfl (by decide) rfl (zS_s (zS_s (zS_s (zS_s (zS_s zS_0))))) ?_
              refine z_goto (pc := 172) hC 47 dX1_send_172 rfl ?_
              exact ih (j + 1) s Ω _ _ _ (by omega) (by omega) hnb hP hS hD hs hG (fun hsa k hk => by
                by_cases e : k = j
                · subst e
                  intro q1 q2 q3 q4
                  rw [hut] at q3 q4 ⊢
                  rcases hP.1 u huN with q | q
                  · have q' : gt Ω 8 u = L u := q
                    exact absurd (show 0 < gt Ω 8 u ∧ gt Ω 8 u = gt Ω 8 v - 1 by omega) h101
                  · exact q
                · exact hE hsa k (by omega)) hfr
            · have hLu : gt Ω 8 u = L u := by
                rcases hP.1 u huN with q | q
                · exact q
                · have q1 : gt Ω 8 u = 0 := q
                  omega
              refine z_aload_n (pc := 104) hC (i := 0) dX1_send_104 rfl rfl ?_
              refine z_iload (pc := 105) hC (i := 7) dX1_send_105 rfl ?_
              refine z_iload_n (pc := 107) hC (i := 2) dX1_send_107 rfl rfl ?_
              refine z_iload (pc := 108) hC (i := 4) dX1_send_108 rfl ?_
              refine z_isub (pc := 110) hC dX1_send_110 ?_
              refine z_aload_n (pc := 111) hC (i := 0) dX1_send_111 rfl rfl ?_
              refine z_getR (C := RX1) (T := TX1) (N := 8) (ci := 1) (pc := 112) hC _ _ 4 in_X1_send_X1 rfl (by decide) (fun _ => rfl) (by decide) fl_X1_send_21 (fun _ => rfl) dX1_send_112 ?_
              refine z_iload (pc := 115) hC (i := 6) dX1_send_115 rfl ?_
              refine z_ialk (pc := 117) hC _ (v * 8 + j) (by decide) (fun _ => rfl) (by omega) (by omega) (by decide) dX1_send_117 ?_
              have hPR := hP.2.2.1 (v * 8 + j) (by omega) (by omega)
              have hPR1 : 0 ≤ gt Ω 7 (v * 8 + j) ∧ gt Ω 7 (v * 8 + j) + gt Ω 7 (u * 8 + rv j) ≤ 200 := by
                have := hPR
                rw [show rve nb (v * 8 + j) = u * 8 + rv j by unfold rve; rw [hu, Int.toNat_natCast, (e_div (v := v) (show j < 8 by omega)).2]] at this
                exact this
              have hPR2 : 0 ≤ gt Ω 7 (u * 8 + rv j) := by
                have h8 := hP.2.2.1 (rve nb (v * 8 + j)) hgat.2.1 (by rw [hgat.2.2.1]; omega)
                rw [show rve nb (v * 8 + j) = u * 8 + rv j by unfold rve; rw [hu, Int.toNat_natCast, (e_div (v := v) (show j < 8 by omega)).2]] at h8
                exact h8.1
              refine z_mmin (pc := 118) hC (by first | assumption | exact zb_gt _ _ _ | exact zcmp_zb _ _ | exact bI_zb _ | exact ⟨by omega, by omega⟩) (by first | assumption | exact zb_gt _ _ _ | exact zcmp_zb _ _ | exact bI_zb _ | exact ⟨by omega, by omega⟩) ml_X1_send_96 ms_X1_send_min mi_X1_send_Math mc_X1_send_min (by unfold sFr; omega) (Nat.le_trans (Nat.le_of_ble_eq_true rfl : _ ≤ 60) (by unfold sLo; omega)) dX1_send_118 ?_
              refine z_iload_n (pc := 121) hC (i := 3) dX1_send_121 rfl rfl ?_
              refine z_iconst (pc := 122) hC dX1_send_122 ?_
              refine z_iadd (pc := 123) hC dX1_send_123 ?_
              refine z_callS (n := 4) (pc := 124) hC (IH _ u _ _ hnb hP huN (by omega) (by omega) (by omega) (by omega) (by omega) (by omega) (by omega)) gX1_send_X1_send rfl (by decide +kernel) (by unfold sFr; omega) (by unfold sLo; omega) rfl rfl (Nat.le_of_ble_eq_true rfl) dX1_send_124 (zi_k fun r124 Ω124 h124 => ?_)
              obtain ⟨t1, t2, t3, t4, t5⟩ := h124
              obtain ⟨q1, q2, q3, q4, q5, q6, q7⟩ := SP.edge hg hv (by omega) hu (by omega) (by omega) hD (show r124 ≤ gt Ω 7 (v * 8 + j) by omega) t2 t3
              have hr0 : 0 ≤ r124 := t3.1
              have q4' : gt Ω124 7 (v * 8 + j) = gt Ω 7 (v * 8 + j) := q4
              have q7' : gt Ω124 7 (u * 8 + rv j) = gt Ω 7 (u * 8 + rv j) := q7
              have hz1 : zb (gt Ω124 7 (v * 8 + j) - r124) := ⟨by omega, by omega⟩
              have hz2 : zb (gt Ω124 7 (u * 8 + rv j) + r124) := ⟨by omega, by omega⟩
              have e157 : gt (ups Ω124 7 (v * 8 + j) (gt Ω124 7 (v * 8 + j) - r124)) 7 (u * 8 + rv j) = gt Ω124 7 (u * 8 + rv j) := gt_sn _ _ _ q5
              refine z_istore (pc := 127) hC (i := 8) dX1_send_127 (by decide) rfl (zS_s (zS_s (zS_s (zS_s (zS_s (zS_s (zS_s (zS_s zS_0)))))))) ?_
              refine z_aload_n (pc := 129) hC (i := 0) dX1_send_129 rfl rfl ?_
              refine z_getR (C := RX1) (T := TX1) (N := 8) (ci := 1) (pc := 130) hC _ _ 4 in_X1_send_X1 rfl (by decide) (fun _ => rfl) (by decide) fl_X1_send_21 (fun _ => rfl) dX1_send_130 ?_
              refine z_iload (pc := 133) hC (i := 6) dX1_send_133 rfl ?_
              refine z_dup2 (pc := 135) hC dX1_send_135 rfl rfl ?_
              refine z_ialk (pc := 136) hC _ (v * 8 + j) (by decide) (fun _ => rfl) (by omega) (by omega) (by decide) dX1_send_136 ?_
              refine z_iload (pc := 137) hC (i := 8) dX1_send_137 rfl ?_
              refine z_isub (pc := 139) hC dX1_send_139 ?_
              refine z_iask (pc := 140) hC _ (v * 8 + j) (by decide) (fun _ => rfl) (by omega) (by omega) (by decide) dX1_send_140 ?_
              refine z_aload_n (pc := 141) hC (i := 0) dX1_send_141 rfl rfl ?_
              refine z_getR (C := RX1) (T := TX1) (N := 8) (ci := 1) (pc := 142) hC _ _ 4 in_X1_send_X1 rfl (by decide) (fun _ => rfl) (by decide) fl_X1_send_21 (fun _ => rfl) dX1_send_142 ?_
              refine z_iload (pc := 145) hC (i := 7) dX1_send_145 rfl ?_
              refine z_bipush (pc := 147) hC dX1_send_147 rfl ?_
              refine z_imul (pc := 149) hC dX1_send_149 ?_
              refine z_iload (pc := 150) hC (i := 5) dX1_send_150 rfl ?_
              refine z_callS (n := 1) (pc := 152) hC (c_X1_reverse l w hw _ _ (by omega)) gX1_send_X1_reverse rfl (by decide +kernel) (by unfold sFr; omega) (by unfold sLo; omega) rfl rfl (Nat.le_of_ble_eq_true rfl) dX1_send_152 (zi_k fun r152 Ω152 h152 => ?_)
              obtain ⟨rfl, hM152⟩ := h152
              obtain rfl := hM152.symm
              refine z_iadd (pc := 155) hC dX1_send_155 ?_
              refine z_dup2 (pc := 156) hC dX1_send_156 rfl rfl ?_
              refine z_ialk (pc := 157) hC _ (u * 8 + rv j) (by decide) (fun _ => rfl) (by omega) (by omega) (by decide) dX1_send_157 ?_
              refine z_iload (pc := 158) hC (i := 8) dX1_send_158 rfl ?_
              refine z_iadd (pc := 160) hC dX1_send_160 ?_
              refine z_iask (pc := 161) hC _ (u * 8 + rv j) (by decide) (fun _ => rfl) (by omega) (by omega) (by decide) dX1_send_161 ?_
              refine z_iload (pc := 162) hC (i := 4) dX1_send_162 rfl ?_
              refine z_iload (pc := 164) hC (i := 8) dX1_send_164 rfl ?_
              refine z_iadd (pc := 166) hC dX1_send_166 ?_
              refine z_istore (pc := 167) hC (i := 4) dX1_send_167 (by decide) rfl (zS_s (zS_s (zS_s (zS_s zS_0)))) ?_
              refine z_iinc (pc := 169) hC (i := 5) dX1_send_169 rfl (by decide) rfl (zS_s (zS_s (zS_s (zS_s (zS_s zS_0))))) ?_
              refine z_goto (pc := 172) hC 47 dX1_send_172 rfl ?_
              rw [e157]
              have hM : flC (ups (ups Ω124 7 (v * 8 + j) (gt Ω124 7 (v * 8 + j) - r124)) 7 (u * 8 + rv j) (gt Ω124 7 (u * 8 + rv j) + r124)) = ((flC Ω124).1, fup (fup (flC Ω124).2.1 (v * 8 + j) ((flC Ω124).2.1 (v * 8 + j) - r124)) (u * 8 + rv j) ((flC Ω124).2.1 (u * 8 + rv j) + r124), (flC Ω124).2.2) := by
                rw [flC_R _ hz2, show gt (ups Ω124 7 (v * 8 + j) (gt Ω124 7 (v * 8 + j) - r124)) 7 = fup (gt Ω124 7) (v * 8 + j) (gt Ω124 7 (v * 8 + j) - r124) from gt_fup _ _ _ hz1, show gt (ups Ω124 7 (v * 8 + j) (gt Ω124 7 (v * 8 + j) - r124)) 5 = gt Ω124 5 from funext fun k => gt_n _ _ _ _ (by decide), show gt (ups Ω124 7 (v * 8 + j) (gt Ω124 7 (v * 8 + j) - r124)) 8 = gt Ω124 8 from funext fun k => gt_n _ _ _ _ (by decide)]
                rfl
              generalize hMM : (ups (ups Ω124 7 (v * 8 + j) (gt Ω124 7 (v * 8 + j) - r124)) 7 (u * 8 + rv j) (gt Ω124 7 (u * 8 + rv j) + r124)) = M at hM ⊢
              have f6 : gt M 6 = nb := by
                rw [← hnb, ← hMM]
                funext k
                rw [gt_n _ _ _ _ (by decide : 6 ≠ 7), gt_n _ _ _ _ (by decide : 6 ≠ 7), gt_fr (t5 6 (by decide) (by decide) (by decide))]
              have f8 : gt M 8 = (flC Ω124).2.2 := by have := congrArg (fun x => x.2.2) hM; exact this
              have f7 : gt M 7 = fup (fup (flC Ω124).2.1 (v * 8 + j) ((flC Ω124).2.1 (v * 8 + j) - r124)) (u * 8 + rv j) ((flC Ω124).2.1 (u * 8 + rv j) + r124) := by have := congrArg (fun x => x.2.1) hM; exact this
              rw [← hM] at q1 q2
              refine ih (j + 1) (s + r124) M _ _ _ (by omega) (by omega) f6 q1 (hS.trans q2) (by rw [f8]; exact q3) (by omega) (fun h1 => absurd h1 (by omega)) (fun hsa k hk x1 x2 x3 x4 => ?_) (hfr.trans (fun q a b c => by rw [← hMM, ups_n _ _ _ b, ups_n _ _ _ b]; exact t5 q a b c))
              by_cases e : k = j
              · subst e
                rw [hut] at x3 x4 ⊢
                rw [f7, fup_n _ _ (Ne.symm q5), fup_s] at x2
                have x2' : 0 < gt Ω124 7 (v * 8 + k) - r124 := x2
                have q4' : gt Ω124 7 (v * 8 + k) = gt Ω 7 (v * 8 + k) := q4
                rw [f8]
                exact t4 (by omega)
              · have hkd := e_div (v := v) (show k < 8 by omega)
                have hold : 0 < gt Ω 7 (v * 8 + k) := by
                  have h4 := q2.2.2.2.1 (v * 8 + k) (by omega) x1
                  rw [hkd.1] at h4
                  have h4' : gt M 7 (v * 8 + k) = gt Ω 7 (v * 8 + k) ∨ (L v ≤ L v ∧ L (nb (v * 8 + k)).toNat = L v - 1 ∧ gt M 7 (v * 8 + k) ≤ gt Ω 7 (v * 8 + k)) ∨ (L (nb (v * 8 + k)).toNat ≤ L v ∧ L v = L (nb (v * 8 + k)).toNat - 1) := h4
                  omega
                have h5 := hE (by omega) k (by omega) x1 hold x3 x4
                have hun := (hg.at (show v * 8 + k < 8 * N by omega) x1).1
                rcases q2.2.1 _ hun with h6 | h6
                · have h6' : gt M 8 (nb (v * 8 + k)).toNat = gt Ω 8 (nb (v * 8 + k)).toNat := h6
                  rw [h6']; exact h5
                · exact h6
