/-! ===== the reference: small methods ===== -/
theorem st_at {Ω : Mem} {σ : Sg} (h : scM Ω = σ) {i : Nat} (hi : i < 80) : gt Ω 50 i = σ i := by rw [← scM_at Ω hi, h]

def brg (Ω : Mem) (q1 q2 i j k : Nat) : Mem := upc Ω q2 (fun t => if j ≤ t ∧ t < j + k then Ω q1 (i + (t - j)) else Ω q2 t)
theorem brg_0 (Ω : Mem) (q1 q2 i j : Nat) : brg Ω q1 q2 i j 0 = Ω := by
  funext q
  unfold brg
  by_cases h : q = q2
  · subst h
    rw [upc_s]
    funext t
    exact if_neg (by omega)
  · exact upc_n _ _ h
theorem brg_s (Ω : Mem) (q1 q2 i j k : Nat) (hd : q1 ≠ q2 ∨ j ≤ i) : ups (brg Ω q1 q2 i j k) q2 (j + k) (gt (brg Ω q1 q2 i j k) q1 (i + k)) = brg Ω q1 q2 i j (k + 1) := by
  have e : brg Ω q1 q2 i j k q1 (i + k) = Ω q1 (i + k) := by
    unfold brg
    by_cases h : q1 = q2
    · subst h
      rw [upc_s]
      exact if_neg (by omega)
    · rw [upc_n _ _ h]
  funext q
  by_cases h : q = q2
  · subst h
    funext t
    by_cases ht : t = j + k
    · subst ht
      rw [ups_s, zI_gt, e]
      unfold brg
      rw [upc_s]
      show _ = if j ≤ j + k ∧ j + k < j + (k + 1) then _ else _
      rw [if_pos (by omega), show i + (j + k - j) = i + k by omega]
    · rw [ups_sn _ _ _ ht]
      unfold brg
      rw [upc_s, upc_s]
      show (if j ≤ t ∧ t < j + k then _ else _) = if j ≤ t ∧ t < j + (k + 1) then _ else _
      by_cases c : j ≤ t ∧ t < j + k
      · rw [if_pos c, if_pos (by omega)]
      · rw [if_neg c, if_neg (by omega)]
  · rw [ups_n _ _ _ h]
    unfold brg
    rw [upc_n _ _ h, upc_n _ _ h]
theorem brg_n (Ω : Mem) (q1 : Nat) {q2 q : Nat} (i j k : Nat) (h : q ≠ q2) : brg Ω q1 q2 i j k q = Ω q := upc_n _ _ h
theorem brg_at (Ω : Mem) (q1 q2 i j k : Nat) {t : Nat} (h : j ≤ t) (h2 : t < j + k) : gt (brg Ω q1 q2 i j k) q2 t = gt Ω q1 (i + (t - j)) := by
  unfold gt brg
  rw [upc_s, if_pos ⟨h, h2⟩]
theorem brg_off (Ω : Mem) (q1 q2 i j k : Nat) {t : Nat} (h : t < j ∨ j + k ≤ t) : gt (brg Ω q1 q2 i j k) q2 t = gt Ω q2 t := by
  unfold gt brg
  rw [upc_s, if_neg (by omega)]
set_option maxHeartbeats 4000000 in
set_option maxRecDepth 100000 in
theorem L_X5_bring_3 {E : zE} {w : zP} {l : Launch} {Post : Option Value → Mem → Prop} (hw : zOK w) (hC : zC E w l RX5 wsX5_bring cX5_bring 6 0 0 none Post) (Ω : Mem) (q1 q2 n1 n2 i j n : Nat) (hq1 : q1 < 59) (hq2 : q2 < 59) (hz1 : ∀ f, zs w f q1 = zar w n1 f) (hz2 : ∀ f, zs w f q2 = zar w n2 f) (hn1 : n1 ≤ 1000) (hn2 : n2 ≤ 1000) (hi : i + n ≤ n1) (hj : j + n ≤ n2) (hd : q1 ≠ q2 ∨ j ≤ i) (K : X E (brg Ω q1 q2 i j n) 28 [some (.ref (wa w q1)), some (.int (zI (i : Int))), some (.ref (wa w q2)), some (.int (zI (j : Int))), some (.int (zI (n : Int))), some (.int (zI (n : Int)))] []) : ∀ (fu : Nat) (k : Nat), n < k + fu → (k ≤ n) → X E (brg Ω q1 q2 i j k) 3 [some (.ref (wa w q1)), some (.int (zI (i : Int))), some (.ref (wa w q2)), some (.int (zI (j : Int))), some (.int (zI (n : Int))), some (.int (zI (k : Int)))] [] := by
  intro fu
  induction fu with
  | zero =>
    intro k hfu hk
    exact absurd hfu (by omega)
  | succ fu ih =>
    intro k hfu hk
    refine z_iload (pc := 3) hC (i := 5) dX5_bring_3 rfl ?_
    refine z_iload (pc := 5) hC (i := 4) dX5_bring_5 rfl ?_
    refine z_icmp_ge (pc := 7) hC 28 (by first | assumption | exact zb_gt _ _ _ | exact zcmp_zb _ _ | exact bI_zb _ | exact ⟨by omega, by omega⟩) (by first | assumption | exact zb_gt _ _ _ | exact zcmp_zb _ _ | exact bI_zb _ | exact ⟨by omega, by omega⟩) dX5_bring_7 rfl (fun h7 => ?_) (fun h7 => ?_)
    · obtain rfl : k = n := by omega
      exact K
    · refine z_aload_n (pc := 10) hC (i := 2) dX5_bring_10 rfl rfl ?_
      refine z_iload_n (pc := 11) hC (i := 3) dX5_bring_11 rfl rfl ?_
      refine z_iload (pc := 12) hC (i := 5) dX5_bring_12 rfl ?_
      refine z_iadd (pc := 14) hC dX5_bring_14 ?_
      refine z_aload_n (pc := 15) hC (i := 0) dX5_bring_15 rfl rfl ?_
      refine z_iload_n (pc := 16) hC (i := 1) dX5_bring_16 rfl rfl ?_
      refine z_iload (pc := 17) hC (i := 5) dX5_bring_17 rfl ?_
      refine z_iadd (pc := 19) hC dX5_bring_19 ?_
      refine z_ialk (pc := 20) hC q1 (i + k) hq1 hz1 (by omega) (by omega) (by omega) dX5_bring_20 ?_
      refine z_iask (pc := 21) hC q2 (j + k) hq2 hz2 (by omega) (by omega) (by omega) dX5_bring_21 ?_
      refine z_iinc (pc := 22) hC (i := 5) dX5_bring_22 rfl (by decide) rfl (zS_s (zS_s (zS_s (zS_s (zS_s zS_0))))) ?_
      refine z_goto (pc := 25) hC 3 dX5_bring_25 rfl ?_
      rw [brg_s _ _ _ _ _ _ hd]
      exact ih (k + 1) (by omega) (by omega)
set_option maxHeartbeats 4000000 in
set_option maxRecDepth 100000 in
theorem c_X5_bring (l : Launch) (w : zP) (hw : zOK w) (Ω : Mem) (q1 q2 n1 n2 i j n : Nat) (hq1 : q1 < 59) (hq2 : q2 < 59) (hz1 : ∀ f, zs w f q1 = zar w n1 f) (hz2 : ∀ f, zs w f q2 = zar w n2 f) (hn1 : n1 ≤ 1000) (hn2 : n2 ≤ 1000) (hi : i + n ≤ n1) (hj : j + n ≤ n2) (hd : q1 ≠ q2 ∨ j ≤ i) : zM l w yX5_bring wsX5_bring 0 0 [.ref (wa w q1), .int (zI (i : Int)), .ref (wa w q2), .int (zI (j : Int)), .int (zI (n : Int))] Ω (zvo (fun Ω1 => Ω1 = brg Ω q1 q2 i j n)) := by
  refine zM_of cX5_bring 6 none RX5 [some (.ref (wa w q1)), some (.int (zI (i : Int))), some (.ref (wa w q2)), some (.int (zI (j : Int))), some (.int (zI (n : Int))), none] hw (by decide +kernel) rfl rfl (Nat.le_of_ble_eq_true rfl) rfl (fun E hC => ?_)
  refine z_iconst (pc := 0) hC dX5_bring_0 ?_
  refine z_istore (pc := 1) hC (i := 5) dX5_bring_1 (by decide) rfl (zS_s (zS_s (zS_s (zS_s (zS_s zS_0))))) ?_
  rw [← brg_0 Ω q1 q2 i j]
  refine L_X5_bring_3 hw hC Ω q1 q2 n1 n2 i j n hq1 hq2 hz1 hz2 hn1 hn2 hi hj hd ?_ (n + 1) 0 (by omega) (by omega)
  exact z_vret (pc := 28) hC rfl ⟨rfl, rfl⟩ dX5_bring_28
theorem fl_X5_bad_16 : Cond.fieldLink RX5 16 "StrokeCutsModel" "refused" "[I" ∈ wsX5_bad := by decide +kernel
theorem in_X5_bad_X5 : ∀ x ∈ u_ws RX5 TX5 15, x ∈ wsX5_bad := by decide +kernel
set_option maxHeartbeats 4000000 in
set_option maxRecDepth 100000 in
theorem c_X5_bad (l : Launch) (w : zP) (hw : zOK w) (Ω : Mem) : zM l w yX5_bad wsX5_bad 0 0 [.ref (wa w 49)] Ω (zi (fun r Ω1 => r = -2 ∧ Ω1 = ups Ω 52 0 (gt Ω 52 0 + 1))) := by
  refine zM_of cX5_bad 1 (some .int) RX5 [some (.ref (wa w 49))] hw (by decide +kernel) rfl rfl (Nat.le_of_ble_eq_true rfl) rfl (fun E hC => ?_)
  refine z_aload_n (pc := 0) hC (i := 0) dX5_bad_0 rfl rfl ?_
  refine z_getR (C := RX5) (T := TX5) (N := 15) (ci := 5) (pc := 1) hC _ _ 3 in_X5_bad_X5 rfl (by decide) (fun _ => rfl) (by decide) fl_X5_bad_16 (fun _ => rfl) dX5_bad_1 ?_
  refine z_iconst (pc := 4) hC dX5_bad_4 ?_
  refine z_dup2 (pc := 5) hC dX5_bad_5 rfl rfl ?_
  refine z_ialk (pc := 6) hC _ 0 (by decide) (fun _ => rfl) rfl (by decide) (by decide) dX5_bad_6 ?_
  refine z_iconst (pc := 7) hC dX5_bad_7 ?_
  refine z_iadd (pc := 8) hC dX5_bad_8 ?_
  refine z_iask (pc := 9) hC _ 0 (by decide) (fun _ => rfl) rfl (by decide) (by decide) dX5_bad_9 ?_
  refine z_bipush (pc := 10) hC dX5_bad_10 rfl ?_
  exact z_iret (pc := 12) hC rfl ⟨_, rfl, ⟨rfl, rfl⟩⟩ dX5_bad_12
theorem fl_X5_no_16 : Cond.fieldLink RX5 16 "StrokeCutsModel" "refused" "[I" ∈ wsX5_no := by decide +kernel
theorem in_X5_no_X5 : ∀ x ∈ u_ws RX5 TX5 15, x ∈ wsX5_no := by decide +kernel
set_option maxHeartbeats 4000000 in
set_option maxRecDepth 100000 in
theorem c_X5_no (l : Launch) (w : zP) (hw : zOK w) (Ω : Mem) : zM l w yX5_no wsX5_no 0 0 [.ref (wa w 49)] Ω (zi (fun r Ω1 => r = -3 ∧ Ω1 = ups Ω 52 1 (gt Ω 52 1 + 1))) := by
  refine zM_of cX5_no 1 (some .int) RX5 [some (.ref (wa w 49))] hw (by decide +kernel) rfl rfl (Nat.le_of_ble_eq_true rfl) rfl (fun E hC => ?_)
  refine z_aload_n (pc := 0) hC (i := 0) dX5_no_0 rfl rfl ?_
  refine z_getR (C := RX5) (T := TX5) (N := 15) (ci := 5) (pc := 1) hC _ _ 3 in_X5_no_X5 rfl (by decide) (fun _ => rfl) (by decide) fl_X5_no_16 (fun _ => rfl) dX5_no_1 ?_
  refine z_iconst (pc := 4) hC dX5_no_4 ?_
  refine z_dup2 (pc := 5) hC dX5_no_5 rfl rfl ?_
  refine z_ialk (pc := 6) hC _ 1 (by decide) (fun _ => rfl) rfl (by decide) (by decide) dX5_no_6 ?_
  refine z_iconst (pc := 7) hC dX5_no_7 ?_
  refine z_iadd (pc := 8) hC dX5_no_8 ?_
  refine z_iask (pc := 9) hC _ 1 (by decide) (fun _ => rfl) rfl (by decide) (by decide) dX5_no_9 ?_
  refine z_bipush (pc := 10) hC dX5_no_10 rfl ?_
  exact z_iret (pc := 12) hC rfl ⟨_, rfl, ⟨rfl, rfl⟩⟩ dX5_no_12
theorem fl_X5_full_16 : Cond.fieldLink RX5 16 "StrokeCutsModel" "refused" "[I" ∈ wsX5_full := by decide +kernel
theorem in_X5_full_X5 : ∀ x ∈ u_ws RX5 TX5 15, x ∈ wsX5_full := by decide +kernel
set_option maxHeartbeats 4000000 in
set_option maxRecDepth 100000 in
theorem c_X5_full (l : Launch) (w : zP) (hw : zOK w) (Ω : Mem) : zM l w yX5_full wsX5_full 0 0 [.ref (wa w 49)] Ω (zi (fun r Ω1 => r = -4 ∧ Ω1 = ups Ω 52 2 (gt Ω 52 2 + 1))) := by
  refine zM_of cX5_full 1 (some .int) RX5 [some (.ref (wa w 49))] hw (by decide +kernel) rfl rfl (Nat.le_of_ble_eq_true rfl) rfl (fun E hC => ?_)
  refine z_aload_n (pc := 0) hC (i := 0) dX5_full_0 rfl rfl ?_
  refine z_getR (C := RX5) (T := TX5) (N := 15) (ci := 5) (pc := 1) hC _ _ 3 in_X5_full_X5 rfl (by decide) (fun _ => rfl) (by decide) fl_X5_full_16 (fun _ => rfl) dX5_full_1 ?_
  refine z_iconst (pc := 4) hC dX5_full_4 ?_
  refine z_dup2 (pc := 5) hC dX5_full_5 rfl rfl ?_
  refine z_ialk (pc := 6) hC _ 2 (by decide) (fun _ => rfl) rfl (by decide) (by decide) dX5_full_6 ?_
  refine z_iconst (pc := 7) hC dX5_full_7 ?_
  refine z_iadd (pc := 8) hC dX5_full_8 ?_
  refine z_iask (pc := 9) hC _ 2 (by decide) (fun _ => rfl) rfl (by decide) (by decide) dX5_full_9 ?_
  refine z_bipush (pc := 10) hC dX5_full_10 rfl ?_
  exact z_iret (pc := 12) hC rfl ⟨_, rfl, ⟨rfl, rfl⟩⟩ dX5_full_12
theorem fl_X5_isDot_7 : Cond.fieldLink RX5 7 "StrokeCutsModel" "st" "[I" ∈ wsX5_isDot := by decide +kernel
theorem in_X5_isDot_X5 : ∀ x ∈ u_ws RX5 TX5 15, x ∈ wsX5_isDot := by decide +kernel
set_option maxHeartbeats 4000000 in
set_option maxRecDepth 100000 in
theorem c_X5_isDot (l : Launch) (w : zP) (hw : zOK w) (Ω : Mem) (x y : Int) (hx : zb x) (hy : zb y) (h0 : 0 ≤ gt Ω 50 0) (h1 : 0 ≤ gt Ω 50 1) : zM l w yX5_isDot wsX5_isDot 1 22 [.ref (wa w 49), .int (zI x), .int (zI y)] Ω (zbo (fun b Ω1 => b = decide (0 ≤ x ∧ x < gt Ω 50 0 ∧ 0 ≤ y ∧ y < gt Ω 50 1) ∧ Ω1 = Ω)) := by
  refine zM_of cX5_isDot 3 (some .boolean) RX5 [some (.ref (wa w 49)), some (.int (zI x)), some (.int (zI y))] hw (by decide +kernel) rfl rfl (Nat.le_of_ble_eq_true rfl) rfl (fun E hC => ?_)
  have z0 := zb_gt Ω 50 0
  have z1 := zb_gt Ω 50 1
  have z00 := z0.1
  have z01 := z0.2
  have z10 := z1.1
  have z11 := z1.2
  refine z_iload_n (pc := 0) hC (i := 1) dX5_isDot_0 rfl rfl ?_
  refine z_iconst (pc := 1) hC dX5_isDot_1 ?_
  refine z_aload_n (pc := 2) hC (i := 0) dX5_isDot_2 rfl rfl ?_
  refine z_getR (C := RX5) (T := TX5) (N := 15) (ci := 5) (pc := 3) hC _ _ 0 in_X5_isDot_X5 rfl (by decide) (fun _ => rfl) (by decide) fl_X5_isDot_7 (fun _ => rfl) dX5_isDot_3 ?_
  refine z_iconst (pc := 6) hC dX5_isDot_6 ?_
  refine z_ialk (pc := 7) hC _ 0 (by decide) (fun _ => rfl) rfl (by decide) (by decide) dX5_isDot_7 ?_
  refine z_iconst (pc := 8) hC dX5_isDot_8 ?_
  refine z_isub (pc := 9) hC dX5_isDot_9 ?_
  refine z_callS (n := 3) (pc := 10) hC (c_X5_in l w hw _ _ _ _ (by first | assumption | exact zb_gt _ _ _ | exact zcmp_zb _ _ | exact bI_zb _ | exact ⟨by omega, by omega⟩) (by first | assumption | exact zb_gt _ _ _ | exact zcmp_zb _ _ | exact bI_zb _ | exact ⟨by omega, by omega⟩) (by first | assumption | exact zb_gt _ _ _ | exact zcmp_zb _ _ | exact bI_zb _ | exact ⟨by omega, by omega⟩)) gX5_isDot_X5_in rfl (by decide +kernel) (by decide) (by decide) rfl rfl (Nat.le_of_ble_eq_true rfl) dX5_isDot_10 (zb_k fun r10 Ω10 h10 => ?_)
  obtain ⟨rfl, hM10⟩ := h10
  obtain rfl := hM10.symm
  refine z_ifd_eq (pc := 13) hC 36 dX5_isDot_13 rfl (fun h13 => ?_) (fun h13 => ?_)
  · refine z_iconst (pc := 36) hC dX5_isDot_36 ?_
    exact z_zret (b := false) (pc := 37) hC rfl ⟨false, rfl, ⟨(decide_eq_false (by omega)).symm, rfl⟩⟩ dX5_isDot_37
  · refine z_iload_n (pc := 16) hC (i := 2) dX5_isDot_16 rfl rfl ?_
    refine z_iconst (pc := 17) hC dX5_isDot_17 ?_
    refine z_aload_n (pc := 18) hC (i := 0) dX5_isDot_18 rfl rfl ?_
    refine z_getR (C := RX5) (T := TX5) (N := 15) (ci := 5) (pc := 19) hC _ _ 0 in_X5_isDot_X5 rfl (by decide) (fun _ => rfl) (by decide) fl_X5_isDot_7 (fun _ => rfl) dX5_isDot_19 ?_
    refine z_iconst (pc := 22) hC dX5_isDot_22 ?_
    refine z_ialk (pc := 23) hC _ 1 (by decide) (fun _ => rfl) rfl (by decide) (by decide) dX5_isDot_23 ?_
    refine z_iconst (pc := 24) hC dX5_isDot_24 ?_
    refine z_isub (pc := 25) hC dX5_isDot_25 ?_
    refine z_callS (n := 3) (pc := 26) hC (c_X5_in l w hw _ _ _ _ (by first | assumption | exact zb_gt _ _ _ | exact zcmp_zb _ _ | exact bI_zb _ | exact ⟨by omega, by omega⟩) (by first | assumption | exact zb_gt _ _ _ | exact zcmp_zb _ _ | exact bI_zb _ | exact ⟨by omega, by omega⟩) (by first | assumption | exact zb_gt _ _ _ | exact zcmp_zb _ _ | exact bI_zb _ | exact ⟨by omega, by omega⟩)) gX5_isDot_X5_in rfl (by decide +kernel) (by decide) (by decide) rfl rfl (Nat.le_of_ble_eq_true rfl) dX5_isDot_26 (zb_k fun r26 Ω26 h26 => ?_)
    obtain ⟨rfl, hM26⟩ := h26
    obtain rfl := hM26.symm
    refine z_ifd_eq (pc := 29) hC 36 dX5_isDot_29 rfl (fun h29 => ?_) (fun h29 => ?_)
    · refine z_iconst (pc := 36) hC dX5_isDot_36 ?_
      exact z_zret (b := false) (pc := 37) hC rfl ⟨false, rfl, ⟨(decide_eq_false (by omega)).symm, rfl⟩⟩ dX5_isDot_37
    · refine z_iconst (pc := 32) hC dX5_isDot_32 ?_
      refine z_goto (pc := 33) hC 37 dX5_isDot_33 rfl ?_
      exact z_zret (b := true) (pc := 37) hC rfl ⟨true, rfl, ⟨(decide_eq_true (by omega)).symm, rfl⟩⟩ dX5_isDot_37
theorem isIn_z (x : Int64) {n : Nat} (hn : n < 63) : zcmp (x >>> ((zI n).toInt64 &&& 63) &&& 1) 1 = 0 ↔ tb x n = true := by
  have h1 : ∀ y : Int64, zcmp y 1 = 0 ↔ y = 1 := by
    intro y
    unfold zcmp
    by_cases a : (1 : Int64) < y
    · rw [if_pos a]
      constructor
      · intro h; omega
      · intro h; subst h; exact absurd a (by decide)
    · rw [if_neg a]
      by_cases b : y = 1 <;> simp [b]
  rw [h1]
  have e0 : tb (x >>> ((zI n).toInt64 &&& 63) &&& 1) 0 = tb x n := by
    rw [tb_and, tb_sshr x (by omega), tb_1]
    simp [show n < 64 by omega]
  constructor
  · intro h
    rw [← e0, h]; decide
  · intro h
    apply tb_ext
    intro k hk
    by_cases e : k = 0
    · subst e; rw [e0, h]; decide
    · rw [tb_and, tb_1]; simp [e]
set_option maxHeartbeats 4000000 in
set_option maxRecDepth 100000 in
theorem c_X5_isIn (l : Launch) (w : zP) (hw : zOK w) (Ω : Mem) (x : Int64) (k : Nat) (hk : k < 63) : zM l w yX5_isIn wsX5_isIn 0 0 [.long x, .int (zI (k : Int))] Ω (zbo (fun b Ω1 => b = decide (tb x k = true) ∧ Ω1 = Ω)) := by
  refine zM_of cX5_isIn 3 (some .boolean) RX5 [some (.long x), none, some (.int (zI (k : Int)))] hw (by decide +kernel) rfl rfl (Nat.le_of_ble_eq_true rfl) rfl (fun E hC => ?_)
  refine z_lload_n (pc := 0) hC (i := 0) dX5_isIn_0 rfl rfl ?_
  refine z_iload_n (pc := 1) hC (i := 2) dX5_isIn_1 rfl rfl ?_
  refine z_lshr (pc := 2) hC rfl dX5_isIn_2 ?_
  refine z_lconst (pc := 3) hC (v := 1) dX5_isIn_3 rfl ?_
  refine z_land (pc := 4) hC dX5_isIn_4 ?_
  refine z_lconst (pc := 5) hC (v := 1) dX5_isIn_5 rfl ?_
  refine z_lcmp (pc := 6) hC dX5_isIn_6 ?_
  refine z_if_ne (pc := 7) hC 14 (by first | assumption | exact zb_gt _ _ _ | exact zcmp_zb _ _ | exact bI_zb _ | exact ⟨by omega, by omega⟩) dX5_isIn_7 rfl (fun h7 => ?_) (fun h7 => ?_)
  · refine z_iconst (pc := 14) hC dX5_isIn_14 ?_
    exact z_zret (b := false) (pc := 15) hC rfl ⟨false, rfl, ⟨(decide_eq_false (fun q => h7 ((isIn_z x hk).mpr q))).symm, rfl⟩⟩ dX5_isIn_15
  · refine z_iconst (pc := 10) hC dX5_isIn_10 ?_
    refine z_goto (pc := 11) hC 15 dX5_isIn_11 rfl ?_
    exact z_zret (b := true) (pc := 15) hC rfl ⟨true, rfl, ⟨(decide_eq_true ((isIn_z x hk).mp (by omega))).symm, rfl⟩⟩ dX5_isIn_15
