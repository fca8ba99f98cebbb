theorem bI_eq {a b : Bool} : bI a = bI b ↔ a = b := by cases a <;> cases b <;> decide
theorem dec_tb (b : Bool) : decide (b = true) = b := by cases b <;> rfl
theorem sw_num {σ : Sg} (h : scok σ) (x y : Nat) : σ 0 * (y : Int) + (x : Int) = ((sw σ * y + x : Nat) : Int) := by
  rw [Int.natCast_add, Int.natCast_mul, (sw_eq h).1]
theorem sw_lt {σ : Sg} (h : scok σ) {x y : Nat} (hx : x < sw σ) (hy : y < sh σ) : sw σ * y + x < sdots σ := by
  rw [sdots_mul h]
  calc sw σ * y + x < sw σ * y + sw σ := by omega
    _ = sw σ * (y + 1) := by rw [Nat.mul_add, Nat.mul_one]
    _ ≤ sw σ * sh σ := Nat.mul_le_mul_left _ hy
theorem sw_mod {σ : Sg} {x y : Nat} (hx : x < sw σ) : (sw σ * y + x) % sw σ = x ∧ (sw σ * y + x) / sw σ = y := by
  constructor
  · rw [Nat.mul_add_mod]; exact Nat.mod_eq_of_lt hx
  · rw [Nat.mul_add_div (by omega), Nat.div_eq_of_lt hx, Nat.add_zero]
theorem sLk_b {σ : Sg} (h : scok σ) (x y : Int) (d : Nat) : sLk σ x y d = -1 ∨ (0 ≤ sLk σ x y d ∧ sLk σ x y d < (sdots σ : Int)) := by
  unfold sLk
  split
  · exact Or.inl rfl
  · split
    · next c =>
      have := sN_lt h c.1 c.2.1 c.2.2.1 c.2.2.2
      have h2 := sdots_le h
      right; omega
    · exact Or.inl rfl
def sLcd (σ : Sg) (s : Int64) (x y d : Nat) : Int := if sLk σ x y d ≠ -1 ∧ tb s (sw σ * y + x) ≠ tb s (sLk σ x y d).toNat then sWt σ (sw σ * y + x) (sLk σ x y d).toNat d else 0
def sCv (σ : Sg) (s : Int64) (v : Nat) : Int := sPl σ v (if tb s v = true then 3 else 4) + sm (sLcd σ s (v % sw σ) (v / sw σ)) 4
def isCO (σ : Sg) (s : Int64) (N : Nat) : Prop := ∀ k, k < N → σ (44 + k) ≠ (if tb s k = true then 2 else 1)
def lcnt (x : Int64) : Nat → Int := sm (fun k => if tb x k = true then 1 else 0)
def lsum (σ : Sg) (x : Int64) : Nat → Int := sm (fun k => if tb x k = true then σ (8 + k) else 0)
def lnew (σ : Sg) (x : Int64) (t : Nat) : Int := if 0 < lcnt x (sdots σ) then lsum σ x (sdots σ) / lcnt x (sdots σ) else σ (2 + t)
theorem lcnt_b (x : Int64) (n : Nat) : 0 ≤ lcnt x n ∧ lcnt x n ≤ n := sm_01 (fun k => by by_cases c : tb x k = true <;> simp [c]) n
theorem lsum_b {σ : Sg} (h : scok σ) (x : Int64) {n : Nat} (hn : n ≤ 36) : 0 ≤ lsum σ x n ∧ lsum σ x n ≤ 9 * lcnt x n := by
  unfold lsum lcnt
  induction n with
  | zero => simp [sm]
  | succ n ih =>
    have := ih (by omega)
    rw [sm_s, sm_s]
    have h2 := h.2.2.2.2.2.2.2.2.1 n (by omega)
    by_cases c : tb x n = true <;> simp only [c, if_true, if_false, Bool.false_eq_true] <;> omega
theorem lnew_b {σ : Sg} (h : scok σ) (x : Int64) {t : Nat} (ht : t = 3 ∨ t = 4) : 0 ≤ lnew σ x t ∧ lnew σ x t ≤ 9 := by
  have hd := sdots_le h
  have h1 := lcnt_b x (sdots σ)
  have h2 := lsum_b h x (n := sdots σ) hd.2.1
  unfold lnew
  split
  · next c =>
    constructor
    · exact Int.ediv_nonneg h2.1 (by omega)
    · exact Int.ediv_le_of_le_mul c h2.2
  · obtain ⟨-, -, -, -, -, h5, h6, -⟩ := h
    rcases ht with rfl | rfl
    · exact h5
    · exact h6

theorem isCO_dec (σ : Sg) (s : Int64) (N : Nat) : (isCO σ s N) = (∀ k, k < N → σ (44 + k) ≠ (if tb s k = true then 2 else 1)) := rfl
theorem fl_X2_isCutOut_18 : Cond.fieldLink RX2 18 "StrokeCuts$Scene" "marks" "[I" ∈ wsX2_isCutOut := by decide +kernel
theorem in_X2_isCutOut_X2 : ∀ x ∈ u_ws RX2 TX2 5, x ∈ wsX2_isCutOut := by decide +kernel
theorem ms_X2_isCutOut_X4_has : Cond.static yX4_has ∈ wsX2_isCutOut := by decide +kernel
theorem mi_X2_isCutOut_X4_has : Cond.initialized yX4_has.cls ∈ wsX2_isCutOut := by decide +kernel
set_option maxHeartbeats 4000000 in
set_option maxRecDepth 100000 in
theorem L_X2_isCutOut_2 {E : zE} {w : zP} {l : Launch} {Post : Option Value → Mem → Prop} (hw : zOK w) (hC : zC E w l RX2 wsX2_isCutOut cX2_isCutOut 4 1 22 (some .boolean) Post) (x : Int64) (Ω : Mem) (N : Nat) (hN : (N : Int) = gt Ω 13 0 * gt Ω 13 1) (hN36 : N ≤ 36) [Decidable (isCO (scC Ω) x N)] (K0 : ∀ b : Bool, b = decide (isCO (scC Ω) x N) → Post (some (.int (zI (bI b)))) Ω)  : ∀ (n : Nat) (k : Nat), N < k + n → (k ≤ N) → (isCO (scC Ω) x k) → X E Ω 2 [some (.ref (wa w 13)), some (.long x), none, some (.int (zI (k : Int)))] [] := by
  intro n
  induction n with
  | zero =>
    intro k hfu hk hs
    exact absurd hfu (by omega)
  | succ n ih =>
    intro k hfu hk hs
    refine z_iload_n (pc := 2) hC (i := 3) dX2_isCutOut_2 rfl rfl ?_
    refine z_aload_n (pc := 3) hC (i := 0) dX2_isCutOut_3 rfl rfl ?_
    refine z_callV (n := 0) (T := TX2) (N := 5) (ci := 2) (pc := 4) hC (c_X2_dots l w hw _) gX2_isCutOut_X2_dots rfl (by decide +kernel) (by decide) (by decide) rfl (by decide) (fun _ => rfl) rfl rfl (Nat.le_of_ble_eq_true rfl) dX2_isCutOut_4 (zi_k fun r4 Ω4 h4 => ?_)
    obtain ⟨rfl, hM4⟩ := h4
    obtain rfl := hM4.symm
    rw [← hN]
    refine z_icmp_ge (pc := 7) hC 40 (by first | assumption | exact zb_gt _ _ _ | exact zcmp_zb _ _ | exact bI_zb _ | exact ⟨by omega, by omega⟩) (by first | assumption | exact zb_gt _ _ _ | exact zcmp_zb _ _ | exact bI_zb _ | exact ⟨by omega, by omega⟩) dX2_isCutOut_7 rfl (fun h7 => ?_) (fun h7 => ?_)
    · refine z_iconst (pc := 40) hC dX2_isCutOut_40 ?_
      exact z_zret (b := true) (pc := 41) hC rfl (K0 _ (decide_eq_true ((by omega : k = N) ▸ hs)).symm) dX2_isCutOut_41
    · refine z_aload_n (pc := 10) hC (i := 0) dX2_isCutOut_10 rfl rfl ?_
      refine z_getR (C := RX2) (T := TX2) (N := 5) (ci := 2) (pc := 11) hC (.ref (wa w 16)) _ 4 in_X2_isCutOut_X2 rfl (by decide) (fun _ => rfl) (by decide) fl_X2_isCutOut_18 (fun _ => rfl) dX2_isCutOut_11 ?_
      refine z_iload_n (pc := 14) hC (i := 3) dX2_isCutOut_14 rfl rfl ?_
      refine z_ialk (pc := 15) hC _ _ (by decide) (fun _ => rfl) rfl (by omega) (by decide) dX2_isCutOut_15 ?_
      refine z_lload_n (pc := 16) hC (i := 1) dX2_isCutOut_16 rfl rfl ?_
      refine z_iload_n (pc := 17) hC (i := 3) dX2_isCutOut_17 rfl rfl ?_
      refine z_callSN (n := 2) (pc := 18) hC (c_X4_has l w hw _ _ _ (by omega)) (fun h => h.2.1.2.1) gX2_isCutOut_X4_has_n64 ms_X2_isCutOut_X4_has mi_X2_isCutOut_X4_has rfl (by decide +kernel) (by decide) (by decide) rfl rfl (Nat.le_of_ble_eq_true rfl) dX2_isCutOut_18 (zb_k fun r18 Ω18 h18 => ?_)
      obtain ⟨rfl, hM18⟩ := h18
      obtain rfl := hM18.symm
      refine z_ifd_eq (pc := 21) hC 28 dX2_isCutOut_21 rfl (fun h21 => ?_) (fun h21 => ?_)
      · refine z_iconst (pc := 28) hC dX2_isCutOut_28 ?_
        refine z_icmp_ne (pc := 29) hC 34 (by first | assumption | exact zb_gt _ _ _ | exact zcmp_zb _ _ | exact bI_zb _ | exact ⟨by omega, by omega⟩) (by first | assumption | exact zb_gt _ _ _ | exact zcmp_zb _ _ | exact bI_zb _ | exact ⟨by omega, by omega⟩) dX2_isCutOut_29 rfl (fun h29 => ?_) (fun h29 => ?_)
        · refine z_iinc (pc := 34) hC (i := 3) dX2_isCutOut_34 rfl (by decide) rfl (zS_s (zS_s (zS_s zS_0))) ?_
          refine z_goto (pc := 37) hC 2 dX2_isCutOut_37 rfl ?_
          exact ih (k + 1) (by omega) (by omega) (fun j hj => by
            by_cases e : j = k
            · subst e; rw [if_neg h21, scC_mk Ω (by omega)]; exact h29
            · exact hs j (by omega))
        · refine z_iconst (pc := 32) hC dX2_isCutOut_32 ?_
          exact z_zret (b := false) (pc := 33) hC rfl (K0 _ (decide_eq_false (fun q => q k (by omega) (by rw [if_neg h21, scC_mk Ω (by omega)]; exact h29))).symm) dX2_isCutOut_33
      · refine z_iconst (pc := 24) hC dX2_isCutOut_24 ?_
        refine z_goto (pc := 25) hC 29 dX2_isCutOut_25 rfl ?_
        refine z_icmp_ne (pc := 29) hC 34 (by first | assumption | exact zb_gt _ _ _ | exact zcmp_zb _ _ | exact bI_zb _ | exact ⟨by omega, by omega⟩) (by first | assumption | exact zb_gt _ _ _ | exact zcmp_zb _ _ | exact bI_zb _ | exact ⟨by omega, by omega⟩) dX2_isCutOut_29 rfl (fun h29 => ?_) (fun h29 => ?_)
        · refine z_iinc (pc := 34) hC (i := 3) dX2_isCutOut_34 rfl (by decide) rfl (zS_s (zS_s (zS_s zS_0))) ?_
          refine z_goto (pc := 37) hC 2 dX2_isCutOut_37 rfl ?_
          exact ih (k + 1) (by omega) (by omega) (fun j hj => by
            by_cases e : j = k
            · subst e; rw [if_pos h21, scC_mk Ω (by omega)]; exact h29
            · exact hs j (by omega))
        · refine z_iconst (pc := 32) hC dX2_isCutOut_32 ?_
          exact z_zret (b := false) (pc := 33) hC rfl (K0 _ (decide_eq_false (fun q => q k (by omega) (by rw [if_pos h21, scC_mk Ω (by omega)]; exact h29))).symm) dX2_isCutOut_33
set_option maxHeartbeats 4000000 in
set_option maxRecDepth 100000 in
theorem c_X2_isCutOut (l : Launch) (w : zP) (hw : zOK w) (Ω : Mem) (x : Int64) (hv : scok (scC Ω)) [Decidable (isCO (scC Ω) x (sdots (scC Ω)))] : zM l w yX2_isCutOut wsX2_isCutOut 1 22 [.ref (wa w 13), .long x] Ω (zbo (fun b Ω1 => b = decide (isCO (scC Ω) x (sdots (scC Ω))) ∧ Ω1 = Ω)) := by
  refine zM_of cX2_isCutOut 4 (some .boolean) RX2 [some (.ref (wa w 13)), some (.long x), none, none] hw (by decide +kernel) rfl rfl (Nat.le_of_ble_eq_true rfl) rfl (fun E hC => ?_)
  refine z_iconst (pc := 0) hC dX2_isCutOut_0 ?_
  refine z_istore_n (pc := 1) hC (i := 3) dX2_isCutOut_1 rfl (by decide) rfl (zS_s (zS_s (zS_s zS_0))) ?_
  have hd := sdots_le hv
  exact L_X2_isCutOut_2 hw hC x Ω (sdots (scC Ω)) hd.2.2 hd.2.1 (fun b hb => ⟨b, rfl, hb, rfl⟩) (sdots (scC Ω) + 1) 0 (by omega) (by omega) (fun j hj => absurd hj (Nat.not_lt_zero j))
theorem ms_X2_linkCosts_X4_has : Cond.static yX4_has ∈ wsX2_linkCosts := by decide +kernel
theorem mi_X2_linkCosts_X4_has : Cond.initialized yX4_has.cls ∈ wsX2_linkCosts := by decide +kernel
set_option maxHeartbeats 4000000 in
set_option maxRecDepth 100000 in
theorem L_X2_linkCosts_15 {E : zE} {w : zP} {l : Launch} {Post : Option Value → Mem → Prop} (hw : zOK w) (hC : zC E w l RX2 wsX2_linkCosts cX2_linkCosts 9 2 47 (some .int) Post) (Ω : Mem) (s : Int64) (x y : Nat) (hv : scok (scC Ω)) (hx : x < sw (scC Ω)) (hy : y < sh (scC Ω)) (K : ∀ o8 : Option Value, X E Ω 74 [some (.ref (wa w 13)), some (.long s), none, some (.int (zI (x : Int))), some (.int (zI (y : Int))), some (.int (zI ((sw (scC Ω) * y + x : Nat) : Int))), some (.int (zI (sm (sLcd (scC Ω) s x y) 4))), some (.int (zI ((4 : Nat) : Int))), o8] []) : ∀ (n : Nat) (d : Nat) (o8 : Option Value), 4 < d + n → (d ≤ 4) → X E Ω 15 [some (.ref (wa w 13)), some (.long s), none, some (.int (zI (x : Int))), some (.int (zI (y : Int))), some (.int (zI ((sw (scC Ω) * y + x : Nat) : Int))), some (.int (zI (sm (sLcd (scC Ω) s x y) d))), some (.int (zI (d : Int))), o8] [] := by
  intro n
  induction n with
  | zero =>
    intro d o8 hfu hd
    exact absurd hfu (by omega)
  | succ n ih =>
    intro d o8 hfu hd
    have hW := sw_eq hv
    have hH := sh_eq hv
    rw [scC_0] at hW
    rw [scC_1] at hH
    have hlt := sw_lt hv hx hy
    have hD := sdots_le hv
    refine z_iload (pc := 15) hC (i := 7) dX2_linkCosts_15 rfl ?_
    refine z_iconst (pc := 17) hC dX2_linkCosts_17 ?_
    refine z_icmp_ge (pc := 18) hC 74 (by first | assumption | exact zb_gt _ _ _ | exact zcmp_zb _ _ | exact bI_zb _ | exact ⟨by omega, by omega⟩) (by first | assumption | exact zb_gt _ _ _ | exact zcmp_zb _ _ | exact bI_zb _ | exact ⟨by omega, by omega⟩) dX2_linkCosts_18 rfl (fun h18 => ?_) (fun h18 => ?_)
    · obtain rfl : d = 4 := by omega
      exact K _
    · refine z_aload_n (pc := 21) hC (i := 0) dX2_linkCosts_21 rfl rfl ?_
      refine z_iload_n (pc := 22) hC (i := 3) dX2_linkCosts_22 rfl rfl ?_
      refine z_iload (pc := 23) hC (i := 4) dX2_linkCosts_23 rfl ?_
      refine z_iload (pc := 25) hC (i := 7) dX2_linkCosts_25 rfl ?_
      refine z_callV (n := 3) (T := TX2) (N := 5) (ci := 2) (pc := 27) hC (c_X2_linkedTo l w hw _ _ _ _ hv (by omega) (by omega) (by omega)) gX2_linkCosts_X2_linkedTo rfl (by decide +kernel) (by decide) (by decide) rfl (by decide) (fun _ => rfl) rfl rfl (Nat.le_of_ble_eq_true rfl) dX2_linkCosts_27 (zi_k fun r27 Ω27 h27 => ?_)
      obtain ⟨rfl, hM27⟩ := h27
      obtain rfl := hM27.symm
      have hlb := sLk_b hv (x : Int) (y : Int) d
      refine z_istore (pc := 30) hC (i := 8) dX2_linkCosts_30 (by decide) rfl (zS_s (zS_s (zS_s (zS_s (zS_s (zS_s (zS_s (zS_s zS_0)))))))) ?_
      refine z_iload (pc := 32) hC (i := 8) dX2_linkCosts_32 rfl ?_
      refine z_iconst (pc := 34) hC dX2_linkCosts_34 ?_
      refine z_icmp_eq (pc := 35) hC 68 (by first | assumption | exact zb_gt _ _ _ | exact zcmp_zb _ _ | exact bI_zb _ | exact ⟨by omega, by omega⟩) (by first | assumption | exact zb_gt _ _ _ | exact zcmp_zb _ _ | exact bI_zb _ | exact ⟨by omega, by omega⟩) dX2_linkCosts_35 rfl (fun h35 => ?_) (fun h35 => ?_)
      · refine z_iinc (pc := 68) hC (i := 7) dX2_linkCosts_68 rfl (by decide) rfl (zS_s (zS_s (zS_s (zS_s (zS_s (zS_s (zS_s zS_0))))))) ?_
        refine z_goto (pc := 71) hC 15 dX2_linkCosts_71 rfl ?_
        have hc : sm (sLcd (scC Ω) s x y) (d + 1) = sm (sLcd (scC Ω) s x y) d := by
          rw [sm_s]; unfold sLcd; rw [if_neg (fun q => q.1 h35)]; omega
        have hh := ih (d + 1) (some (.int (zI (sLk (scC Ω) (x : Int) (y : Int) d)))) (by omega) (by omega)
        rw [hc] at hh
        exact hh
      · obtain ⟨o, ho⟩ := nat_of (by omega : 0 ≤ sLk (scC Ω) (x : Int) (y : Int) d)
        rw [ho]
        refine z_lload_n (pc := 38) hC (i := 1) dX2_linkCosts_38 rfl rfl ?_
        refine z_iload (pc := 39) hC (i := 5) dX2_linkCosts_39 rfl ?_
        refine z_callSN (n := 2) (pc := 41) hC (c_X4_has l w hw _ _ _ (by omega)) (fun h => h.2.1.2.1) gX2_linkCosts_X4_has_n64 ms_X2_linkCosts_X4_has mi_X2_linkCosts_X4_has rfl (by decide +kernel) (by decide) (by decide) rfl rfl (Nat.le_of_ble_eq_true rfl) dX2_linkCosts_41 (zb_k fun r41 Ω41 h41 => ?_)
        obtain ⟨rfl, hM41⟩ := h41
        obtain rfl := hM41.symm
        refine z_lload_n (pc := 44) hC (i := 1) dX2_linkCosts_44 rfl rfl ?_
        refine z_iload (pc := 45) hC (i := 8) dX2_linkCosts_45 rfl ?_
        refine z_callSN (n := 2) (pc := 47) hC (c_X4_has l w hw _ _ o (by omega)) (fun h => h.2.1.2.1) gX2_linkCosts_X4_has_n64 ms_X2_linkCosts_X4_has mi_X2_linkCosts_X4_has rfl (by decide +kernel) (by decide) (by decide) rfl rfl (Nat.le_of_ble_eq_true rfl) dX2_linkCosts_47 (zb_k fun r47 Ω47 h47 => ?_)
        obtain ⟨rfl, hM47⟩ := h47
        obtain rfl := hM47.symm
        refine z_icmp_eq (pc := 50) hC 68 (by first | assumption | exact zb_gt _ _ _ | exact zcmp_zb _ _ | exact bI_zb _ | exact ⟨by omega, by omega⟩) (by first | assumption | exact zb_gt _ _ _ | exact zcmp_zb _ _ | exact bI_zb _ | exact ⟨by omega, by omega⟩) dX2_linkCosts_50 rfl (fun h50 => ?_) (fun h50 => ?_)
        · refine z_iinc (pc := 68) hC (i := 7) dX2_linkCosts_68 rfl (by decide) rfl (zS_s (zS_s (zS_s (zS_s (zS_s (zS_s (zS_s zS_0))))))) ?_
          refine z_goto (pc := 71) hC 15 dX2_linkCosts_71 rfl ?_
          have hc : sm (sLcd (scC Ω) s x y) (d + 1) = sm (sLcd (scC Ω) s x y) d := by
            rw [sm_s]; unfold sLcd; rw [if_neg (fun q => q.2 (by rw [ho]; have := bI_eq.mp h50; rw [dec_tb, dec_tb] at this; exact this))]; omega
          have hh := ih (d + 1) (some (.int (zI (o : Int)))) (by omega) (by omega)
          rw [hc] at hh
          exact hh
        · refine z_iload (pc := 53) hC (i := 6) dX2_linkCosts_53 rfl ?_
          refine z_aload_n (pc := 55) hC (i := 0) dX2_linkCosts_55 rfl rfl ?_
          refine z_iload (pc := 56) hC (i := 5) dX2_linkCosts_56 rfl ?_
          refine z_iload (pc := 58) hC (i := 8) dX2_linkCosts_58 rfl ?_
          refine z_iload (pc := 60) hC (i := 7) dX2_linkCosts_60 rfl ?_
          refine z_callV (n := 3) (T := TX2) (N := 5) (ci := 2) (pc := 62) hC (c_X2_weightOf l w hw _ _ o _ hv (by omega) (by omega) (by omega)) gX2_linkCosts_X2_weightOf rfl (by decide +kernel) (by decide) (by decide) rfl (by decide) (fun _ => rfl) rfl rfl (Nat.le_of_ble_eq_true rfl) dX2_linkCosts_62 (zi_k fun r62 Ω62 h62 => ?_)
          obtain ⟨rfl, hM62⟩ := h62
          obtain rfl := hM62.symm
          refine z_iadd (pc := 65) hC dX2_linkCosts_65 ?_
          refine z_istore (pc := 66) hC (i := 6) dX2_linkCosts_66 (by decide) rfl (zS_s (zS_s (zS_s (zS_s (zS_s (zS_s zS_0)))))) ?_
          refine z_iinc (pc := 68) hC (i := 7) dX2_linkCosts_68 rfl (by decide) rfl (zS_s (zS_s (zS_s (zS_s (zS_s (zS_s (zS_s zS_0))))))) ?_
          refine z_goto (pc := 71) hC 15 dX2_linkCosts_71 rfl ?_
          have hc : sm (sLcd (scC Ω) s x y) (d + 1) = sm (sLcd (scC Ω) s x y) d + sWt (scC Ω) (sw (scC Ω) * y + x) o d := by
            rw [sm_s, show sLcd (scC Ω) s x y d = sWt (scC Ω) (sw (scC Ω) * y + x) o d by
              unfold sLcd
              rw [if_pos ⟨h35, by rw [ho]; intro e; exact h50 (by rw [bI_eq, dec_tb, dec_tb]; exact e)⟩, ho]
              rfl]
          have hh := ih (d + 1) (some (.int (zI (o : Int)))) (by omega) (by omega)
          rw [hc] at hh
          exact hh
set_option maxHeartbeats 4000000 in
set_option maxRecDepth 100000 in
theorem c_X2_linkCosts (l : Launch) (w : zP) (hw : zOK w) (Ω : Mem) (s : Int64) (x y : Nat) (hv : scok (scC Ω)) (hx : x < sw (scC Ω)) (hy : y < sh (scC Ω)) : zM l w yX2_linkCosts wsX2_linkCosts 2 47 [.ref (wa w 13), .long s, .int (zI (x : Int)), .int (zI (y : Int))] Ω (zi (fun r Ω1 => r = sm (sLcd (scC Ω) s x y) 4 ∧ Ω1 = Ω)) := by
  refine zM_of cX2_linkCosts 9 (some .int) RX2 [some (.ref (wa w 13)), some (.long s), none, some (.int (zI (x : Int))), some (.int (zI (y : Int))), none, none, none, none] hw (by decide +kernel) rfl rfl (Nat.le_of_ble_eq_true rfl) rfl (fun E hC => ?_)
  refine z_aload_n (pc := 0) hC (i := 0) dX2_linkCosts_0 rfl rfl ?_
  refine z_iload_n (pc := 1) hC (i := 3) dX2_linkCosts_1 rfl rfl ?_
  refine z_iload (pc := 2) hC (i := 4) dX2_linkCosts_2 rfl ?_
  refine z_callV (n := 2) (T := TX2) (N := 5) (ci := 2) (pc := 4) hC (c_X2_numberOf l w hw _ _ _) gX2_linkCosts_X2_numberOf rfl (by decide +kernel) (by decide) (by decide) rfl (by decide) (fun _ => rfl) rfl rfl (Nat.le_of_ble_eq_true rfl) dX2_linkCosts_4 (zi_k fun r4 Ω4 h4 => ?_)
  obtain ⟨rfl, hM4⟩ := h4
  obtain rfl := hM4.symm
  rw [show gt Ω 13 0 * (y : Int) + (x : Int) = ((sw (scC Ω) * y + x : Nat) : Int) from sw_num hv x y]
  refine z_istore (pc := 7) hC (i := 5) dX2_linkCosts_7 (by decide) rfl (zS_s (zS_s (zS_s (zS_s (zS_s zS_0))))) ?_
  refine z_iconst (pc := 9) hC dX2_linkCosts_9 ?_
  refine z_istore (pc := 10) hC (i := 6) dX2_linkCosts_10 (by decide) rfl (zS_s (zS_s (zS_s (zS_s (zS_s (zS_s zS_0)))))) ?_
  refine z_iconst (pc := 12) hC dX2_linkCosts_12 ?_
  refine z_istore (pc := 13) hC (i := 7) dX2_linkCosts_13 (by decide) rfl (zS_s (zS_s (zS_s (zS_s (zS_s (zS_s (zS_s zS_0))))))) ?_
  refine L_X2_linkCosts_15 hw hC Ω s x y hv hx hy (fun o8 => ?_) 5 0 none (by omega) (by omega)
  refine z_iload (pc := 74) hC (i := 6) dX2_linkCosts_74 rfl ?_
  exact z_iret (pc := 76) hC rfl ⟨_, rfl, ⟨rfl, rfl⟩⟩ dX2_linkCosts_76
