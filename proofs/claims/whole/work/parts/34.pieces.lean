/-! ===== pieces, as the class makes them ===== -/
def shlI (x : Int64) (k : Int) : Int64 := x <<< ((zI k).toInt64 &&& 63)
def shrI (x : Int64) (k : Int) : Int64 := (x.toUInt64 >>> ((zI k).toInt64.toUInt64 &&& Int64.toUInt64 63)).toInt64
/-- one step of growing -/
def grw (σ : Sg) (set p : Int64) : Int64 := (p ||| (shlI (p &&& (colS σ (sw σ - 1) ^^^ (-1))) 1 ||| shrI (p &&& (colS σ 0 ^^^ (-1))) 1) ||| shlI p (σ 0) ||| shrI p (σ 0)) &&& set
def pcI (σ : Sg) (set : Int64) : Nat → Int64 → Int64
  | 0, p => p
  | n + 1, p => if grw σ set p = p then p else pcI σ set n (grw σ set p)
def pieceS (σ : Sg) (seed set : Int64) : Int64 := pcI σ set (sdots σ) seed
def cPI (σ : Sg) (set barred : Int64) : Nat → Int64 → Int → Int
  | 0, _, c => c
  | n + 1, rest, c => if rest = 0 then c else cPI σ set barred n (rest &&& (pieceS σ (rest &&& (-rest)) set ^^^ (-1))) (if pieceS σ (rest &&& (-rest)) set &&& barred = 0 then c + 1 else c)
def cntPS (σ : Sg) (set barred : Int64) : Int := cPI σ set barred (sdots σ) set 0
theorem zcmp_0 {x y : Int64} : zcmp x y = 0 ↔ x = y := by
  unfold zcmp
  by_cases a : y < x
  · rw [if_pos a]
    constructor
    · intro h; omega
    · intro h; subst h; exact absurd a Int64.lt_irrefl
  · rw [if_neg a]
    by_cases b : x = y <;> simp [b]

theorem fl_X2_pieceOf_21 : Cond.fieldLink RX2 21 "StrokeCuts$Scene" "width" "I" ∈ wsX2_pieceOf := by decide +kernel
theorem in_X2_pieceOf_X2 : ∀ x ∈ u_ws RX2 TX2 5, x ∈ wsX2_pieceOf := by decide +kernel
set_option maxHeartbeats 4000000 in
set_option maxRecDepth 100000 in
theorem L_X2_pieceOf_33 {E : zE} {w : zP} {l : Launch} {Post : Option Value → Mem → Prop} (hw : zOK w) (hC : zC E w l RX2 wsX2_pieceOf cX2_pieceOf 16 2 46 (some .long) Post) (Ω : Mem) (seed set : Int64) (hv : scok (scC Ω)) (e : Int64) (hN : (sdots (scC Ω) : Int) = gt Ω 13 0 * gt Ω 13 1) (K : ∀ (k : Nat) (p : Int64) (o12 o14 : Option Value), e = p → X E Ω 105 [some (.ref (wa w 13)), some (.long seed), none, some (.long set), none, some (.long (colS (scC Ω) 0 ^^^ (-1))), none, some (.long (colS (scC Ω) (sw (scC Ω) - 1) ^^^ (-1))), none, some (.long p), none, some (.int (zI (k : Int))), o12, none, o14, none] []) : ∀ (n : Nat) (k : Nat) (p : Int64) (o12 : Option Value) (o14 : Option Value), sdots (scC Ω) < k + n → (k ≤ sdots (scC Ω)) → (pcI (scC Ω) set (sdots (scC Ω) - k) p = e) → X E Ω 33 [some (.ref (wa w 13)), some (.long seed), none, some (.long set), none, some (.long (colS (scC Ω) 0 ^^^ (-1))), none, some (.long (colS (scC Ω) (sw (scC Ω) - 1) ^^^ (-1))), none, some (.long p), none, some (.int (zI (k : Int))), o12, none, o14, none] [] := by
  intro n
  induction n with
  | zero =>
    intro k p o12 o14 hfu hk hp
    exact absurd hfu (by omega)
  | succ n ih =>
    intro k p o12 o14 hfu hk hp
    have hW := sw_eq hv
    have hH := sh_eq hv
    rw [scC_0] at hW
    rw [scC_1] at hH
    have hD := sdots_le hv
    refine z_iload (pc := 33) hC (i := 11) dX2_pieceOf_33 rfl ?_
    refine z_aload_n (pc := 35) hC (i := 0) dX2_pieceOf_35 rfl rfl ?_
    refine z_callV (n := 0) (T := TX2) (N := 5) (ci := 2) (pc := 36) hC (c_X2_dots l w hw _) gX2_pieceOf_X2_dots rfl (by decide +kernel) (by decide) (by decide) rfl (by decide) (fun _ => rfl) rfl rfl (Nat.le_of_ble_eq_true rfl) dX2_pieceOf_36 (zi_k fun r36 Ω36 h36 => ?_)
    obtain ⟨rfl, hM36⟩ := h36
    obtain rfl := hM36.symm
    rw [← hN]
    refine z_icmp_ge (pc := 39) hC 105 (by first | assumption | exact zb_gt _ _ _ | exact zcmp_zb _ _ | exact bI_zb _ | exact ⟨by omega, by omega⟩) (by first | assumption | exact zb_gt _ _ _ | exact zcmp_zb _ _ | exact bI_zb _ | exact ⟨by omega, by omega⟩) dX2_pieceOf_39 rfl (fun h39 => ?_) (fun h39 => ?_)
    · exact K _ _ _ _ (by rw [← hp, show sdots (scC Ω) - k = 0 by omega]; rfl)
    · refine z_lload (pc := 42) hC (i := 9) dX2_pieceOf_42 rfl ?_
      refine z_lload (pc := 44) hC (i := 7) dX2_pieceOf_44 rfl ?_
      refine z_land (pc := 46) hC dX2_pieceOf_46 ?_
      refine z_iconst (pc := 47) hC dX2_pieceOf_47 ?_
      refine z_lshl (pc := 48) hC rfl dX2_pieceOf_48 ?_
      refine z_lload (pc := 49) hC (i := 9) dX2_pieceOf_49 rfl ?_
      refine z_lload (pc := 51) hC (i := 5) dX2_pieceOf_51 rfl ?_
      refine z_land (pc := 53) hC dX2_pieceOf_53 ?_
      refine z_iconst (pc := 54) hC dX2_pieceOf_54 ?_
      refine z_lushr (pc := 55) hC rfl dX2_pieceOf_55 ?_
      refine z_lor (pc := 56) hC dX2_pieceOf_56 ?_
      refine z_lstore (pc := 57) hC (i := 12) dX2_pieceOf_57 (by decide) rfl (zS2_s (zS2_s (zS2_s (zS2_s (zS2_s (zS2_s (zS2_s (zS2_s (zS2_s (zS2_s (zS2_s (zS2_s zS2_0)))))))))))) ?_
      refine z_lload (pc := 59) hC (i := 9) dX2_pieceOf_59 rfl ?_
      refine z_lload (pc := 61) hC (i := 12) dX2_pieceOf_61 rfl ?_
      refine z_lor (pc := 63) hC dX2_pieceOf_63 ?_
      refine z_lload (pc := 64) hC (i := 9) dX2_pieceOf_64 rfl ?_
      refine z_aload_n (pc := 66) hC (i := 0) dX2_pieceOf_66 rfl rfl ?_
      refine z_getI (C := RX2) (T := TX2) (N := 5) (ci := 2) (pc := 67) hC _ 0 in_X2_pieceOf_X2 rfl (by decide) (fun _ => rfl) (by decide) fl_X2_pieceOf_21 (fun _ => rfl) dX2_pieceOf_67 ?_
      refine z_lshl (pc := 70) hC rfl dX2_pieceOf_70 ?_
      refine z_lor (pc := 71) hC dX2_pieceOf_71 ?_
      refine z_lload (pc := 72) hC (i := 9) dX2_pieceOf_72 rfl ?_
      refine z_aload_n (pc := 74) hC (i := 0) dX2_pieceOf_74 rfl rfl ?_
      refine z_getI (C := RX2) (T := TX2) (N := 5) (ci := 2) (pc := 75) hC _ 0 in_X2_pieceOf_X2 rfl (by decide) (fun _ => rfl) (by decide) fl_X2_pieceOf_21 (fun _ => rfl) dX2_pieceOf_75 ?_
      refine z_lushr (pc := 78) hC rfl dX2_pieceOf_78 ?_
      refine z_lor (pc := 79) hC dX2_pieceOf_79 ?_
      refine z_lload_n (pc := 80) hC (i := 3) dX2_pieceOf_80 rfl rfl ?_
      refine z_land (pc := 81) hC dX2_pieceOf_81 ?_
      refine z_tople (grw (scC Ω) set p) rfl ?_
      refine z_lstore (pc := 82) hC (i := 14) dX2_pieceOf_82 (by decide) rfl (zS2_s (zS2_s (zS2_s (zS2_s (zS2_s (zS2_s (zS2_s (zS2_s (zS2_s (zS2_s (zS2_s (zS2_s (zS2_s (zS2_s zS2_0)))))))))))))) ?_
      refine z_lload (pc := 84) hC (i := 14) dX2_pieceOf_84 rfl ?_
      refine z_lload (pc := 86) hC (i := 9) dX2_pieceOf_86 rfl ?_
      refine z_lcmp (pc := 88) hC dX2_pieceOf_88 ?_
      refine z_if_ne (pc := 89) hC 95 (by first | assumption | exact zb_gt _ _ _ | exact zcmp_zb _ _ | exact bI_zb _ | exact ⟨by omega, by omega⟩) dX2_pieceOf_89 rfl (fun h89 => ?_) (fun h89 => ?_)
      · refine z_lload (pc := 95) hC (i := 14) dX2_pieceOf_95 rfl ?_
        refine z_lstore (pc := 97) hC (i := 9) dX2_pieceOf_97 (by decide) rfl (zS2_s (zS2_s (zS2_s (zS2_s (zS2_s (zS2_s (zS2_s (zS2_s (zS2_s zS2_0))))))))) ?_
        refine z_iinc (pc := 99) hC (i := 11) dX2_pieceOf_99 rfl (by decide) rfl (zS_s (zS_s (zS_s (zS_s (zS_s (zS_s (zS_s (zS_s (zS_s (zS_s (zS_s zS_0))))))))))) ?_
        refine z_goto (pc := 102) hC 33 dX2_pieceOf_102 rfl ?_
        exact ih (k + 1) _ _ _ (by omega) (by omega) (by rw [← hp, show sdots (scC Ω) - k = (sdots (scC Ω) - (k + 1)) + 1 by omega, pcI, if_neg (fun q => h89 (zcmp_0.mpr q))])
      · refine z_goto (pc := 92) hC 105 dX2_pieceOf_92 rfl ?_
        exact K _ _ _ _ (by rw [← hp, show sdots (scC Ω) - k = (sdots (scC Ω) - (k + 1)) + 1 by omega, pcI, if_pos (zcmp_0.mp h89)])
theorem kc_X2_pieceOf_76 : Cond.constantLong RX2 76 (-1) ∈ wsX2_pieceOf := by decide +kernel
set_option maxHeartbeats 4000000 in
set_option maxRecDepth 100000 in
theorem c_X2_pieceOf (l : Launch) (w : zP) (hw : zOK w) (Ω : Mem) (seed set : Int64) (hv : scok (scC Ω)) : zM l w yX2_pieceOf wsX2_pieceOf 2 46 [.ref (wa w 13), .long seed, .long set] Ω (zlo (fun r Ω1 => r = pieceS (scC Ω) seed set ∧ Ω1 = Ω)) := by
  refine zM_of cX2_pieceOf 16 (some .long) RX2 [some (.ref (wa w 13)), some (.long seed), none, some (.long set), none, none, none, none, none, none, none, none, none, none, none, none] hw (by decide +kernel) rfl rfl (Nat.le_of_ble_eq_true rfl) rfl (fun E hC => ?_)
  have hW := sw_eq hv
  have hH := sh_eq hv
  rw [scC_0] at hW
  rw [scC_1] at hH
  have hD := sdots_le hv
  refine z_aload_n (pc := 0) hC (i := 0) dX2_pieceOf_0 rfl rfl ?_
  refine z_iconst (pc := 1) hC dX2_pieceOf_1 ?_
  refine z_callV (n := 1) (T := TX2) (N := 5) (ci := 2) (pc := 2) hC (c_X2_column l w hw _ 0 hv) gX2_pieceOf_X2_column rfl (by decide +kernel) (by decide) (by decide) rfl (by decide) (fun _ => rfl) rfl rfl (Nat.le_of_ble_eq_true rfl) dX2_pieceOf_2 (zl_k fun r2 Ω2 h2 => ?_)
  obtain ⟨rfl, hM2⟩ := h2
  obtain rfl := hM2.symm
  refine z_ldc2 (pc := 5) hC kc_X2_pieceOf_76 dX2_pieceOf_5 ?_
  refine z_lxor (pc := 8) hC dX2_pieceOf_8 ?_
  refine z_lstore (pc := 9) hC (i := 5) dX2_pieceOf_9 (by decide) rfl (zS2_s (zS2_s (zS2_s (zS2_s (zS2_s zS2_0))))) ?_
  refine z_aload_n (pc := 11) hC (i := 0) dX2_pieceOf_11 rfl rfl ?_
  refine z_aload_n (pc := 12) hC (i := 0) dX2_pieceOf_12 rfl rfl ?_
  refine z_getI (C := RX2) (T := TX2) (N := 5) (ci := 2) (pc := 13) hC _ 0 in_X2_pieceOf_X2 rfl (by decide) (fun _ => rfl) (by decide) fl_X2_pieceOf_21 (fun _ => rfl) dX2_pieceOf_13 ?_
  refine z_iconst (pc := 16) hC dX2_pieceOf_16 ?_
  refine z_isub (pc := 17) hC dX2_pieceOf_17 ?_
  rw [show gt Ω 13 0 - 1 = ((sw (scC Ω) - 1 : Nat) : Int) by omega]
  refine z_callV (n := 1) (T := TX2) (N := 5) (ci := 2) (pc := 18) hC (c_X2_column l w hw _ _ hv) gX2_pieceOf_X2_column rfl (by decide +kernel) (by decide) (by decide) rfl (by decide) (fun _ => rfl) rfl rfl (Nat.le_of_ble_eq_true rfl) dX2_pieceOf_18 (zl_k fun r18 Ω18 h18 => ?_)
  obtain ⟨rfl, hM18⟩ := h18
  obtain rfl := hM18.symm
  refine z_ldc2 (pc := 21) hC kc_X2_pieceOf_76 dX2_pieceOf_21 ?_
  refine z_lxor (pc := 24) hC dX2_pieceOf_24 ?_
  refine z_lstore (pc := 25) hC (i := 7) dX2_pieceOf_25 (by decide) rfl (zS2_s (zS2_s (zS2_s (zS2_s (zS2_s (zS2_s (zS2_s zS2_0))))))) ?_
  refine z_lload_n (pc := 27) hC (i := 1) dX2_pieceOf_27 rfl rfl ?_
  refine z_lstore (pc := 28) hC (i := 9) dX2_pieceOf_28 (by decide) rfl (zS2_s (zS2_s (zS2_s (zS2_s (zS2_s (zS2_s (zS2_s (zS2_s (zS2_s zS2_0))))))))) ?_
  refine z_iconst (pc := 30) hC dX2_pieceOf_30 ?_
  refine z_istore (pc := 31) hC (i := 11) dX2_pieceOf_31 (by decide) rfl (zS_s (zS_s (zS_s (zS_s (zS_s (zS_s (zS_s (zS_s (zS_s (zS_s (zS_s zS_0))))))))))) ?_
  refine L_X2_pieceOf_33 hw hC Ω seed set hv (pieceS (scC Ω) seed set) hD.2.2 (fun k p o12 o14 hep => ?_) (sdots (scC Ω) + 1) 0 seed none none (by omega) (by omega) rfl
  refine z_lload (pc := 105) hC (i := 9) dX2_pieceOf_105 rfl ?_
  exact z_lret (pc := 107) hC rfl ⟨_, rfl, ⟨hep.symm, rfl⟩⟩ dX2_pieceOf_107
theorem kc_X2_countPieces_76 : Cond.constantLong RX2 76 (-1) ∈ wsX2_countPieces := by decide +kernel
set_option maxHeartbeats 4000000 in
set_option maxRecDepth 100000 in
theorem L_X2_countPieces_9 {E : zE} {w : zP} {l : Launch} {Post : Option Value → Mem → Prop} (hw : zOK w) (hC : zC E w l RX2 wsX2_countPieces cX2_countPieces 11 3 81 (some .int) Post) (Ω : Mem) (set barred : Int64) (hv : scok (scC Ω)) (e : Int) (hN : (sdots (scC Ω) : Int) = gt Ω 13 0 * gt Ω 13 1) (K : ∀ (k : Nat) (rest : Int64) (c : Int) (o9 : Option Value), e = c → X E Ω 67 [some (.ref (wa w 13)), some (.long set), none, some (.long barred), none, some (.long rest), none, some (.int (zI c)), some (.int (zI (k : Int))), o9, none] []) : ∀ (n : Nat) (k : Nat) (rest : Int64) (c : Int) (o9 : Option Value), sdots (scC Ω) < k + n → (k ≤ sdots (scC Ω)) → (cPI (scC Ω) set barred (sdots (scC Ω) - k) rest c = e) → X E Ω 9 [some (.ref (wa w 13)), some (.long set), none, some (.long barred), none, some (.long rest), none, some (.int (zI c)), some (.int (zI (k : Int))), o9, none] [] := by
  intro n
  induction n with
  | zero =>
    intro k rest c o9 hfu hk hp
    exact absurd hfu (by omega)
  | succ n ih =>
    intro k rest c o9 hfu hk hp
    have hD := sdots_le hv
    refine z_iload (pc := 9) hC (i := 8) dX2_countPieces_9 rfl ?_
    refine z_aload_n (pc := 11) hC (i := 0) dX2_countPieces_11 rfl rfl ?_
    refine z_callV (n := 0) (T := TX2) (N := 5) (ci := 2) (pc := 12) hC (c_X2_dots l w hw _) gX2_countPieces_X2_dots rfl (by decide +kernel) (by decide) (by decide) rfl (by decide) (fun _ => rfl) rfl rfl (Nat.le_of_ble_eq_true rfl) dX2_countPieces_12 (zi_k fun r12 Ω12 h12 => ?_)
    obtain ⟨rfl, hM12⟩ := h12
    obtain rfl := hM12.symm
    rw [← hN]
    refine z_icmp_ge (pc := 15) hC 67 (by first | assumption | exact zb_gt _ _ _ | exact zcmp_zb _ _ | exact bI_zb _ | exact ⟨by omega, by omega⟩) (by first | assumption | exact zb_gt _ _ _ | exact zcmp_zb _ _ | exact bI_zb _ | exact ⟨by omega, by omega⟩) dX2_countPieces_15 rfl (fun h15 => ?_) (fun h15 => ?_)
    · exact K _ _ _ _ (by rw [← hp, show sdots (scC Ω) - k = 0 by omega]; rfl)
    · refine z_lload (pc := 18) hC (i := 5) dX2_countPieces_18 rfl ?_
      refine z_lconst (pc := 20) hC (v := 0) dX2_countPieces_20 rfl ?_
      refine z_lcmp (pc := 21) hC dX2_countPieces_21 ?_
      refine z_if_eq (pc := 22) hC 67 (by first | assumption | exact zb_gt _ _ _ | exact zcmp_zb _ _ | exact bI_zb _ | exact ⟨by omega, by omega⟩) dX2_countPieces_22 rfl (fun h22 => ?_) (fun h22 => ?_)
      · exact K _ _ _ _ (by rw [← hp, show sdots (scC Ω) - k = (sdots (scC Ω) - (k + 1)) + 1 by omega, cPI, if_pos (zcmp_0.mp h22)])
      · refine z_aload_n (pc := 25) hC (i := 0) dX2_countPieces_25 rfl rfl ?_
        refine z_lload (pc := 26) hC (i := 5) dX2_countPieces_26 rfl ?_
        refine z_lload (pc := 28) hC (i := 5) dX2_countPieces_28 rfl ?_
        refine z_lneg (pc := 30) hC rfl dX2_countPieces_30 ?_
        refine z_land (pc := 31) hC dX2_countPieces_31 ?_
        refine z_lload_n (pc := 32) hC (i := 1) dX2_countPieces_32 rfl rfl ?_
        refine z_callV (n := 2) (T := TX2) (N := 5) (ci := 2) (pc := 33) hC (c_X2_pieceOf l w hw _ _ _ hv) gX2_countPieces_X2_pieceOf rfl (by decide +kernel) (by decide) (by decide) rfl (by decide) (fun _ => rfl) rfl rfl (Nat.le_of_ble_eq_true rfl) dX2_countPieces_33 (zl_k fun r33 Ω33 h33 => ?_)
        obtain ⟨rfl, hM33⟩ := h33
        obtain rfl := hM33.symm
        refine z_lstore (pc := 36) hC (i := 9) dX2_countPieces_36 (by decide) rfl (zS2_s (zS2_s (zS2_s (zS2_s (zS2_s (zS2_s (zS2_s (zS2_s (zS2_s zS2_0))))))))) ?_
        refine z_lload (pc := 38) hC (i := 5) dX2_countPieces_38 rfl ?_
        refine z_lload (pc := 40) hC (i := 9) dX2_countPieces_40 rfl ?_
        refine z_ldc2 (pc := 42) hC kc_X2_countPieces_76 dX2_countPieces_42 ?_
        refine z_lxor (pc := 45) hC dX2_countPieces_45 ?_
        refine z_land (pc := 46) hC dX2_countPieces_46 ?_
        refine z_lstore (pc := 47) hC (i := 5) dX2_countPieces_47 (by decide) rfl (zS2_s (zS2_s (zS2_s (zS2_s (zS2_s zS2_0))))) ?_
        refine z_lload (pc := 49) hC (i := 9) dX2_countPieces_49 rfl ?_
        refine z_lload_n (pc := 51) hC (i := 3) dX2_countPieces_51 rfl rfl ?_
        refine z_land (pc := 52) hC dX2_countPieces_52 ?_
        refine z_lconst (pc := 53) hC (v := 0) dX2_countPieces_53 rfl ?_
        refine z_lcmp (pc := 54) hC dX2_countPieces_54 ?_
        refine z_if_ne (pc := 55) hC 61 (by first | assumption | exact zb_gt _ _ _ | exact zcmp_zb _ _ | exact bI_zb _ | exact ⟨by omega, by omega⟩) dX2_countPieces_55 rfl (fun h55 => ?_) (fun h55 => ?_)
        · refine z_iinc (pc := 61) hC (i := 8) dX2_countPieces_61 rfl (by decide) rfl (zS_s (zS_s (zS_s (zS_s (zS_s (zS_s (zS_s (zS_s zS_0)))))))) ?_
          refine z_goto (pc := 64) hC 9 dX2_countPieces_64 rfl ?_
          exact ih (k + 1) _ _ _ (by omega) (by omega) (by rw [← hp, show sdots (scC Ω) - k = (sdots (scC Ω) - (k + 1)) + 1 by omega, cPI, if_neg (fun q => h22 (zcmp_0.mpr q)), if_neg (fun q => h55 (zcmp_0.mpr q))])
        · refine z_iinc (pc := 58) hC (i := 7) dX2_countPieces_58 rfl (by decide) rfl (zS_s (zS_s (zS_s (zS_s (zS_s (zS_s (zS_s zS_0))))))) ?_
          refine z_iinc (pc := 61) hC (i := 8) dX2_countPieces_61 rfl (by decide) rfl (zS_s (zS_s (zS_s (zS_s (zS_s (zS_s (zS_s (zS_s zS_0)))))))) ?_
          refine z_goto (pc := 64) hC 9 dX2_countPieces_64 rfl ?_
          exact ih (k + 1) _ _ _ (by omega) (by omega) (by rw [← hp, show sdots (scC Ω) - k = (sdots (scC Ω) - (k + 1)) + 1 by omega, cPI, if_neg (fun q => h22 (zcmp_0.mpr q)), if_pos (zcmp_0.mp h55)])
set_option maxHeartbeats 4000000 in
set_option maxRecDepth 100000 in
theorem c_X2_countPieces (l : Launch) (w : zP) (hw : zOK w) (Ω : Mem) (set barred : Int64) (hv : scok (scC Ω)) : zM l w yX2_countPieces wsX2_countPieces 3 81 [.ref (wa w 13), .long set, .long barred] Ω (zi (fun r Ω1 => r = cntPS (scC Ω) set barred ∧ Ω1 = Ω)) := by
  refine zM_of cX2_countPieces 11 (some .int) RX2 [some (.ref (wa w 13)), some (.long set), none, some (.long barred), none, none, none, none, none, none, none] hw (by decide +kernel) rfl rfl (Nat.le_of_ble_eq_true rfl) rfl (fun E hC => ?_)
  refine z_lload_n (pc := 0) hC (i := 1) dX2_countPieces_0 rfl rfl ?_
  refine z_lstore (pc := 1) hC (i := 5) dX2_countPieces_1 (by decide) rfl (zS2_s (zS2_s (zS2_s (zS2_s (zS2_s zS2_0))))) ?_
  refine z_iconst (pc := 3) hC dX2_countPieces_3 ?_
  refine z_istore (pc := 4) hC (i := 7) dX2_countPieces_4 (by decide) rfl (zS_s (zS_s (zS_s (zS_s (zS_s (zS_s (zS_s zS_0))))))) ?_
  refine z_iconst (pc := 6) hC dX2_countPieces_6 ?_
  refine z_istore (pc := 7) hC (i := 8) dX2_countPieces_7 (by decide) rfl (zS_s (zS_s (zS_s (zS_s (zS_s (zS_s (zS_s (zS_s zS_0)))))))) ?_
  have hD := sdots_le hv
  refine L_X2_countPieces_9 hw hC Ω set barred hv (cntPS (scC Ω) set barred) hD.2.2 (fun k rest c o9 hec => ?_) (sdots (scC Ω) + 1) 0 set 0 none (by omega) (by omega) rfl
  refine z_iload (pc := 67) hC (i := 7) dX2_countPieces_67 rfl ?_
  exact z_iret (pc := 69) hC rfl ⟨_, rfl, ⟨hec.symm, rfl⟩⟩ dX2_countPieces_69
set_option maxHeartbeats 4000000 in
set_option maxRecDepth 100000 in
theorem c_X2_pieces (l : Launch) (w : zP) (hw : zOK w) (Ω : Mem) (set : Int64) (hv : scok (scC Ω)) : zM l w yX2_pieces wsX2_pieces 4 111 [.ref (wa w 13), .long set] Ω (zi (fun r Ω1 => r = cntPS (scC Ω) set 0 ∧ Ω1 = Ω)) := by
  refine zM_of cX2_pieces 3 (some .int) RX2 [some (.ref (wa w 13)), some (.long set), none] hw (by decide +kernel) rfl rfl (Nat.le_of_ble_eq_true rfl) rfl (fun E hC => ?_)
  refine z_aload_n (pc := 0) hC (i := 0) dX2_pieces_0 rfl rfl ?_
  refine z_lload_n (pc := 1) hC (i := 1) dX2_pieces_1 rfl rfl ?_
  refine z_lconst (pc := 2) hC (v := 0) dX2_pieces_2 rfl ?_
  refine z_callV (n := 2) (T := TX2) (N := 5) (ci := 2) (pc := 3) hC (c_X2_countPieces l w hw _ _ _ hv) gX2_pieces_X2_countPieces rfl (by decide +kernel) (by decide) (by decide) rfl (by decide) (fun _ => rfl) rfl rfl (Nat.le_of_ble_eq_true rfl) dX2_pieces_3 (zi_k fun r3 Ω3 h3 => ?_)
  obtain ⟨rfl, hM3⟩ := h3
  obtain rfl := hM3.symm
  exact z_iret (pc := 6) hC rfl ⟨_, rfl, ⟨rfl, rfl⟩⟩ dX2_pieces_6
theorem kc_X2_holes_76 : Cond.constantLong RX2 76 (-1) ∈ wsX2_holes := by decide +kernel
set_option maxHeartbeats 4000000 in
set_option maxRecDepth 100000 in
theorem c_X2_holes (l : Launch) (w : zP) (hw : zOK w) (Ω : Mem) (set : Int64) (hv : scok (scC Ω)) : zM l w yX2_holes wsX2_holes 4 111 [.ref (wa w 13), .long set] Ω (zi (fun r Ω1 => r = cntPS (scC Ω) (alld (scC Ω 0 * scC Ω 1) &&& (set ^^^ (-1))) (bordS (scC Ω)) ∧ Ω1 = Ω)) := by
  refine zM_of cX2_holes 3 (some .int) RX2 [some (.ref (wa w 13)), some (.long set), none] hw (by decide +kernel) rfl rfl (Nat.le_of_ble_eq_true rfl) rfl (fun E hC => ?_)
  refine z_aload_n (pc := 0) hC (i := 0) dX2_holes_0 rfl rfl ?_
  refine z_aload_n (pc := 1) hC (i := 0) dX2_holes_1 rfl rfl ?_
  refine z_callV (n := 0) (T := TX2) (N := 5) (ci := 2) (pc := 2) hC (c_X2_allDots l w hw _) gX2_holes_X2_allDots rfl (by decide +kernel) (by decide) (by decide) rfl (by decide) (fun _ => rfl) rfl rfl (Nat.le_of_ble_eq_true rfl) dX2_holes_2 (zl_k fun r2 Ω2 h2 => ?_)
  obtain ⟨rfl, hM2⟩ := h2
  obtain rfl := hM2.symm
  refine z_lload_n (pc := 5) hC (i := 1) dX2_holes_5 rfl rfl ?_
  refine z_ldc2 (pc := 6) hC kc_X2_holes_76 dX2_holes_6 ?_
  refine z_lxor (pc := 9) hC dX2_holes_9 ?_
  refine z_land (pc := 10) hC dX2_holes_10 ?_
  refine z_aload_n (pc := 11) hC (i := 0) dX2_holes_11 rfl rfl ?_
  refine z_callV (n := 0) (T := TX2) (N := 5) (ci := 2) (pc := 12) hC (c_X2_border l w hw _ hv) gX2_holes_X2_border rfl (by decide +kernel) (by decide) (by decide) rfl (by decide) (fun _ => rfl) rfl rfl (Nat.le_of_ble_eq_true rfl) dX2_holes_12 (zl_k fun r12 Ω12 h12 => ?_)
  obtain ⟨rfl, hM12⟩ := h12
  obtain rfl := hM12.symm
  refine z_callV (n := 2) (T := TX2) (N := 5) (ci := 2) (pc := 15) hC (c_X2_countPieces l w hw _ _ _ hv) gX2_holes_X2_countPieces rfl (by decide +kernel) (by decide) (by decide) rfl (by decide) (fun _ => rfl) rfl rfl (Nat.le_of_ble_eq_true rfl) dX2_holes_15 (zi_k fun r15 Ω15 h15 => ?_)
  obtain ⟨rfl, hM15⟩ := h15
  obtain rfl := hM15.symm
  exact z_iret (pc := 18) hC rfl ⟨_, rfl, ⟨rfl, rfl⟩⟩ dX2_holes_18
/-- the least one below n, or none -/
def fst1 (p : Nat → Bool) : Nat → Int
  | 0 => -1
  | n + 1 => if 0 ≤ fst1 p n then fst1 p n else if p n = true then (n : Int) else -1
def lst1 (p : Nat → Bool) : Nat → Int
  | 0 => -1
  | n + 1 => if p n = true then (n : Int) else lst1 p n
theorem fst1_no {p : Nat → Bool} : ∀ {n : Nat}, (∀ k, k < n → ¬ p k = true) → fst1 p n = -1
  | 0, _ => rfl
  | n + 1, h => by
    rw [fst1, fst1_no (fun k hk => h k (by omega)), if_neg (by omega), if_neg (h n (by omega))]
theorem fst1_yes {p : Nat → Bool} {j : Nat} (hj : p j = true) (h : ∀ k, k < j → ¬ p k = true) : ∀ {n : Nat}, j < n → fst1 p n = j
  | 0, hn => absurd hn (Nat.not_lt_zero j)
  | n + 1, hn => by
    rw [fst1]
    by_cases e : j = n
    · subst e; rw [fst1_no h, if_neg (by omega), if_pos hj]
    · rw [fst1_yes hj h (n := n) (by omega), if_pos (by omega)]
def hitC (σ : Sg) (s : Int64) (x : Nat) : Bool := decide (s &&& colS σ x ≠ 0)
def hitR (σ : Sg) (s : Int64) (y : Nat) : Bool := decide (s &&& rowS σ y ≠ 0)
theorem lst1_step {p : Nat → Bool} {n : Nat} (h : ¬ p n = true) : lst1 p (n + 1) = lst1 p n := by rw [lst1, if_neg h]
theorem lst1_here {p : Nat → Bool} {n : Nat} (h : p n = true) : lst1 p (n + 1) = n := by rw [lst1, if_pos h]

theorem fl_X2_firstColumn_21 : Cond.fieldLink RX2 21 "StrokeCuts$Scene" "width" "I" ∈ wsX2_firstColumn := by decide +kernel
theorem in_X2_firstColumn_X2 : ∀ x ∈ u_ws RX2 TX2 5, x ∈ wsX2_firstColumn := by decide +kernel
set_option maxHeartbeats 4000000 in
set_option maxRecDepth 100000 in
theorem L_X2_firstColumn_2 {E : zE} {w : zP} {l : Launch} {Post : Option Value → Mem → Prop} (hw : zOK w) (hC : zC E w l RX2 wsX2_firstColumn cX2_firstColumn 4 2 46 (some .int) Post) (Ω : Mem) (s : Int64) (hv : scok (scC Ω)) (K0 : Post (some (.int (zI (fst1 (hitC (scC Ω) s) (sw (scC Ω)))))) Ω)  : ∀ (n : Nat) (k : Nat), sw (scC Ω) < k + n → (k ≤ sw (scC Ω)) → (∀ j, j < k → ¬ hitC (scC Ω) s j = true) → X E Ω 2 [some (.ref (wa w 13)), some (.long s), none, some (.int (zI (k : Int)))] [] := by
  intro n
  induction n with
  | zero =>
    intro k hfu hk hb
    exact absurd hfu (by omega)
  | succ n ih =>
    intro k hfu hk hb
    have hW := sw_eq hv
    have hH := sh_eq hv
    rw [scC_0] at hW
    rw [scC_1] at hH
    have hD := sdots_le hv
    refine z_iload_n (pc := 2) hC (i := 3) dX2_firstColumn_2 rfl rfl ?_
    refine z_aload_n (pc := 3) hC (i := 0) dX2_firstColumn_3 rfl rfl ?_
    refine z_getI (C := RX2) (T := TX2) (N := 5) (ci := 2) (pc := 4) hC _ 0 in_X2_firstColumn_X2 rfl (by decide) (fun _ => rfl) (by decide) fl_X2_firstColumn_21 (fun _ => rfl) dX2_firstColumn_4 ?_
    refine z_icmp_ge (pc := 7) hC 30 (by first | assumption | exact zb_gt _ _ _ | exact zcmp_zb _ _ | exact bI_zb _ | exact ⟨by omega, by omega⟩) (by first | assumption | exact zb_gt _ _ _ | exact zcmp_zb _ _ | exact bI_zb _ | exact ⟨by omega, by omega⟩) dX2_firstColumn_7 rfl (fun h7 => ?_) (fun h7 => ?_)
    · refine z_iconst (pc := 30) hC dX2_firstColumn_30 ?_
      exact z_iret (pc := 31) hC rfl ((by have := fst1_no (p := hitC (scC Ω) s) (n := sw (scC Ω)) (fun j hj => hb j (by omega)); rw [← this]; exact K0)) dX2_firstColumn_31
    · refine z_lload_n (pc := 10) hC (i := 1) dX2_firstColumn_10 rfl rfl ?_
      refine z_aload_n (pc := 11) hC (i := 0) dX2_firstColumn_11 rfl rfl ?_
      refine z_iload_n (pc := 12) hC (i := 3) dX2_firstColumn_12 rfl rfl ?_
      refine z_callV (n := 1) (T := TX2) (N := 5) (ci := 2) (pc := 13) hC (c_X2_column l w hw _ _ hv) gX2_firstColumn_X2_column rfl (by decide +kernel) (by decide) (by decide) rfl (by decide) (fun _ => rfl) rfl rfl (Nat.le_of_ble_eq_true rfl) dX2_firstColumn_13 (zl_k fun r13 Ω13 h13 => ?_)
      obtain ⟨rfl, hM13⟩ := h13
      obtain rfl := hM13.symm
      refine z_land (pc := 16) hC dX2_firstColumn_16 ?_
      refine z_lconst (pc := 17) hC (v := 0) dX2_firstColumn_17 rfl ?_
      refine z_lcmp (pc := 18) hC dX2_firstColumn_18 ?_
      refine z_if_eq (pc := 19) hC 24 (by first | assumption | exact zb_gt _ _ _ | exact zcmp_zb _ _ | exact bI_zb _ | exact ⟨by omega, by omega⟩) dX2_firstColumn_19 rfl (fun h19 => ?_) (fun h19 => ?_)
      · refine z_iinc (pc := 24) hC (i := 3) dX2_firstColumn_24 rfl (by decide) rfl (zS_s (zS_s (zS_s zS_0))) ?_
        refine z_goto (pc := 27) hC 2 dX2_firstColumn_27 rfl ?_
        exact ih (k + 1) (by omega) (by omega) (fun j hj => by
          by_cases e : j = k
          · subst e; unfold hitC; simpa using zcmp_0.mp h19
          · exact hb j (by omega))
      · refine z_iload_n (pc := 22) hC (i := 3) dX2_firstColumn_22 rfl rfl ?_
        exact z_iret (pc := 23) hC rfl ((by have := fst1_yes (p := hitC (scC Ω) s) (j := k) (n := sw (scC Ω)) (decide_eq_true (fun q => h19 (zcmp_0.mpr q))) hb (by omega); rw [← this]; exact K0)) dX2_firstColumn_23
set_option maxHeartbeats 4000000 in
set_option maxRecDepth 100000 in
theorem c_X2_firstColumn (l : Launch) (w : zP) (hw : zOK w) (Ω : Mem) (s : Int64) (hv : scok (scC Ω)) : zM l w yX2_firstColumn wsX2_firstColumn 2 46 [.ref (wa w 13), .long s] Ω (zi (fun r Ω1 => r = fst1 (hitC (scC Ω) s) (sw (scC Ω)) ∧ Ω1 = Ω)) := by
  refine zM_of cX2_firstColumn 4 (some .int) RX2 [some (.ref (wa w 13)), some (.long s), none, none] hw (by decide +kernel) rfl rfl (Nat.le_of_ble_eq_true rfl) rfl (fun E hC => ?_)
  refine z_iconst (pc := 0) hC dX2_firstColumn_0 ?_
  refine z_istore_n (pc := 1) hC (i := 3) dX2_firstColumn_1 rfl (by decide) rfl (zS_s (zS_s (zS_s zS_0))) ?_
  exact L_X2_firstColumn_2 hw hC Ω s hv ⟨_, rfl, rfl, rfl⟩ (sw (scC Ω) + 1) 0 (by omega) (by omega) (fun j hj => absurd hj (Nat.not_lt_zero j))
theorem fl_X2_firstRow_25 : Cond.fieldLink RX2 25 "StrokeCuts$Scene" "height" "I" ∈ wsX2_firstRow := by decide +kernel
theorem in_X2_firstRow_X2 : ∀ x ∈ u_ws RX2 TX2 5, x ∈ wsX2_firstRow := by decide +kernel
set_option maxHeartbeats 4000000 in
set_option maxRecDepth 100000 in
theorem L_X2_firstRow_2 {E : zE} {w : zP} {l : Launch} {Post : Option Value → Mem → Prop} (hw : zOK w) (hC : zC E w l RX2 wsX2_firstRow cX2_firstRow 4 2 46 (some .int) Post) (Ω : Mem) (s : Int64) (hv : scok (scC Ω)) (K0 : Post (some (.int (zI (fst1 (hitR (scC Ω) s) (sh (scC Ω)))))) Ω)  : ∀ (n : Nat) (k : Nat), sh (scC Ω) < k + n → (k ≤ sh (scC Ω)) → (∀ j, j < k → ¬ hitR (scC Ω) s j = true) → X E Ω 2 [some (.ref (wa w 13)), some (.long s), none, some (.int (zI (k : Int)))] [] := by
  intro n
  induction n with
  | zero =>
    intro k hfu hk hb
    exact absurd hfu (by omega)
  | succ n ih =>
    intro k hfu hk hb
    have hW := sw_eq hv
    have hH := sh_eq hv
    rw [scC_0] at hW
    rw [scC_1] at hH
    have hD := sdots_le hv
    refine z_iload_n (pc := 2) hC (i := 3) dX2_firstRow_2 rfl rfl ?_
    refine z_aload_n (pc := 3) hC (i := 0) dX2_firstRow_3 rfl rfl ?_
    refine z_getI (C := RX2) (T := TX2) (N := 5) (ci := 2) (pc := 4) hC _ 1 in_X2_firstRow_X2 rfl (by decide) (fun _ => rfl) (by decide) fl_X2_firstRow_25 (fun _ => rfl) dX2_firstRow_4 ?_
    refine z_icmp_ge (pc := 7) hC 30 (by first | assumption | exact zb_gt _ _ _ | exact zcmp_zb _ _ | exact bI_zb _ | exact ⟨by omega, by omega⟩) (by first | assumption | exact zb_gt _ _ _ | exact zcmp_zb _ _ | exact bI_zb _ | exact ⟨by omega, by omega⟩) dX2_firstRow_7 rfl (fun h7 => ?_) (fun h7 => ?_)
    · refine z_iconst (pc := 30) hC dX2_firstRow_30 ?_
      exact z_iret (pc := 31) hC rfl ((by have := fst1_no (p := hitR (scC Ω) s) (n := sh (scC Ω)) (fun j hj => hb j (by omega)); rw [← this]; exact K0)) dX2_firstRow_31
    · refine z_lload_n (pc := 10) hC (i := 1) dX2_firstRow_10 rfl rfl ?_
      refine z_aload_n (pc := 11) hC (i := 0) dX2_firstRow_11 rfl rfl ?_
      refine z_iload_n (pc := 12) hC (i := 3) dX2_firstRow_12 rfl rfl ?_
      refine z_callV (n := 1) (T := TX2) (N := 5) (ci := 2) (pc := 13) hC (c_X2_row l w hw _ _ hv) gX2_firstRow_X2_row rfl (by decide +kernel) (by decide) (by decide) rfl (by decide) (fun _ => rfl) rfl rfl (Nat.le_of_ble_eq_true rfl) dX2_firstRow_13 (zl_k fun r13 Ω13 h13 => ?_)
      obtain ⟨rfl, hM13⟩ := h13
      obtain rfl := hM13.symm
      refine z_land (pc := 16) hC dX2_firstRow_16 ?_
      refine z_lconst (pc := 17) hC (v := 0) dX2_firstRow_17 rfl ?_
      refine z_lcmp (pc := 18) hC dX2_firstRow_18 ?_
      refine z_if_eq (pc := 19) hC 24 (by first | assumption | exact zb_gt _ _ _ | exact zcmp_zb _ _ | exact bI_zb _ | exact ⟨by omega, by omega⟩) dX2_firstRow_19 rfl (fun h19 => ?_) (fun h19 => ?_)
      · refine z_iinc (pc := 24) hC (i := 3) dX2_firstRow_24 rfl (by decide) rfl (zS_s (zS_s (zS_s zS_0))) ?_
        refine z_goto (pc := 27) hC 2 dX2_firstRow_27 rfl ?_
        exact ih (k + 1) (by omega) (by omega) (fun j hj => by
          by_cases e : j = k
          · subst e; unfold hitR; simpa using zcmp_0.mp h19
          · exact hb j (by omega))
      · refine z_iload_n (pc := 22) hC (i := 3) dX2_firstRow_22 rfl rfl ?_
        exact z_iret (pc := 23) hC rfl ((by have := fst1_yes (p := hitR (scC Ω) s) (j := k) (n := sh (scC Ω)) (decide_eq_true (fun q => h19 (zcmp_0.mpr q))) hb (by omega); rw [← this]; exact K0)) dX2_firstRow_23
set_option maxHeartbeats 4000000 in
set_option maxRecDepth 100000 in
theorem c_X2_firstRow (l : Launch) (w : zP) (hw : zOK w) (Ω : Mem) (s : Int64) (hv : scok (scC Ω)) : zM l w yX2_firstRow wsX2_firstRow 2 46 [.ref (wa w 13), .long s] Ω (zi (fun r Ω1 => r = fst1 (hitR (scC Ω) s) (sh (scC Ω)) ∧ Ω1 = Ω)) := by
  refine zM_of cX2_firstRow 4 (some .int) RX2 [some (.ref (wa w 13)), some (.long s), none, none] hw (by decide +kernel) rfl rfl (Nat.le_of_ble_eq_true rfl) rfl (fun E hC => ?_)
  refine z_iconst (pc := 0) hC dX2_firstRow_0 ?_
  refine z_istore_n (pc := 1) hC (i := 3) dX2_firstRow_1 rfl (by decide) rfl (zS_s (zS_s (zS_s zS_0))) ?_
  exact L_X2_firstRow_2 hw hC Ω s hv ⟨_, rfl, rfl, rfl⟩ (sh (scC Ω) + 1) 0 (by omega) (by omega) (fun j hj => absurd hj (Nat.not_lt_zero j))
set_option maxHeartbeats 4000000 in
set_option maxRecDepth 100000 in
theorem L_X2_lastColumn_7 {E : zE} {w : zP} {l : Launch} {Post : Option Value → Mem → Prop} (hw : zOK w) (hC : zC E w l RX2 wsX2_lastColumn cX2_lastColumn 4 2 46 (some .int) Post) (Ω : Mem) (s : Int64) (hv : scok (scC Ω)) (e : Int) (K0 : Post (some (.int (zI e))) Ω)  : ∀ (n : Nat) (k : Nat), k < n → (k ≤ 6) → (lst1 (hitC (scC Ω) s) k = e) → X E Ω 7 [some (.ref (wa w 13)), some (.long s), none, some (.int (zI ((k : Int) - 1)))] [] := by
  intro n
  induction n with
  | zero =>
    intro k hfu hk6 hb
    exact absurd hfu (by omega)
  | succ n ih =>
    intro k hfu hk6 hb
    refine z_iload_n (pc := 7) hC (i := 3) dX2_lastColumn_7 rfl rfl ?_
    refine z_if_lt (pc := 8) hC 31 (by first | assumption | exact zb_gt _ _ _ | exact zcmp_zb _ _ | exact bI_zb _ | exact ⟨by omega, by omega⟩) dX2_lastColumn_8 rfl (fun h8 => ?_) (fun h8 => ?_)
    · refine z_iconst (pc := 31) hC dX2_lastColumn_31 ?_
      exact z_iret (pc := 32) hC rfl ((by have e : k = 0 := (by omega); subst e; rw [← hb] at K0; exact K0)) dX2_lastColumn_32
    · obtain ⟨j, rfl⟩ : ∃ j, k = j + 1 := ⟨k - 1, by omega⟩
      rw [show ((j + 1 : Nat) : Int) - 1 = (j : Int) by omega]
      refine z_lload_n (pc := 11) hC (i := 1) dX2_lastColumn_11 rfl rfl ?_
      refine z_aload_n (pc := 12) hC (i := 0) dX2_lastColumn_12 rfl rfl ?_
      refine z_iload_n (pc := 13) hC (i := 3) dX2_lastColumn_13 rfl rfl ?_
      refine z_callV (n := 1) (T := TX2) (N := 5) (ci := 2) (pc := 14) hC (c_X2_column l w hw _ _ hv) gX2_lastColumn_X2_column rfl (by decide +kernel) (by decide) (by decide) rfl (by decide) (fun _ => rfl) rfl rfl (Nat.le_of_ble_eq_true rfl) dX2_lastColumn_14 (zl_k fun r14 Ω14 h14 => ?_)
      obtain ⟨rfl, hM14⟩ := h14
      obtain rfl := hM14.symm
      refine z_land (pc := 17) hC dX2_lastColumn_17 ?_
      refine z_lconst (pc := 18) hC (v := 0) dX2_lastColumn_18 rfl ?_
      refine z_lcmp (pc := 19) hC dX2_lastColumn_19 ?_
      refine z_if_eq (pc := 20) hC 25 (by first | assumption | exact zb_gt _ _ _ | exact zcmp_zb _ _ | exact bI_zb _ | exact ⟨by omega, by omega⟩) dX2_lastColumn_20 rfl (fun h20 => ?_) (fun h20 => ?_)
      · refine z_iinc (pc := 25) hC (i := 3) dX2_lastColumn_25 rfl (by decide) rfl (zS_s (zS_s (zS_s zS_0))) ?_
        refine z_goto (pc := 28) hC 7 dX2_lastColumn_28 rfl ?_
        rw [show (j : Int) + -1 = (j : Int) - 1 by omega]
        exact ih j (by omega) (by omega) (by rw [← hb]; exact (lst1_step (by unfold hitC; simpa using zcmp_0.mp h20)).symm)
      · refine z_iload_n (pc := 23) hC (i := 3) dX2_lastColumn_23 rfl rfl ?_
        exact z_iret (pc := 24) hC rfl ((by rw [← hb, lst1_here (by unfold hitC; exact decide_eq_true (fun q => h20 (zcmp_0.mpr q)))] at K0; exact K0)) dX2_lastColumn_24
theorem fl_X2_lastColumn_21 : Cond.fieldLink RX2 21 "StrokeCuts$Scene" "width" "I" ∈ wsX2_lastColumn := by decide +kernel
theorem in_X2_lastColumn_X2 : ∀ x ∈ u_ws RX2 TX2 5, x ∈ wsX2_lastColumn := by decide +kernel
set_option maxHeartbeats 4000000 in
set_option maxRecDepth 100000 in
theorem c_X2_lastColumn (l : Launch) (w : zP) (hw : zOK w) (Ω : Mem) (s : Int64) (hv : scok (scC Ω)) : zM l w yX2_lastColumn wsX2_lastColumn 2 46 [.ref (wa w 13), .long s] Ω (zi (fun r Ω1 => r = lst1 (hitC (scC Ω) s) (sw (scC Ω)) ∧ Ω1 = Ω)) := by
  refine zM_of cX2_lastColumn 4 (some .int) RX2 [some (.ref (wa w 13)), some (.long s), none, none] hw (by decide +kernel) rfl rfl (Nat.le_of_ble_eq_true rfl) rfl (fun E hC => ?_)
  have hW := sw_eq hv
  have hH := sh_eq hv
  rw [scC_0] at hW
  rw [scC_1] at hH
  have hD := sdots_le hv
  refine z_aload_n (pc := 0) hC (i := 0) dX2_lastColumn_0 rfl rfl ?_
  refine z_getI (C := RX2) (T := TX2) (N := 5) (ci := 2) (pc := 1) hC _ 0 in_X2_lastColumn_X2 rfl (by decide) (fun _ => rfl) (by decide) fl_X2_lastColumn_21 (fun _ => rfl) dX2_lastColumn_1 ?_
  refine z_iconst (pc := 4) hC dX2_lastColumn_4 ?_
  refine z_isub (pc := 5) hC dX2_lastColumn_5 ?_
  refine z_istore_n (pc := 6) hC (i := 3) dX2_lastColumn_6 rfl (by decide) rfl (zS_s (zS_s (zS_s zS_0))) ?_
  rw [show gt Ω 13 0 - 1 = ((sw (scC Ω) : Nat) : Int) - 1 by omega]
  exact L_X2_lastColumn_7 hw hC Ω s hv _ ⟨_, rfl, rfl, rfl⟩ (sw (scC Ω) + 1) (sw (scC Ω)) (by omega) (by omega) rfl
set_option maxHeartbeats 4000000 in
set_option maxRecDepth 100000 in
theorem L_X2_lastRow_7 {E : zE} {w : zP} {l : Launch} {Post : Option Value → Mem → Prop} (hw : zOK w) (hC : zC E w l RX2 wsX2_lastRow cX2_lastRow 4 2 46 (some .int) Post) (Ω : Mem) (s : Int64) (hv : scok (scC Ω)) (e : Int) (K0 : Post (some (.int (zI e))) Ω)  : ∀ (n : Nat) (k : Nat), k < n → (k ≤ 6) → (lst1 (hitR (scC Ω) s) k = e) → X E Ω 7 [some (.ref (wa w 13)), some (.long s), none, some (.int (zI ((k : Int) - 1)))] [] := by
  intro n
  induction n with
  | zero =>
    intro k hfu hk6 hb
    exact absurd hfu (by omega)
  | succ n ih =>
    intro k hfu hk6 hb
    refine z_iload_n (pc := 7) hC (i := 3) dX2_lastRow_7 rfl rfl ?_
    refine z_if_lt (pc := 8) hC 31 (by first | assumption | exact zb_gt _ _ _ | exact zcmp_zb _ _ | exact bI_zb _ | exact ⟨by omega, by omega⟩) dX2_lastRow_8 rfl (fun h8 => ?_) (fun h8 => ?_)
    · refine z_iconst (pc := 31) hC dX2_lastRow_31 ?_
      exact z_iret (pc := 32) hC rfl ((by have e : k = 0 := (by omega); subst e; rw [← hb] at K0; exact K0)) dX2_lastRow_32
    · obtain ⟨j, rfl⟩ : ∃ j, k = j + 1 := ⟨k - 1, by omega⟩
      rw [show ((j + 1 : Nat) : Int) - 1 = (j : Int) by omega]
      refine z_lload_n (pc := 11) hC (i := 1) dX2_lastRow_11 rfl rfl ?_
      refine z_aload_n (pc := 12) hC (i := 0) dX2_lastRow_12 rfl rfl ?_
      refine z_iload_n (pc := 13) hC (i := 3) dX2_lastRow_13 rfl rfl ?_
      refine z_callV (n := 1) (T := TX2) (N := 5) (ci := 2) (pc := 14) hC (c_X2_row l w hw _ _ hv) gX2_lastRow_X2_row rfl (by decide +kernel) (by decide) (by decide) rfl (by decide) (fun _ => rfl) rfl rfl (Nat.le_of_ble_eq_true rfl) dX2_lastRow_14 (zl_k fun r14 Ω14 h14 => ?_)
      obtain ⟨rfl, hM14⟩ := h14
      obtain rfl := hM14.symm
      refine z_land (pc := 17) hC dX2_lastRow_17 ?_
      refine z_lconst (pc := 18) hC (v := 0) dX2_lastRow_18 rfl ?_
      refine z_lcmp (pc := 19) hC dX2_lastRow_19 ?_
      refine z_if_eq (pc := 20) hC 25 (by first | assumption | exact zb_gt _ _ _ | exact zcmp_zb _ _ | exact bI_zb _ | exact ⟨by omega, by omega⟩) dX2_lastRow_20 rfl (fun h20 => ?_) (fun h20 => ?_)
      · refine z_iinc (pc := 25) hC (i := 3) dX2_lastRow_25 rfl (by decide) rfl (zS_s (zS_s (zS_s zS_0))) ?_
        refine z_goto (pc := 28) hC 7 dX2_lastRow_28 rfl ?_
        rw [show (j : Int) + -1 = (j : Int) - 1 by omega]
        exact ih j (by omega) (by omega) (by rw [← hb]; exact (lst1_step (by unfold hitR; simpa using zcmp_0.mp h20)).symm)
      · refine z_iload_n (pc := 23) hC (i := 3) dX2_lastRow_23 rfl rfl ?_
        exact z_iret (pc := 24) hC rfl ((by rw [← hb, lst1_here (by unfold hitR; exact decide_eq_true (fun q => h20 (zcmp_0.mpr q)))] at K0; exact K0)) dX2_lastRow_24
theorem fl_X2_lastRow_25 : Cond.fieldLink RX2 25 "StrokeCuts$Scene" "height" "I" ∈ wsX2_lastRow := by decide +kernel
theorem in_X2_lastRow_X2 : ∀ x ∈ u_ws RX2 TX2 5, x ∈ wsX2_lastRow := by decide +kernel
set_option maxHeartbeats 4000000 in
set_option maxRecDepth 100000 in
theorem c_X2_lastRow (l : Launch) (w : zP) (hw : zOK w) (Ω : Mem) (s : Int64) (hv : scok (scC Ω)) : zM l w yX2_lastRow wsX2_lastRow 2 46 [.ref (wa w 13), .long s] Ω (zi (fun r Ω1 => r = lst1 (hitR (scC Ω) s) (sh (scC Ω)) ∧ Ω1 = Ω)) := by
  refine zM_of cX2_lastRow 4 (some .int) RX2 [some (.ref (wa w 13)), some (.long s), none, none] hw (by decide +kernel) rfl rfl (Nat.le_of_ble_eq_true rfl) rfl (fun E hC => ?_)
  have hW := sw_eq hv
  have hH := sh_eq hv
  rw [scC_0] at hW
  rw [scC_1] at hH
  have hD := sdots_le hv
  refine z_aload_n (pc := 0) hC (i := 0) dX2_lastRow_0 rfl rfl ?_
  refine z_getI (C := RX2) (T := TX2) (N := 5) (ci := 2) (pc := 1) hC _ 1 in_X2_lastRow_X2 rfl (by decide) (fun _ => rfl) (by decide) fl_X2_lastRow_25 (fun _ => rfl) dX2_lastRow_1 ?_
  refine z_iconst (pc := 4) hC dX2_lastRow_4 ?_
  refine z_isub (pc := 5) hC dX2_lastRow_5 ?_
  refine z_istore_n (pc := 6) hC (i := 3) dX2_lastRow_6 rfl (by decide) rfl (zS_s (zS_s (zS_s zS_0))) ?_
  rw [show gt Ω 13 1 - 1 = ((sh (scC Ω) : Nat) : Int) - 1 by omega]
  exact L_X2_lastRow_7 hw hC Ω s hv _ ⟨_, rfl, rfl, rfl⟩ (sh (scC Ω) + 1) (sh (scC Ω)) (by omega) (by omega) rfl
