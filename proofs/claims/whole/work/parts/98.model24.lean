theorem tb_neg (x : Int64) : x < 0 ↔ tb x 63 = true := by
  rw [Int64.lt_iff_toInt_lt]
  have h := BitVec.msb_eq_toInt (x := x.toBitVec)
  rw [BitVec.msb_eq_getLsbD_last] at h
  show x.toInt < 0 ↔ x.toBitVec.getLsbD 63 = true
  rw [show x.toBitVec.getLsbD 63 = decide (x.toInt < 0) from h, decide_eq_true_iff]
theorem zcmp_neg (x : Int64) : zcmp x 0 < 0 ↔ tb x 63 = true := by
  rw [← tb_neg]
  unfold zcmp
  by_cases a : (0 : Int64) < x
  · rw [if_pos a]
    constructor
    · intro h; omega
    · intro h; rw [Int64.lt_iff_toInt_lt] at a h; omega
  · rw [if_neg a]
    by_cases b : x = 0
    · rw [if_pos b, b]
      constructor
      · intro h; omega
      · intro h; exact absurd h (by decide)
    · rw [if_neg b]
      constructor
      · intro _
        rw [Int64.lt_iff_toInt_lt] at a ⊢
        have : x.toInt ≠ (0 : Int64).toInt := fun q => b (Int64.toInt_inj.mp q)
        omega
      · intro _; omega
theorem shr_none {x : Int64} {N : Nat} (hN : N < 64) (h : ¬ tb x 63 = true) : x >>> ((zI (N : Int)).toInt64 &&& 63) = 0 ↔ ∀ k, tb x k = true → k < N := by
  constructor
  · intro e k hk
    by_cases c : k < N
    · exact c
    · by_cases c2 : k < 64
      · have h1 := tb_sshr x hN (k - N)
        rw [e, tb_0, if_pos (by omega), show N + (k - N) = k by omega, hk, decide_eq_true (show k - N < 64 by omega)] at h1
        exact absurd h1 (by decide)
      · rw [tb_big x (by omega)] at hk
        exact absurd hk (by decide)
  · intro g
    apply tb_ext
    intro k hk
    rw [tb_sshr x hN, tb_0, decide_eq_true hk, Bool.true_and]
    split
    · cases c : tb x (N + k)
      · rfl
      · have := g _ c; omega
    · cases c : tb x 63
      · rfl
      · exact absurd c h
theorem same_b {p q : Bool} {b how : Int} (hb : (b = 1 ∧ p = true) ∨ (b = 0 ∧ ¬ p = true)) (hh : (how = 1 ∧ q = true) ∨ (how = 0 ∧ ¬ q = true)) : (b = how → q = p) ∧ (b ≠ how → q ≠ p) := by
  cases p <;> cases q <;> simp at hb hh ⊢ <;> omega
theorem hi_none {x : Int64} {N : Nat} (hN : N < 63) (h : ∀ k, tb x k = true → k < N) : ¬ tb x 63 = true := fun q => by have := h 63 q; omega
set_option maxHeartbeats 4000000 in
set_option maxRecDepth 100000 in
theorem L_X5_costs_97 {E : zE} {w : zP} {l : Launch} {Post : Option Value → Mem → Prop} (hw : zOK w) (hC : zC E w l RX5 wsX5_costs cX5_costs 9 4 92 (some .int) Post) (Ω : Mem) (σ : Sg) (hσ : scM Ω = σ) (hv : scok σ) (hs : gt Ω 49 6 = -1) (x : Int64) (A how mk : Int) (v : Nat) (hvN : v < sdots σ) (hhow : ((how = 1 ∧ tb x v = true) ∨ (how = 0 ∧ ¬ tb x v = true))) (K : ∀ o8 : Option Value, X E Ω 160 [some (.ref (wa w 49)), some (.long x), none, some (.int (zI (A + sm (sLd σ (tb x) v) 4))), some (.int (zI (v : Int))), some (.int (zI how)), some (.int (zI mk)), some (.int (zI ((4 : Nat) : Int))), o8] []) : ∀ (n : Nat) (d : Nat) (o8 : Option Value), 4 < d + n → (d ≤ 4) → X E Ω 97 [some (.ref (wa w 49)), some (.long x), none, some (.int (zI (A + sm (sLd σ (tb x) v) d))), some (.int (zI (v : Int))), some (.int (zI how)), some (.int (zI mk)), some (.int (zI (d : Int))), o8] [] := by
  intro n
  induction n with
  | zero =>
    intro d o8 hfu hd
    exact absurd hfu (by omega)
  | succ n ih =>
    intro d o8 hfu hd
    have hN := sdots_le hv
    have hlb := sLk_b hv ((v % sw σ : Nat) : Int) ((v / sw σ : Nat) : Int) d
    have hlb2 : -1 ≤ lk σ v d ∧ lk σ v d ≤ 36 := by unfold lk; omega
    refine z_iload (pc := 97) hC (i := 7) dX5_costs_97 rfl ?_
    refine z_iconst (pc := 99) hC dX5_costs_99 ?_
    refine z_icmp_ge (pc := 100) hC 160 (by first | assumption | exact zb_gt _ _ _ | exact zcmp_zb _ _ | exact bI_zb _ | exact ⟨by omega, by omega⟩) (by first | assumption | exact zb_gt _ _ _ | exact zcmp_zb _ _ | exact bI_zb _ | exact ⟨by omega, by omega⟩) dX5_costs_100 rfl (fun h100 => ?_) (fun h100 => ?_)
    · obtain rfl : d = 4 := by omega
      exact K _
    · refine z_aload_n (pc := 103) hC (i := 0) dX5_costs_103 rfl rfl ?_
      refine z_iload (pc := 104) hC (i := 4) dX5_costs_104 rfl ?_
      refine z_iload (pc := 106) hC (i := 7) dX5_costs_106 rfl ?_
      refine z_callV (n := 2) (T := TX5) (N := 15) (ci := 5) (pc := 108) hC (c_X5_over l w hw _ σ hσ hv v d hvN (by omega)) gX5_costs_X5_over rfl (by decide +kernel) (by decide) (by decide) rfl (by decide) (fun _ => rfl) rfl rfl (Nat.le_of_ble_eq_true rfl) dX5_costs_108 (zi_k fun r108 Ω108 h108 => ?_)
      obtain ⟨hr108, hm108⟩ := h108
      have hm108 := hm108.symm
      subst hm108
      subst hr108
      refine z_istore (pc := 111) hC (i := 8) dX5_costs_111 (by decide) rfl (zS_s (zS_s (zS_s (zS_s (zS_s (zS_s (zS_s (zS_s zS_0)))))))) ?_
      refine z_iload_n (pc := 113) hC (i := 3) dX5_costs_113 rfl rfl ?_
      refine z_iload (pc := 114) hC (i := 8) dX5_costs_114 rfl ?_
      refine z_iconst (pc := 116) hC dX5_costs_116 ?_
      refine z_icmp_eq (pc := 117) hC 151 ⟨by omega, by omega⟩ ⟨by decide, by decide⟩ dX5_costs_117 rfl (fun h117 => ?_) (fun h117 => ?_)
      · refine z_iconst (pc := 151) hC dX5_costs_151 ?_
        refine z_iadd (pc := 152) hC dX5_costs_152 ?_
        refine z_istore_n (pc := 153) hC (i := 3) dX5_costs_153 rfl (by decide) rfl (zS_s (zS_s (zS_s zS_0))) ?_
        refine z_iinc (pc := 154) hC (i := 7) dX5_costs_154 rfl (by decide) rfl (zS_s (zS_s (zS_s (zS_s (zS_s (zS_s (zS_s zS_0))))))) ?_
        refine z_goto (pc := 157) hC 97 dX5_costs_157 rfl ?_
        have hc : A + sm (sLd σ (tb x) v) (d + 1) = A + sm (sLd σ (tb x) v) d + 0 := by
          rw [sm_s, ← Int.add_assoc]
          congr 1
          unfold sLd
          rw [if_neg (fun q => q.1 h117)]
        have hh := ih (d + 1) (some (.int (zI (lk σ v d)))) (by omega) (by omega)
        rw [hc] at hh
        exact hh
      · obtain ⟨o, ho, hoN, -, hne⟩ := lk_inv hv hvN (show d < 4 by omega) h117
        rw [ho]
        have hb := bI_01 (p := tb x o = true) (inst := inferInstance)
        have hbz := bI_zb (decide (tb x o = true))
        refine z_lload_n (pc := 120) hC (i := 1) dX5_costs_120 rfl rfl ?_
        refine z_iload (pc := 121) hC (i := 8) dX5_costs_121 rfl ?_
        refine z_callS (n := 2) (pc := 123) hC (c_X5_isIn l w hw _ x o (by omega)) gX5_costs_X5_isIn rfl (by decide +kernel) (by decide) (by decide) rfl rfl (Nat.le_of_ble_eq_true rfl) dX5_costs_123 (zb_k fun r123 Ω123 h123 => ?_)
        obtain ⟨rfl, hM123⟩ := h123
        obtain rfl := hM123.symm
        refine z_iload (pc := 126) hC (i := 5) dX5_costs_126 rfl ?_
        refine z_iconst (pc := 128) hC dX5_costs_128 ?_
        refine z_icmp_ne (pc := 129) hC 136 ⟨by omega, by omega⟩ ⟨by decide, by decide⟩ dX5_costs_129 rfl (fun h129 => ?_) (fun h129 => ?_)
        · refine z_iconst (pc := 136) hC dX5_costs_136 ?_
          refine z_icmp_eq (pc := 137) hC 151 (by first | assumption | exact zb_gt _ _ _ | exact zcmp_zb _ _ | exact bI_zb _ | exact ⟨by omega, by omega⟩) (by first | assumption | exact zb_gt _ _ _ | exact zcmp_zb _ _ | exact bI_zb _ | exact ⟨by omega, by omega⟩) dX5_costs_137 rfl (fun h137 => ?_) (fun h137 => ?_)
          · refine z_iconst (pc := 151) hC dX5_costs_151 ?_
            refine z_iadd (pc := 152) hC dX5_costs_152 ?_
            refine z_istore_n (pc := 153) hC (i := 3) dX5_costs_153 rfl (by decide) rfl (zS_s (zS_s (zS_s zS_0))) ?_
            refine z_iinc (pc := 154) hC (i := 7) dX5_costs_154 rfl (by decide) rfl (zS_s (zS_s (zS_s (zS_s (zS_s (zS_s (zS_s zS_0))))))) ?_
            refine z_goto (pc := 157) hC 97 dX5_costs_157 rfl ?_
            have hc : A + sm (sLd σ (tb x) v) (d + 1) = A + sm (sLd σ (tb x) v) d + 0 := by
              rw [sm_s, ← Int.add_assoc]
              congr 1
              unfold sLd
              rw [if_neg (fun q => q.2 (by rw [ho, Int.toNat_natCast]; exact (same_b hb hhow).1 (by omega)))]
            have hh := ih (d + 1) (some (.int (zI ((o : Int))))) (by omega) (by omega)
            rw [hc] at hh
            exact hh
          · refine z_aload_n (pc := 140) hC (i := 0) dX5_costs_140 rfl rfl ?_
            refine z_iload (pc := 141) hC (i := 4) dX5_costs_141 rfl ?_
            refine z_iload (pc := 143) hC (i := 7) dX5_costs_143 rfl ?_
            refine z_callV (n := 2) (T := TX5) (N := 15) (ci := 5) (pc := 145) hC (c_X5_weight l w hw _ σ hσ hv v d hvN (by omega) h117) gX5_costs_X5_weight rfl (by decide +kernel) (by decide) (by decide) rfl (by decide) (fun _ => rfl) rfl rfl (Nat.le_of_ble_eq_true rfl) dX5_costs_145 (zi_k fun r145 Ω145 h145 => ?_)
            obtain ⟨hr145, hm145⟩ := h145
            have hm145 := hm145.symm
            subst hm145
            rw [if_neg (by rw [hs]; omega)] at hr145
            subst hr145
            refine z_goto (pc := 148) hC 152 dX5_costs_148 rfl ?_
            refine z_iadd (pc := 152) hC dX5_costs_152 ?_
            refine z_istore_n (pc := 153) hC (i := 3) dX5_costs_153 rfl (by decide) rfl (zS_s (zS_s (zS_s zS_0))) ?_
            refine z_iinc (pc := 154) hC (i := 7) dX5_costs_154 rfl (by decide) rfl (zS_s (zS_s (zS_s (zS_s (zS_s (zS_s (zS_s zS_0))))))) ?_
            refine z_goto (pc := 157) hC 97 dX5_costs_157 rfl ?_
            have hc : A + sm (sLd σ (tb x) v) (d + 1) = A + sm (sLd σ (tb x) v) d + om σ v d := by
              rw [sm_s, ← Int.add_assoc]
              congr 1
              unfold sLd
              rw [if_pos ⟨h117, by rw [ho, Int.toNat_natCast]; exact (same_b hb hhow).2 (by omega)⟩]; rfl
            have hh := ih (d + 1) (some (.int (zI ((o : Int))))) (by omega) (by omega)
            rw [hc] at hh
            exact hh
        · refine z_iconst (pc := 132) hC dX5_costs_132 ?_
          refine z_goto (pc := 133) hC 137 dX5_costs_133 rfl ?_
          refine z_icmp_eq (pc := 137) hC 151 (by first | assumption | exact zb_gt _ _ _ | exact zcmp_zb _ _ | exact bI_zb _ | exact ⟨by omega, by omega⟩) (by first | assumption | exact zb_gt _ _ _ | exact zcmp_zb _ _ | exact bI_zb _ | exact ⟨by omega, by omega⟩) dX5_costs_137 rfl (fun h137 => ?_) (fun h137 => ?_)
          · refine z_iconst (pc := 151) hC dX5_costs_151 ?_
            refine z_iadd (pc := 152) hC dX5_costs_152 ?_
            refine z_istore_n (pc := 153) hC (i := 3) dX5_costs_153 rfl (by decide) rfl (zS_s (zS_s (zS_s zS_0))) ?_
            refine z_iinc (pc := 154) hC (i := 7) dX5_costs_154 rfl (by decide) rfl (zS_s (zS_s (zS_s (zS_s (zS_s (zS_s (zS_s zS_0))))))) ?_
            refine z_goto (pc := 157) hC 97 dX5_costs_157 rfl ?_
            have hc : A + sm (sLd σ (tb x) v) (d + 1) = A + sm (sLd σ (tb x) v) d + 0 := by
              rw [sm_s, ← Int.add_assoc]
              congr 1
              unfold sLd
              rw [if_neg (fun q => q.2 (by rw [ho, Int.toNat_natCast]; exact (same_b hb hhow).1 (by omega)))]
            have hh := ih (d + 1) (some (.int (zI ((o : Int))))) (by omega) (by omega)
            rw [hc] at hh
            exact hh
          · refine z_aload_n (pc := 140) hC (i := 0) dX5_costs_140 rfl rfl ?_
            refine z_iload (pc := 141) hC (i := 4) dX5_costs_141 rfl ?_
            refine z_iload (pc := 143) hC (i := 7) dX5_costs_143 rfl ?_
            refine z_callV (n := 2) (T := TX5) (N := 15) (ci := 5) (pc := 145) hC (c_X5_weight l w hw _ σ hσ hv v d hvN (by omega) h117) gX5_costs_X5_weight rfl (by decide +kernel) (by decide) (by decide) rfl (by decide) (fun _ => rfl) rfl rfl (Nat.le_of_ble_eq_true rfl) dX5_costs_145 (zi_k fun r145 Ω145 h145 => ?_)
            obtain ⟨hr145, hm145⟩ := h145
            have hm145 := hm145.symm
            subst hm145
            rw [if_neg (by rw [hs]; omega)] at hr145
            subst hr145
            refine z_goto (pc := 148) hC 152 dX5_costs_148 rfl ?_
            refine z_iadd (pc := 152) hC dX5_costs_152 ?_
            refine z_istore_n (pc := 153) hC (i := 3) dX5_costs_153 rfl (by decide) rfl (zS_s (zS_s (zS_s zS_0))) ?_
            refine z_iinc (pc := 154) hC (i := 7) dX5_costs_154 rfl (by decide) rfl (zS_s (zS_s (zS_s (zS_s (zS_s (zS_s (zS_s zS_0))))))) ?_
            refine z_goto (pc := 157) hC 97 dX5_costs_157 rfl ?_
            have hc : A + sm (sLd σ (tb x) v) (d + 1) = A + sm (sLd σ (tb x) v) d + om σ v d := by
              rw [sm_s, ← Int.add_assoc]
              congr 1
              unfold sLd
              rw [if_pos ⟨h117, by rw [ho, Int.toNat_natCast]; exact (same_b hb hhow).2 (by omega)⟩]; rfl
            have hh := ih (d + 1) (some (.int (zI ((o : Int))))) (by omega) (by omega)
            rw [hc] at hh
            exact hh
theorem fl_X5_costs_7 : Cond.fieldLink RX5 7 "StrokeCutsModel" "st" "[I" ∈ wsX5_costs := by decide +kernel
theorem in_X5_costs_X5 : ∀ x ∈ u_ws RX5 TX5 15, x ∈ wsX5_costs := by decide +kernel
set_option maxHeartbeats 4000000 in
set_option maxRecDepth 100000 in
theorem S_X5_costs_52 {E : zE} {w : zP} {l : Launch} {Post : Option Value → Mem → Prop} (hw : zOK w) (hC : zC E w l RX5 wsX5_costs cX5_costs 9 4 92 (some .int) Post) {Ω : Mem} (σ : Sg) (hσ : scM Ω = σ) (hv : scok σ) (hs : gt Ω 49 6 = -1) (x : Int64) (how : Int) (v : Nat) (hvN : v < sdots σ) (hhow : ((how = 1 ∧ tb x v = true) ∨ (how = 0 ∧ ¬ tb x v = true))) (o6 o7 o8 : Option Value) (KNO : ¬ isCO σ x (sdots σ) → Post (some (.int (zI (-3)))) (ups Ω 52 1 (gt Ω 52 1 + 1))) (K : (σ (44 + v) ≠ (if tb x v = true then 2 else 1)) → ∀ o5 o6 o7 o8 : Option Value, X E Ω 27 [some (.ref (wa w 49)), some (.long x), none, some (.int (zI (sm (cV σ (tb x)) (v + 1)))), some (.int (zI ((v + 1 : Nat) : Int))), o5, o6, o7, o8] [])  : X E Ω 52 [some (.ref (wa w 49)), some (.long x), none, some (.int (zI (sm (cV σ (tb x)) v))), some (.int (zI (v : Int))), some (.int (zI how)), o6, o7, o8] [] := by
  have hN := sdots_le hv
  have hmb := hv.2.2.2.2.2.2.2.2.2 v (by omega)
  have hmk : gt Ω 50 (44 + v) = σ (44 + v) := st_at hσ (by omega)
  refine z_aload_n (pc := 52) hC (i := 0) dX5_costs_52 rfl rfl ?_
  refine z_getR (C := RX5) (T := TX5) (N := 15) (ci := 5) (pc := 53) hC _ _ 0 in_X5_costs_X5 rfl (by decide) (fun _ => rfl) (by decide) fl_X5_costs_7 (fun _ => rfl) dX5_costs_53 ?_
  refine z_bipush (pc := 56) hC dX5_costs_56 rfl ?_
  refine z_iload (pc := 58) hC (i := 4) dX5_costs_58 rfl ?_
  refine z_iadd (pc := 60) hC dX5_costs_60 ?_
  refine z_ialk (pc := 61) hC _ (44 + v) (by decide) (fun _ => rfl) (by omega) (by omega) (by decide) dX5_costs_61 ?_
  rw [hmk]
  refine z_istore (pc := 62) hC (i := 6) dX5_costs_62 (by decide) rfl (zS_s (zS_s (zS_s (zS_s (zS_s (zS_s zS_0)))))) ?_
  refine z_iload (pc := 64) hC (i := 6) dX5_costs_64 rfl ?_
  refine z_if_eq (pc := 66) hC 83 ⟨by omega, by omega⟩ dX5_costs_66 rfl (fun h66 => ?_) (fun h66 => ?_)
  · refine z_iload_n (pc := 83) hC (i := 3) dX5_costs_83 rfl rfl ?_
    refine z_aload_n (pc := 84) hC (i := 0) dX5_costs_84 rfl rfl ?_
    refine z_iload (pc := 85) hC (i := 4) dX5_costs_85 rfl ?_
    refine z_iload (pc := 87) hC (i := 5) dX5_costs_87 rfl ?_
    refine z_callV (n := 2) (T := TX5) (N := 15) (ci := 5) (pc := 89) hC (c_X5_pull l w hw _ σ hσ v (by omega) how ⟨by omega, by omega⟩) gX5_costs_X5_pull rfl (by decide +kernel) (by decide) (by decide) rfl (by decide) (fun _ => rfl) rfl rfl (Nat.le_of_ble_eq_true rfl) dX5_costs_89 (zi_k fun r89 Ω89 h89 => ?_)
    obtain ⟨hr89, hm89⟩ := h89
    have hm89 := hm89.symm
    subst hm89
    rw [show (if how = 1 then (3 : Nat) else 4) = if tb x v = true then 3 else 4 by rcases hhow with z | z; rw [if_pos z.1, if_pos z.2]; rw [if_neg (by omega), if_neg z.2]] at hr89
    subst hr89
    refine z_iadd (pc := 92) hC dX5_costs_92 ?_
    refine z_istore_n (pc := 93) hC (i := 3) dX5_costs_93 rfl (by decide) rfl (zS_s (zS_s (zS_s zS_0))) ?_
    refine z_iconst (pc := 94) hC dX5_costs_94 ?_
    refine z_istore (pc := 95) hC (i := 7) dX5_costs_95 (by decide) rfl (zS_s (zS_s (zS_s (zS_s (zS_s (zS_s (zS_s zS_0))))))) ?_
    have hne : σ (44 + v) ≠ (if tb x v = true then 2 else 1) := by rcases hhow with z | z; rw [if_pos z.2]; omega; rw [if_neg z.2]; omega
    have K1 : ∀ o8 : Option Value, X E Ω 160 [some (.ref (wa w 49)), some (.long x), none, some (.int (zI (sm (cV σ (tb x)) v + sPl σ v (if tb x v = true then 3 else 4) + sm (sLd σ (tb x) v) 4))), some (.int (zI (v : Int))), some (.int (zI how)), some (.int (zI (σ (44 + v)))), some (.int (zI ((4 : Nat) : Int))), o8] [] := fun o8 => by
      refine z_iinc (pc := 160) hC (i := 4) dX5_costs_160 rfl (by decide) rfl (zS_s (zS_s (zS_s (zS_s zS_0)))) ?_
      refine z_goto (pc := 163) hC 27 dX5_costs_163 rfl ?_
      have hk := K hne (some (.int (zI how))) (some (.int (zI (σ (44 + v))))) (some (.int (zI ((4 : Nat) : Int)))) o8
      rw [show sm (cV σ (tb x)) (v + 1) = sm (cV σ (tb x)) v + sPl σ v (if tb x v = true then 3 else 4) + sm (sLd σ (tb x) v) 4 by rw [sm_s]; unfold cV; omega] at hk
      exact hk
    have hh := L_X5_costs_97 hw hC Ω σ hσ hv hs x (sm (cV σ (tb x)) v + sPl σ v (if tb x v = true then 3 else 4)) how (σ (44 + v)) v hvN hhow K1 5 0 o8 (by omega) (by omega)
    rw [show sm (sLd σ (tb x) v) 0 = 0 from rfl, Int.add_zero] at hh
    exact hh
  · refine z_iload (pc := 69) hC (i := 6) dX5_costs_69 rfl ?_
    refine z_iconst (pc := 71) hC dX5_costs_71 ?_
    refine z_iload (pc := 72) hC (i := 5) dX5_costs_72 rfl ?_
    refine z_isub (pc := 74) hC dX5_costs_74 ?_
    refine z_icmp_eq (pc := 75) hC 83 ⟨by omega, by omega⟩ ⟨by omega, by omega⟩ dX5_costs_75 rfl (fun h75 => ?_) (fun h75 => ?_)
    · refine z_iload_n (pc := 83) hC (i := 3) dX5_costs_83 rfl rfl ?_
      refine z_aload_n (pc := 84) hC (i := 0) dX5_costs_84 rfl rfl ?_
      refine z_iload (pc := 85) hC (i := 4) dX5_costs_85 rfl ?_
      refine z_iload (pc := 87) hC (i := 5) dX5_costs_87 rfl ?_
      refine z_callV (n := 2) (T := TX5) (N := 15) (ci := 5) (pc := 89) hC (c_X5_pull l w hw _ σ hσ v (by omega) how ⟨by omega, by omega⟩) gX5_costs_X5_pull rfl (by decide +kernel) (by decide) (by decide) rfl (by decide) (fun _ => rfl) rfl rfl (Nat.le_of_ble_eq_true rfl) dX5_costs_89 (zi_k fun r89 Ω89 h89 => ?_)
      obtain ⟨hr89, hm89⟩ := h89
      have hm89 := hm89.symm
      subst hm89
      rw [show (if how = 1 then (3 : Nat) else 4) = if tb x v = true then 3 else 4 by rcases hhow with z | z; rw [if_pos z.1, if_pos z.2]; rw [if_neg (by omega), if_neg z.2]] at hr89
      subst hr89
      refine z_iadd (pc := 92) hC dX5_costs_92 ?_
      refine z_istore_n (pc := 93) hC (i := 3) dX5_costs_93 rfl (by decide) rfl (zS_s (zS_s (zS_s zS_0))) ?_
      refine z_iconst (pc := 94) hC dX5_costs_94 ?_
      refine z_istore (pc := 95) hC (i := 7) dX5_costs_95 (by decide) rfl (zS_s (zS_s (zS_s (zS_s (zS_s (zS_s (zS_s zS_0))))))) ?_
      have hne : σ (44 + v) ≠ (if tb x v = true then 2 else 1) := by rcases hhow with z | z; rw [if_pos z.2]; omega; rw [if_neg z.2]; omega
      have K1 : ∀ o8 : Option Value, X E Ω 160 [some (.ref (wa w 49)), some (.long x), none, some (.int (zI (sm (cV σ (tb x)) v + sPl σ v (if tb x v = true then 3 else 4) + sm (sLd σ (tb x) v) 4))), some (.int (zI (v : Int))), some (.int (zI how)), some (.int (zI (σ (44 + v)))), some (.int (zI ((4 : Nat) : Int))), o8] [] := fun o8 => by
        refine z_iinc (pc := 160) hC (i := 4) dX5_costs_160 rfl (by decide) rfl (zS_s (zS_s (zS_s (zS_s zS_0)))) ?_
        refine z_goto (pc := 163) hC 27 dX5_costs_163 rfl ?_
        have hk := K hne (some (.int (zI how))) (some (.int (zI (σ (44 + v))))) (some (.int (zI ((4 : Nat) : Int)))) o8
        rw [show sm (cV σ (tb x)) (v + 1) = sm (cV σ (tb x)) v + sPl σ v (if tb x v = true then 3 else 4) + sm (sLd σ (tb x) v) 4 by rw [sm_s]; unfold cV; omega] at hk
        exact hk
      have hh := L_X5_costs_97 hw hC Ω σ hσ hv hs x (sm (cV σ (tb x)) v + sPl σ v (if tb x v = true then 3 else 4)) how (σ (44 + v)) v hvN hhow K1 5 0 o8 (by omega) (by omega)
      rw [show sm (sLd σ (tb x) v) 0 = 0 from rfl, Int.add_zero] at hh
      exact hh
    · refine z_aload_n (pc := 78) hC (i := 0) dX5_costs_78 rfl rfl ?_
      refine z_callV (n := 0) (T := TX5) (N := 15) (ci := 5) (pc := 79) hC (c_X5_no l w hw _) gX5_costs_X5_no rfl (by decide +kernel) (by decide) (by decide) rfl (by decide) (fun _ => rfl) rfl rfl (Nat.le_of_ble_eq_true rfl) dX5_costs_79 (zi_k fun r79 Ω79 h79 => ?_)
      obtain ⟨rfl, rfl⟩ := h79
      exact z_iret (pc := 82) hC rfl (KNO (fun q => q v hvN (by rcases hhow with z | z; rw [if_pos z.2]; omega; rw [if_neg z.2]; omega))) dX5_costs_82
set_option maxHeartbeats 4000000 in
set_option maxRecDepth 100000 in
theorem L_X5_costs_27 {E : zE} {w : zP} {l : Launch} {Post : Option Value → Mem → Prop} (hw : zOK w) (hC : zC E w l RX5 wsX5_costs cX5_costs 9 4 92 (some .int) Post) (Ω : Mem) (σ : Sg) (hσ : scM Ω = σ) (hv : scok σ) (hs : gt Ω 49 6 = -1) (x : Int64) (KNO : ¬ isCO σ x (sdots σ) → Post (some (.int (zI (-3)))) (ups Ω 52 1 (gt Ω 52 1 + 1))) (K : isCO σ x (sdots σ) → ∀ o5 o6 o7 o8 : Option Value, X E Ω 166 [some (.ref (wa w 49)), some (.long x), none, some (.int (zI (sm (cV σ (tb x)) (sdots σ)))), some (.int (zI (sdots σ : Int))), o5, o6, o7, o8] []) : ∀ (n : Nat) (v : Nat) (o5 : Option Value) (o6 : Option Value) (o7 : Option Value) (o8 : Option Value), sdots σ < v + n → (v ≤ sdots σ) → (isCO σ x v) → X E Ω 27 [some (.ref (wa w 49)), some (.long x), none, some (.int (zI (sm (cV σ (tb x)) v))), some (.int (zI (v : Int))), o5, o6, o7, o8] [] := by
  intro n
  induction n with
  | zero =>
    intro v o5 o6 o7 o8 hfu hk hco
    exact absurd hfu (by omega)
  | succ n ih =>
    intro v o5 o6 o7 o8 hfu hk hco
    have hN := sdots_le hv
    have q0 : gt Ω 50 0 * gt Ω 50 1 = (sdots σ : Int) := by rw [st_at hσ (by decide), st_at hσ (by decide)]; exact hN.2.2.symm
    refine z_iload (pc := 27) hC (i := 4) dX5_costs_27 rfl ?_
    refine z_aload_n (pc := 29) hC (i := 0) dX5_costs_29 rfl rfl ?_
    refine z_callV (n := 0) (T := TX5) (N := 15) (ci := 5) (pc := 30) hC (c_X5_dots l w hw _) gX5_costs_X5_dots rfl (by decide +kernel) (by decide) (by decide) rfl (by decide) (fun _ => rfl) rfl rfl (Nat.le_of_ble_eq_true rfl) dX5_costs_30 (zi_k fun r30 Ω30 h30 => ?_)
    obtain ⟨rfl, hM30⟩ := h30
    obtain rfl := hM30.symm
    rw [q0]
    refine z_icmp_ge (pc := 33) hC 166 (by first | assumption | exact zb_gt _ _ _ | exact zcmp_zb _ _ | exact bI_zb _ | exact ⟨by omega, by omega⟩) (by first | assumption | exact zb_gt _ _ _ | exact zcmp_zb _ _ | exact bI_zb _ | exact ⟨by omega, by omega⟩) dX5_costs_33 rfl (fun h33 => ?_) (fun h33 => ?_)
    · obtain rfl : v = sdots σ := by omega
      exact K hco _ _ _ _
    · refine z_lload_n (pc := 36) hC (i := 1) dX5_costs_36 rfl rfl ?_
      refine z_iload (pc := 37) hC (i := 4) dX5_costs_37 rfl ?_
      refine z_callS (n := 2) (pc := 39) hC (c_X5_isIn l w hw _ x v (by omega)) gX5_costs_X5_isIn rfl (by decide +kernel) (by decide) (by decide) rfl rfl (Nat.le_of_ble_eq_true rfl) dX5_costs_39 (zb_k fun r39 Ω39 h39 => ?_)
      obtain ⟨rfl, hM39⟩ := h39
      obtain rfl := hM39.symm
      refine z_ifd_eq (pc := 42) hC 49 dX5_costs_42 rfl (fun h42 => ?_) (fun h42 => ?_)
      · refine z_iconst (pc := 49) hC dX5_costs_49 ?_
        refine z_istore (pc := 50) hC (i := 5) dX5_costs_50 (by decide) rfl (zS_s (zS_s (zS_s (zS_s (zS_s zS_0))))) ?_
        exact S_X5_costs_52 hw hC σ hσ hv hs x 0 v (by omega) (Or.inr ⟨rfl, h42⟩) _ _ _ KNO (fun hne p5 p6 p7 p8 => ih (v + 1) _ _ _ _ (by omega) (by omega) (fun k hk => by by_cases e : k = v; subst e; exact hne; exact hco k (by omega)))
      · refine z_iconst (pc := 45) hC dX5_costs_45 ?_
        refine z_goto (pc := 46) hC 50 dX5_costs_46 rfl ?_
        refine z_istore (pc := 50) hC (i := 5) dX5_costs_50 (by decide) rfl (zS_s (zS_s (zS_s (zS_s (zS_s zS_0))))) ?_
        exact S_X5_costs_52 hw hC σ hσ hv hs x 1 v (by omega) (Or.inl ⟨rfl, h42⟩) _ _ _ KNO (fun hne p5 p6 p7 p8 => ih (v + 1) _ _ _ _ (by omega) (by omega) (fun k hk => by by_cases e : k = v; subst e; exact hne; exact hco k (by omega)))
set_option maxHeartbeats 4000000 in
set_option maxRecDepth 100000 in
theorem c_X5_costs (l : Launch) (w : zP) (hw : zOK w) (Ω : Mem) (a : As) (h : RM Ω a) (x : Int64) : zM l w yX5_costs wsX5_costs 4 92 [.ref (wa w 49), .long x] Ω (zi (fun r Ω1 => r = (aCosts a x).1 ∧ RM Ω1 (aCosts a x).2 ∧ frG Ω Ω1)) := by
  refine zM_of cX5_costs 9 (some .int) RX5 [some (.ref (wa w 49)), some (.long x), none, none, none, none, none, none, none] hw (by decide +kernel) rfl rfl (Nat.le_of_ble_eq_true rfl) rfl (fun E hC => ?_)
  have hv := h.1.2
  have hσ := h.1.1
  have z0 : gt Ω 50 0 = a.1 0 := st_at hσ (by decide)
  have z1 : gt Ω 50 1 = a.1 1 := st_at hσ (by decide)
  have hN := sdots_le hv
  have hw01 := hv.1
  have hh01 := hv.2.1
  have q0 : gt Ω 50 0 * gt Ω 50 1 = (sdots a.1 : Int) := by rw [z0, z1]; exact hN.2.2.symm
  refine z_lload_n (pc := 0) hC (i := 1) dX5_costs_0 rfl rfl ?_
  refine z_lconst (pc := 1) hC (v := 0) dX5_costs_1 rfl ?_
  refine z_lcmp (pc := 2) hC dX5_costs_2 ?_
  refine z_if_lt (pc := 3) hC 17 (by first | assumption | exact zb_gt _ _ _ | exact zcmp_zb _ _ | exact bI_zb _ | exact ⟨by omega, by omega⟩) dX5_costs_3 rfl (fun h3 => ?_) (fun h3 => ?_)
  · have hng : ¬ ∀ k, tb x k = true → k < sdots a.1 := fun q => hi_none (by omega) q ((zcmp_neg x).mp h3)
    refine z_aload_n (pc := 17) hC (i := 0) dX5_costs_17 rfl rfl ?_
    refine z_callV (n := 0) (T := TX5) (N := 15) (ci := 5) (pc := 18) hC (c_X5_bad l w hw _) gX5_costs_X5_bad rfl (by decide +kernel) (by decide) (by decide) rfl (by decide) (fun _ => rfl) rfl rfl (Nat.le_of_ble_eq_true rfl) dX5_costs_18 (zi_k fun r18 Ω18 h18 => ?_)
    obtain ⟨rfl, rfl⟩ := h18
    exact z_iret (pc := 21) hC rfl ⟨_, rfl, bad_retM h (by unfold aCosts; rw [if_neg hng])⟩ dX5_costs_21
  · have h63 : ¬ tb x 63 = true := fun q => by have := (zcmp_neg x).mpr q; omega
    refine z_lload_n (pc := 6) hC (i := 1) dX5_costs_6 rfl rfl ?_
    refine z_aload_n (pc := 7) hC (i := 0) dX5_costs_7 rfl rfl ?_
    refine z_callV (n := 0) (T := TX5) (N := 15) (ci := 5) (pc := 8) hC (c_X5_dots l w hw _) gX5_costs_X5_dots rfl (by decide +kernel) (by decide) (by decide) rfl (by decide) (fun _ => rfl) rfl rfl (Nat.le_of_ble_eq_true rfl) dX5_costs_8 (zi_k fun r8 Ω8 h8 => ?_)
    obtain ⟨rfl, hM8⟩ := h8
    obtain rfl := hM8.symm
    rw [q0]
    refine z_lshr (pc := 11) hC rfl dX5_costs_11 ?_
    refine z_lconst (pc := 12) hC (v := 0) dX5_costs_12 rfl ?_
    refine z_lcmp (pc := 13) hC dX5_costs_13 ?_
    refine z_if_eq (pc := 14) hC 22 (by first | assumption | exact zb_gt _ _ _ | exact zcmp_zb _ _ | exact bI_zb _ | exact ⟨by omega, by omega⟩) dX5_costs_14 rfl (fun h14 => ?_) (fun h14 => ?_)
    · have hok : ∀ k, tb x k = true → k < sdots a.1 := (shr_none (by omega) h63).mp ((zcmp_z _).mp h14)
      refine z_iconst (pc := 22) hC dX5_costs_22 ?_
      refine z_istore_n (pc := 23) hC (i := 3) dX5_costs_23 rfl (by decide) rfl (zS_s (zS_s (zS_s zS_0))) ?_
      refine z_iconst (pc := 24) hC dX5_costs_24 ?_
      refine z_istore (pc := 25) hC (i := 4) dX5_costs_25 (by decide) rfl (zS_s (zS_s (zS_s (zS_s zS_0)))) ?_
      refine L_X5_costs_27 hw hC Ω a.1 hσ hv h.2.2.2.2 x (fun hn => ⟨_, rfl, ok_retM (by unfold aCosts; rw [if_pos hok, if_neg hn]) (h.inc (i := 1) (by decide)) (frG_up _ _ _ (by decide))⟩) (fun hco o5 o6 o7 o8 => ?_) (sdots a.1 + 1) 0 none none none none (by omega) (by omega) (fun k hk => absurd hk (Nat.not_lt_zero k))
      refine z_iload_n (pc := 166) hC (i := 3) dX5_costs_166 rfl rfl ?_
      exact z_iret (pc := 167) hC rfl ⟨_, rfl, ok_retM (by unfold aCosts; rw [if_pos hok, if_pos hco, sm_cong (f := sCv a.1 x) (g := cV a.1 (tb x)) (fun k hk => sCv_eq hv x hk)]) h (frG.refl _)⟩ dX5_costs_167
    · have hng : ¬ ∀ k, tb x k = true → k < sdots a.1 := fun q => h14 ((zcmp_z _).mpr ((shr_none (by omega) h63).mpr q))
      refine z_aload_n (pc := 17) hC (i := 0) dX5_costs_17 rfl rfl ?_
      refine z_callV (n := 0) (T := TX5) (N := 15) (ci := 5) (pc := 18) hC (c_X5_bad l w hw _) gX5_costs_X5_bad rfl (by decide +kernel) (by decide) (by decide) rfl (by decide) (fun _ => rfl) rfl rfl (Nat.le_of_ble_eq_true rfl) dX5_costs_18 (zi_k fun r18 Ω18 h18 => ?_)
      obtain ⟨rfl, rfl⟩ := h18
      exact z_iret (pc := 21) hC rfl ⟨_, rfl, bad_retM h (by unfold aCosts; rw [if_neg hng])⟩ dX5_costs_21
