def bothP (σ : Sg) (a : Nat) (x : Int) (b : Nat) (y : Int) : Prop := ∃ T, best σ T ∧ T a = decide (x = 1) ∧ T b = decide (y = 1)
def MB (σ : Sg) (Ω0 Ω : Mem) (mm : Int) : Prop := scM Ω = σ ∧ gt Ω 49 6 = -1 ∧ (∀ u, u < sdots σ → gt Ω 54 u = σ (44 + u)) ∧ mnW σ (om σ) mm ∧ ∀ q, q ≠ 54 → q ≠ 55 → q ≠ 56 → Ω q = Ω0 q
theorem MB.fr {σ : Sg} {Ω0 Ω Ω1 : Mem} {mm : Int} (h : MB σ Ω0 Ω mm) (h54 : gt Ω1 54 = gt Ω 54) (hF : ∀ q, q ≠ 54 → q ≠ 55 → q ≠ 56 → Ω1 q = Ω q) : MB σ Ω0 Ω1 mm := by
  obtain ⟨h1, h2, h3, h4, h5⟩ := h
  exact ⟨(scM_cong (hF 50 (by decide) (by decide) (by decide))).trans h1, by rw [gt_fr (hF 49 (by decide) (by decide) (by decide))]; exact h2, by rw [h54]; exact h3, h4, fun q a b c => (hF q a b c).trans (h5 q a b c)⟩
theorem both_iff {σ : Sg} {H : Nat → Int} (h : ∀ u, u < sdots σ → H u = σ (44 + u)) {m r : Int} (hm : mnW σ (om σ) m) {a b : Nat} (ha : a < sdots σ) (hb : b < sdots σ) (hab : b ≠ a) {x y : Int} (hx : x = 1 ∨ x = 2) (hy : y = 1 ∨ y = 2) (hHa : H a = 0 ∨ H a = x) (hHb : H b = 0 ∨ H b = y) (hr : mnH σ (om σ) (fup (fup H a x) b y) r) : r = m ↔ bothP σ a x b y := by
  obtain ⟨⟨S, s1, s2⟩, s3⟩ := hr
  have e : ∀ S, hok (fup (fup H a x) b y) S (sdots σ) ↔ (hok H S (sdots σ) ∧ S a = decide (x = 1)) ∧ S b = decide (y = 1) := fun S => by
    rw [hok_fup hb hy (by rw [fup_n _ _ hab]; exact hHb), hok_fup ha hx hHa]
  rw [e] at s1
  have hmH := (mnH_W h).mpr hm
  constructor
  · intro q
    exact ⟨S, (best_iff h hm S).mp ⟨s1.1.1, by omega⟩, s1.1.2, s1.2⟩
  · rintro ⟨U, u1, u2, u3⟩
    obtain ⟨b1, b2⟩ := (best_iff h hm U).mpr u1
    have := s3 U ((e U).mpr ⟨⟨b1, u2⟩, u3⟩)
    have := hmH.2 S s1.1.1
    omega
theorem both_no {σ : Sg} {a b : Nat} (ha : a < sdots σ) (hb : b < sdots σ) {x y : Int} (hx : x = 1 ∨ x = 2) (hy : y = 1 ∨ y = 2) (h : σ (44 + a) = 3 - x ∨ σ (44 + b) = 3 - y) : ¬ bothP σ a x b y := by
  rintro ⟨T, ⟨t1, -⟩, t2, t3⟩
  have t4 := (hok_cnb (σ := σ) (H := fun u => σ (44 + u)) (fun _ _ => rfl) T).mpr t1
  have c1 := t4 a ha
  have c2 := t4 b hb
  rw [t2] at c1
  rw [t3] at c2
  rcases hx with rfl | rfl <;> rcases hy with rfl | rfl <;> simp at c1 c2 <;> omega
theorem both_cut (σ : Sg) (n o : Nat) : (bothP σ n 1 o 2 ∨ bothP σ n 2 o 1) ↔ ∃ T, best σ T ∧ T n ≠ T o := by
  constructor
  · rintro (⟨T, t1, t2, t3⟩ | ⟨T, t1, t2, t3⟩)
    · exact ⟨T, t1, by rw [t2, t3]; decide⟩
    · exact ⟨T, t1, by rw [t2, t3]; decide⟩
  · rintro ⟨T, t1, t2⟩
    cases c : T n <;> cases c2 : T o
    · rw [c, c2] at t2; exact absurd rfl t2
    · exact Or.inr ⟨T, t1, by rw [c]; decide, by rw [c2]; decide⟩
    · exact Or.inl ⟨T, t1, by rw [c]; decide, by rw [c2]; decide⟩
    · rw [c, c2] at t2; exact absurd rfl t2
theorem both_eq (σ : Sg) (n o : Nat) : (bothP σ n 1 o 1 ∨ bothP σ n 2 o 2) ↔ ∃ T, best σ T ∧ T n = T o := by
  constructor
  · rintro (⟨T, t1, t2, t3⟩ | ⟨T, t1, t2, t3⟩)
    · exact ⟨T, t1, by rw [t2, t3]⟩
    · exact ⟨T, t1, by rw [t2, t3]⟩
  · rintro ⟨T, t1, t2⟩
    cases c : T n <;> cases c2 : T o
    · exact Or.inr ⟨T, t1, by rw [c]; decide, by rw [c2]; decide⟩
    · rw [c, c2] at t2; exact absurd t2 (by decide)
    · rw [c, c2] at t2; exact absurd t2 (by decide)
    · exact Or.inl ⟨T, t1, by rw [c]; decide, by rw [c2]; decide⟩
theorem tight_v {σ : Sg} {m : Int} (hm : mnW σ (om σ) m) {n o : Nat} {r : Int} (h0 : ¬ (bothP σ n 1 o 2 ∨ bothP σ n 2 o 1) → r = 0) (h1 : (bothP σ n 1 o 2 ∨ bothP σ n 2 o 1) → (bothP σ n 1 o 1 ∨ bothP σ n 2 o 2) → r = 1) (h2 : (bothP σ n 1 o 2 ∨ bothP σ n 2 o 1) → ¬ (bothP σ n 1 o 1 ∨ bothP σ n 2 o 2) → r = 2) : r = tightV σ n o := by
  rw [both_cut] at h0 h1 h2
  rw [both_eq] at h1 h2
  obtain ⟨S, hS⟩ := mn_ex hm
  unfold tightV
  by_cases c : ∃ T, best σ T ∧ T n ≠ T o
  · by_cases c2 : ∃ T, best σ T ∧ T n = T o
    · rw [if_neg (fun q => by obtain ⟨T, t1, t2⟩ := c2; exact q T t1 t2), if_pos c]
      exact h1 c c2
    · rw [if_pos (fun T hT q => c2 ⟨T, hT, q⟩)]
      exact h2 c c2
  · rw [if_neg (fun q => c ⟨S, hS, q S hS⟩), if_neg c]
    exact h0 c
theorem fl_X5_mayBoth_26 : Cond.fieldLink RX5 26 "StrokeCutsModel" "held" "[I" ∈ wsX5_mayBoth := by decide +kernel
theorem in_X5_mayBoth_X5 : ∀ x ∈ u_ws RX5 TX5 15, x ∈ wsX5_mayBoth := by decide +kernel
set_option maxHeartbeats 4000000 in
set_option maxRecDepth 100000 in
theorem c_X5_mayBoth (l : Launch) (w : zP) (hw : zOK w) (Ω : Mem) (σ : Sg) (hv : scok σ) (Ω0 : Mem) (mm : Int) (hMB : MB σ Ω0 Ω mm) (a b : Nat) (haN : a < sdots σ) (hbN : b < sdots σ) (hab : b ≠ a) (x y : Int) (hx : x = 1 ∨ x = 2) (hy : y = 1 ∨ y = 2) [Decidable (bothP σ a x b y)] : zM l w yX5_mayBoth wsX5_mayBoth 9 217 [.ref (wa w 49), .int (zI (a : Int)), .int (zI x), .int (zI (b : Int)), .int (zI y), .int (zI mm)] Ω (zbo (fun b1 Ω1 => b1 = decide (bothP σ a x b y) ∧ MB σ Ω0 Ω1 mm)) := by
  refine zM_of cX5_mayBoth 8 (some .boolean) RX5 [some (.ref (wa w 49)), some (.int (zI (a : Int))), some (.int (zI x)), some (.int (zI (b : Int))), some (.int (zI y)), some (.int (zI mm)), none, none] hw (by decide +kernel) rfl rfl (Nat.le_of_ble_eq_true rfl) rfl (fun E hC => ?_)
  have hN := sdots_le hv
  have hxz : zb x := ⟨by omega, by omega⟩
  have hyz : zb y := ⟨by omega, by omega⟩
  have hHa := hMB.2.2.1 a haN
  have hHb := hMB.2.2.1 b hbN
  have hba := hv.2.2.2.2.2.2.2.2.2 a (by omega)
  have hbb := hv.2.2.2.2.2.2.2.2.2 b (by omega)
  have hmmb := mnH_b hv (om_ok hv) ((mnH_W hMB.2.2.1).mpr hMB.2.2.2.1)
  have eω : omM σ (ups Ω 54 a x) = om σ := (omM_fr (ups_n _ _ _ (by decide))).trans (omM_om hMB.2.1)
  have hH1 : ∀ u, u < sdots σ → 0 ≤ gt (ups Ω 54 a x) 54 u ∧ gt (ups Ω 54 a x) 54 u ≤ 2 := fun u hu => by
    rw [gt_fup _ _ _ hxz]
    by_cases e : u = a
    · subst e; rw [fup_s]; omega
    · rw [fup_n _ _ e, hMB.2.2.1 u hu]; exact hv.2.2.2.2.2.2.2.2.2 u (by omega)
  refine z_aload_n (pc := 0) hC (i := 0) dX5_mayBoth_0 rfl rfl ?_
  refine z_getR (C := RX5) (T := TX5) (N := 15) (ci := 5) (pc := 1) hC _ _ 8 in_X5_mayBoth_X5 rfl (by decide) (fun _ => rfl) (by decide) fl_X5_mayBoth_26 (fun _ => rfl) dX5_mayBoth_1 ?_
  refine z_iload_n (pc := 4) hC (i := 1) dX5_mayBoth_4 rfl rfl ?_
  refine z_ialk (pc := 5) hC _ a (by decide) (fun _ => rfl) rfl (by omega) (by decide) dX5_mayBoth_5 ?_
  refine z_iconst (pc := 6) hC dX5_mayBoth_6 ?_
  refine z_iload_n (pc := 7) hC (i := 2) dX5_mayBoth_7 rfl rfl ?_
  refine z_isub (pc := 8) hC dX5_mayBoth_8 ?_
  refine z_icmp_eq (pc := 9) hC 25 (by first | assumption | exact zb_gt _ _ _ | exact zcmp_zb _ _ | exact bI_zb _ | exact ⟨by omega, by omega⟩) (by first | assumption | exact zb_gt _ _ _ | exact zcmp_zb _ _ | exact bI_zb _ | exact ⟨by omega, by omega⟩) dX5_mayBoth_9 rfl (fun h9 => ?_) (fun h9 => ?_)
  · refine z_iconst (pc := 25) hC dX5_mayBoth_25 ?_
    exact z_zret (b := false) (pc := 26) hC rfl ⟨false, rfl, ⟨(decide_eq_false (both_no haN hbN hx hy (by omega))).symm, hMB⟩⟩ dX5_mayBoth_26
  · refine z_aload_n (pc := 12) hC (i := 0) dX5_mayBoth_12 rfl rfl ?_
    refine z_getR (C := RX5) (T := TX5) (N := 15) (ci := 5) (pc := 13) hC _ _ 8 in_X5_mayBoth_X5 rfl (by decide) (fun _ => rfl) (by decide) fl_X5_mayBoth_26 (fun _ => rfl) dX5_mayBoth_13 ?_
    refine z_iload_n (pc := 16) hC (i := 3) dX5_mayBoth_16 rfl rfl ?_
    refine z_ialk (pc := 17) hC _ b (by decide) (fun _ => rfl) rfl (by omega) (by decide) dX5_mayBoth_17 ?_
    refine z_iconst (pc := 18) hC dX5_mayBoth_18 ?_
    refine z_iload (pc := 19) hC (i := 4) dX5_mayBoth_19 rfl ?_
    refine z_isub (pc := 21) hC dX5_mayBoth_21 ?_
    refine z_icmp_ne (pc := 22) hC 27 (by first | assumption | exact zb_gt _ _ _ | exact zcmp_zb _ _ | exact bI_zb _ | exact ⟨by omega, by omega⟩) (by first | assumption | exact zb_gt _ _ _ | exact zcmp_zb _ _ | exact bI_zb _ | exact ⟨by omega, by omega⟩) dX5_mayBoth_22 rfl (fun h22 => ?_) (fun h22 => ?_)
    · refine z_aload_n (pc := 27) hC (i := 0) dX5_mayBoth_27 rfl rfl ?_
      refine z_getR (C := RX5) (T := TX5) (N := 15) (ci := 5) (pc := 28) hC _ _ 8 in_X5_mayBoth_X5 rfl (by decide) (fun _ => rfl) (by decide) fl_X5_mayBoth_26 (fun _ => rfl) dX5_mayBoth_28 ?_
      refine z_iload_n (pc := 31) hC (i := 1) dX5_mayBoth_31 rfl rfl ?_
      refine z_ialk (pc := 32) hC _ a (by decide) (fun _ => rfl) rfl (by omega) (by decide) dX5_mayBoth_32 ?_
      refine z_istore (pc := 33) hC (i := 6) dX5_mayBoth_33 (by decide) rfl (zS_s (zS_s (zS_s (zS_s (zS_s (zS_s zS_0)))))) ?_
      refine z_aload_n (pc := 35) hC (i := 0) dX5_mayBoth_35 rfl rfl ?_
      refine z_getR (C := RX5) (T := TX5) (N := 15) (ci := 5) (pc := 36) hC _ _ 8 in_X5_mayBoth_X5 rfl (by decide) (fun _ => rfl) (by decide) fl_X5_mayBoth_26 (fun _ => rfl) dX5_mayBoth_36 ?_
      refine z_iload_n (pc := 39) hC (i := 1) dX5_mayBoth_39 rfl rfl ?_
      refine z_iload_n (pc := 40) hC (i := 2) dX5_mayBoth_40 rfl rfl ?_
      refine z_iask (pc := 41) hC _ a (by decide) (fun _ => rfl) rfl (by omega) (by decide) dX5_mayBoth_41 ?_
      refine z_aload_n (pc := 42) hC (i := 0) dX5_mayBoth_42 rfl rfl ?_
      refine z_iload_n (pc := 43) hC (i := 3) dX5_mayBoth_43 rfl rfl ?_
      refine z_iload (pc := 44) hC (i := 4) dX5_mayBoth_44 rfl ?_
      refine z_callV (n := 2) (T := TX5) (N := 15) (ci := 5) (pc := 46) hC (c_X5_costWith l w hw _ σ ((scM_cong (ups_n _ _ _ (by decide))).trans hMB.1) hv (by rw [eω]; exact om_ok hv) hH1 b hbN y hyz (by omega)) gX5_mayBoth_X5_costWith rfl (by decide +kernel) (by decide) (by decide) rfl (by decide) (fun _ => rfl) rfl rfl (Nat.le_of_ble_eq_true rfl) dX5_mayBoth_46 (zi_k fun r46 Ω46 h46 => ?_)
      obtain ⟨hm46, hH46, hF46⟩ := h46
      have hib := mnH_b hv (show omok σ (omM σ (ups Ω 54 a x)) by rw [eω]; exact om_ok hv) hm46
      rw [eω, gt_fup _ _ _ (by assumption : zb x)] at hm46
      have hiff := both_iff hMB.2.2.1 hMB.2.2.2.1 haN hbN hab hx hy (by omega) (by omega) hm46
      have hM : ∀ q, q ≠ 54 → q ≠ 55 → q ≠ 56 → ups Ω46 54 a (gt Ω 54 a) q = Ω q := fun q h1 h2 h3 => by rw [ups_n _ _ _ h1, hF46 q h1 h2 h3, ups_n _ _ _ h1]
      have h54 : gt (ups Ω46 54 a (gt Ω 54 a)) 54 = gt Ω 54 := by
        rw [gt_fup _ _ _ (zb_gt _ _ _), hH46, gt_fup _ _ _ (by assumption : zb x)]
        funext t
        by_cases e : t = a
        · subst e; rw [fup_s]
        · rw [fup_n _ _ e, fup_n _ _ e]
      refine z_istore (pc := 49) hC (i := 7) dX5_mayBoth_49 (by decide) rfl (zS_s (zS_s (zS_s (zS_s (zS_s (zS_s (zS_s zS_0))))))) ?_
      refine z_aload_n (pc := 51) hC (i := 0) dX5_mayBoth_51 rfl rfl ?_
      refine z_getR (C := RX5) (T := TX5) (N := 15) (ci := 5) (pc := 52) hC _ _ 8 in_X5_mayBoth_X5 rfl (by decide) (fun _ => rfl) (by decide) fl_X5_mayBoth_26 (fun _ => rfl) dX5_mayBoth_52 ?_
      refine z_iload_n (pc := 55) hC (i := 1) dX5_mayBoth_55 rfl rfl ?_
      refine z_iload (pc := 56) hC (i := 6) dX5_mayBoth_56 rfl ?_
      refine z_iask (pc := 58) hC _ a (by decide) (fun _ => rfl) rfl (by omega) (by decide) dX5_mayBoth_58 ?_
      refine z_iload (pc := 59) hC (i := 7) dX5_mayBoth_59 rfl ?_
      refine z_iload (pc := 61) hC (i := 5) dX5_mayBoth_61 rfl ?_
      refine z_icmp_ne (pc := 63) hC 70 (by first | assumption | exact zb_gt _ _ _ | exact zcmp_zb _ _ | exact bI_zb _ | exact ⟨by omega, by omega⟩) (by first | assumption | exact zb_gt _ _ _ | exact zcmp_zb _ _ | exact bI_zb _ | exact ⟨by omega, by omega⟩) dX5_mayBoth_63 rfl (fun h63 => ?_) (fun h63 => ?_)
      · refine z_iconst (pc := 70) hC dX5_mayBoth_70 ?_
        exact z_zret (b := false) (pc := 71) hC rfl ⟨false, rfl, ⟨(decide_eq_false (fun q => h63 (hiff.mpr q))).symm, hMB.fr h54 hM⟩⟩ dX5_mayBoth_71
      · refine z_iconst (pc := 66) hC dX5_mayBoth_66 ?_
        refine z_goto (pc := 67) hC 71 dX5_mayBoth_67 rfl ?_
        exact z_zret (b := true) (pc := 71) hC rfl ⟨true, rfl, ⟨(decide_eq_true (hiff.mp (by omega))).symm, hMB.fr h54 hM⟩⟩ dX5_mayBoth_71
    · refine z_iconst (pc := 25) hC dX5_mayBoth_25 ?_
      exact z_zret (b := false) (pc := 26) hC rfl ⟨false, rfl, ⟨(decide_eq_false (both_no haN hbN hx hy (by omega))).symm, hMB⟩⟩ dX5_mayBoth_26
set_option maxHeartbeats 4000000 in
set_option maxRecDepth 100000 in
theorem S_X5_tight_120 {E : zE} {w : zP} {l : Launch} {Post : Option Value → Mem → Prop} (hw : zOK w) (hC : zC E w l RX5 wsX5_tight cX5_tight 9 10 244 (some .int) Post) {Ω : Mem} (x y d mm : Int) (n o : Nat) (P1 P2 : Prop) (b7 b8 : Int) (h7 : (b7 = 1 ∧ P1) ∨ (b7 = 0 ∧ ¬ P1)) (h8 : (b8 = 1 ∧ P2) ∨ (b8 = 0 ∧ ¬ P2)) (K : ∀ r : Int, (¬ P1 → r = 0) → (P1 → P2 → r = 1) → (P1 → ¬ P2 → r = 2) → Post (some (.int (zI r))) Ω)  : X E Ω 120 [some (.ref (wa w 49)), some (.int (zI x)), some (.int (zI y)), some (.int (zI d)), some (.int (zI (n : Int))), some (.int (zI (o : Int))), some (.int (zI mm)), some (.int (zI b7)), some (.int (zI b8))] [] := by
  refine z_iload (pc := 120) hC (i := 7) dX5_tight_120 rfl ?_
  refine z_if_ne (pc := 122) hC 129 ⟨by omega, by omega⟩ dX5_tight_122 rfl (fun h122 => ?_) (fun h122 => ?_)
  · refine z_iload (pc := 129) hC (i := 8) dX5_tight_129 rfl ?_
    refine z_if_eq (pc := 131) hC 138 ⟨by omega, by omega⟩ dX5_tight_131 rfl (fun h131 => ?_) (fun h131 => ?_)
    · refine z_iconst (pc := 138) hC dX5_tight_138 ?_
      exact z_iret (pc := 139) hC rfl (K 2 (fun q => absurd (by rcases h7 with z | z; exact z.2; omega) q) (fun _ q => absurd q (by rcases h8 with z | z; omega; exact z.2)) (fun _ _ => rfl)) dX5_tight_139
    · refine z_iconst (pc := 134) hC dX5_tight_134 ?_
      refine z_goto (pc := 135) hC 139 dX5_tight_135 rfl ?_
      exact z_iret (pc := 139) hC rfl (K 1 (fun q => absurd (by rcases h7 with z | z; exact z.2; omega) q) (fun _ _ => rfl) (fun _ q => absurd (by rcases h8 with z | z; exact z.2; omega) q)) dX5_tight_139
  · refine z_iconst (pc := 125) hC dX5_tight_125 ?_
    refine z_goto (pc := 126) hC 139 dX5_tight_126 rfl ?_
    exact z_iret (pc := 139) hC rfl (K 0 (fun _ => rfl) (fun q => absurd q (by rcases h7 with z | z; omega; exact z.2)) (fun q => absurd q (by rcases h7 with z | z; omega; exact z.2))) dX5_tight_139
set_option maxHeartbeats 4000000 in
set_option maxRecDepth 100000 in
theorem S_X5_tight_83 {E : zE} {w : zP} {l : Launch} {Post : Option Value → Mem → Prop} (hw : zOK w) (hC : zC E w l RX5 wsX5_tight cX5_tight 9 10 244 (some .int) Post) {Ω : Mem} (σ : Sg) (hv : scok σ) (Ω0 : Mem) (x y d mm : Int) (n o : Nat) (hnN : n < sdots σ) (hoN : o < sdots σ) (hon : o ≠ n) (hMB : MB σ Ω0 Ω mm) (b7 : Int) (K : ∀ (Ω1 : Mem) (b8 : Int), MB σ Ω0 Ω1 mm → ((b8 = 1 ∧ (bothP σ n 1 o 1 ∨ bothP σ n 2 o 2)) ∨ (b8 = 0 ∧ ¬ (bothP σ n 1 o 1 ∨ bothP σ n 2 o 2))) → X E Ω1 120 [some (.ref (wa w 49)), some (.int (zI x)), some (.int (zI y)), some (.int (zI d)), some (.int (zI (n : Int))), some (.int (zI (o : Int))), some (.int (zI mm)), some (.int (zI b7)), some (.int (zI b8))] [])  : X E Ω 83 [some (.ref (wa w 49)), some (.int (zI x)), some (.int (zI y)), some (.int (zI d)), some (.int (zI (n : Int))), some (.int (zI (o : Int))), some (.int (zI mm)), some (.int (zI b7)), none] [] := by
  have i92 : Decidable (bothP σ n 1 o 1) := Classical.propDecidable _
  have i107 : Decidable (bothP σ n 2 o 2) := Classical.propDecidable _
  refine z_aload_n (pc := 83) hC (i := 0) dX5_tight_83 rfl rfl ?_
  refine z_iload (pc := 84) hC (i := 4) dX5_tight_84 rfl ?_
  refine z_iconst (pc := 86) hC dX5_tight_86 ?_
  refine z_iload (pc := 87) hC (i := 5) dX5_tight_87 rfl ?_
  refine z_iconst (pc := 89) hC dX5_tight_89 ?_
  refine z_iload (pc := 90) hC (i := 6) dX5_tight_90 rfl ?_
  refine z_callV (n := 5) (T := TX5) (N := 15) (ci := 5) (pc := 92) hC (@c_X5_mayBoth l w hw _ σ hv Ω0 mm hMB n o hnN hoN hon 1 1 (by omega) (by omega) i92) gX5_tight_X5_mayBoth rfl (by decide +kernel) (by decide) (by decide) rfl (by decide) (fun _ => rfl) rfl rfl (Nat.le_of_ble_eq_true rfl) dX5_tight_92 (zb_k fun r92 Ω92 h92 => ?_)
  obtain ⟨rfl, hB92⟩ := h92
  refine z_ifd_ne (pc := 95) hC 113 dX5_tight_95 rfl (fun h95 => ?_) (fun h95 => ?_)
  · refine z_iconst (pc := 113) hC dX5_tight_113 ?_
    refine z_goto (pc := 114) hC 118 dX5_tight_114 rfl ?_
    refine z_istore (pc := 118) hC (i := 8) dX5_tight_118 (by decide) rfl (zS_s (zS_s (zS_s (zS_s (zS_s (zS_s (zS_s (zS_s zS_0)))))))) ?_
    exact K _ 1 hB92 (Or.inl ⟨rfl, Or.inl h95⟩)
  · refine z_aload_n (pc := 98) hC (i := 0) dX5_tight_98 rfl rfl ?_
    refine z_iload (pc := 99) hC (i := 4) dX5_tight_99 rfl ?_
    refine z_iconst (pc := 101) hC dX5_tight_101 ?_
    refine z_iload (pc := 102) hC (i := 5) dX5_tight_102 rfl ?_
    refine z_iconst (pc := 104) hC dX5_tight_104 ?_
    refine z_iload (pc := 105) hC (i := 6) dX5_tight_105 rfl ?_
    refine z_callV (n := 5) (T := TX5) (N := 15) (ci := 5) (pc := 107) hC (@c_X5_mayBoth l w hw _ σ hv Ω0 mm hB92 n o hnN hoN hon 2 2 (by omega) (by omega) i107) gX5_tight_X5_mayBoth rfl (by decide +kernel) (by decide) (by decide) rfl (by decide) (fun _ => rfl) rfl rfl (Nat.le_of_ble_eq_true rfl) dX5_tight_107 (zb_k fun r107 Ω107 h107 => ?_)
    obtain ⟨rfl, hB107⟩ := h107
    refine z_ifd_eq (pc := 110) hC 117 dX5_tight_110 rfl (fun h110 => ?_) (fun h110 => ?_)
    · refine z_iconst (pc := 117) hC dX5_tight_117 ?_
      refine z_istore (pc := 118) hC (i := 8) dX5_tight_118 (by decide) rfl (zS_s (zS_s (zS_s (zS_s (zS_s (zS_s (zS_s (zS_s zS_0)))))))) ?_
      exact K _ 0 hB107 (Or.inr ⟨rfl, fun q => by rcases q with q | q; exact h95 q; exact h110 q⟩)
    · refine z_iconst (pc := 113) hC dX5_tight_113 ?_
      refine z_goto (pc := 114) hC 118 dX5_tight_114 rfl ?_
      refine z_istore (pc := 118) hC (i := 8) dX5_tight_118 (by decide) rfl (zS_s (zS_s (zS_s (zS_s (zS_s (zS_s (zS_s (zS_s zS_0)))))))) ?_
      exact K _ 1 hB107 (Or.inl ⟨rfl, Or.inr h110⟩)
set_option maxHeartbeats 4000000 in
set_option maxRecDepth 100000 in
theorem S_X5_tight_46 {E : zE} {w : zP} {l : Launch} {Post : Option Value → Mem → Prop} (hw : zOK w) (hC : zC E w l RX5 wsX5_tight cX5_tight 9 10 244 (some .int) Post) {Ω : Mem} (σ : Sg) (hv : scok σ) (Ω0 : Mem) (x y d mm : Int) (n o : Nat) (hnN : n < sdots σ) (hoN : o < sdots σ) (hon : o ≠ n) (hMB : MB σ Ω0 Ω mm) (K : ∀ (Ω1 : Mem) (b7 : Int), MB σ Ω0 Ω1 mm → ((b7 = 1 ∧ (bothP σ n 1 o 2 ∨ bothP σ n 2 o 1)) ∨ (b7 = 0 ∧ ¬ (bothP σ n 1 o 2 ∨ bothP σ n 2 o 1))) → X E Ω1 83 [some (.ref (wa w 49)), some (.int (zI x)), some (.int (zI y)), some (.int (zI d)), some (.int (zI (n : Int))), some (.int (zI (o : Int))), some (.int (zI mm)), some (.int (zI b7)), none] [])  : X E Ω 46 [some (.ref (wa w 49)), some (.int (zI x)), some (.int (zI y)), some (.int (zI d)), some (.int (zI (n : Int))), some (.int (zI (o : Int))), some (.int (zI mm)), none, none] [] := by
  have i55 : Decidable (bothP σ n 1 o 2) := Classical.propDecidable _
  have i70 : Decidable (bothP σ n 2 o 1) := Classical.propDecidable _
  refine z_aload_n (pc := 46) hC (i := 0) dX5_tight_46 rfl rfl ?_
  refine z_iload (pc := 47) hC (i := 4) dX5_tight_47 rfl ?_
  refine z_iconst (pc := 49) hC dX5_tight_49 ?_
  refine z_iload (pc := 50) hC (i := 5) dX5_tight_50 rfl ?_
  refine z_iconst (pc := 52) hC dX5_tight_52 ?_
  refine z_iload (pc := 53) hC (i := 6) dX5_tight_53 rfl ?_
  refine z_callV (n := 5) (T := TX5) (N := 15) (ci := 5) (pc := 55) hC (@c_X5_mayBoth l w hw _ σ hv Ω0 mm hMB n o hnN hoN hon 1 2 (by omega) (by omega) i55) gX5_tight_X5_mayBoth rfl (by decide +kernel) (by decide) (by decide) rfl (by decide) (fun _ => rfl) rfl rfl (Nat.le_of_ble_eq_true rfl) dX5_tight_55 (zb_k fun r55 Ω55 h55 => ?_)
  obtain ⟨rfl, hB55⟩ := h55
  refine z_ifd_ne (pc := 58) hC 76 dX5_tight_58 rfl (fun h58 => ?_) (fun h58 => ?_)
  · refine z_iconst (pc := 76) hC dX5_tight_76 ?_
    refine z_goto (pc := 77) hC 81 dX5_tight_77 rfl ?_
    refine z_istore (pc := 81) hC (i := 7) dX5_tight_81 (by decide) rfl (zS_s (zS_s (zS_s (zS_s (zS_s (zS_s (zS_s zS_0))))))) ?_
    exact K _ 1 hB55 (Or.inl ⟨rfl, Or.inl h58⟩)
  · refine z_aload_n (pc := 61) hC (i := 0) dX5_tight_61 rfl rfl ?_
    refine z_iload (pc := 62) hC (i := 4) dX5_tight_62 rfl ?_
    refine z_iconst (pc := 64) hC dX5_tight_64 ?_
    refine z_iload (pc := 65) hC (i := 5) dX5_tight_65 rfl ?_
    refine z_iconst (pc := 67) hC dX5_tight_67 ?_
    refine z_iload (pc := 68) hC (i := 6) dX5_tight_68 rfl ?_
    refine z_callV (n := 5) (T := TX5) (N := 15) (ci := 5) (pc := 70) hC (@c_X5_mayBoth l w hw _ σ hv Ω0 mm hB55 n o hnN hoN hon 2 1 (by omega) (by omega) i70) gX5_tight_X5_mayBoth rfl (by decide +kernel) (by decide) (by decide) rfl (by decide) (fun _ => rfl) rfl rfl (Nat.le_of_ble_eq_true rfl) dX5_tight_70 (zb_k fun r70 Ω70 h70 => ?_)
    obtain ⟨rfl, hB70⟩ := h70
    refine z_ifd_eq (pc := 73) hC 80 dX5_tight_73 rfl (fun h73 => ?_) (fun h73 => ?_)
    · refine z_iconst (pc := 80) hC dX5_tight_80 ?_
      refine z_istore (pc := 81) hC (i := 7) dX5_tight_81 (by decide) rfl (zS_s (zS_s (zS_s (zS_s (zS_s (zS_s (zS_s zS_0))))))) ?_
      exact K _ 0 hB70 (Or.inr ⟨rfl, fun q => by rcases q with q | q; exact h58 q; exact h73 q⟩)
    · refine z_iconst (pc := 76) hC dX5_tight_76 ?_
      refine z_goto (pc := 77) hC 81 dX5_tight_77 rfl ?_
      refine z_istore (pc := 81) hC (i := 7) dX5_tight_81 (by decide) rfl (zS_s (zS_s (zS_s (zS_s (zS_s (zS_s (zS_s zS_0))))))) ?_
      exact K _ 1 hB70 (Or.inl ⟨rfl, Or.inr h73⟩)
set_option maxHeartbeats 4000000 in
set_option maxRecDepth 100000 in
theorem c_X5_tight (l : Launch) (w : zP) (hw : zOK w) (Ω : Mem) (a : As) (h : RM Ω a) (x y d : Int) (hx : zb x) (hy : zb y) (hd : zb d) : zM l w yX5_tight wsX5_tight 10 244 [.ref (wa w 49), .int (zI x), .int (zI y), .int (zI d)] Ω (zi (fun r Ω1 => r = (aTight a x y d).1 ∧ RM Ω1 (aTight a x y d).2 ∧ frG Ω Ω1)) := by
  refine zM_of cX5_tight 9 (some .int) RX5 [some (.ref (wa w 49)), some (.int (zI x)), some (.int (zI y)), some (.int (zI d)), none, none, none, none, none] hw (by decide +kernel) rfl rfl (Nat.le_of_ble_eq_true rfl) rfl (fun E hC => ?_)
  have hv := h.1.2
  have hσ := h.1.1
  have z0 : gt Ω 50 0 = a.1 0 := st_at hσ (by decide)
  have z1 : gt Ω 50 1 = a.1 1 := st_at hσ (by decide)
  have hN := sdots_le hv
  have hw01 := hv.1
  have hh01 := hv.2.1
  have eω : omM a.1 Ω = om a.1 := omM_om h.2.2.2.2
  refine z_aload_n (pc := 0) hC (i := 0) dX5_tight_0 rfl rfl ?_
  refine z_iload_n (pc := 1) hC (i := 1) dX5_tight_1 rfl rfl ?_
  refine z_iload_n (pc := 2) hC (i := 2) dX5_tight_2 rfl rfl ?_
  refine z_iload_n (pc := 3) hC (i := 3) dX5_tight_3 rfl rfl ?_
  refine z_callV (n := 3) (T := TX5) (N := 15) (ci := 5) (pc := 4) hC (c_X5_isLinked l w hw _ _ _ _ (by assumption) (by assumption) (by assumption) (by omega) (by omega)) gX5_tight_X5_isLinked rfl (by decide +kernel) (by decide) (by decide) rfl (by decide) (fun _ => rfl) rfl rfl (Nat.le_of_ble_eq_true rfl) dX5_tight_4 (zb_k fun r4 Ω4 h4 => ?_)
  obtain ⟨rfl, hM4⟩ := h4
  obtain rfl := hM4.symm
  refine z_ifd_ne (pc := 7) hC 15 dX5_tight_7 rfl (fun h7 => ?_) (fun h7 => ?_)
  · refine z_aload_n (pc := 15) hC (i := 0) dX5_tight_15 rfl rfl ?_
    refine z_iload_n (pc := 16) hC (i := 1) dX5_tight_16 rfl rfl ?_
    refine z_iload_n (pc := 17) hC (i := 2) dX5_tight_17 rfl rfl ?_
    refine z_callV (n := 2) (T := TX5) (N := 15) (ci := 5) (pc := 18) hC (c_X5_numberOf l w hw _ _ _) gX5_tight_X5_numberOf rfl (by decide +kernel) (by decide) (by decide) rfl (by decide) (fun _ => rfl) rfl rfl (Nat.le_of_ble_eq_true rfl) dX5_tight_18 (zi_k fun r18 Ω18 h18 => ?_)
    obtain ⟨hr18, hm18⟩ := h18
    have hm18 := hm18.symm
    subst hm18
    obtain ⟨hn1, hn2⟩ := nO_lt hv (x := x) (y := y) (by unfold dIn; omega)
    rw [z0, hn1] at hr18
    subst hr18
    refine z_istore (pc := 21) hC (i := 4) dX5_tight_21 (by decide) rfl (zS_s (zS_s (zS_s (zS_s zS_0)))) ?_
    refine z_aload_n (pc := 23) hC (i := 0) dX5_tight_23 rfl rfl ?_
    refine z_iload (pc := 24) hC (i := 4) dX5_tight_24 rfl ?_
    refine z_iload_n (pc := 26) hC (i := 3) dX5_tight_26 rfl rfl ?_
    have hde : d = ((d.toNat : Nat) : Int) := by omega
    rw [hde]
    refine z_callV (n := 2) (T := TX5) (N := 15) (ci := 5) (pc := 27) hC (c_X5_over l w hw _ a.1 hσ hv (nO a.1 x y) d.toNat hn2 (by omega)) gX5_tight_X5_over rfl (by decide +kernel) (by decide) (by decide) rfl (by decide) (fun _ => rfl) rfl rfl (Nat.le_of_ble_eq_true rfl) dX5_tight_27 (zi_k fun r27 Ω27 h27 => ?_)
    obtain ⟨hr27, hm27⟩ := h27
    have hm27 := hm27.symm
    subst hm27
    subst hr27
    have hlb := sLk_b hv ((nO a.1 x y % sw a.1 : Nat) : Int) ((nO a.1 x y / sw a.1 : Nat) : Int) d.toNat
    have hlb2 : -1 ≤ lk a.1 (nO a.1 x y) d.toNat ∧ lk a.1 (nO a.1 x y) d.toNat ≤ 36 := by unfold lk; omega
    rw [← hde]
    refine z_istore (pc := 30) hC (i := 5) dX5_tight_30 (by decide) rfl (zS_s (zS_s (zS_s (zS_s (zS_s zS_0))))) ?_
    refine z_iload (pc := 32) hC (i := 5) dX5_tight_32 rfl ?_
    refine z_iconst (pc := 34) hC dX5_tight_34 ?_
    refine z_icmp_ne (pc := 35) hC 40 (by first | assumption | exact zb_gt _ _ _ | exact zcmp_zb _ _ | exact bI_zb _ | exact ⟨by omega, by omega⟩) (by first | assumption | exact zb_gt _ _ _ | exact zcmp_zb _ _ | exact bI_zb _ | exact ⟨by omega, by omega⟩) dX5_tight_35 rfl (fun h35 => ?_) (fun h35 => ?_)
    · obtain ⟨o, ho, hoN, -, hne⟩ := lk_inv hv hn2 (show d.toNat < 4 by omega) h35
      rw [ho]
      refine z_aload_n (pc := 40) hC (i := 0) dX5_tight_40 rfl rfl ?_
      refine z_callV (n := 0) (T := TX5) (N := 15) (ci := 5) (pc := 41) hC (c_X5_bestCost l w hw _ a.1 hσ hv (by rw [eω]; exact om_ok hv)) gX5_tight_X5_bestCost rfl (by decide +kernel) (by decide) (by decide) rfl (by decide) (fun _ => rfl) rfl rfl (Nat.le_of_ble_eq_true rfl) dX5_tight_41 (zi_k fun r41 Ω41 h41 => ?_)
      obtain ⟨hm41, hH41, hF41⟩ := h41
      rw [eω] at hm41
      have hMB : MB a.1 Ω Ω41 r41 := ⟨(scM_cong (hF41 50 (by decide) (by decide) (by decide))).trans hσ, by rw [gt_fr (hF41 49 (by decide) (by decide) (by decide))]; exact h.2.2.2.2, fun u hu => hH41 u (by omega), hm41, hF41⟩
      refine z_istore (pc := 44) hC (i := 6) dX5_tight_44 (by decide) rfl (zS_s (zS_s (zS_s (zS_s (zS_s (zS_s zS_0)))))) ?_
      refine S_X5_tight_46 hw hC a.1 hv Ω x y d r41 (nO a.1 x y) o hn2 hoN hne hMB (fun Ω1 b7 hM1 h7 => ?_)
      refine S_X5_tight_83 hw hC a.1 hv Ω x y d r41 (nO a.1 x y) o hn2 hoN hne hM1 b7 (fun Ω2 b8 hM2 h8 => ?_)
      refine S_X5_tight_120 hw hC x y d r41 (nO a.1 x y) o _ _ b7 b8 h7 h8 (fun r g0 g1 g2 => ?_)
      obtain ⟨k1, k2⟩ := h.scr hM2.2.2.2.2
      exact ⟨_, rfl, ok_retM (by unfold aTight; rw [if_pos ⟨by unfold dIn; omega, by omega⟩, ho, if_neg (by omega), Int.toNat_natCast, tight_v hm41 g0 g1 g2]) k1 k2⟩
    · refine z_iconst (pc := 38) hC dX5_tight_38 ?_
      exact z_iret (pc := 39) hC rfl ⟨_, rfl, ok_retM (by unfold aTight; rw [if_pos ⟨by unfold dIn; omega, by omega⟩, if_pos (by omega)]) h (frG.refl _)⟩ dX5_tight_39
  · refine z_aload_n (pc := 10) hC (i := 0) dX5_tight_10 rfl rfl ?_
    refine z_callV (n := 0) (T := TX5) (N := 15) (ci := 5) (pc := 11) hC (c_X5_bad l w hw _) gX5_tight_X5_bad rfl (by decide +kernel) (by decide) (by decide) rfl (by decide) (fun _ => rfl) rfl rfl (Nat.le_of_ble_eq_true rfl) dX5_tight_11 (zi_k fun r11 Ω11 h11 => ?_)
    obtain ⟨rfl, rfl⟩ := h11
    exact z_iret (pc := 14) hC rfl ⟨_, rfl, bad_retM h (if_neg (by unfold dIn; omega))⟩ dX5_tight_14
