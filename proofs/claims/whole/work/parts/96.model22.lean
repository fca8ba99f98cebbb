theorem sfA_lt (σ : Sg) (x : Int64) (m : Int) (n : Nat) {i : Nat} (h : i < 44) : sfA σ x m n i = σ i := by
  unfold sfA sfG; exact if_neg (by omega)
theorem RM.only {Ω Ω1 : Mem} {a : As} {τ : Sg} (h : RM Ω a) (hs : scM Ω1 = τ) (ho : scok τ) (hF : ∀ q, q ≠ 50 → Ω1 q = Ω q) : RM Ω1 (aSet a τ) ∧ frG Ω Ω1 :=
  ⟨h.set hs ho (fun k _ => gt_fr (hF 49 (by decide)) k) (fun q a b => hF q (by omega)), fun q hq => hF q (by omega)⟩
theorem tdiv_neg1 {a b : Int} (h : a < 0) (hb : 0 < b) (hm : a.tmod b ≠ 0) : a.tdiv b - 1 = a / b := by
  rw [Int.tdiv_eq_ediv, if_neg (fun q => by
    rcases q with q | q
    · omega
    · exact hm (Int.tmod_eq_zero_of_dvd q)), Int.sign_eq_one_of_pos hb]
  omega
theorem tdiv_dvd {a b : Int} (hm : a.tmod b = 0) : a.tdiv b = a / b := by
  rw [Int.tdiv_eq_ediv, if_pos (Or.inr (Int.dvd_of_tmod_eq_zero hm))]
  omega
theorem mul_b5 {k d : Int} (h0 : 0 ≤ k) (h1 : k ≤ 5) (d0 : -5 ≤ d) (d1 : d ≤ 5) : -25 ≤ k * d ∧ k * d ≤ 25 := by
  obtain rfl | rfl | rfl | rfl | rfl | rfl : k = 0 ∨ k = 1 ∨ k = 2 ∨ k = 3 ∨ k = 4 ∨ k = 5 := by omega
  all_goals omega
/-- a mark more, of dots that a set holds -/
theorem sfA_one {σ : Sg} {x y : Int64} {m : Int} {N p : Nat} (hp : p < N) (h : ∀ v, tb y v = true ↔ tb x v = true ∨ v = p) : sup (sfA σ x m N) (44 + p) m = sfA σ y m N := by
  funext i
  unfold sup sfA sfG
  by_cases e : i = 44 + p
  · rw [if_pos e, if_pos ⟨by omega, by omega, (h _).mpr (Or.inr (by omega))⟩]
  · rw [if_neg e]
    by_cases c : 44 ≤ i ∧ i < 44 + N ∧ tb x (i - 44) = true
    · rw [if_pos c, if_pos ⟨c.1, c.2.1, (h _).mpr (Or.inl c.2.2)⟩]
    · rw [if_neg c, if_neg (fun q => by
        rcases (h _).mp q.2.2 with z | z
        · exact c ⟨q.1, q.2.1, z⟩
        · omega)]
theorem sfA_val {σ : Sg} {x : Int64} {m : Int} {N p : Nat} (hp : p < N) : sfA σ x m N (44 + p) = m ↔ tb x p = true ∨ σ (44 + p) = m := by
  unfold sfA sfG
  by_cases c : tb x p = true
  · rw [if_pos ⟨by omega, by omega, by show tb x (44 + p - 44) = true; rw [Nat.add_sub_cancel_left]; exact c⟩]
    exact ⟨fun _ => Or.inl c, fun _ => rfl⟩
  · rw [if_neg (fun q => c (by have : tb x (44 + p - 44) = true := q.2.2; rw [Nat.add_sub_cancel_left] at this; exact this))]
    exact ⟨fun q => Or.inr q, fun q => by rcases q with q | q; exact absurd q c; exact q⟩
theorem sfAc_one {σ : Sg} {x y : Int64} {m : Int} {N p : Nat} (hp : p < N) (h : ∀ v, tb y v = true ↔ tb x v = true ∨ v = p) : sfAc σ y m N = sfAc σ x m N + (if sfA σ x m N (44 + p) = m then 0 else 1) := by
  have h1 := sm_one (f := fun k => if tb x k = true ∧ σ (44 + k) ≠ m then (1 : Int) else 0) (f1 := fun k => if tb y k = true ∧ σ (44 + k) ≠ m then (1 : Int) else 0) hp (fun i _ hne => by
    have : tb y i = true ↔ tb x i = true := ⟨fun q => by rcases (h i).mp q with z | z; exact z; exact absurd z hne, fun q => (h i).mpr (Or.inl q)⟩
    show (if tb y i = true ∧ σ (44 + i) ≠ m then (1 : Int) else 0) = if tb x i = true ∧ σ (44 + i) ≠ m then (1 : Int) else 0
    by_cases c : tb x i = true ∧ σ (44 + i) ≠ m
    · rw [if_pos c, if_pos ⟨this.mpr c.1, c.2⟩]
    · rw [if_neg c, if_neg (fun q => c ⟨this.mp q.1, q.2⟩)])
  unfold sfAc
  rw [h1]
  have hy : tb y p = true := (h p).mpr (Or.inr rfl)
  show _ + ((if tb y p = true ∧ σ (44 + p) ≠ m then (1 : Int) else 0) - (if tb x p = true ∧ σ (44 + p) ≠ m then (1 : Int) else 0)) = _
  congr 1
  by_cases c : σ (44 + p) = m
  · rw [if_neg (fun q => q.2 c), if_neg (fun q => q.2 c), if_pos ((sfA_val hp).mpr (Or.inr c))]; rfl
  · rw [if_pos ⟨hy, c⟩]
    by_cases c2 : tb x p = true
    · rw [if_pos ⟨c2, c⟩, if_pos ((sfA_val hp).mpr (Or.inl c2))]; rfl
    · rw [if_neg (fun q => c2 q.1), if_neg (fun q => by rcases (sfA_val hp).mp q with z | z; exact c2 z; exact c z)]; rfl
theorem lnS_one {f : Nat → Nat} {n : Nat} (h : ∀ k, k < n + 1 → f k < 64) (v : Nat) : tb (lnS f (n + 1)) v = true ↔ tb (lnS f n) v = true ∨ v = f n := by
  rw [lnS_tb h, lnS_tb (fun k hk => h k (by omega))]
  constructor
  · rintro ⟨k, hk, e⟩
    by_cases c : k = n
    · subst c; exact Or.inr e.symm
    · exact Or.inl ⟨k, by omega, e⟩
  · rintro (⟨k, hk, e⟩ | e)
    · exact ⟨k, by omega, e⟩
    · exact ⟨n, by omega, e.symm⟩
theorem sfA_no (σ : Sg) (m : Int) (N : Nat) : sfA σ 0 m N = σ := by
  funext i
  unfold sfA sfG
  exact if_neg (fun q => by have : tb 0 (i - 44) = true := q.2.2; rw [tb_0] at this; exact absurd this (by decide))
theorem sfAc_no (σ : Sg) (m : Int) (N : Nat) : sfAc σ 0 m N = 0 := sm_z (fun k _ => if_neg (fun q => by have := q.1; rw [tb_0] at this; exact absurd this (by decide)))
set_option maxHeartbeats 4000000 in
set_option maxRecDepth 100000 in
theorem c_X5_nearest (l : Launch) (w : zP) (hw : zOK w) (Ω : Mem) (a n : Int) (ha : -25 ≤ a ∧ a ≤ 25) (hn : 1 ≤ n ∧ n ≤ 5) : zM l w yX5_nearest wsX5_nearest 0 0 [.int (zI a), .int (zI n)] Ω (zi (fun r Ω1 => r = (2 * a + n) / (2 * n) ∧ Ω1 = Ω)) := by
  refine zM_of cX5_nearest 4 (some .int) RX5 [some (.int (zI a)), some (.int (zI n)), none, none] hw (by decide +kernel) rfl rfl (Nat.le_of_ble_eq_true rfl) rfl (fun E hC => ?_)
  have hn2 : 0 < 2 * n := by omega
  refine z_iconst (pc := 0) hC dX5_nearest_0 ?_
  refine z_iload_n (pc := 1) hC (i := 0) dX5_nearest_1 rfl rfl ?_
  refine z_imul (pc := 2) hC dX5_nearest_2 ?_
  refine z_iload_n (pc := 3) hC (i := 1) dX5_nearest_3 rfl rfl ?_
  refine z_iadd (pc := 4) hC dX5_nearest_4 ?_
  refine z_istore_n (pc := 5) hC (i := 2) dX5_nearest_5 rfl (by decide) rfl (zS_s (zS_s zS_0)) ?_
  refine z_iload_n (pc := 6) hC (i := 2) dX5_nearest_6 rfl rfl ?_
  refine z_iconst (pc := 7) hC dX5_nearest_7 ?_
  refine z_iload_n (pc := 8) hC (i := 1) dX5_nearest_8 rfl rfl ?_
  refine z_imul (pc := 9) hC dX5_nearest_9 ?_
  refine z_idiv (pc := 10) hC ⟨by omega, by omega⟩ ⟨by omega, by omega⟩ (by omega) dX5_nearest_10 ?_
  refine z_istore_n (pc := 11) hC (i := 3) dX5_nearest_11 rfl (by decide) rfl (zS_s (zS_s (zS_s zS_0))) ?_
  refine z_iload_n (pc := 12) hC (i := 2) dX5_nearest_12 rfl rfl ?_
  refine z_if_ge (pc := 13) hC 30 (by first | assumption | exact zb_gt _ _ _ | exact zcmp_zb _ _ | exact bI_zb _ | exact ⟨by omega, by omega⟩) dX5_nearest_13 rfl (fun h13 => ?_) (fun h13 => ?_)
  · refine z_iload_n (pc := 30) hC (i := 3) dX5_nearest_30 rfl rfl ?_
    exact z_iret (pc := 31) hC rfl ⟨_, rfl, ⟨Int.tdiv_eq_ediv_of_nonneg (by omega), rfl⟩⟩ dX5_nearest_31
  · refine z_iload_n (pc := 16) hC (i := 2) dX5_nearest_16 rfl rfl ?_
    refine z_iconst (pc := 17) hC dX5_nearest_17 ?_
    refine z_iload_n (pc := 18) hC (i := 1) dX5_nearest_18 rfl rfl ?_
    refine z_imul (pc := 19) hC dX5_nearest_19 ?_
    refine z_irem (pc := 20) hC ⟨by omega, by omega⟩ ⟨by omega, by omega⟩ (by omega) dX5_nearest_20 ?_
    refine z_if_eq (pc := 21) hC 30 (by have := Int.tmod_lt_of_pos (2 * a + n) hn2; have := Int.lt_tmod_of_pos (2 * a + n) hn2; exact ⟨by omega, by omega⟩) dX5_nearest_21 rfl (fun h21 => ?_) (fun h21 => ?_)
    · refine z_iload_n (pc := 30) hC (i := 3) dX5_nearest_30 rfl rfl ?_
      exact z_iret (pc := 31) hC rfl ⟨_, rfl, ⟨tdiv_dvd (by omega), rfl⟩⟩ dX5_nearest_31
    · refine z_iload_n (pc := 24) hC (i := 3) dX5_nearest_24 rfl rfl ?_
      refine z_iconst (pc := 25) hC dX5_nearest_25 ?_
      refine z_isub (pc := 26) hC dX5_nearest_26 ?_
      refine z_goto (pc := 27) hC 31 dX5_nearest_27 rfl ?_
      exact z_iret (pc := 31) hC rfl ⟨_, rfl, ⟨tdiv_neg1 (by omega) hn2 (by omega), rfl⟩⟩ dX5_nearest_31
theorem fl_X5_strokes_7 : Cond.fieldLink RX5 7 "StrokeCutsModel" "st" "[I" ∈ wsX5_strokes := by decide +kernel
theorem in_X5_strokes_X5 : ∀ x ∈ u_ws RX5 TX5 15, x ∈ wsX5_strokes := by decide +kernel
set_option maxHeartbeats 4000000 in
set_option maxRecDepth 100000 in
theorem S_X5_strokes_95 {E : zE} {w : zP} {l : Launch} {Post : Option Value → Mem → Prop} (hw : zOK w) (hC : zC E w l RX5 wsX5_strokes cX5_strokes 12 1 23 (some .int) Post) {Ω : Mem} (σ : Sg) (hv : scok σ) (m x y tx ty : Int) (hm : 0 ≤ m ∧ m ≤ 2) (hd : dIn σ x y) (hd2 : dIn σ tx ty) (k : Nat) (hk : (k : Int) ≤ (lnN x y tx ty)) (X1 Y1 : Int) (hX : X1 = lnA x tx (lnN x y tx ty) k) (hY : Y1 = lnA y ty (lnN x y tx ty) k) (o11 : Option Value) (hs : scM Ω = (sfA σ (lnS (lnF σ x y tx ty) k) m (sdots σ))) (K : ∀ (Ω1 : Mem) (o9 o10 o11 : Option Value), scM Ω1 = (sfA σ (lnS (lnF σ x y tx ty) (k + 1)) m (sdots σ)) → (∀ q, q ≠ 50 → Ω1 q = Ω q) → X E Ω1 38 [some (.ref (wa w 49)), some (.int (zI m)), some (.int (zI x)), some (.int (zI y)), some (.int (zI tx)), some (.int (zI ty)), some (.int (zI (lnN x y tx ty))), some (.int (zI (sfAc σ (lnS (lnF σ x y tx ty) (k + 1)) m (sdots σ)))), some (.int (zI ((k + 1 : Nat) : Int))), o9, o10, o11] [])  : X E Ω 95 [some (.ref (wa w 49)), some (.int (zI m)), some (.int (zI x)), some (.int (zI y)), some (.int (zI tx)), some (.int (zI ty)), some (.int (zI (lnN x y tx ty))), some (.int (zI (sfAc σ (lnS (lnF σ x y tx ty) k) m (sdots σ)))), some (.int (zI (k : Int))), some (.int (zI X1)), some (.int (zI Y1)), o11] [] := by
  obtain ⟨hd11, hd12, hd13, hd14⟩ := hd
  obtain ⟨hd21, hd22, hd23, hd24⟩ := hd2
  have hw01 := hv.1
  have hh01 := hv.2.1
  have hnb := lnN_b (x := x) (y := y) (tx := tx) (ty := ty) (by omega) (by omega) (by omega) (by omega)
  have hN := sdots_le hv
  have e0 : gt Ω 50 0 = σ 0 := (st_at hs (by decide)).trans (sfA_lt _ _ _ _ (by decide))
  have hF1 := lnF_lt hv (x := x) (y := y) (tx := tx) (ty := ty) (by omega) (by omega) (by omega) (by omega) (k := k) hk
  have hF64 : ∀ t, t < k + 1 → (lnF σ x y tx ty) t < 64 := fun t ht => by
    have := (lnF_lt hv (x := x) (y := y) (tx := tx) (ty := ty) (by omega) (by omega) (by omega) (by omega) (k := t) (by omega)).1
    omega
  have hone := lnS_one hF64
  have hsok := scok_sfA hv (lnS (lnF σ x y tx ty) k) (sdots σ) hm.1 hm.2
  have hmb := hsok.2.2.2.2.2.2.2.2.2 ((lnF σ x y tx ty) k) (by omega)
  have hmk : gt Ω 50 (44 + (lnF σ x y tx ty) k) = (sfA σ (lnS (lnF σ x y tx ty) k) m (sdots σ)) (44 + (lnF σ x y tx ty) k) := st_at hs (by omega)
  refine z_bipush (pc := 95) hC dX5_strokes_95 rfl ?_
  refine z_aload_n (pc := 97) hC (i := 0) dX5_strokes_97 rfl rfl ?_
  refine z_iload (pc := 98) hC (i := 9) dX5_strokes_98 rfl ?_
  refine z_iload (pc := 100) hC (i := 10) dX5_strokes_100 rfl ?_
  refine z_callV (n := 2) (T := TX5) (N := 15) (ci := 5) (pc := 102) hC (c_X5_numberOf l w hw _ _ _) gX5_strokes_X5_numberOf rfl (by decide +kernel) (by decide) (by decide) rfl (by decide) (fun _ => rfl) rfl rfl (Nat.le_of_ble_eq_true rfl) dX5_strokes_102 (zi_k fun r102 Ω102 h102 => ?_)
  obtain ⟨hr102, hm102⟩ := h102
  have hm102 := hm102.symm
  subst hm102
  rw [e0, hX, hY, ← hF1.2] at hr102
  subst hr102
  refine z_iadd (pc := 105) hC dX5_strokes_105 ?_
  refine z_istore (pc := 106) hC (i := 11) dX5_strokes_106 (by decide) rfl (zS_s (zS_s (zS_s (zS_s (zS_s (zS_s (zS_s (zS_s (zS_s (zS_s (zS_s zS_0))))))))))) ?_
  refine z_iload (pc := 108) hC (i := 7) dX5_strokes_108 rfl ?_
  refine z_aload_n (pc := 110) hC (i := 0) dX5_strokes_110 rfl rfl ?_
  refine z_getR (C := RX5) (T := TX5) (N := 15) (ci := 5) (pc := 111) hC _ _ 0 in_X5_strokes_X5 rfl (by decide) (fun _ => rfl) (by decide) fl_X5_strokes_7 (fun _ => rfl) dX5_strokes_111 ?_
  refine z_iload (pc := 114) hC (i := 11) dX5_strokes_114 rfl ?_
  refine z_ialk (pc := 116) hC _ (44 + (lnF σ x y tx ty) k) (by decide) (fun _ => rfl) (by omega) (by omega) (by decide) dX5_strokes_116 ?_
  rw [hmk]
  refine z_iload_n (pc := 117) hC (i := 1) dX5_strokes_117 rfl rfl ?_
  refine z_icmp_ne (pc := 118) hC 125 ⟨by omega, by omega⟩ ⟨by omega, by omega⟩ dX5_strokes_118 rfl (fun h118 => ?_) (fun h118 => ?_)
  · refine z_iconst (pc := 125) hC dX5_strokes_125 ?_
    refine z_iadd (pc := 126) hC dX5_strokes_126 ?_
    refine z_istore (pc := 127) hC (i := 7) dX5_strokes_127 (by decide) rfl (zS_s (zS_s (zS_s (zS_s (zS_s (zS_s (zS_s zS_0))))))) ?_
    refine z_aload_n (pc := 129) hC (i := 0) dX5_strokes_129 rfl rfl ?_
    refine z_getR (C := RX5) (T := TX5) (N := 15) (ci := 5) (pc := 130) hC _ _ 0 in_X5_strokes_X5 rfl (by decide) (fun _ => rfl) (by decide) fl_X5_strokes_7 (fun _ => rfl) dX5_strokes_130 ?_
    refine z_iload (pc := 133) hC (i := 11) dX5_strokes_133 rfl ?_
    refine z_iload_n (pc := 135) hC (i := 1) dX5_strokes_135 rfl rfl ?_
    refine z_iask (pc := 136) hC _ (44 + (lnF σ x y tx ty) k) (by decide) (fun _ => rfl) (by omega) (by omega) (by decide) dX5_strokes_136 ?_
    refine z_iinc (pc := 137) hC (i := 8) dX5_strokes_137 rfl (by decide) rfl (zS_s (zS_s (zS_s (zS_s (zS_s (zS_s (zS_s (zS_s zS_0)))))))) ?_
    refine z_goto (pc := 140) hC 38 dX5_strokes_140 rfl ?_
    have hc := sfAc_one (σ := σ) (m := m) hF1.1 hone
    rw [if_neg h118] at hc
    have hh := K _ (some (.int (zI X1))) (some (.int (zI Y1))) (some (.int (zI (44 + ((lnF σ x y tx ty) k : Int))))) (by rw [scM_up Ω (k := 44 + (lnF σ x y tx ty) k) (v := m) (by omega) ⟨by omega, by omega⟩, hs]; exact sfA_one hF1.1 hone) (fun q hq => ups_n _ _ _ hq)
    rw [hc] at hh
    exact hh
  · refine z_iconst (pc := 121) hC dX5_strokes_121 ?_
    refine z_goto (pc := 122) hC 126 dX5_strokes_122 rfl ?_
    refine z_iadd (pc := 126) hC dX5_strokes_126 ?_
    refine z_istore (pc := 127) hC (i := 7) dX5_strokes_127 (by decide) rfl (zS_s (zS_s (zS_s (zS_s (zS_s (zS_s (zS_s zS_0))))))) ?_
    refine z_aload_n (pc := 129) hC (i := 0) dX5_strokes_129 rfl rfl ?_
    refine z_getR (C := RX5) (T := TX5) (N := 15) (ci := 5) (pc := 130) hC _ _ 0 in_X5_strokes_X5 rfl (by decide) (fun _ => rfl) (by decide) fl_X5_strokes_7 (fun _ => rfl) dX5_strokes_130 ?_
    refine z_iload (pc := 133) hC (i := 11) dX5_strokes_133 rfl ?_
    refine z_iload_n (pc := 135) hC (i := 1) dX5_strokes_135 rfl rfl ?_
    refine z_iask (pc := 136) hC _ (44 + (lnF σ x y tx ty) k) (by decide) (fun _ => rfl) (by omega) (by omega) (by decide) dX5_strokes_136 ?_
    refine z_iinc (pc := 137) hC (i := 8) dX5_strokes_137 rfl (by decide) rfl (zS_s (zS_s (zS_s (zS_s (zS_s (zS_s (zS_s (zS_s zS_0)))))))) ?_
    refine z_goto (pc := 140) hC 38 dX5_strokes_140 rfl ?_
    have hc := sfAc_one (σ := σ) (m := m) hF1.1 hone
    rw [if_pos (by omega)] at hc
    have hh := K _ (some (.int (zI X1))) (some (.int (zI Y1))) (some (.int (zI (44 + ((lnF σ x y tx ty) k : Int))))) (by rw [scM_up Ω (k := 44 + (lnF σ x y tx ty) k) (v := m) (by omega) ⟨by omega, by omega⟩, hs]; exact sfA_one hF1.1 hone) (fun q hq => ups_n _ _ _ hq)
    rw [hc] at hh
    exact hh
set_option maxHeartbeats 4000000 in
set_option maxRecDepth 100000 in
theorem L_X5_strokes_38 {E : zE} {w : zP} {l : Launch} {Post : Option Value → Mem → Prop} (hw : zOK w) (hC : zC E w l RX5 wsX5_strokes cX5_strokes 12 1 23 (some .int) Post) (σ : Sg) (hv : scok σ) (m x y tx ty : Int) (hm : 0 ≤ m ∧ m ≤ 2) (hd : dIn σ x y) (hd2 : dIn σ tx ty) (Ω0 : Mem) (K : ∀ (Ω : Mem) (o9 o10 o11 : Option Value), scM Ω = sfA σ (lineS σ x y tx ty) m (sdots σ) → (∀ q, q ≠ 50 → Ω q = Ω0 q) → X E Ω 143 [some (.ref (wa w 49)), some (.int (zI m)), some (.int (zI x)), some (.int (zI y)), some (.int (zI tx)), some (.int (zI ty)), some (.int (zI (lnN x y tx ty))), some (.int (zI (sfAc σ (lineS σ x y tx ty) m (sdots σ)))), some (.int (zI ((((lnN x y tx ty).toNat + 1) : Nat) : Int))), o9, o10, o11] []) : ∀ (n : Nat) (k : Nat) (Ω : Mem) (o9 : Option Value) (o10 : Option Value) (o11 : Option Value), (lnN x y tx ty).toNat + 1 < k + n → ((k : Int) ≤ (lnN x y tx ty) + 1) → (scM Ω = (sfA σ (lnS (lnF σ x y tx ty) k) m (sdots σ))) → (∀ q, q ≠ 50 → Ω q = Ω0 q) → X E Ω 38 [some (.ref (wa w 49)), some (.int (zI m)), some (.int (zI x)), some (.int (zI y)), some (.int (zI tx)), some (.int (zI ty)), some (.int (zI (lnN x y tx ty))), some (.int (zI (sfAc σ (lnS (lnF σ x y tx ty) k) m (sdots σ)))), some (.int (zI (k : Int))), o9, o10, o11] [] := by
  intro n
  induction n with
  | zero =>
    intro k Ω o9 o10 o11 hfu hk hs hF
    exact absurd hfu (by omega)
  | succ n ih =>
    intro k Ω o9 o10 o11 hfu hk hs hF
    obtain ⟨hd11, hd12, hd13, hd14⟩ := hd
    obtain ⟨hd21, hd22, hd23, hd24⟩ := hd2
    have hw01 := hv.1
    have hh01 := hv.2.1
    have hnb := lnN_b (x := x) (y := y) (tx := tx) (ty := ty) (by omega) (by omega) (by omega) (by omega)
    have hN := sdots_le hv
    have hb1 := mul_b5 (k := (k : Int)) (d := tx - x)
    have hb2 := mul_b5 (k := (k : Int)) (d := ty - y)
    refine z_iload (pc := 38) hC (i := 8) dX5_strokes_38 rfl ?_
    refine z_iload (pc := 40) hC (i := 6) dX5_strokes_40 rfl ?_
    refine z_icmp_gt (pc := 42) hC 143 ⟨by omega, by omega⟩ ⟨by omega, by omega⟩ dX5_strokes_42 rfl (fun h42 => ?_) (fun h42 => ?_)
    · obtain rfl : k = (lnN x y tx ty).toNat + 1 := by omega
      exact K Ω _ _ _ hs hF
    · refine z_iload (pc := 45) hC (i := 6) dX5_strokes_45 rfl ?_
      refine z_if_ne (pc := 47) hC 54 ⟨by omega, by omega⟩ dX5_strokes_47 rfl (fun h47 => ?_) (fun h47 => ?_)
      · refine z_iload_n (pc := 54) hC (i := 2) dX5_strokes_54 rfl rfl ?_
        refine z_iload (pc := 55) hC (i := 8) dX5_strokes_55 rfl ?_
        refine z_iload (pc := 57) hC (i := 4) dX5_strokes_57 rfl ?_
        refine z_iload_n (pc := 59) hC (i := 2) dX5_strokes_59 rfl rfl ?_
        refine z_isub (pc := 60) hC dX5_strokes_60 ?_
        refine z_imul (pc := 61) hC dX5_strokes_61 ?_
        refine z_iload (pc := 62) hC (i := 6) dX5_strokes_62 rfl ?_
        refine z_callS (n := 2) (pc := 64) hC (c_X5_nearest l w hw _ _ _ (hb1 (by omega) (by omega) (by omega) (by omega)) (by omega)) gX5_strokes_X5_nearest rfl (by decide +kernel) (by decide) (by decide) rfl rfl (Nat.le_of_ble_eq_true rfl) dX5_strokes_64 (zi_k fun r64 Ω64 h64 => ?_)
        obtain ⟨rfl, hM64⟩ := h64
        obtain rfl := hM64.symm
        refine z_iadd (pc := 67) hC dX5_strokes_67 ?_
        refine z_istore (pc := 68) hC (i := 9) dX5_strokes_68 (by decide) rfl (zS_s (zS_s (zS_s (zS_s (zS_s (zS_s (zS_s (zS_s (zS_s zS_0))))))))) ?_
        refine z_iload (pc := 70) hC (i := 6) dX5_strokes_70 rfl ?_
        refine z_if_ne (pc := 72) hC 79 ⟨by omega, by omega⟩ dX5_strokes_72 rfl (fun h72 => ?_) (fun h72 => ?_)
        · refine z_iload_n (pc := 79) hC (i := 3) dX5_strokes_79 rfl rfl ?_
          refine z_iload (pc := 80) hC (i := 8) dX5_strokes_80 rfl ?_
          refine z_iload (pc := 82) hC (i := 5) dX5_strokes_82 rfl ?_
          refine z_iload_n (pc := 84) hC (i := 3) dX5_strokes_84 rfl rfl ?_
          refine z_isub (pc := 85) hC dX5_strokes_85 ?_
          refine z_imul (pc := 86) hC dX5_strokes_86 ?_
          refine z_iload (pc := 87) hC (i := 6) dX5_strokes_87 rfl ?_
          refine z_callS (n := 2) (pc := 89) hC (c_X5_nearest l w hw _ _ _ (hb2 (by omega) (by omega) (by omega) (by omega)) (by omega)) gX5_strokes_X5_nearest rfl (by decide +kernel) (by decide) (by decide) rfl rfl (Nat.le_of_ble_eq_true rfl) dX5_strokes_89 (zi_k fun r89 Ω89 h89 => ?_)
          obtain ⟨rfl, hM89⟩ := h89
          obtain rfl := hM89.symm
          refine z_iadd (pc := 92) hC dX5_strokes_92 ?_
          refine z_istore (pc := 93) hC (i := 10) dX5_strokes_93 (by decide) rfl (zS_s (zS_s (zS_s (zS_s (zS_s (zS_s (zS_s (zS_s (zS_s (zS_s zS_0)))))))))) ?_
          exact S_X5_strokes_95 hw hC σ hv m x y tx ty hm ⟨hd11, hd12, hd13, hd14⟩ ⟨hd21, hd22, hd23, hd24⟩ k (by omega) _ _ (by unfold lnA; rw [if_neg (by omega), Int.mul_assoc]) (by unfold lnA; rw [if_neg (by omega), Int.mul_assoc]) _ hs (fun Ω1 p9 p10 p11 hs1 hF1 => ih (k + 1) Ω1 _ _ _ (by omega) (by omega) hs1 (fun q hq => (hF1 q hq).trans (hF q hq)))
        · refine z_iload_n (pc := 75) hC (i := 3) dX5_strokes_75 rfl rfl ?_
          refine z_goto (pc := 76) hC 93 dX5_strokes_76 rfl ?_
          refine z_istore (pc := 93) hC (i := 10) dX5_strokes_93 (by decide) rfl (zS_s (zS_s (zS_s (zS_s (zS_s (zS_s (zS_s (zS_s (zS_s (zS_s zS_0)))))))))) ?_
          exfalso; omega
      · refine z_iload_n (pc := 50) hC (i := 2) dX5_strokes_50 rfl rfl ?_
        refine z_goto (pc := 51) hC 68 dX5_strokes_51 rfl ?_
        refine z_istore (pc := 68) hC (i := 9) dX5_strokes_68 (by decide) rfl (zS_s (zS_s (zS_s (zS_s (zS_s (zS_s (zS_s (zS_s (zS_s zS_0))))))))) ?_
        refine z_iload (pc := 70) hC (i := 6) dX5_strokes_70 rfl ?_
        refine z_if_ne (pc := 72) hC 79 ⟨by omega, by omega⟩ dX5_strokes_72 rfl (fun h72 => ?_) (fun h72 => ?_)
        · refine z_iload_n (pc := 79) hC (i := 3) dX5_strokes_79 rfl rfl ?_
          refine z_iload (pc := 80) hC (i := 8) dX5_strokes_80 rfl ?_
          refine z_iload (pc := 82) hC (i := 5) dX5_strokes_82 rfl ?_
          refine z_iload_n (pc := 84) hC (i := 3) dX5_strokes_84 rfl rfl ?_
          refine z_isub (pc := 85) hC dX5_strokes_85 ?_
          refine z_imul (pc := 86) hC dX5_strokes_86 ?_
          refine z_iload (pc := 87) hC (i := 6) dX5_strokes_87 rfl ?_
          refine z_callS (n := 2) (pc := 89) hC (c_X5_nearest l w hw _ _ _ (hb2 (by omega) (by omega) (by omega) (by omega)) (by omega)) gX5_strokes_X5_nearest rfl (by decide +kernel) (by decide) (by decide) rfl rfl (Nat.le_of_ble_eq_true rfl) dX5_strokes_89 (zi_k fun r89 Ω89 h89 => ?_)
          obtain ⟨rfl, hM89⟩ := h89
          obtain rfl := hM89.symm
          refine z_iadd (pc := 92) hC dX5_strokes_92 ?_
          refine z_istore (pc := 93) hC (i := 10) dX5_strokes_93 (by decide) rfl (zS_s (zS_s (zS_s (zS_s (zS_s (zS_s (zS_s (zS_s (zS_s (zS_s zS_0)))))))))) ?_
          exfalso; omega
        · refine z_iload_n (pc := 75) hC (i := 3) dX5_strokes_75 rfl rfl ?_
          refine z_goto (pc := 76) hC 93 dX5_strokes_76 rfl ?_
          refine z_istore (pc := 93) hC (i := 10) dX5_strokes_93 (by decide) rfl (zS_s (zS_s (zS_s (zS_s (zS_s (zS_s (zS_s (zS_s (zS_s (zS_s zS_0)))))))))) ?_
          exact S_X5_strokes_95 hw hC σ hv m x y tx ty hm ⟨hd11, hd12, hd13, hd14⟩ ⟨hd21, hd22, hd23, hd24⟩ k (by omega) _ _ (by unfold lnA; rw [if_pos (by omega)]) (by unfold lnA; rw [if_pos (by omega)]) _ hs (fun Ω1 p9 p10 p11 hs1 hF1 => ih (k + 1) Ω1 _ _ _ (by omega) (by omega) hs1 (fun q hq => (hF1 q hq).trans (hF q hq)))
set_option maxHeartbeats 4000000 in
set_option maxRecDepth 100000 in
theorem c_X5_strokes (l : Launch) (w : zP) (hw : zOK w) (Ω : Mem) (σ : Sg) (hσ : scM Ω = σ) (hv : scok σ) (m x y tx ty : Int) (hm : 0 ≤ m ∧ m ≤ 2) (hd : dIn σ x y) (hd2 : dIn σ tx ty) : zM l w yX5_strokes wsX5_strokes 1 23 [.ref (wa w 49), .int (zI m), .int (zI x), .int (zI y), .int (zI tx), .int (zI ty)] Ω (zi (fun r Ω1 => r = sfAc σ (lineS σ x y tx ty) m (sdots σ) ∧ scM Ω1 = sfA σ (lineS σ x y tx ty) m (sdots σ) ∧ ∀ q, q ≠ 50 → Ω1 q = Ω q)) := by
  refine zM_of cX5_strokes 12 (some .int) RX5 [some (.ref (wa w 49)), some (.int (zI m)), some (.int (zI x)), some (.int (zI y)), some (.int (zI tx)), some (.int (zI ty)), none, none, none, none, none, none] hw (by decide +kernel) rfl rfl (Nat.le_of_ble_eq_true rfl) rfl (fun E hC => ?_)
  obtain ⟨hd11, hd12, hd13, hd14⟩ := hd
  obtain ⟨hd21, hd22, hd23, hd24⟩ := hd2
  have hw01 := hv.1
  have hh01 := hv.2.1
  have hnb := lnN_b (x := x) (y := y) (tx := tx) (ty := ty) (by omega) (by omega) (by omega) (by omega)
  have hN := sdots_le hv
  have hz1 := zabs_le (a := x - tx) (b := 5) (by omega) (by omega)
  have hz2 := zabs_le (a := y - ty) (b := 5) (by omega) (by omega)
  refine z_iload_n (pc := 0) hC (i := 2) dX5_strokes_0 rfl rfl ?_
  refine z_iload (pc := 1) hC (i := 4) dX5_strokes_1 rfl ?_
  refine z_callS (n := 2) (pc := 3) hC (c_X5_far l w hw _ _ _ ⟨by omega, by omega⟩ ⟨by omega, by omega⟩) gX5_strokes_X5_far rfl (by decide +kernel) (by decide) (by decide) rfl rfl (Nat.le_of_ble_eq_true rfl) dX5_strokes_3 (zi_k fun r3 Ω3 h3 => ?_)
  obtain ⟨rfl, hM3⟩ := h3
  obtain rfl := hM3.symm
  refine z_iload_n (pc := 6) hC (i := 3) dX5_strokes_6 rfl rfl ?_
  refine z_iload (pc := 7) hC (i := 5) dX5_strokes_7 rfl ?_
  refine z_callS (n := 2) (pc := 9) hC (c_X5_far l w hw _ _ _ ⟨by omega, by omega⟩ ⟨by omega, by omega⟩) gX5_strokes_X5_far rfl (by decide +kernel) (by decide) (by decide) rfl rfl (Nat.le_of_ble_eq_true rfl) dX5_strokes_9 (zi_k fun r9 Ω9 h9 => ?_)
  obtain ⟨rfl, hM9⟩ := h9
  obtain rfl := hM9.symm
  refine z_icmp_le (pc := 12) hC 24 ⟨by omega, by omega⟩ ⟨by omega, by omega⟩ dX5_strokes_12 rfl (fun h12 => ?_) (fun h12 => ?_)
  · refine z_iload_n (pc := 24) hC (i := 3) dX5_strokes_24 rfl rfl ?_
    refine z_iload (pc := 25) hC (i := 5) dX5_strokes_25 rfl ?_
    refine z_callS (n := 2) (pc := 27) hC (c_X5_far l w hw _ _ _ ⟨by omega, by omega⟩ ⟨by omega, by omega⟩) gX5_strokes_X5_far rfl (by decide +kernel) (by decide) (by decide) rfl rfl (Nat.le_of_ble_eq_true rfl) dX5_strokes_27 (zi_k fun r27 Ω27 h27 => ?_)
    obtain ⟨rfl, hM27⟩ := h27
    obtain rfl := hM27.symm
    refine z_istore (pc := 30) hC (i := 6) dX5_strokes_30 (by decide) rfl (zS_s (zS_s (zS_s (zS_s (zS_s (zS_s zS_0)))))) ?_
    refine z_iconst (pc := 32) hC dX5_strokes_32 ?_
    refine z_istore (pc := 33) hC (i := 7) dX5_strokes_33 (by decide) rfl (zS_s (zS_s (zS_s (zS_s (zS_s (zS_s (zS_s zS_0))))))) ?_
    refine z_iconst (pc := 35) hC dX5_strokes_35 ?_
    refine z_istore (pc := 36) hC (i := 8) dX5_strokes_36 (by decide) rfl (zS_s (zS_s (zS_s (zS_s (zS_s (zS_s (zS_s (zS_s zS_0)))))))) ?_
    have hnn : zabs (y - ty) = (lnN x y tx ty) := by unfold lnN zabs; unfold zabs at h12; omega
    rw [hnn]
    have K1 : ∀ (Ω1 : Mem) (o9 o10 o11 : Option Value), scM Ω1 = sfA σ (lineS σ x y tx ty) m (sdots σ) → (∀ q, q ≠ 50 → Ω1 q = Ω q) → X E Ω1 143 [some (.ref (wa w 49)), some (.int (zI m)), some (.int (zI x)), some (.int (zI y)), some (.int (zI tx)), some (.int (zI ty)), some (.int (zI (lnN x y tx ty))), some (.int (zI (sfAc σ (lineS σ x y tx ty) m (sdots σ)))), some (.int (zI ((((lnN x y tx ty).toNat + 1) : Nat) : Int))), o9, o10, o11] [] := fun Ω1 o9 o10 o11 hs1 hF1 => by
      refine z_iload (pc := 143) hC (i := 7) dX5_strokes_143 rfl ?_
      exact z_iret (pc := 145) hC rfl ⟨_, rfl, rfl, hs1, hF1⟩ dX5_strokes_145
    have hh := L_X5_strokes_38 hw hC σ hv m x y tx ty hm ⟨hd11, hd12, hd13, hd14⟩ ⟨hd21, hd22, hd23, hd24⟩ Ω K1 ((lnN x y tx ty).toNat + 2) 0 Ω none none none (by omega) (by omega) (by rw [show lnS (lnF σ x y tx ty) 0 = 0 from rfl, sfA_no]; exact hσ) (fun _ _ => rfl)
    rw [show lnS (lnF σ x y tx ty) 0 = 0 from rfl, sfAc_no] at hh
    exact hh
  · refine z_iload_n (pc := 15) hC (i := 2) dX5_strokes_15 rfl rfl ?_
    refine z_iload (pc := 16) hC (i := 4) dX5_strokes_16 rfl ?_
    refine z_callS (n := 2) (pc := 18) hC (c_X5_far l w hw _ _ _ ⟨by omega, by omega⟩ ⟨by omega, by omega⟩) gX5_strokes_X5_far rfl (by decide +kernel) (by decide) (by decide) rfl rfl (Nat.le_of_ble_eq_true rfl) dX5_strokes_18 (zi_k fun r18 Ω18 h18 => ?_)
    obtain ⟨rfl, hM18⟩ := h18
    obtain rfl := hM18.symm
    refine z_goto (pc := 21) hC 30 dX5_strokes_21 rfl ?_
    refine z_istore (pc := 30) hC (i := 6) dX5_strokes_30 (by decide) rfl (zS_s (zS_s (zS_s (zS_s (zS_s (zS_s zS_0)))))) ?_
    refine z_iconst (pc := 32) hC dX5_strokes_32 ?_
    refine z_istore (pc := 33) hC (i := 7) dX5_strokes_33 (by decide) rfl (zS_s (zS_s (zS_s (zS_s (zS_s (zS_s (zS_s zS_0))))))) ?_
    refine z_iconst (pc := 35) hC dX5_strokes_35 ?_
    refine z_istore (pc := 36) hC (i := 8) dX5_strokes_36 (by decide) rfl (zS_s (zS_s (zS_s (zS_s (zS_s (zS_s (zS_s (zS_s zS_0)))))))) ?_
    have hnn : zabs (x - tx) = (lnN x y tx ty) := by unfold lnN zabs; unfold zabs at h12; omega
    rw [hnn]
    have K1 : ∀ (Ω1 : Mem) (o9 o10 o11 : Option Value), scM Ω1 = sfA σ (lineS σ x y tx ty) m (sdots σ) → (∀ q, q ≠ 50 → Ω1 q = Ω q) → X E Ω1 143 [some (.ref (wa w 49)), some (.int (zI m)), some (.int (zI x)), some (.int (zI y)), some (.int (zI tx)), some (.int (zI ty)), some (.int (zI (lnN x y tx ty))), some (.int (zI (sfAc σ (lineS σ x y tx ty) m (sdots σ)))), some (.int (zI ((((lnN x y tx ty).toNat + 1) : Nat) : Int))), o9, o10, o11] [] := fun Ω1 o9 o10 o11 hs1 hF1 => by
      refine z_iload (pc := 143) hC (i := 7) dX5_strokes_143 rfl ?_
      exact z_iret (pc := 145) hC rfl ⟨_, rfl, rfl, hs1, hF1⟩ dX5_strokes_145
    have hh := L_X5_strokes_38 hw hC σ hv m x y tx ty hm ⟨hd11, hd12, hd13, hd14⟩ ⟨hd21, hd22, hd23, hd24⟩ Ω K1 ((lnN x y tx ty).toNat + 2) 0 Ω none none none (by omega) (by omega) (by rw [show lnS (lnF σ x y tx ty) 0 = 0 from rfl, sfA_no]; exact hσ) (fun _ _ => rfl)
    rw [show lnS (lnF σ x y tx ty) 0 = 0 from rfl, sfAc_no] at hh
    exact hh
set_option maxHeartbeats 4000000 in
set_option maxRecDepth 100000 in
theorem c_X5_stroke (l : Launch) (w : zP) (hw : zOK w) (Ω : Mem) (a : As) (h : RM Ω a) (m x y tx ty : Int) (hm : zb m) (hx : zb x) (hy : zb y) (hx2 : zb tx) (hy2 : zb ty) : zM l w yX5_stroke wsX5_stroke 2 54 [.ref (wa w 49), .int (zI m), .int (zI x), .int (zI y), .int (zI tx), .int (zI ty)] Ω (zi (fun r Ω1 => r = (aStroke a m x y tx ty).1 ∧ RM Ω1 (aStroke a m x y tx ty).2 ∧ frG Ω Ω1)) := by
  refine zM_of cX5_stroke 6 (some .int) RX5 [some (.ref (wa w 49)), some (.int (zI m)), some (.int (zI x)), some (.int (zI y)), some (.int (zI tx)), some (.int (zI ty))] hw (by decide +kernel) rfl rfl (Nat.le_of_ble_eq_true rfl) rfl (fun E hC => ?_)
  have hv := h.1.2
  have hσ := h.1.1
  have z0 : gt Ω 50 0 = a.1 0 := st_at hσ (by decide)
  have z1 : gt Ω 50 1 = a.1 1 := st_at hσ (by decide)
  have hN := sdots_le hv
  have hw01 := hv.1
  have hh01 := hv.2.1
  refine z_iload_n (pc := 0) hC (i := 1) dX5_stroke_0 rfl rfl ?_
  refine z_iconst (pc := 1) hC dX5_stroke_1 ?_
  refine z_iconst (pc := 2) hC dX5_stroke_2 ?_
  refine z_callS (n := 3) (pc := 3) hC (c_X5_in l w hw _ _ _ _ (by first | assumption | exact zb_gt _ _ _ | exact zcmp_zb _ _ | exact bI_zb _ | exact ⟨by omega, by omega⟩) (by first | assumption | exact zb_gt _ _ _ | exact zcmp_zb _ _ | exact bI_zb _ | exact ⟨by omega, by omega⟩) (by first | assumption | exact zb_gt _ _ _ | exact zcmp_zb _ _ | exact bI_zb _ | exact ⟨by omega, by omega⟩)) gX5_stroke_X5_in rfl (by decide +kernel) (by decide) (by decide) rfl rfl (Nat.le_of_ble_eq_true rfl) dX5_stroke_3 (zb_k fun r3 Ω3 h3 => ?_)
  obtain ⟨rfl, hM3⟩ := h3
  obtain rfl := hM3.symm
  refine z_ifd_eq (pc := 6) hC 29 dX5_stroke_6 rfl (fun h6 => ?_) (fun h6 => ?_)
  · refine z_aload_n (pc := 29) hC (i := 0) dX5_stroke_29 rfl rfl ?_
    refine z_callV (n := 0) (T := TX5) (N := 15) (ci := 5) (pc := 30) hC (c_X5_bad l w hw _) gX5_stroke_X5_bad rfl (by decide +kernel) (by decide) (by decide) rfl (by decide) (fun _ => rfl) rfl rfl (Nat.le_of_ble_eq_true rfl) dX5_stroke_30 (zi_k fun r30 Ω30 h30 => ?_)
    obtain ⟨rfl, rfl⟩ := h30
    exact z_iret (pc := 33) hC rfl ⟨_, rfl, bad_retM h (if_neg (by unfold dIn; omega))⟩ dX5_stroke_33
  · refine z_aload_n (pc := 9) hC (i := 0) dX5_stroke_9 rfl rfl ?_
    refine z_iload_n (pc := 10) hC (i := 2) dX5_stroke_10 rfl rfl ?_
    refine z_iload_n (pc := 11) hC (i := 3) dX5_stroke_11 rfl rfl ?_
    refine z_callV (n := 2) (T := TX5) (N := 15) (ci := 5) (pc := 12) hC (c_X5_isDot l w hw _ _ _ (by first | assumption | exact ⟨by omega, by omega⟩) (by first | assumption | exact ⟨by omega, by omega⟩) (by omega) (by omega)) gX5_stroke_X5_isDot rfl (by decide +kernel) (by decide) (by decide) rfl (by decide) (fun _ => rfl) rfl rfl (Nat.le_of_ble_eq_true rfl) dX5_stroke_12 (zb_k fun r12 Ω12 h12 => ?_)
    obtain ⟨rfl, hM12⟩ := h12
    obtain rfl := hM12.symm
    refine z_ifd_eq (pc := 15) hC 29 dX5_stroke_15 rfl (fun h15 => ?_) (fun h15 => ?_)
    · refine z_aload_n (pc := 29) hC (i := 0) dX5_stroke_29 rfl rfl ?_
      refine z_callV (n := 0) (T := TX5) (N := 15) (ci := 5) (pc := 30) hC (c_X5_bad l w hw _) gX5_stroke_X5_bad rfl (by decide +kernel) (by decide) (by decide) rfl (by decide) (fun _ => rfl) rfl rfl (Nat.le_of_ble_eq_true rfl) dX5_stroke_30 (zi_k fun r30 Ω30 h30 => ?_)
      obtain ⟨rfl, rfl⟩ := h30
      exact z_iret (pc := 33) hC rfl ⟨_, rfl, bad_retM h (if_neg (by unfold dIn; omega))⟩ dX5_stroke_33
    · refine z_aload_n (pc := 18) hC (i := 0) dX5_stroke_18 rfl rfl ?_
      refine z_iload (pc := 19) hC (i := 4) dX5_stroke_19 rfl ?_
      refine z_iload (pc := 21) hC (i := 5) dX5_stroke_21 rfl ?_
      refine z_callV (n := 2) (T := TX5) (N := 15) (ci := 5) (pc := 23) hC (c_X5_isDot l w hw _ _ _ (by first | assumption | exact ⟨by omega, by omega⟩) (by first | assumption | exact ⟨by omega, by omega⟩) (by omega) (by omega)) gX5_stroke_X5_isDot rfl (by decide +kernel) (by decide) (by decide) rfl (by decide) (fun _ => rfl) rfl rfl (Nat.le_of_ble_eq_true rfl) dX5_stroke_23 (zb_k fun r23 Ω23 h23 => ?_)
      obtain ⟨rfl, hM23⟩ := h23
      obtain rfl := hM23.symm
      refine z_ifd_ne (pc := 26) hC 34 dX5_stroke_26 rfl (fun h26 => ?_) (fun h26 => ?_)
      · refine z_aload_n (pc := 34) hC (i := 0) dX5_stroke_34 rfl rfl ?_
        refine z_callV (n := 0) (T := TX5) (N := 15) (ci := 5) (pc := 35) hC (c_X5_leaves l w hw _ a h) gX5_stroke_X5_leaves rfl (by decide +kernel) (by decide) (by decide) rfl (by decide) (fun _ => rfl) rfl rfl (Nat.le_of_ble_eq_true rfl) dX5_stroke_35 (zv_k fun Ω35 h35 => ?_)
        obtain ⟨hR, hfr⟩ := h35
        have hsR := hR.1.1
        have z0R : gt Ω35 50 0 = a.1 0 := st_at hsR (by decide)
        have z1R : gt Ω35 50 1 = a.1 1 := st_at hsR (by decide)
        refine z_aload_n (pc := 38) hC (i := 0) dX5_stroke_38 rfl rfl ?_
        refine z_iload_n (pc := 39) hC (i := 1) dX5_stroke_39 rfl rfl ?_
        refine z_iload_n (pc := 40) hC (i := 2) dX5_stroke_40 rfl rfl ?_
        refine z_iload_n (pc := 41) hC (i := 3) dX5_stroke_41 rfl rfl ?_
        refine z_iload (pc := 42) hC (i := 4) dX5_stroke_42 rfl ?_
        refine z_iload (pc := 44) hC (i := 5) dX5_stroke_44 rfl ?_
        refine z_callV (n := 5) (T := TX5) (N := 15) (ci := 5) (pc := 46) hC (c_X5_strokes l w hw _ a.1 hsR hv m x y tx ty (by omega) (by unfold dIn; omega) (by unfold dIn; omega)) gX5_stroke_X5_strokes rfl (by decide +kernel) (by decide) (by decide) rfl (by decide) (fun _ => rfl) rfl rfl (Nat.le_of_ble_eq_true rfl) dX5_stroke_46 (zi_k fun r46 Ω46 h46 => ?_)
        obtain ⟨hr46, hs46, hF46⟩ := h46
        subst hr46
        obtain ⟨g1, g2⟩ := hR.only hs46 (scok_sfA hv _ _ (by omega) (by omega)) hF46
        exact z_iret (pc := 49) hC rfl ⟨_, rfl, ok_retM (if_pos ⟨by omega, by unfold dIn; omega, by unfold dIn; omega⟩) g1 (hfr.trans g2)⟩ dX5_stroke_49
      · refine z_aload_n (pc := 29) hC (i := 0) dX5_stroke_29 rfl rfl ?_
        refine z_callV (n := 0) (T := TX5) (N := 15) (ci := 5) (pc := 30) hC (c_X5_bad l w hw _) gX5_stroke_X5_bad rfl (by decide +kernel) (by decide) (by decide) rfl (by decide) (fun _ => rfl) rfl rfl (Nat.le_of_ble_eq_true rfl) dX5_stroke_30 (zi_k fun r30 Ω30 h30 => ?_)
        obtain ⟨rfl, rfl⟩ := h30
        exact z_iret (pc := 33) hC rfl ⟨_, rfl, bad_retM h (if_neg (by unfold dIn; omega))⟩ dX5_stroke_33
