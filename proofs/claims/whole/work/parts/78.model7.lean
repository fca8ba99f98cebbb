def sdP (σ : Sg) (ω : Nat → Nat → Int) (H : Nat → Int) (mm k : Int) (j : Nat) : Prop := if k = 0 then ¬ mayP σ ω H mm j 2 else mayP σ ω H mm j 1
theorem bI_01 {p : Prop} {inst : Decidable p} : (bI (decide p) = 1 ∧ p) ∨ (bI (decide p) = 0 ∧ ¬ p) := by
  by_cases h : p
  · rw [decide_eq_true h]; exact Or.inl ⟨rfl, h⟩
  · rw [decide_eq_false h]; exact Or.inr ⟨rfl, h⟩
set_option maxHeartbeats 4000000 in
set_option maxRecDepth 100000 in
theorem S_X5_sideOf_50 {E : zE} {w : zP} {l : Launch} {Post : Option Value → Mem → Prop} (hw : zOK w) (hC : zC E w l RX5 wsX5_sideOf cX5_sideOf 7 10 240 (some .long) Post) {Ω : Mem} (k mm : Int) (PP : Nat → Prop) (x : Int64) (j : Nat) (hj : j < 36) (o6 : Option Value) (b : Int) (hb : (b = 1 ∧ PP j) ∨ (b = 0 ∧ ¬ PP j)) (hx : (∀ i, tb x i = true ↔ i < j ∧ PP i)) (K : ∀ (x : Int64) (o6 : Option Value), (∀ i, tb x i = true ↔ i < j + 1 ∧ PP i) → X E Ω 10 [some (.ref (wa w 49)), some (.int (zI k)), some (.int (zI mm)), some (.long x), none, some (.int (zI ((j + 1 : Nat) : Int))), o6] [])  : X E Ω 50 [some (.ref (wa w 49)), some (.int (zI k)), some (.int (zI mm)), some (.long x), none, some (.int (zI (j : Int))), o6] [.int (zI b)] := by
  refine z_istore (pc := 50) hC (i := 6) dX5_sideOf_50 (by decide) rfl (zS_s (zS_s (zS_s (zS_s (zS_s (zS_s zS_0)))))) ?_
  refine z_lload_n (pc := 52) hC (i := 3) dX5_sideOf_52 rfl rfl ?_
  refine z_iload (pc := 53) hC (i := 6) dX5_sideOf_53 rfl ?_
  refine z_if_eq (pc := 55) hC 65 ⟨by omega, by omega⟩ dX5_sideOf_55 rfl (fun h55 => ?_) (fun h55 => ?_)
  · refine z_lconst (pc := 65) hC (v := 0) dX5_sideOf_65 rfl ?_
    refine z_lor (pc := 66) hC dX5_sideOf_66 ?_
    refine z_lstore_n (pc := 67) hC (i := 3) dX5_sideOf_67 rfl (by decide) rfl (zS2_s (zS2_s (zS2_s zS2_0))) ?_
    refine z_iinc (pc := 68) hC (i := 5) dX5_sideOf_68 rfl (by decide) rfl (zS_s (zS_s (zS_s (zS_s (zS_s zS_0))))) ?_
    refine z_goto (pc := 71) hC 10 dX5_sideOf_71 rfl ?_
    refine K _ _ (fun i => ?_)
    rw [tb_or, tb_0, Bool.or_false, hx i]
    by_cases e : i = j
    · subst e
      exact ⟨fun q => absurd q.1 (Nat.lt_irrefl _), fun q => absurd q.2 (by rcases hb with z | z; omega; exact z.2)⟩
    · exact ⟨fun q => ⟨by omega, q.2⟩, fun q => ⟨by omega, q.2⟩⟩
  · refine z_lconst (pc := 58) hC (v := 1) dX5_sideOf_58 rfl ?_
    refine z_iload (pc := 59) hC (i := 5) dX5_sideOf_59 rfl ?_
    refine z_lshl (pc := 61) hC rfl dX5_sideOf_61 ?_
    refine z_goto (pc := 62) hC 66 dX5_sideOf_62 rfl ?_
    refine z_lor (pc := 66) hC dX5_sideOf_66 ?_
    refine z_lstore_n (pc := 67) hC (i := 3) dX5_sideOf_67 rfl (by decide) rfl (zS2_s (zS2_s (zS2_s zS2_0))) ?_
    refine z_iinc (pc := 68) hC (i := 5) dX5_sideOf_68 rfl (by decide) rfl (zS_s (zS_s (zS_s (zS_s (zS_s zS_0))))) ?_
    refine z_goto (pc := 71) hC 10 dX5_sideOf_71 rfl ?_
    refine K _ _ (fun i => ?_)
    rw [tb_put x (show j < 64 by omega), hx i]
    by_cases e : i = j
    · subst e
      exact ⟨fun _ => ⟨by omega, by rcases hb with z | z; exact z.2; omega⟩, fun _ => Or.inr rfl⟩
    · exact ⟨fun q => by rcases q with q | q; exact ⟨by omega, q.2⟩; exact absurd q e, fun q => Or.inl ⟨by omega, q.2⟩⟩
set_option maxHeartbeats 4000000 in
set_option maxRecDepth 100000 in
theorem L_X5_sideOf_10 {E : zE} {w : zP} {l : Launch} {Post : Option Value → Mem → Prop} (hw : zOK w) (hC : zC E w l RX5 wsX5_sideOf cX5_sideOf 7 10 240 (some .long) Post) (σ : Sg) (hv : scok σ) (Ω0 : Mem) (hσ : scM Ω0 = σ) (hω : omok σ (omM σ Ω0)) (hH : ∀ u, u < sdots σ → 0 ≤ gt Ω0 54 u ∧ gt Ω0 54 u ≤ 2) (k mm : Int) (hk : k = 0 ∨ k = 1) (hm : mnH σ (omM σ Ω0) (gt Ω0 54) mm) (K : ∀ (x : Int64) (Ω : Mem) (o6 : Option Value), (∀ i, tb x i = true ↔ i < sdots σ ∧ (sdP σ (omM σ Ω0) (gt Ω0 54) mm k) i) → gt Ω 54 = gt Ω0 54 → (∀ q, q ≠ 54 → q ≠ 55 → q ≠ 56 → Ω q = Ω0 q) → X E Ω 74 [some (.ref (wa w 49)), some (.int (zI k)), some (.int (zI mm)), some (.long x), none, some (.int (zI (sdots σ : Int))), o6] []) : ∀ (n : Nat) (j : Nat) (x : Int64) (Ω : Mem) (o6 : Option Value), sdots σ < j + n → (j ≤ sdots σ) → ((∀ i, tb x i = true ↔ i < j ∧ (sdP σ (omM σ Ω0) (gt Ω0 54) mm k) i)) → (gt Ω 54 = gt Ω0 54) → (∀ q, q ≠ 54 → q ≠ 55 → q ≠ 56 → Ω q = Ω0 q) → X E Ω 10 [some (.ref (wa w 49)), some (.int (zI k)), some (.int (zI mm)), some (.long x), none, some (.int (zI (j : Int))), o6] [] := by
  intro n
  induction n with
  | zero =>
    intro j x Ω o6 hfu hj hx h54 hF
    exact absurd hfu (by omega)
  | succ n ih =>
    intro j x Ω o6 hfu hj hx h54 hF
    have hN := sdots_le hv
    obtain ⟨f1, f2⟩ := frH hF σ
    have hsc : scM Ω = σ := f1.trans hσ
    have q0 : gt Ω 50 0 * gt Ω 50 1 = (sdots σ : Int) := by rw [st_at hsc (by decide), st_at hsc (by decide)]; exact hN.2.2.symm
    refine z_iload (pc := 10) hC (i := 5) dX5_sideOf_10 rfl ?_
    refine z_aload_n (pc := 12) hC (i := 0) dX5_sideOf_12 rfl rfl ?_
    refine z_callV (n := 0) (T := TX5) (N := 15) (ci := 5) (pc := 13) hC (c_X5_dots l w hw _) gX5_sideOf_X5_dots rfl (by decide +kernel) (by decide) (by decide) rfl (by decide) (fun _ => rfl) rfl rfl (Nat.le_of_ble_eq_true rfl) dX5_sideOf_13 (zi_k fun r13 Ω13 h13 => ?_)
    obtain ⟨rfl, hM13⟩ := h13
    obtain rfl := hM13.symm
    rw [q0]
    refine z_icmp_ge (pc := 16) hC 74 (by first | assumption | exact zb_gt _ _ _ | exact zcmp_zb _ _ | exact bI_zb _ | exact ⟨by omega, by omega⟩) (by first | assumption | exact zb_gt _ _ _ | exact zcmp_zb _ _ | exact bI_zb _ | exact ⟨by omega, by omega⟩) dX5_sideOf_16 rfl (fun h16 => ?_) (fun h16 => ?_)
    · obtain rfl : j = sdots σ := by omega
      exact K x Ω _ hx h54 hF
    · refine z_iload_n (pc := 19) hC (i := 1) dX5_sideOf_19 rfl rfl ?_
      refine z_if_ne (pc := 20) hC 42 ⟨by omega, by omega⟩ dX5_sideOf_20 rfl (fun h20 => ?_) (fun h20 => ?_)
      · have i1 : Decidable (mayP σ (omM σ Ω) (gt Ω 54) mm j 1) := Classical.propDecidable _
        refine z_aload_n (pc := 42) hC (i := 0) dX5_sideOf_42 rfl rfl ?_
        refine z_iload (pc := 43) hC (i := 5) dX5_sideOf_43 rfl ?_
        refine z_iconst (pc := 45) hC dX5_sideOf_45 ?_
        refine z_iload_n (pc := 46) hC (i := 2) dX5_sideOf_46 rfl rfl ?_
        refine z_callV (n := 3) (T := TX5) (N := 15) (ci := 5) (pc := 47) hC (@c_X5_mayBe l w hw _ σ hsc hv (by rw [f2]; exact hω) (by rw [h54]; exact hH) j (by omega) 1 mm (by omega) (by rw [f2, h54]; exact hm) i1) gX5_sideOf_X5_mayBe rfl (by decide +kernel) (by decide) (by decide) rfl (by decide) (fun _ => rfl) rfl rfl (Nat.le_of_ble_eq_true rfl) dX5_sideOf_47 (zb_k fun r47 Ω47 h47 => ?_)
        obtain ⟨rfl, hH47, hF47⟩ := h47
        exact S_X5_sideOf_50 hw hC k mm (sdP σ (omM σ Ω0) (gt Ω0 54) mm k) x j (by omega) _ _ (by unfold sdP; rw [if_neg (by omega), ← f2, ← h54]; exact bI_01) hx (fun x1 o1 hx1 => ih (j + 1) x1 _ _ (by omega) (by omega) hx1 (hH47.trans h54) (fun q a b c => (hF47 q a b c).trans (hF q a b c)))
      · have i1 : Decidable (mayP σ (omM σ Ω) (gt Ω 54) mm j 2) := Classical.propDecidable _
        refine z_aload_n (pc := 23) hC (i := 0) dX5_sideOf_23 rfl rfl ?_
        refine z_iload (pc := 24) hC (i := 5) dX5_sideOf_24 rfl ?_
        refine z_iconst (pc := 26) hC dX5_sideOf_26 ?_
        refine z_iload_n (pc := 27) hC (i := 2) dX5_sideOf_27 rfl rfl ?_
        refine z_callV (n := 3) (T := TX5) (N := 15) (ci := 5) (pc := 28) hC (@c_X5_mayBe l w hw _ σ hsc hv (by rw [f2]; exact hω) (by rw [h54]; exact hH) j (by omega) 2 mm (by omega) (by rw [f2, h54]; exact hm) i1) gX5_sideOf_X5_mayBe rfl (by decide +kernel) (by decide) (by decide) rfl (by decide) (fun _ => rfl) rfl rfl (Nat.le_of_ble_eq_true rfl) dX5_sideOf_28 (zb_k fun r28 Ω28 h28 => ?_)
        obtain ⟨rfl, hH28, hF28⟩ := h28
        refine z_ifd_ne (pc := 31) hC 38 dX5_sideOf_31 rfl (fun h31 => ?_) (fun h31 => ?_)
        · refine z_iconst (pc := 38) hC dX5_sideOf_38 ?_
          refine z_goto (pc := 39) hC 50 dX5_sideOf_39 rfl ?_
          exact S_X5_sideOf_50 hw hC k mm (sdP σ (omM σ Ω0) (gt Ω0 54) mm k) x j (by omega) _ 0 (Or.inr ⟨rfl, by unfold sdP; rw [if_pos (by omega), ← f2, ← h54]; exact fun q => q h31⟩) hx (fun x1 o1 hx1 => ih (j + 1) x1 _ _ (by omega) (by omega) hx1 (hH28.trans h54) (fun q a b c => (hF28 q a b c).trans (hF q a b c)))
        · refine z_iconst (pc := 34) hC dX5_sideOf_34 ?_
          refine z_goto (pc := 35) hC 50 dX5_sideOf_35 rfl ?_
          exact S_X5_sideOf_50 hw hC k mm (sdP σ (omM σ Ω0) (gt Ω0 54) mm k) x j (by omega) _ 1 (Or.inl ⟨rfl, by unfold sdP; rw [if_pos (by omega), ← f2, ← h54]; exact h31⟩) hx (fun x1 o1 hx1 => ih (j + 1) x1 _ _ (by omega) (by omega) hx1 (hH28.trans h54) (fun q a b c => (hF28 q a b c).trans (hF q a b c)))
/-- weights as they are when none is put otherwise -/
theorem omM_om {σ : Sg} {Ω : Mem} (h : gt Ω 49 6 = -1) : omM σ Ω = om σ := by
  funext v d
  unfold omM
  rw [if_neg (by omega)]
theorem om_ok {σ : Sg} (hv : scok σ) : omok σ (om σ) := fun v d hvN hd hl => by
  have hN := sdots_le hv
  obtain ⟨o, e1, e2, -⟩ := lk_inv hv hvN hd hl
  unfold om
  rw [e1, Int.toNat_natCast]
  have := sWt_b hv d (show v < 36 by omega) (show o < 36 by omega)
  omega
theorem best_iff {σ : Sg} {H : Nat → Int} (h : ∀ u, u < sdots σ → H u = σ (44 + u)) {m : Int} (hm : mnW σ (om σ) m) (S : Nat → Bool) : (hok H S (sdots σ) ∧ cW σ (om σ) S = m) ↔ best σ S := by
  rw [hok_cnb h]
  constructor
  · rintro ⟨h1, h2⟩
    exact ⟨h1, fun T hT => by have h3 := hm.2 T hT; rw [cW_om] at h2 h3; omega⟩
  · rintro ⟨h1, h2⟩
    refine ⟨h1, ?_⟩
    obtain ⟨⟨T, t1, t2⟩, t3⟩ := hm
    have a1 := h2 T t1
    have a2 := t3 S h1
    rw [cW_om] at t2 a2 ⊢
    omega
theorem sd_lo {σ : Sg} {H : Nat → Int} (h : ∀ u, u < sdots σ → H u = σ (44 + u)) {m : Int} (hm : mnW σ (om σ) m) {x : Int64} (hx : ∀ i, tb x i = true ↔ i < sdots σ ∧ sdP σ (om σ) H m 0 i) : x = loS σ :=
  loS_eq (fun i => by
    rw [hx i]
    unfold sdP mayP
    rw [if_pos rfl]
    refine and_congr_right (fun _ => ⟨fun q T hT => ?_, fun q => ?_⟩)
    · cases c : T i
      · obtain ⟨b1, b2⟩ := (best_iff h hm T).mpr hT
        exact absurd ⟨T, b1, b2, c⟩ q
      · rfl
    · rintro ⟨S, s1, s2, s3⟩
      have := q S ((best_iff h hm S).mp ⟨s1, s2⟩)
      rw [this] at s3
      exact absurd s3 (by decide))
theorem sd_hi {σ : Sg} {H : Nat → Int} (h : ∀ u, u < sdots σ → H u = σ (44 + u)) {m : Int} (hm : mnW σ (om σ) m) {x : Int64} (hx : ∀ i, tb x i = true ↔ i < sdots σ ∧ sdP σ (om σ) H m 1 i) : x = hiS σ :=
  hiS_eq (fun i => by
    rw [hx i]
    unfold sdP mayP
    rw [if_neg (by decide)]
    refine and_congr_right (fun _ => ⟨fun q => ?_, fun q => ?_⟩)
    · obtain ⟨S, s1, s2, s3⟩ := q
      exact ⟨S, (best_iff h hm S).mp ⟨s1, s2⟩, s3⟩
    · obtain ⟨S, s1, s2⟩ := q
      obtain ⟨b1, b2⟩ := (best_iff h hm S).mpr s1
      exact ⟨S, b1, b2, s2⟩)
set_option maxHeartbeats 4000000 in
set_option maxRecDepth 100000 in
theorem c_X5_sideOf (l : Launch) (w : zP) (hw : zOK w) (Ω : Mem) (σ : Sg) (hσ : scM Ω = σ) (hv : scok σ) (hs : gt Ω 49 6 = -1) (k : Int) (hk : k = 0 ∨ k = 1) : zM l w yX5_sideOf wsX5_sideOf 10 240 [.ref (wa w 49), .int (zI k)] Ω (zlo (fun r Ω1 => r = (if k = 0 then loS σ else hiS σ) ∧ ∀ q, q ≠ 54 → q ≠ 55 → q ≠ 56 → Ω1 q = Ω q)) := by
  refine zM_of cX5_sideOf 7 (some .long) RX5 [some (.ref (wa w 49)), some (.int (zI k)), none, none, none, none, none] hw (by decide +kernel) rfl rfl (Nat.le_of_ble_eq_true rfl) rfl (fun E hC => ?_)
  have hN := sdots_le hv
  have eω : omM σ Ω = om σ := omM_om hs
  have hω : omok σ (omM σ Ω) := by rw [eω]; exact om_ok hv
  refine z_aload_n (pc := 0) hC (i := 0) dX5_sideOf_0 rfl rfl ?_
  refine z_callV (n := 0) (T := TX5) (N := 15) (ci := 5) (pc := 1) hC (c_X5_bestCost l w hw _ σ hσ hv hω) gX5_sideOf_X5_bestCost rfl (by decide +kernel) (by decide) (by decide) rfl (by decide) (fun _ => rfl) rfl rfl (Nat.le_of_ble_eq_true rfl) dX5_sideOf_1 (zi_k fun r1 Ω1 h1 => ?_)
  obtain ⟨hm1, hH1, hF1⟩ := h1
  obtain ⟨f1, f2⟩ := frH hF1 σ
  have hH1N : ∀ u, u < sdots σ → gt Ω1 54 u = σ (44 + u) := fun u hu => hH1 u (by omega)
  refine z_istore_n (pc := 4) hC (i := 2) dX5_sideOf_4 rfl (by decide) rfl (zS_s (zS_s zS_0)) ?_
  refine z_lconst (pc := 5) hC (v := 0) dX5_sideOf_5 rfl ?_
  refine z_lstore_n (pc := 6) hC (i := 3) dX5_sideOf_6 rfl (by decide) rfl (zS2_s (zS2_s (zS2_s zS2_0))) ?_
  refine z_iconst (pc := 7) hC dX5_sideOf_7 ?_
  refine z_istore (pc := 8) hC (i := 5) dX5_sideOf_8 (by decide) rfl (zS_s (zS_s (zS_s (zS_s (zS_s zS_0))))) ?_
  refine L_X5_sideOf_10 hw hC σ hv Ω1 (f1.trans hσ) (by rw [f2]; exact hω) (fun u hu => by rw [hH1N u hu]; exact hv.2.2.2.2.2.2.2.2.2 u (by omega)) k r1 hk ((mnH_W hH1N).mpr (by rw [f2]; exact hm1)) (fun x Ω2 o6 hx h54 hF2 => ?_) (sdots σ + 1) 0 0 Ω1 none (by omega) (by omega) (fun i => by rw [tb_0]; constructor <;> intro q <;> first | exact absurd q (by decide) | omega) rfl (fun _ _ _ _ => rfl)
  refine z_lload_n (pc := 74) hC (i := 3) dX5_sideOf_74 rfl rfl ?_
  rw [f2, eω] at hx
  rw [eω] at hm1
  refine z_lret (pc := 75) hC rfl ⟨_, rfl, ?_, fun q a b c => (hF2 q a b c).trans (hF1 q a b c)⟩ dX5_sideOf_75
  rcases hk with rfl | rfl
  · rw [if_pos rfl]; exact sd_lo hH1N hm1 hx
  · rw [if_neg (by decide)]; exact sd_hi hH1N hm1 hx
