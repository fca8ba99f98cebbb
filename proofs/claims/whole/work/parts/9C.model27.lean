theorem sm_z0 {f : Nat → Int} {n : Nat} : ∀ {m : Nat}, n ≤ m → (∀ k, n ≤ k → k < m → f k = 0) → sm f m = sm f n
  | 0, h, _ => by rw [show n = 0 by omega]
  | m + 1, h, g => by
    by_cases e : n = m + 1
    · rw [e]
    · rw [sm_s, sm_z0 (m := m) (by omega) (fun k h1 h2 => g k h1 (by omega)), g m (by omega) (by omega)]; omega
theorem sm_split {f : Nat → Int} (w : Nat) : ∀ k, sm f (w + k) = sm f w + sm (fun v => f (v + w)) k
  | 0 => by show sm f w = sm f w + 0; omega
  | k + 1 => by rw [← Nat.add_assoc, sm_s, sm_split w k, sm_s, Nat.add_comm k w]; omega
theorem sm_shift {f g : Nat → Int} {w N : Nat} (hw : w ≤ N) (h0 : ∀ v, v < w → f v = 0) (h1 : ∀ v, v + w < N → f (v + w) = g v) (h2 : ∀ v, v < N → N ≤ v + w → g v = 0) : sm f N = sm g N := by
  have e : sm f N = sm f w + sm (fun v => f (v + w)) (N - w) := by
    have := sm_split (f := f) w (N - w)
    rw [show w + (N - w) = N by omega] at this
    exact this
  rw [e, sm_z h0, sm_z0 (f := g) (n := N - w) (m := N) (by omega) (fun k a b => h2 k b (by omega)), sm_cong (f := fun v => f (v + w)) (g := g) (n := N - w) (fun k hk => h1 k (by omega))]
  omega
theorem pcn_lt {x : Int64} {N : Nat} (hN : N ≤ 64) (h : ∀ k, tb x k = true → k < N) : pcn x = lcnt x N := by
  unfold pcn lcnt
  exact sm_z0 hN (fun k a _ => if_neg (fun q => by have := h k q; omega))
def opn (σ : Sg) (s : Int64) (x y : Int) : Int := if dIn σ x y ∧ tb s (nO σ x y) = true then 0 else 1
def edS (σ : Sg) (s : Int64) (v : Nat) : Int := if tb s v = true then opn σ s (((v % sw σ : Nat) : Int) - 1) ((v / sw σ : Nat) : Int) + opn σ s (((v % sw σ : Nat) : Int) + 1) ((v / sw σ : Nat) : Int) + opn σ s ((v % sw σ : Nat) : Int) (((v / sw σ : Nat) : Int) - 1) + opn σ s ((v % sw σ : Nat) : Int) (((v / sw σ : Nat) : Int) + 1) else 0
def nbF (s : Int64) (v : Nat) (p : Prop) [Decidable p] (u : Nat) : Int := if tb s v = true ∧ p ∧ tb s u = true then 1 else 0
theorem opn_at {σ : Sg} {s : Int64} {x y : Int} {v u : Nat} {p : Prop} [Decidable p] (hv : tb s v = true) (h : p → dIn σ x y ∧ nO σ x y = u) (h2 : dIn σ x y → p) : opn σ s x y = 1 - nbF s v p u := by
  unfold opn nbF
  by_cases c : p
  · obtain ⟨a, b⟩ := h c
    rw [b]
    by_cases c2 : tb s u = true
    · rw [if_pos ⟨a, c2⟩, if_pos ⟨hv, c, c2⟩]; rfl
    · rw [if_neg (fun q => c2 q.2), if_neg (fun q => c2 q.2.2)]; rfl
  · rw [if_neg (fun q => c (h2 q.1)), if_neg (fun q => c q.2.1)]; rfl
theorem edS_eq {σ : Sg} (h : scok σ) (s : Int64) {v : Nat} (hv : v < sdots σ) : edS σ s v = 4 * (if tb s v = true then (1 : Int) else 0) - (nbF s v (0 < v % sw σ) (v - 1) + nbF s v (v % sw σ + 1 < sw σ) (v + 1) + (nbF s v (sw σ ≤ v) (v - sw σ) + nbF s v (v + sw σ < sdots σ) (v + sw σ))) := by
  obtain ⟨h1, h2, h3⟩ := dot_xy h hv
  have hW := sw_eq h
  have hH := sh_eq h
  have hM := sdots_mul h
  by_cases c : tb s v = true
  · unfold edS
    rw [if_pos c, if_pos c]
    generalize hx : v % sw σ = x at *
    generalize hy : v / sw σ = y at *
    have e1 : sw σ * (y + 1) = sw σ * y + sw σ := Nat.mul_succ _ _
    have hlt : v + sw σ < sdots σ ↔ y + 1 < sh σ := by
      constructor
      · intro q
        by_cases c : y + 1 < sh σ
        · exact c
        · have := Nat.mul_le_mul_left (sw σ) (show sh σ ≤ y + 1 by omega)
          omega
      · intro q
        have e2 : sw σ * (y + 2) = sw σ * y + sw σ + sw σ := by rw [show y + 2 = (y + 1) + 1 from rfl, Nat.mul_succ, Nat.mul_succ]
        have := Nat.mul_le_mul_left (sw σ) (show y + 2 ≤ sh σ by omega)
        omega
    have hge : sw σ ≤ v ↔ 1 ≤ y := by
      constructor
      · intro q
        have : y ≠ 0 := fun e => by subst e; rw [Nat.mul_zero] at h3; omega
        omega
      · intro q
        have := Nat.mul_le_mul_left (sw σ) q
        omega
    have hxy := sw_num h x y
    rw [h3] at hxy
    have hm : σ 0 * ((y : Int) + 1) = σ 0 * (y : Int) + σ 0 := by rw [Int.mul_add, Int.mul_one]
    have hm2 : σ 0 * ((y : Int) - 1) = σ 0 * (y : Int) - σ 0 := by rw [Int.mul_sub, Int.mul_one]
    rw [opn_at (v := v) (u := v - 1) (p := 0 < x) c (fun q => ⟨by unfold dIn; omega, by unfold nO; omega⟩) (fun q => by unfold dIn at q; omega),
      opn_at (v := v) (u := v + 1) (p := x + 1 < sw σ) c (fun q => ⟨by unfold dIn; omega, by unfold nO; omega⟩) (fun q => by unfold dIn at q; omega),
      opn_at (v := v) (u := v - sw σ) (p := sw σ ≤ v) c (fun q => ⟨by unfold dIn; omega, by unfold nO; rw [hm2]; omega⟩) (fun q => by unfold dIn at q; omega),
      opn_at (v := v) (u := v + sw σ) (p := v + sw σ < sdots σ) c (fun q => ⟨by unfold dIn; omega, by unfold nO; rw [hm]; omega⟩) (fun q => by unfold dIn at q; omega)]
    omega
  · unfold edS nbF
    rw [if_neg c, if_neg c, if_neg (fun q => c q.1), if_neg (fun q => c q.1), if_neg (fun q => c q.1), if_neg (fun q => c q.1)]
    rfl
theorem edV_eq {σ : Sg} (h : scok σ) {s : Int64} (hs : ∀ k, tb s k = true → k < sdots σ) : sm (edS σ s) (sdots σ) = edV σ s := by
  have hW := sw_eq h
  have hN := sdots_le h
  have hM := sdots_mul h
  have hH := sh_eq h
  have hwN : sw σ ≤ sdots σ := by
    rw [hM]
    exact Nat.le_mul_of_pos_right _ (by omega)
  have r1 : sm (fun v => nbF s v (0 < v % sw σ) (v - 1)) (sdots σ) = sm (fun v => nbF s v (v % sw σ + 1 < sw σ) (v + 1)) (sdots σ) := by
    refine sm_shift (w := 1) (by omega) (fun v hv => ?_) (fun v hv => ?_) (fun v hv hv2 => ?_)
    · obtain rfl : v = 0 := by omega
      exact if_neg (fun q => by have := q.2.1; rw [Nat.zero_mod] at this; omega)
    · show nbF s (v + 1) (0 < (v + 1) % sw σ) (v + 1 - 1) = nbF s v (v % sw σ + 1 < sw σ) (v + 1)
      have hms := (mod_s (v := v) hW.2.1 hW.2.2).1
      unfold nbF
      rw [Nat.add_sub_cancel]
      by_cases c : tb s v = true ∧ v % sw σ + 1 < sw σ ∧ tb s (v + 1) = true
      · rw [if_pos c, if_pos ⟨c.2.2, by have := hms.mpr c.2.1; omega, c.1⟩]
      · rw [if_neg c, if_neg (fun q => c ⟨q.2.2, hms.mp (by have := q.2.1; omega), q.1⟩)]
    · exact if_neg (fun q => by have := hs _ q.2.2; omega)
  have r2 : sm (fun v => nbF s v (sw σ ≤ v) (v - sw σ)) (sdots σ) = sm (fun v => nbF s v (v + sw σ < sdots σ) (v + sw σ)) (sdots σ) := by
    refine sm_shift (w := sw σ) hwN (fun v hv => ?_) (fun v hv => ?_) (fun v hv hv2 => ?_)
    · exact if_neg (fun q => by have := q.2.1; omega)
    · show nbF s (v + sw σ) (sw σ ≤ v + sw σ) (v + sw σ - sw σ) = nbF s v (v + sw σ < sdots σ) (v + sw σ)
      unfold nbF
      rw [Nat.add_sub_cancel]
      by_cases c : tb s v = true ∧ v + sw σ < sdots σ ∧ tb s (v + sw σ) = true
      · rw [if_pos c, if_pos ⟨c.2.2, by omega, c.1⟩]
      · rw [if_neg c, if_neg (fun q => c ⟨q.2.2, hv, q.1⟩)]
    · exact if_neg (fun q => by have := q.2.1; omega)
  have p1 : pcn (s &&& (colS σ (sw σ - 1) ^^^ (-1)) &&& shrI s 1) = sm (fun v => nbF s v (v % sw σ + 1 < sw σ) (v + 1)) (sdots σ) := by
    have hb : ∀ k, tb (s &&& (colS σ (sw σ - 1) ^^^ (-1)) &&& shrI s 1) k = true ↔ tb s k = true ∧ k % sw σ + 1 < sw σ ∧ tb s (k + 1) = true := fun k => by
      have q := tb_ushr s (n := 1) (by decide) k
      rw [tb_and, Bool.and_eq_true, tb_and, Bool.and_eq_true]
      unfold shrI
      rw [show zI 1 = zI ((1 : Nat) : Int) from rfl, q, Nat.add_comm 1 k]
      have hml : k % sw σ < sw σ := Nat.mod_lt _ (by omega)
      constructor
      · rintro ⟨⟨a1, a2⟩, a3⟩
        rw [tb_not _ (tb_lt a1), bnot, colS_tb h (by omega)] at a2
        refine ⟨a1, ?_, a3⟩
        by_cases c : k % sw σ = sw σ - 1
        · exact absurd ⟨hs _ a1, c⟩ a2
        · omega
      · rintro ⟨a1, a2, a3⟩
        refine ⟨⟨a1, ?_⟩, a3⟩
        rw [tb_not _ (tb_lt a1), bnot, colS_tb h (by omega)]
        rintro ⟨-, z⟩
        omega
    rw [pcn_lt (N := sdots σ) (by omega) (fun k hk => hs k ((hb k).mp hk).1)]
    refine sm_cong (fun k _ => ?_)
    unfold nbF
    by_cases c : tb s k = true ∧ k % sw σ + 1 < sw σ ∧ tb s (k + 1) = true
    · rw [if_pos c, if_pos ((hb k).mpr c)]
    · rw [if_neg c, if_neg (fun q => c ((hb k).mp q))]
  have p2 : pcn (s &&& shrI s (σ 0)) = sm (fun v => nbF s v (v + sw σ < sdots σ) (v + sw σ)) (sdots σ) := by
    have hb : ∀ k, tb (s &&& shrI s (σ 0)) k = true ↔ tb s k = true ∧ k + sw σ < sdots σ ∧ tb s (k + sw σ) = true := fun k => by
      rw [tb_and, Bool.and_eq_true]
      unfold shrI
      rw [← hW.1, tb_ushr s (by omega) k, Nat.add_comm]
      exact ⟨fun q => ⟨q.1, hs _ q.2, q.2⟩, fun q => ⟨q.1, q.2.2⟩⟩
    rw [pcn_lt (N := sdots σ) (by omega) (fun k hk => hs k ((hb k).mp hk).1)]
    refine sm_cong (fun k _ => ?_)
    unfold nbF
    by_cases c : tb s k = true ∧ k + sw σ < sdots σ ∧ tb s (k + sw σ) = true
    · rw [if_pos c, if_pos ((hb k).mpr c)]
    · rw [if_neg c, if_neg (fun q => c ((hb k).mp q))]
  unfold edV
  rw [p1, p2, pcn_lt (N := sdots σ) (by omega) hs]
  have e : sm (edS σ s) (sdots σ) + sm (fun v => (nbF s v (0 < v % sw σ) (v - 1) + nbF s v (v % sw σ + 1 < sw σ) (v + 1)) + (nbF s v (sw σ ≤ v) (v - sw σ) + nbF s v (v + sw σ < sdots σ) (v + sw σ))) (sdots σ) = 4 * lcnt s (sdots σ) := by
    rw [← sm_add]
    unfold lcnt
    rw [← sm_mul]
    refine sm_cong (fun k hk => ?_)
    show edS σ s k + _ = 4 * (if tb s k = true then (1 : Int) else 0)
    rw [edS_eq h s hk]
    omega
  rw [sm_add, sm_add, sm_add, r1, r2] at e
  omega
set_option maxHeartbeats 4000000 in
set_option maxRecDepth 100000 in
theorem L_X5_many_5 {E : zE} {w : zP} {l : Launch} {Post : Option Value → Mem → Prop} (hw : zOK w) (hC : zC E w l RX5 wsX5_many cX5_many 5 1 22 (some .int) Post) (Ω : Mem) (σ : Sg) (hσ : scM Ω = σ) (hv : scok σ) (x : Int64) (K : X E Ω 37 [some (.ref (wa w 49)), some (.long x), none, some (.int (zI (lcnt x (sdots σ)))), some (.int (zI (sdots σ : Int)))] []) : ∀ (n : Nat) (k : Nat), sdots σ < k + n → (k ≤ sdots σ) → X E Ω 5 [some (.ref (wa w 49)), some (.long x), none, some (.int (zI (lcnt x k))), some (.int (zI (k : Int)))] [] := by
  intro n
  induction n with
  | zero =>
    intro k hfu hk
    exact absurd hfu (by omega)
  | succ n ih =>
    intro k hfu hk
    have hN := sdots_le hv
    have q0 : gt Ω 50 0 * gt Ω 50 1 = (sdots σ : Int) := by rw [st_at hσ (by decide), st_at hσ (by decide)]; exact hN.2.2.symm
    refine z_iload (pc := 5) hC (i := 4) dX5_many_5 rfl ?_
    refine z_aload_n (pc := 7) hC (i := 0) dX5_many_7 rfl rfl ?_
    refine z_callV (n := 0) (T := TX5) (N := 15) (ci := 5) (pc := 8) hC (c_X5_dots l w hw _) gX5_many_X5_dots rfl (by decide +kernel) (by decide) (by decide) rfl (by decide) (fun _ => rfl) rfl rfl (Nat.le_of_ble_eq_true rfl) dX5_many_8 (zi_k fun r8 Ω8 h8 => ?_)
    obtain ⟨rfl, hM8⟩ := h8
    obtain rfl := hM8.symm
    rw [q0]
    refine z_icmp_ge (pc := 11) hC 37 (by first | assumption | exact zb_gt _ _ _ | exact zcmp_zb _ _ | exact bI_zb _ | exact ⟨by omega, by omega⟩) (by first | assumption | exact zb_gt _ _ _ | exact zcmp_zb _ _ | exact bI_zb _ | exact ⟨by omega, by omega⟩) dX5_many_11 rfl (fun h11 => ?_) (fun h11 => ?_)
    · obtain rfl : k = sdots σ := by omega
      exact K
    · refine z_iload_n (pc := 14) hC (i := 3) dX5_many_14 rfl rfl ?_
      refine z_lload_n (pc := 15) hC (i := 1) dX5_many_15 rfl rfl ?_
      refine z_iload (pc := 16) hC (i := 4) dX5_many_16 rfl ?_
      refine z_callS (n := 2) (pc := 18) hC (c_X5_isIn l w hw _ x k (by omega)) gX5_many_X5_isIn rfl (by decide +kernel) (by decide) (by decide) rfl rfl (Nat.le_of_ble_eq_true rfl) dX5_many_18 (zb_k fun r18 Ω18 h18 => ?_)
      obtain ⟨rfl, hM18⟩ := h18
      obtain rfl := hM18.symm
      refine z_ifd_eq (pc := 21) hC 28 dX5_many_21 rfl (fun h21 => ?_) (fun h21 => ?_)
      · refine z_iconst (pc := 28) hC dX5_many_28 ?_
        refine z_iadd (pc := 29) hC dX5_many_29 ?_
        refine z_istore_n (pc := 30) hC (i := 3) dX5_many_30 rfl (by decide) rfl (zS_s (zS_s (zS_s zS_0))) ?_
        refine z_iinc (pc := 31) hC (i := 4) dX5_many_31 rfl (by decide) rfl (zS_s (zS_s (zS_s (zS_s zS_0)))) ?_
        refine z_goto (pc := 34) hC 5 dX5_many_34 rfl ?_
        have hh := ih (k + 1) (by omega) (by omega)
        rw [show lcnt x (k + 1) = lcnt x k + 0 by unfold lcnt; rw [sm_s, if_neg h21]] at hh
        exact hh
      · refine z_iconst (pc := 24) hC dX5_many_24 ?_
        refine z_goto (pc := 25) hC 29 dX5_many_25 rfl ?_
        refine z_iadd (pc := 29) hC dX5_many_29 ?_
        refine z_istore_n (pc := 30) hC (i := 3) dX5_many_30 rfl (by decide) rfl (zS_s (zS_s (zS_s zS_0))) ?_
        refine z_iinc (pc := 31) hC (i := 4) dX5_many_31 rfl (by decide) rfl (zS_s (zS_s (zS_s (zS_s zS_0)))) ?_
        refine z_goto (pc := 34) hC 5 dX5_many_34 rfl ?_
        have hh := ih (k + 1) (by omega) (by omega)
        rw [show lcnt x (k + 1) = lcnt x k + 1 by unfold lcnt; rw [sm_s, if_pos h21]] at hh
        exact hh
set_option maxHeartbeats 4000000 in
set_option maxRecDepth 100000 in
theorem c_X5_many (l : Launch) (w : zP) (hw : zOK w) (Ω : Mem) (σ : Sg) (hσ : scM Ω = σ) (hv : scok σ) (x : Int64) : zM l w yX5_many wsX5_many 1 22 [.ref (wa w 49), .long x] Ω (zi (fun r Ω1 => r = lcnt x (sdots σ) ∧ Ω1 = Ω)) := by
  refine zM_of cX5_many 5 (some .int) RX5 [some (.ref (wa w 49)), some (.long x), none, none, none] hw (by decide +kernel) rfl rfl (Nat.le_of_ble_eq_true rfl) rfl (fun E hC => ?_)
  have hN := sdots_le hv
  refine z_iconst (pc := 0) hC dX5_many_0 ?_
  refine z_istore_n (pc := 1) hC (i := 3) dX5_many_1 rfl (by decide) rfl (zS_s (zS_s (zS_s zS_0))) ?_
  refine z_iconst (pc := 2) hC dX5_many_2 ?_
  refine z_istore (pc := 3) hC (i := 4) dX5_many_3 (by decide) rfl (zS_s (zS_s (zS_s (zS_s zS_0)))) ?_
  refine L_X5_many_5 hw hC Ω σ hσ hv x ?_ (sdots σ + 1) 0 (by omega) (by omega)
  refine z_iload_n (pc := 37) hC (i := 3) dX5_many_37 rfl rfl ?_
  exact z_iret (pc := 38) hC rfl ⟨_, rfl, rfl, rfl⟩ dX5_many_38
set_option maxHeartbeats 4000000 in
set_option maxRecDepth 100000 in
theorem c_X5_isOpenAt (l : Launch) (w : zP) (hw : zOK w) (Ω : Mem) (σ : Sg) (hσ : scM Ω = σ) (hv : scok σ) (x : Int64) (a b : Int) (ha : zb a) (hb : zb b) : zM l w yX5_isOpenAt wsX5_isOpenAt 2 44 [.ref (wa w 49), .long x, .int (zI a), .int (zI b)] Ω (zi (fun r Ω1 => r = opn σ x a b ∧ Ω1 = Ω)) := by
  refine zM_of cX5_isOpenAt 5 (some .int) RX5 [some (.ref (wa w 49)), some (.long x), none, some (.int (zI a)), some (.int (zI b))] hw (by decide +kernel) rfl rfl (Nat.le_of_ble_eq_true rfl) rfl (fun E hC => ?_)
  have z0 : gt Ω 50 0 = σ 0 := st_at hσ (by decide)
  have z1 : gt Ω 50 1 = σ 1 := st_at hσ (by decide)
  have hN := sdots_le hv
  have hw01 := hv.1
  have hh01 := hv.2.1
  refine z_aload_n (pc := 0) hC (i := 0) dX5_isOpenAt_0 rfl rfl ?_
  refine z_iload_n (pc := 1) hC (i := 3) dX5_isOpenAt_1 rfl rfl ?_
  refine z_iload (pc := 2) hC (i := 4) dX5_isOpenAt_2 rfl ?_
  refine z_callV (n := 2) (T := TX5) (N := 15) (ci := 5) (pc := 4) hC (c_X5_isDot l w hw _ _ _ (by assumption) (by assumption) (by omega) (by omega)) gX5_isOpenAt_X5_isDot rfl (by decide +kernel) (by decide) (by decide) rfl (by decide) (fun _ => rfl) rfl rfl (Nat.le_of_ble_eq_true rfl) dX5_isOpenAt_4 (zb_k fun r4 Ω4 h4 => ?_)
  obtain ⟨rfl, hM4⟩ := h4
  obtain rfl := hM4.symm
  refine z_ifd_eq (pc := 7) hC 28 dX5_isOpenAt_7 rfl (fun h7 => ?_) (fun h7 => ?_)
  · refine z_iconst (pc := 28) hC dX5_isOpenAt_28 ?_
    exact z_iret (pc := 29) hC rfl ⟨_, rfl, ⟨(if_neg (fun q => by have := q.1; unfold dIn at this; omega)).symm, rfl⟩⟩ dX5_isOpenAt_29
  · refine z_lload_n (pc := 10) hC (i := 1) dX5_isOpenAt_10 rfl rfl ?_
    refine z_aload_n (pc := 11) hC (i := 0) dX5_isOpenAt_11 rfl rfl ?_
    refine z_iload_n (pc := 12) hC (i := 3) dX5_isOpenAt_12 rfl rfl ?_
    refine z_iload (pc := 13) hC (i := 4) dX5_isOpenAt_13 rfl ?_
    refine z_callV (n := 2) (T := TX5) (N := 15) (ci := 5) (pc := 15) hC (c_X5_numberOf l w hw _ _ _) gX5_isOpenAt_X5_numberOf rfl (by decide +kernel) (by decide) (by decide) rfl (by decide) (fun _ => rfl) rfl rfl (Nat.le_of_ble_eq_true rfl) dX5_isOpenAt_15 (zi_k fun r15 Ω15 h15 => ?_)
    obtain ⟨hr15, hm15⟩ := h15
    have hm15 := hm15.symm
    subst hm15
    obtain ⟨hn1, hn2⟩ := nO_lt hv (x := a) (y := b) (by unfold dIn; omega)
    rw [z0, hn1] at hr15
    subst hr15
    refine z_callS (n := 2) (pc := 18) hC (c_X5_isIn l w hw _ x (nO σ a b) (by omega)) gX5_isOpenAt_X5_isIn rfl (by decide +kernel) (by decide) (by decide) rfl rfl (Nat.le_of_ble_eq_true rfl) dX5_isOpenAt_18 (zb_k fun r18 Ω18 h18 => ?_)
    obtain ⟨rfl, hM18⟩ := h18
    obtain rfl := hM18.symm
    refine z_ifd_eq (pc := 21) hC 28 dX5_isOpenAt_21 rfl (fun h21 => ?_) (fun h21 => ?_)
    · refine z_iconst (pc := 28) hC dX5_isOpenAt_28 ?_
      exact z_iret (pc := 29) hC rfl ⟨_, rfl, ⟨(if_neg (fun q => h21 q.2)).symm, rfl⟩⟩ dX5_isOpenAt_29
    · refine z_iconst (pc := 24) hC dX5_isOpenAt_24 ?_
      refine z_goto (pc := 25) hC 29 dX5_isOpenAt_25 rfl ?_
      exact z_iret (pc := 29) hC rfl ⟨_, rfl, ⟨(if_pos ⟨by unfold dIn; omega, h21⟩).symm, rfl⟩⟩ dX5_isOpenAt_29
theorem fl_X5_edges_7 : Cond.fieldLink RX5 7 "StrokeCutsModel" "st" "[I" ∈ wsX5_edges := by decide +kernel
theorem in_X5_edges_X5 : ∀ x ∈ u_ws RX5 TX5 15, x ∈ wsX5_edges := by decide +kernel
set_option maxHeartbeats 4000000 in
set_option maxRecDepth 100000 in
theorem L_X5_edges_5 {E : zE} {w : zP} {l : Launch} {Post : Option Value → Mem → Prop} (hw : zOK w) (hC : zC E w l RX5 wsX5_edges cX5_edges 7 3 68 (some .int) Post) (Ω : Mem) (σ : Sg) (hσ : scM Ω = σ) (hv : scok σ) (x : Int64) (K : ∀ o5 o6 : Option Value, X E Ω 101 [some (.ref (wa w 49)), some (.long x), none, some (.int (zI (sm (edS σ x) (sdots σ)))), some (.int (zI (sdots σ : Int))), o5, o6] []) : ∀ (n : Nat) (k : Nat) (o5 : Option Value) (o6 : Option Value), sdots σ < k + n → (k ≤ sdots σ) → X E Ω 5 [some (.ref (wa w 49)), some (.long x), none, some (.int (zI (sm (edS σ x) k))), some (.int (zI (k : Int))), o5, o6] [] := by
  intro n
  induction n with
  | zero =>
    intro k o5 o6 hfu hk
    exact absurd hfu (by omega)
  | succ n ih =>
    intro k o5 o6 hfu hk
    have hN := sdots_le hv
    have q0 : gt Ω 50 0 * gt Ω 50 1 = (sdots σ : Int) := by rw [st_at hσ (by decide), st_at hσ (by decide)]; exact hN.2.2.symm
    have z0 : gt Ω 50 0 = σ 0 := st_at hσ (by decide)
    have z1 : gt Ω 50 1 = σ 1 := st_at hσ (by decide)
    have hW := sw_eq hv
    have hH := sh_eq hv
    have hq1 : (0 : Int) ≤ ((k % sw σ : Nat) : Int) := Int.natCast_nonneg _
    have hq2 : (0 : Int) ≤ ((k / sw σ : Nat) : Int) := Int.natCast_nonneg _
    have hq3 : k % sw σ ≤ k := Nat.mod_le _ _
    have hq4 : k / sw σ ≤ k := Nat.div_le_self _ _
    refine z_iload (pc := 5) hC (i := 4) dX5_edges_5 rfl ?_
    refine z_aload_n (pc := 7) hC (i := 0) dX5_edges_7 rfl rfl ?_
    refine z_callV (n := 0) (T := TX5) (N := 15) (ci := 5) (pc := 8) hC (c_X5_dots l w hw _) gX5_edges_X5_dots rfl (by decide +kernel) (by decide) (by decide) rfl (by decide) (fun _ => rfl) rfl rfl (Nat.le_of_ble_eq_true rfl) dX5_edges_8 (zi_k fun r8 Ω8 h8 => ?_)
    obtain ⟨rfl, hM8⟩ := h8
    obtain rfl := hM8.symm
    rw [q0]
    refine z_icmp_ge (pc := 11) hC 101 (by first | assumption | exact zb_gt _ _ _ | exact zcmp_zb _ _ | exact bI_zb _ | exact ⟨by omega, by omega⟩) (by first | assumption | exact zb_gt _ _ _ | exact zcmp_zb _ _ | exact bI_zb _ | exact ⟨by omega, by omega⟩) dX5_edges_11 rfl (fun h11 => ?_) (fun h11 => ?_)
    · obtain rfl : k = sdots σ := by omega
      exact K _ _
    · refine z_iload (pc := 14) hC (i := 4) dX5_edges_14 rfl ?_
      refine z_aload_n (pc := 16) hC (i := 0) dX5_edges_16 rfl rfl ?_
      refine z_getR (C := RX5) (T := TX5) (N := 15) (ci := 5) (pc := 17) hC _ _ 0 in_X5_edges_X5 rfl (by decide) (fun _ => rfl) (by decide) fl_X5_edges_7 (fun _ => rfl) dX5_edges_17 ?_
      refine z_iconst (pc := 20) hC dX5_edges_20 ?_
      refine z_ialk (pc := 21) hC _ 0 (by decide) (fun _ => rfl) rfl (by decide) (by decide) dX5_edges_21 ?_
      refine z_irem (pc := 22) hC ⟨by omega, by omega⟩ (zb_gt _ _ _) (by omega) dX5_edges_22 ?_
      rw [z0, Int.tmod_eq_emod_of_nonneg (by omega), ← hW.1, ← Int.natCast_emod]
      refine z_istore (pc := 23) hC (i := 5) dX5_edges_23 (by decide) rfl (zS_s (zS_s (zS_s (zS_s (zS_s zS_0))))) ?_
      refine z_iload (pc := 25) hC (i := 4) dX5_edges_25 rfl ?_
      refine z_aload_n (pc := 27) hC (i := 0) dX5_edges_27 rfl rfl ?_
      refine z_getR (C := RX5) (T := TX5) (N := 15) (ci := 5) (pc := 28) hC _ _ 0 in_X5_edges_X5 rfl (by decide) (fun _ => rfl) (by decide) fl_X5_edges_7 (fun _ => rfl) dX5_edges_28 ?_
      refine z_iconst (pc := 31) hC dX5_edges_31 ?_
      refine z_ialk (pc := 32) hC _ 0 (by decide) (fun _ => rfl) rfl (by decide) (by decide) dX5_edges_32 ?_
      refine z_idiv (pc := 33) hC ⟨by omega, by omega⟩ (zb_gt _ _ _) (by omega) dX5_edges_33 ?_
      rw [z0, Int.tdiv_eq_ediv_of_nonneg (by omega), ← hW.1, ← Int.natCast_ediv]
      refine z_istore (pc := 34) hC (i := 6) dX5_edges_34 (by decide) rfl (zS_s (zS_s (zS_s (zS_s (zS_s (zS_s zS_0)))))) ?_
      refine z_lload_n (pc := 36) hC (i := 1) dX5_edges_36 rfl rfl ?_
      refine z_iload (pc := 37) hC (i := 4) dX5_edges_37 rfl ?_
      refine z_callS (n := 2) (pc := 39) hC (c_X5_isIn l w hw _ x k (by omega)) gX5_edges_X5_isIn rfl (by decide +kernel) (by decide) (by decide) rfl rfl (Nat.le_of_ble_eq_true rfl) dX5_edges_39 (zb_k fun r39 Ω39 h39 => ?_)
      obtain ⟨rfl, hM39⟩ := h39
      obtain rfl := hM39.symm
      refine z_ifd_eq (pc := 42) hC 95 dX5_edges_42 rfl (fun h42 => ?_) (fun h42 => ?_)
      · refine z_iinc (pc := 95) hC (i := 4) dX5_edges_95 rfl (by decide) rfl (zS_s (zS_s (zS_s (zS_s zS_0)))) ?_
        refine z_goto (pc := 98) hC 5 dX5_edges_98 rfl ?_
        have hh := ih (k + 1) (some (.int (zI ((k % sw σ : Nat) : Int)))) (some (.int (zI ((k / sw σ : Nat) : Int)))) (by omega) (by omega)
        rw [show sm (edS σ x) (k + 1) = sm (edS σ x) k by rw [sm_s]; unfold edS; rw [if_neg h42]; omega] at hh
        exact hh
      · refine z_iload_n (pc := 45) hC (i := 3) dX5_edges_45 rfl rfl ?_
        refine z_aload_n (pc := 46) hC (i := 0) dX5_edges_46 rfl rfl ?_
        refine z_lload_n (pc := 47) hC (i := 1) dX5_edges_47 rfl rfl ?_
        refine z_iload (pc := 48) hC (i := 5) dX5_edges_48 rfl ?_
        refine z_iconst (pc := 50) hC dX5_edges_50 ?_
        refine z_isub (pc := 51) hC dX5_edges_51 ?_
        refine z_iload (pc := 52) hC (i := 6) dX5_edges_52 rfl ?_
        refine z_callV (n := 3) (T := TX5) (N := 15) (ci := 5) (pc := 54) hC (c_X5_isOpenAt l w hw _ σ hσ hv x _ _ ⟨by omega, by omega⟩ ⟨by omega, by omega⟩) gX5_edges_X5_isOpenAt rfl (by decide +kernel) (by decide) (by decide) rfl (by decide) (fun _ => rfl) rfl rfl (Nat.le_of_ble_eq_true rfl) dX5_edges_54 (zi_k fun r54 Ω54 h54 => ?_)
        obtain ⟨rfl, hM54⟩ := h54
        obtain rfl := hM54.symm
        refine z_aload_n (pc := 57) hC (i := 0) dX5_edges_57 rfl rfl ?_
        refine z_lload_n (pc := 58) hC (i := 1) dX5_edges_58 rfl rfl ?_
        refine z_iload (pc := 59) hC (i := 5) dX5_edges_59 rfl ?_
        refine z_iconst (pc := 61) hC dX5_edges_61 ?_
        refine z_iadd (pc := 62) hC dX5_edges_62 ?_
        refine z_iload (pc := 63) hC (i := 6) dX5_edges_63 rfl ?_
        refine z_callV (n := 3) (T := TX5) (N := 15) (ci := 5) (pc := 65) hC (c_X5_isOpenAt l w hw _ σ hσ hv x _ _ ⟨by omega, by omega⟩ ⟨by omega, by omega⟩) gX5_edges_X5_isOpenAt rfl (by decide +kernel) (by decide) (by decide) rfl (by decide) (fun _ => rfl) rfl rfl (Nat.le_of_ble_eq_true rfl) dX5_edges_65 (zi_k fun r65 Ω65 h65 => ?_)
        obtain ⟨rfl, hM65⟩ := h65
        obtain rfl := hM65.symm
        refine z_iadd (pc := 68) hC dX5_edges_68 ?_
        refine z_aload_n (pc := 69) hC (i := 0) dX5_edges_69 rfl rfl ?_
        refine z_lload_n (pc := 70) hC (i := 1) dX5_edges_70 rfl rfl ?_
        refine z_iload (pc := 71) hC (i := 5) dX5_edges_71 rfl ?_
        refine z_iload (pc := 73) hC (i := 6) dX5_edges_73 rfl ?_
        refine z_iconst (pc := 75) hC dX5_edges_75 ?_
        refine z_isub (pc := 76) hC dX5_edges_76 ?_
        refine z_callV (n := 3) (T := TX5) (N := 15) (ci := 5) (pc := 77) hC (c_X5_isOpenAt l w hw _ σ hσ hv x _ _ ⟨by omega, by omega⟩ ⟨by omega, by omega⟩) gX5_edges_X5_isOpenAt rfl (by decide +kernel) (by decide) (by decide) rfl (by decide) (fun _ => rfl) rfl rfl (Nat.le_of_ble_eq_true rfl) dX5_edges_77 (zi_k fun r77 Ω77 h77 => ?_)
        obtain ⟨rfl, hM77⟩ := h77
        obtain rfl := hM77.symm
        refine z_iadd (pc := 80) hC dX5_edges_80 ?_
        refine z_aload_n (pc := 81) hC (i := 0) dX5_edges_81 rfl rfl ?_
        refine z_lload_n (pc := 82) hC (i := 1) dX5_edges_82 rfl rfl ?_
        refine z_iload (pc := 83) hC (i := 5) dX5_edges_83 rfl ?_
        refine z_iload (pc := 85) hC (i := 6) dX5_edges_85 rfl ?_
        refine z_iconst (pc := 87) hC dX5_edges_87 ?_
        refine z_iadd (pc := 88) hC dX5_edges_88 ?_
        refine z_callV (n := 3) (T := TX5) (N := 15) (ci := 5) (pc := 89) hC (c_X5_isOpenAt l w hw _ σ hσ hv x _ _ ⟨by omega, by omega⟩ ⟨by omega, by omega⟩) gX5_edges_X5_isOpenAt rfl (by decide +kernel) (by decide) (by decide) rfl (by decide) (fun _ => rfl) rfl rfl (Nat.le_of_ble_eq_true rfl) dX5_edges_89 (zi_k fun r89 Ω89 h89 => ?_)
        obtain ⟨rfl, hM89⟩ := h89
        obtain rfl := hM89.symm
        refine z_iadd (pc := 92) hC dX5_edges_92 ?_
        refine z_iadd (pc := 93) hC dX5_edges_93 ?_
        refine z_istore_n (pc := 94) hC (i := 3) dX5_edges_94 rfl (by decide) rfl (zS_s (zS_s (zS_s zS_0))) ?_
        refine z_iinc (pc := 95) hC (i := 4) dX5_edges_95 rfl (by decide) rfl (zS_s (zS_s (zS_s (zS_s zS_0)))) ?_
        refine z_goto (pc := 98) hC 5 dX5_edges_98 rfl ?_
        have hh := ih (k + 1) (some (.int (zI ((k % sw σ : Nat) : Int)))) (some (.int (zI ((k / sw σ : Nat) : Int)))) (by omega) (by omega)
        rw [sm_s, show edS σ x k = _ from if_pos h42] at hh
        exact hh
set_option maxHeartbeats 4000000 in
set_option maxRecDepth 100000 in
theorem c_X5_edges (l : Launch) (w : zP) (hw : zOK w) (Ω : Mem) (σ : Sg) (hσ : scM Ω = σ) (hv : scok σ) (x : Int64) : zM l w yX5_edges wsX5_edges 3 68 [.ref (wa w 49), .long x] Ω (zi (fun r Ω1 => r = sm (edS σ x) (sdots σ) ∧ Ω1 = Ω)) := by
  refine zM_of cX5_edges 7 (some .int) RX5 [some (.ref (wa w 49)), some (.long x), none, none, none, none, none] hw (by decide +kernel) rfl rfl (Nat.le_of_ble_eq_true rfl) rfl (fun E hC => ?_)
  have hN := sdots_le hv
  refine z_iconst (pc := 0) hC dX5_edges_0 ?_
  refine z_istore_n (pc := 1) hC (i := 3) dX5_edges_1 rfl (by decide) rfl (zS_s (zS_s (zS_s zS_0))) ?_
  refine z_iconst (pc := 2) hC dX5_edges_2 ?_
  refine z_istore (pc := 3) hC (i := 4) dX5_edges_3 (by decide) rfl (zS_s (zS_s (zS_s (zS_s zS_0)))) ?_
  refine L_X5_edges_5 hw hC Ω σ hσ hv x (fun o5 o6 => ?_) (sdots σ + 1) 0 none none (by omega) (by omega)
  refine z_iload_n (pc := 101) hC (i := 3) dX5_edges_101 rfl rfl ?_
  exact z_iret (pc := 102) hC rfl ⟨_, rfl, rfl, rfl⟩ dX5_edges_102
