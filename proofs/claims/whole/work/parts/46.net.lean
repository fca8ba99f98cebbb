/-! ===== the network of a picture ===== -/
def lk (σ : Sg) (v d : Nat) : Int := sLk σ ((v % sw σ : Nat) : Int) ((v / sw σ : Nat) : Int) d
def bLk (σ : Sg) (x y : Int) (d : Nat) : Int := if 2 ≤ d ∧ σ 7 ≠ 8 then -1 else if 0 ≤ x - lkX d ∧ x - lkX d < σ 0 ∧ 0 ≤ y - lkY d ∧ y - lkY d < σ 1 then σ 0 * (y - lkY d) + (x - lkX d) else -1
def bk (σ : Sg) (v d : Nat) : Int := bLk σ ((v % sw σ : Nat) : Int) ((v / sw σ : Nat) : Int) d
theorem lkXY {d : Nat} (h : d < 4) : (lkX d = 1 ∧ lkY d = 0) ∨ (lkX d = 0 ∧ lkY d = 1) ∨ (lkX d = 1 ∧ lkY d = 1) ∨ (lkX d = -1 ∧ lkY d = 1) := by
  obtain rfl | rfl | rfl | rfl : d = 0 ∨ d = 1 ∨ d = 2 ∨ d = 3 := by omega
  · exact Or.inl ⟨rfl, rfl⟩
  · exact Or.inr (Or.inl ⟨rfl, rfl⟩)
  · exact Or.inr (Or.inr (Or.inl ⟨rfl, rfl⟩))
  · exact Or.inr (Or.inr (Or.inr ⟨rfl, rfl⟩))
theorem dot_xy {σ : Sg} (h : scok σ) {v : Nat} (hv : v < sdots σ) : v % sw σ < sw σ ∧ v / sw σ < sh σ ∧ sw σ * (v / sw σ) + v % sw σ = v := by
  have hW := sw_eq h
  rw [sdots_mul h] at hv
  exact ⟨Nat.mod_lt _ (by omega), Nat.div_lt_of_lt_mul hv, Nat.div_add_mod v (sw σ)⟩
theorem lk_inv {σ : Sg} (h : scok σ) {v d : Nat} (hv : v < sdots σ) (hd : d < 4) (hl : lk σ v d ≠ -1) : ∃ o : Nat, lk σ v d = o ∧ o < sdots σ ∧ bk σ o d = v ∧ o ≠ v := by
  obtain ⟨h1, h2, h3⟩ := dot_xy h hv
  have hW := sw_eq h
  have hH := sh_eq h
  generalize hx : v % sw σ = x at *
  generalize hy : v / sw σ = y at *
  have hc := lkXY hd
  unfold lk sLk at hl ⊢
  rw [hx, hy] at hl ⊢
  by_cases c : 2 ≤ d ∧ σ 7 ≠ 8
  · rw [if_pos c] at hl; exact absurd rfl hl
  · rw [if_neg c] at hl ⊢
    by_cases c2 : 0 ≤ (x : Int) + lkX d ∧ (x : Int) + lkX d < σ 0 ∧ 0 ≤ (y : Int) + lkY d ∧ (y : Int) + lkY d < σ 1
    · rw [if_pos c2]
      obtain ⟨X1, hX⟩ := nat_of c2.1
      obtain ⟨Y1, hY⟩ := nat_of c2.2.2.1
      have hX1 : X1 < sw σ := by omega
      have hY1 : Y1 < sh σ := by omega
      have hm := sw_mod (σ := σ) (y := Y1) hX1
      refine ⟨sw σ * Y1 + X1, by rw [hX, hY]; exact sw_num h X1 Y1, sw_lt h hX1 hY1, ?_, fun e => ?_⟩
      · unfold bk bLk
        rw [hm.1, hm.2, if_neg c, if_pos (by omega), ← h3, ← sw_num h x y, show (Y1 : Int) - lkY d = y by omega, show (X1 : Int) - lkX d = x by omega]
      · rw [e] at hm
        rw [hx] at hm
        rw [hy] at hm
        omega
    · rw [if_neg c2] at hl; exact absurd rfl hl
theorem bk_inv {σ : Sg} (h : scok σ) {v d : Nat} (hv : v < sdots σ) (hd : d < 4) (hl : bk σ v d ≠ -1) : ∃ o : Nat, bk σ v d = o ∧ o < sdots σ ∧ lk σ o d = v ∧ o ≠ v := by
  obtain ⟨h1, h2, h3⟩ := dot_xy h hv
  have hW := sw_eq h
  have hH := sh_eq h
  generalize hx : v % sw σ = x at *
  generalize hy : v / sw σ = y at *
  have hc := lkXY hd
  unfold bk bLk at hl ⊢
  rw [hx, hy] at hl ⊢
  by_cases c : 2 ≤ d ∧ σ 7 ≠ 8
  · rw [if_pos c] at hl; exact absurd rfl hl
  · rw [if_neg c] at hl ⊢
    by_cases c2 : 0 ≤ (x : Int) - lkX d ∧ (x : Int) - lkX d < σ 0 ∧ 0 ≤ (y : Int) - lkY d ∧ (y : Int) - lkY d < σ 1
    · rw [if_pos c2]
      obtain ⟨X1, hX⟩ := nat_of c2.1
      obtain ⟨Y1, hY⟩ := nat_of c2.2.2.1
      have hX1 : X1 < sw σ := by omega
      have hY1 : Y1 < sh σ := by omega
      have hm := sw_mod (σ := σ) (y := Y1) hX1
      refine ⟨sw σ * Y1 + X1, by rw [hX, hY]; exact sw_num h X1 Y1, sw_lt h hX1 hY1, ?_, fun e => ?_⟩
      · unfold lk sLk
        rw [hm.1, hm.2, if_neg c, if_pos (by omega), ← h3, ← sw_num h x y, show (Y1 : Int) + lkY d = y by omega, show (X1 : Int) + lkX d = x by omega]
      · rw [e] at hm
        rw [hx] at hm
        rw [hy] at hm
        omega
    · rw [if_neg c2] at hl; exact absurd rfl hl
/-- the neighbours after t links -/
def nbP (σ : Sg) (t e : Nat) : Int := if e % 8 < 4 then (if 4 * (e / 8) + e % 8 < t then lk σ (e / 8) (e % 8) else -1) else (if bk σ (e / 8) (e % 8 - 4) ≠ -1 ∧ 4 * (bk σ (e / 8) (e % 8 - 4)).toNat + (e % 8 - 4) < t then bk σ (e / 8) (e % 8 - 4) else -1)
def wF (σ : Sg) (e : Nat) : Int := if e % 8 < 4 then sWt σ (e / 8) (lk σ (e / 8) (e % 8)).toNat (e % 8) else sWt σ (bk σ (e / 8) (e % 8 - 4)).toNat (e / 8) (e % 8 - 4)
theorem nbP_0 (σ : Sg) (e : Nat) : nbP σ 0 e = -1 := by
  unfold nbP
  split
  · rw [if_neg (by omega)]
  · rw [if_neg (by omega)]
/-- a link that isn't there changes nothing -/
theorem nbP_no {σ : Sg} (h : scok σ) {v d : Nat} (hd : d < 4) (hl : lk σ v d = -1) {e : Nat} (he : e < 8 * sdots σ) : nbP σ (4 * v + d + 1) e = nbP σ (4 * v + d) e := by
  unfold nbP
  by_cases c : e % 8 < 4
  · rw [if_pos c, if_pos c]
    by_cases q : 4 * (e / 8) + e % 8 = 4 * v + d
    · have e1 : e / 8 = v := by omega
      have e2 : e % 8 = d := by omega
      rw [e1, e2, if_pos (by omega), if_neg (by omega), hl]
    · by_cases q2 : 4 * (e / 8) + e % 8 < 4 * v + d
      · rw [if_pos (by omega), if_pos q2]
      · rw [if_neg (by omega), if_neg q2]
  · rw [if_neg c, if_neg c]
    by_cases b : bk σ (e / 8) (e % 8 - 4) = -1
    · rw [if_neg (fun q => q.1 b), if_neg (fun q => q.1 b)]
    · obtain ⟨u, hu, hu2, hu3, -⟩ := bk_inv h (show e / 8 < sdots σ by omega) (show e % 8 - 4 < 4 by omega) b
      rw [hu, Int.toNat_natCast]
      by_cases q : 4 * u + (e % 8 - 4) = 4 * v + d
      · have e1 : u = v := by omega
        have e2 : e % 8 - 4 = d := by omega
        rw [e1, e2, hl] at hu3
        omega
      · by_cases q2 : 4 * u + (e % 8 - 4) < 4 * v + d
        · rw [if_pos ⟨by omega, by omega⟩, if_pos ⟨by omega, q2⟩]
        · rw [if_neg (by omega), if_neg (by omega)]
theorem nbP_yes {σ : Sg} (h : scok σ) {v d o : Nat} (hv : v < sdots σ) (hd : d < 4) (hl : lk σ v d = (o : Int)) {e : Nat} (he : e < 8 * sdots σ) : nbP σ (4 * v + d + 1) e = fup (fup (nbP σ (4 * v + d)) (v * 8 + d) o) (o * 8 + (d + 4)) v e := by
  obtain ⟨o1, g1, g2, g3, g4⟩ := lk_inv h hv hd (by omega)
  obtain rfl : o1 = o := by omega
  by_cases q1 : e = o1 * 8 + (d + 4)
  · rw [q1, fup_s]
    unfold nbP
    rw [show (o1 * 8 + (d + 4)) / 8 = o1 by omega, show (o1 * 8 + (d + 4)) % 8 = d + 4 by omega, if_neg (by omega), Nat.add_sub_cancel, g3, Int.toNat_natCast, if_pos ⟨by omega, by omega⟩]
  · rw [fup_n _ _ q1]
    by_cases q2 : e = v * 8 + d
    · rw [q2, fup_s]
      unfold nbP
      rw [show (v * 8 + d) / 8 = v by omega, show (v * 8 + d) % 8 = d by omega, if_pos hd, if_pos (by omega), hl]
    · rw [fup_n _ _ q2]
      unfold nbP
      by_cases c : e % 8 < 4
      · rw [if_pos c, if_pos c]
        by_cases q3 : 4 * (e / 8) + e % 8 < 4 * v + d
        · rw [if_pos (by omega), if_pos q3]
        · rw [if_neg (by omega), if_neg q3]
      · rw [if_neg c, if_neg c]
        by_cases b : bk σ (e / 8) (e % 8 - 4) = -1
        · rw [if_neg (fun q => q.1 b), if_neg (fun q => q.1 b)]
        · obtain ⟨u, hu, hu2, hu3, -⟩ := bk_inv h (show e / 8 < sdots σ by omega) (show e % 8 - 4 < 4 by omega) b
          rw [hu, Int.toNat_natCast]
          by_cases q3 : 4 * u + (e % 8 - 4) = 4 * v + d
          · have e1 : u = v := by omega
            have e2 : e % 8 - 4 = d := by omega
            rw [e1, e2, hl] at hu3
            omega
          · by_cases q4 : 4 * u + (e % 8 - 4) < 4 * v + d
            · rw [if_pos ⟨by omega, by omega⟩, if_pos ⟨by omega, q4⟩]
            · rw [if_neg (by omega), if_neg (by omega)]
theorem wF_yes {σ : Sg} (h : scok σ) {v d o : Nat} (hv : v < sdots σ) (hd : d < 4) (hl : lk σ v d = (o : Int)) : wF σ (v * 8 + d) = sWt σ v o d ∧ wF σ (o * 8 + (d + 4)) = sWt σ v o d := by
  obtain ⟨o1, g1, g2, g3, g4⟩ := lk_inv h hv hd (by omega)
  obtain rfl : o1 = o := by omega
  unfold wF
  rw [show (v * 8 + d) / 8 = v by omega, show (v * 8 + d) % 8 = d by omega, if_pos hd, hl, show (o1 * 8 + (d + 4)) / 8 = o1 by omega, show (o1 * 8 + (d + 4)) % 8 = d + 4 by omega, if_neg (by omega), Nat.add_sub_cancel, g3]
  exact ⟨rfl, rfl⟩
theorem sWt_b {σ : Sg} (h : scok σ) {a b : Nat} (d : Nat) (ha : a < 36) (hb : b < 36) : 1 ≤ sWt σ a b d ∧ sWt σ a b d ≤ 50 := by
  obtain ⟨-, -, h2, h3, -, -, -, -, h8, -⟩ := h
  have a1 := h8 a ha
  have a2 := h8 b hb
  have hz := zabs_le (a := σ (8 + a) - σ (8 + b)) (b := 9) (by omega) (by omega)
  have hm := mul_le2 h3.1 h3.2 hz.1 hz.2
  unfold sWt
  split <;> omega
theorem sPl_b {σ : Sg} (h : scok σ) {a t : Nat} (ha : a < 36) (ht : t = 3 ∨ t = 4) : 0 ≤ sPl σ a t ∧ sPl σ a t ≤ 81 := by
  obtain ⟨-, -, h2, h3, h4, h5, h6, -, h8, -⟩ := h
  have a1 := h8 a ha
  have a2 : 0 ≤ σ (2 + t) ∧ σ (2 + t) ≤ 9 := by rcases ht with rfl | rfl <;> assumption
  have hz := zabs_le (a := σ (8 + a) - σ (2 + t)) (b := 9) (by omega) (by omega)
  exact mul_le2 h4.1 h4.2 hz.1 hz.2
/-- the network as it is loaded -/
def netok (σ : Sg) (F G nb R : Nat → Int) : Prop :=
  (∀ v, v < sdots σ → F v = sPl σ v 4 + (if σ (44 + v) = 1 then 1000000 else 0)) ∧
  (∀ v, v < sdots σ → G v = sPl σ v 3 + (if σ (44 + v) = 2 then 1000000 else 0)) ∧
  (∀ e, e < 8 * sdots σ → nb e = nbP σ (4 * sdots σ) e) ∧
  (∀ e, e < 8 * sdots σ → 0 ≤ nb e → R e = wF σ e)
theorem nbP_at {σ : Sg} (h : scok σ) {e : Nat} (he : e < 8 * sdots σ) : nbP σ (4 * sdots σ) e = -1 ∨ (∃ o : Nat, nbP σ (4 * sdots σ) e = o ∧ o < sdots σ ∧ nbP σ (4 * sdots σ) (o * 8 + rv (e % 8)) = ((e / 8 : Nat) : Int) ∧ o ≠ e / 8 ∧ 1 ≤ wF σ e ∧ wF σ e ≤ 50) := by
  have hN := sdots_le h
  by_cases c : e % 8 < 4
  · have e1 : nbP σ (4 * sdots σ) e = lk σ (e / 8) (e % 8) := by unfold nbP; rw [if_pos c, if_pos (by omega)]
    rw [e1]
    by_cases b : lk σ (e / 8) (e % 8) = -1
    · exact Or.inl b
    · obtain ⟨o, g1, g2, g3, g4⟩ := lk_inv h (show e / 8 < sdots σ by omega) c b
      refine Or.inr ⟨o, g1, g2, ?_, g4, ?_⟩
      · unfold nbP rv
        rw [if_pos c, show (o * 8 + (e % 8 + 4)) / 8 = o by omega, show (o * 8 + (e % 8 + 4)) % 8 = e % 8 + 4 by omega, if_neg (by omega), Nat.add_sub_cancel, g3, Int.toNat_natCast, if_pos ⟨by omega, by omega⟩]
      · unfold wF
        rw [if_pos c, g1, Int.toNat_natCast]
        exact sWt_b h _ (by omega) (by omega)
  · by_cases b : bk σ (e / 8) (e % 8 - 4) = -1
    · left; unfold nbP; rw [if_neg c, if_neg (fun q => q.1 b)]
    · obtain ⟨u, g1, g2, g3, g4⟩ := bk_inv h (show e / 8 < sdots σ by omega) (show e % 8 - 4 < 4 by omega) b
      have e1 : nbP σ (4 * sdots σ) e = u := by unfold nbP; rw [if_neg c, g1, Int.toNat_natCast, if_pos ⟨by omega, by omega⟩]
      rw [e1]
      refine Or.inr ⟨u, rfl, g2, ?_, g4, ?_⟩
      · unfold nbP rv
        rw [if_neg c, show (u * 8 + (e % 8 - 4)) / 8 = u by omega, show (u * 8 + (e % 8 - 4)) % 8 = e % 8 - 4 by omega, if_pos (by omega), if_pos (by omega), g3]
      · unfold wF
        rw [if_neg c, g1, Int.toNat_natCast]
        exact sWt_b h _ (by omega) (by omega)
theorem netok.grph {σ : Sg} (h : scok σ) {F G nb R : Nat → Int} (hn : netok σ F G nb R) : grph (sdots σ) nb := by
  obtain ⟨h1, h2, h3, h4⟩ := hn
  intro e he
  rw [h3 e he]
  rcases nbP_at h he with q | ⟨o, g1, g2, g3, g4, -⟩
  · exact Or.inl q
  · right
    have hr := rv_lt (show e % 8 < 8 by omega)
    have e1 : rve nb e = o * 8 + rv (e % 8) := by unfold rve; rw [h3 e he, g1, Int.toNat_natCast]
    rw [e1, h3 _ (by omega), g3, g1]
    exact ⟨by omega, by omega, rfl, by omega⟩
/-- what a set costs, a wrong mark a million -/
def sLd (σ : Sg) (S : Nat → Bool) (v d : Nat) : Int := if lk σ v d ≠ -1 ∧ S v ≠ S (lk σ v d).toNat then sWt σ v (lk σ v d).toNat d else 0
def cV (σ : Sg) (S : Nat → Bool) (v : Nat) : Int := sPl σ v (if S v = true then 3 else 4) + sm (sLd σ S v) 4
def bad (σ : Sg) (S : Nat → Bool) (v : Nat) : Int := if σ (44 + v) = (if S v = true then 2 else 1) then 1 else 0
def cst (σ : Sg) (S : Nat → Bool) : Int := sm (cV σ S) (sdots σ)
def cnb (σ : Sg) (S : Nat → Bool) : Int := sm (bad σ S) (sdots σ)
theorem sCv_eq {σ : Sg} (h : scok σ) (s : Int64) {v : Nat} (hv : v < sdots σ) : sCv σ s v = cV σ (tb s) v := by
  obtain ⟨h1, h2, h3⟩ := dot_xy h hv
  unfold sCv cV
  rw [sm_cong (g := sLd σ (tb s) v) (fun d _ => by unfold sLcd sLd lk; rw [h3])]
theorem sm_4 (g : Nat → Int) : ∀ n, sm g (4 * n) = sm (fun v => sm (fun d => g (4 * v + d)) 4) n
  | 0 => rfl
  | n + 1 => by
    have e : 4 * (n + 1) = 4 * n + 1 + 1 + 1 + 1 := by omega
    rw [e, sm_s, sm_s, sm_s, sm_s, sm_4 g n, sm_s]
    show _ = _ + (((((0 : Int) + g (4 * n)) + g (4 * n + 1)) + g (4 * n + 2)) + g (4 * n + 3))
    omega
theorem sm_add {f g : Nat → Int} : ∀ n, sm (fun v => f v + g v) n = sm f n + sm g n
  | 0 => rfl
  | n + 1 => by rw [sm_s, sm_s, sm_s, sm_add n]; omega
theorem sm_mul {f : Nat → Int} (c : Int) : ∀ n, sm (fun v => c * f v) n = c * sm f n
  | 0 => by simp [sm]
  | n + 1 => by rw [sm_s, sm_s, sm_mul c n, Int.mul_add]
def eT (σ : Sg) (S : Nat → Bool) (t e : Nat) : Int := if 0 ≤ nbP σ t e ∧ S (e / 8) = true ∧ S (nbP σ t e).toNat = false then wF σ e else 0
theorem edge_sum {σ : Sg} (h : scok σ) (S : Nat → Bool) : ∀ t, t ≤ 4 * sdots σ → sm (eT σ S t) (8 * sdots σ) = sm (fun t => sLd σ S (t / 4) (t % 4)) t
  | 0, _ => by
    rw [sm_z (fun e _ => by unfold eT; rw [nbP_0, if_neg (by omega)])]
    rfl
  | t + 1, ht => by
    have ih := edge_sum h S t (by omega)
    rw [sm_s, ← ih]
    have hv : t / 4 < sdots σ := by omega
    have hd : t % 4 < 4 := by omega
    have et : 4 * (t / 4) + t % 4 = t := by omega
    by_cases b : lk σ (t / 4) (t % 4) = -1
    · rw [show sLd σ S (t / 4) (t % 4) = 0 by unfold sLd; rw [if_neg (fun q => q.1 b)], Int.add_zero]
      apply sm_cong
      intro e he
      unfold eT
      have := nbP_no h hd b he
      rw [et] at this
      rw [this]
    · obtain ⟨o, g1, g2, g3, g4⟩ := lk_inv h hv hd b
      have hN := sdots_le h
      have hw := wF_yes h hv hd g1
      have hy : ∀ e, e < 8 * sdots σ → nbP σ (t + 1) e = fup (fup (nbP σ t) (t / 4 * 8 + t % 4) o) (o * 8 + (t % 4 + 4)) (t / 4 : Nat) e := fun e he => by
        have := nbP_yes h hv hd g1 he
        rw [et] at this
        exact this
      have hne : o * 8 + (t % 4 + 4) ≠ t / 4 * 8 + t % 4 := by omega
      have n1 : nbP σ t (t / 4 * 8 + t % 4) = -1 := by
        have a1 : (t / 4 * 8 + t % 4) / 8 = t / 4 := by omega
        have a2 : (t / 4 * 8 + t % 4) % 8 = t % 4 := by omega
        unfold nbP
        rw [a1, a2, if_pos hd]
        exact if_neg (by omega)
      have n2 : nbP σ t (o * 8 + (t % 4 + 4)) = -1 := by
        have a1 : (o * 8 + (t % 4 + 4)) / 8 = o := by omega
        have a2 : (o * 8 + (t % 4 + 4)) % 8 = t % 4 + 4 := by omega
        have a3 : ¬ t % 4 + 4 < 4 := by omega
        have a4 : ¬ (((t / 4 : Nat) : Int) ≠ -1 ∧ 4 * (t / 4) + t % 4 < t) := by omega
        unfold nbP
        rw [a1, a2, if_neg a3, Nat.add_sub_cancel, g3, Int.toNat_natCast, if_neg a4]
      have z1 : eT σ S t (t / 4 * 8 + t % 4) = 0 := by
        unfold eT
        rw [n1]
        exact if_neg (fun q => absurd q.1 (by decide))
      have z2 : eT σ S t (o * 8 + (t % 4 + 4)) = 0 := by
        unfold eT
        rw [n2]
        exact if_neg (fun q => absurd q.1 (by decide))
      have y1 : eT σ S (t + 1) (t / 4 * 8 + t % 4) = if S (t / 4) = true ∧ S o = false then sWt σ (t / 4) o (t % 4) else 0 := by
        unfold eT
        rw [hy _ (by omega), fup_n _ _ (Ne.symm hne), fup_s, hw.1, show (t / 4 * 8 + t % 4) / 8 = t / 4 by omega, Int.toNat_natCast]
        simp
      have y2 : eT σ S (t + 1) (o * 8 + (t % 4 + 4)) = if S o = true ∧ S (t / 4) = false then sWt σ (t / 4) o (t % 4) else 0 := by
        unfold eT
        rw [hy _ (by omega), fup_s, hw.2, show (o * 8 + (t % 4 + 4)) / 8 = o by omega, Int.toNat_natCast]
        have : (0 : Int) ≤ ((t / 4 : Nat) : Int) := by omega
        simp only [this, true_and]
      -- through a sum with one place changed
      have s1 := sm_one (f := eT σ S t) (f1 := fup (eT σ S t) (t / 4 * 8 + t % 4) (eT σ S (t + 1) (t / 4 * 8 + t % 4))) (k := t / 4 * 8 + t % 4) (n := 8 * sdots σ) (by omega) (fun i _ hi => fup_n _ _ hi)
      have s2 := sm_one (f := fup (eT σ S t) (t / 4 * 8 + t % 4) (eT σ S (t + 1) (t / 4 * 8 + t % 4))) (f1 := eT σ S (t + 1)) (k := o * 8 + (t % 4 + 4)) (n := 8 * sdots σ) (by omega) (fun i hi hik => by
        by_cases q : i = t / 4 * 8 + t % 4
        · rw [q, fup_s]
        · rw [fup_n _ _ q]
          unfold eT
          rw [hy i hi, fup_n _ _ hik, fup_n _ _ q])
      rw [fup_s, z1] at s1
      rw [fup_n _ _ hne, z2] at s2
      rw [s2, s1, y1, y2]
      unfold sLd
      rw [g1, Int.toNat_natCast]
      have : (o : Int) ≠ -1 := by omega
      cases c1 : S (t / 4) <;> cases c2 : S o <;> simp [this] <;> omega
/-- the network's cost of a set is the picture's, a wrong mark a million more -/
theorem net_rc {σ : Sg} (h : scok σ) {F G nb R : Nat → Int} (hn : netok σ F G nb R) (S : Nat → Bool) : rc (sdots σ) nb F G R S = cst σ S + 1000000 * cnb σ S := by
  obtain ⟨h1, h2, h3, h4⟩ := hn
  have e1 : sm (fun e => if 0 ≤ nb e ∧ S (e / 8) = true ∧ S (nb e).toNat = false then R e else 0) (8 * sdots σ) = sm (eT σ S (4 * sdots σ)) (8 * sdots σ) := by
    apply sm_cong
    intro e he
    unfold eT
    rw [← h3 e he]
    by_cases c : 0 ≤ nb e ∧ S (e / 8) = true ∧ S (nb e).toNat = false
    · rw [if_pos c, if_pos c, h4 e he c.1]
    · rw [if_neg c, if_neg c]
  have e2 : sm (fun v => if S v = true then G v else F v) (sdots σ) = sm (fun v => sPl σ v (if S v = true then 3 else 4) + 1000000 * bad σ S v) (sdots σ) := by
    apply sm_cong
    intro v hv
    unfold bad
    cases c : S v
    · simp only [Bool.false_eq_true, if_false]
      rw [h1 v hv]
      by_cases q : σ (44 + v) = 1 <;> simp [q]
    · simp only [if_true]
      rw [h2 v hv]
      by_cases q : σ (44 + v) = 2 <;> simp [q]
  unfold rc
  rw [e1, e2, edge_sum h S _ (Nat.le_refl _), sm_4, sm_add, sm_mul]
  unfold cst cnb
  have e3 : sm (cV σ S) (sdots σ) = sm (fun v => sPl σ v (if S v = true then 3 else 4)) (sdots σ) + sm (fun v => sm (fun d => sLd σ S ((4 * v + d) / 4) ((4 * v + d) % 4)) 4) (sdots σ) := by
    rw [← sm_add]
    apply sm_cong
    intro v _
    unfold cV
    rw [sm_cong (f := sLd σ S v) (fun d hd => show sLd σ S v d = sLd σ S ((4 * v + d) / 4) ((4 * v + d) % 4) by rw [show (4 * v + d) / 4 = v by omega, show (4 * v + d) % 4 = d by omega])]
  omega
