/-! ===== pictures that differ in marks; weights put otherwise ===== -/
theorem pic_cong {σ τ : Sg} (h : ∀ i, i < 44 → τ i = σ i) : sdots τ = sdots σ ∧ sw τ = sw σ ∧ (∀ v d, lk τ v d = lk σ v d) ∧ (∀ v d, bk τ v d = bk σ v d) ∧ (∀ x y d, x < 36 → y < 36 → sWt τ x y d = sWt σ x y d) ∧ (∀ v t, v < 36 → t < 6 → sPl τ v t = sPl σ v t) := by
  have h0 := h 0 (by omega)
  have h1 := h 1 (by omega)
  have h7 := h 7 (by omega)
  have hs : sw τ = sw σ := by unfold sw; rw [h0]
  refine ⟨by unfold sdots; rw [h0, h1], hs, fun v d => ?_, fun v d => ?_, fun x y d hx hy => ?_, fun v t hv ht => ?_⟩
  · unfold lk sLk; rw [hs, h0, h1, h7]
  · unfold bk bLk; rw [hs, h0, h1, h7]
  · unfold sWt; rw [h 2 (by omega), h 3 (by omega), h (8 + x) (by omega), h (8 + y) (by omega)]
  · unfold sPl; rw [h 4 (by omega), h (8 + v) (by omega), h (2 + t) (by omega)]
theorem wF_cong {σ τ : Sg} (hv : scok σ) (h : ∀ i, i < 44 → τ i = σ i) {e : Nat} (he : e < 8 * sdots σ) (h0 : 0 ≤ nbP σ (4 * sdots σ) e) : wF τ e = wF σ e := by
  obtain ⟨c1, c2, c3, c4, c5, c6⟩ := pic_cong h
  have hN := sdots_le hv
  unfold wF
  unfold nbP at h0
  by_cases c : e % 8 < 4
  · rw [if_pos c, if_pos (by omega)] at h0
    rw [if_pos c, if_pos c, c3]
    obtain ⟨o, g1, g2, -⟩ := lk_inv hv (show e / 8 < sdots σ by omega) c (by omega)
    rw [g1, Int.toNat_natCast]
    exact c5 _ _ _ (by omega) (by omega)
  · rw [if_neg c] at h0
    rw [if_neg c, if_neg c, c4]
    by_cases b : bk σ (e / 8) (e % 8 - 4) = -1
    · rw [if_neg (fun q => q.1 b)] at h0; omega
    · obtain ⟨o, g1, g2, -⟩ := bk_inv hv (show e / 8 < sdots σ by omega) (show e % 8 - 4 < 4 by omega) b
      rw [g1, Int.toNat_natCast]
      exact c5 _ _ _ (by omega) (by omega)
theorem netok.mark {σ : Sg} (hv : scok σ) {F G nb R F1 G1 : Nat → Int} (h : netok σ F G nb R) {n : Nat} {m : Int} (hn : n < sdots σ) (hF : F1 = fup F n (sPl σ n 4 + if m = 1 then 1000000 else 0)) (hG : G1 = fup G n (sPl σ n 3 + if m = 2 then 1000000 else 0)) : netok (sup σ (44 + n) m) F1 G1 nb R := by
  have hN := sdots_le hv
  have e44 : ∀ i, i < 44 → sup σ (44 + n) m i = σ i := fun i hi => if_neg (by omega)
  obtain ⟨c1, c2, c3, c4, c5, c6⟩ := pic_cong e44
  obtain ⟨h1, h2, h3, h4⟩ := h
  have em : ∀ v, sup σ (44 + n) m (44 + v) = if v = n then m else σ (44 + v) := fun v => by
    by_cases q : v = n
    · subst q; rw [if_pos rfl]; exact if_pos rfl
    · rw [if_neg q]; exact if_neg (by omega)
  have hnb : ∀ e, nbP (sup σ (44 + n) m) (4 * sdots σ) e = nbP σ (4 * sdots σ) e := fun e => by unfold nbP; simp only [c3, c4]
  refine ⟨fun v hv1 => ?_, fun v hv1 => ?_, fun e he => ?_, fun e he h0 => ?_⟩
  · rw [c1] at hv1
    rw [c6 v 4 (by omega) (by omega), em, hF]
    by_cases q : v = n
    · subst q; rw [fup_s, if_pos rfl]
    · rw [fup_n _ _ q, if_neg q]; exact h1 v hv1
  · rw [c1] at hv1
    rw [c6 v 3 (by omega) (by omega), em, hG]
    by_cases q : v = n
    · subst q; rw [fup_s, if_pos rfl]
    · rw [fup_n _ _ q, if_neg q]; exact h2 v hv1
  · rw [c1] at he ⊢
    rw [hnb]; exact h3 e he
  · rw [c1] at he
    rw [wF_cong hv e44 he (by rw [← h3 e he]; exact h0)]
    exact h4 e he h0
def om (σ : Sg) (v d : Nat) : Int := sWt σ v (lk σ v d).toNat d
def lW (σ : Sg) (ω : Nat → Nat → Int) (S : Nat → Bool) (v d : Nat) : Int := if lk σ v d ≠ -1 ∧ S v ≠ S (lk σ v d).toNat then ω v d else 0
def cWV (σ : Sg) (ω : Nat → Nat → Int) (S : Nat → Bool) (v : Nat) : Int := sPl σ v (if S v = true then 3 else 4) + sm (lW σ ω S v) 4
def cW (σ : Sg) (ω : Nat → Nat → Int) (S : Nat → Bool) : Int := sm (cWV σ ω S) (sdots σ)
theorem cW_om (σ : Sg) (S : Nat → Bool) : cW σ (om σ) S = cst σ S := rfl
def oms (σ : Sg) (n d : Nat) (x : Int) : Nat → Nat → Int := fun v d1 => if v = n ∧ d1 = d then x else om σ v d1
theorem cW_oms {σ : Sg} {n d o : Nat} (x : Int) (hn : n < sdots σ) (hd : d < 4) (ho : lk σ n d = (o : Int)) (S : Nat → Bool) : cW σ (oms σ n d x) S = cst σ S + if S n ≠ S o then x - sWt σ n o d else 0 := by
  unfold cW cst
  rw [sm_one (f := cV σ S) (f1 := cWV σ (oms σ n d x) S) (k := n) hn (fun i _ hi => by
    unfold cWV cV
    rw [sm_cong (f := lW σ (oms σ n d x) S i) (g := sLd σ S i) (fun j _ => by
      have q9 : oms σ n d x i j = sWt σ i (lk σ i j).toNat j := if_neg (fun q => hi q.1)
      unfold lW sLd
      rw [q9])])]
  have e : sm (lW σ (oms σ n d x) S n) 4 = sm (sLd σ S n) 4 + if S n ≠ S o then x - sWt σ n o d else 0 := by
    rw [sm_one (f := sLd σ S n) (f1 := lW σ (oms σ n d x) S n) (k := d) hd (fun j _ hj => by
      have q9 : oms σ n d x n j = sWt σ n (lk σ n j).toNat j := if_neg (fun q => hj q.2)
      unfold lW sLd
      rw [q9])]
    have q9 : oms σ n d x n d = x := if_pos ⟨rfl, rfl⟩
    unfold lW sLd
    rw [ho, Int.toNat_natCast, q9]
    have : (o : Int) ≠ -1 := by omega
    by_cases c : S n = S o
    · simp [c]
    · simp [c, this]
  unfold cWV cV
  rw [e]
  omega
def mnW (σ : Sg) (ω : Nat → Nat → Int) (m : Int) : Prop := (∃ S, cnb σ S = 0 ∧ cW σ ω S = m) ∧ ∀ S, cnb σ S = 0 → m ≤ cW σ ω S
theorem mnW_uniq {σ : Sg} {ω : Nat → Nat → Int} {a b : Int} (h : mnW σ ω a) (g : mnW σ ω b) : a = b := by
  obtain ⟨⟨S, s1, s2⟩, h2⟩ := h
  obtain ⟨⟨T, t1, t2⟩, g2⟩ := g
  have := h2 T t1
  have := g2 S s1
  omega
noncomputable def lcW (σ : Sg) (ω : Nat → Nat → Int) : Int := Classical.epsilon (mnW σ ω)
theorem lcW_eq {σ : Sg} {ω : Nat → Nat → Int} {m : Int} (h : mnW σ ω m) : m = lcW σ ω := mnW_uniq h (Classical.epsilon_spec ⟨m, h⟩)
theorem mnW_om {σ : Sg} {m : Int} : mnW σ (om σ) m ↔ mn σ m := Iff.rfl
theorem cW_b {σ : Sg} (h : scok σ) {ω : Nat → Nat → Int} (hω : ∀ v d, v < sdots σ → d < 4 → lk σ v d ≠ -1 → 0 ≤ ω v d ∧ ω v d ≤ 99) (S : Nat → Bool) : 0 ≤ cW σ ω S ∧ cW σ ω S ≤ 17172 := by
  have hN := sdots_le h
  have := sm_bd (f := cWV σ ω S) (a := 0) (b := 477) (n := sdots σ) (fun v hv => by
    have h1 : 0 ≤ sPl σ v (if S v = true then 3 else 4) ∧ sPl σ v (if S v = true then 3 else 4) ≤ 81 := sPl_b h (by omega) (by split <;> omega)
    have h2 := sm_bd (f := lW σ ω S v) (a := 0) (b := 99) (n := 4) (fun d hd => by
      unfold lW
      split
      · next c => exact hω v d hv hd c.1
      · omega)
    unfold cWV
    omega)
  unfold cW
  omega
theorem minW {σ : Sg} (h : scok σ) {ω : Nat → Nat → Int} (hω : ∀ v d, v < sdots σ → d < 4 → lk σ v d ≠ -1 → 0 ≤ ω v d ∧ ω v d ≤ 99) {f : Int} (h1 : ∀ S, f ≤ cW σ ω S + 1000000 * cnb σ S) (h2 : ∃ S, cW σ ω S + 1000000 * cnb σ S = f) : mnW σ ω f := by
  obtain ⟨S, hS⟩ := h2
  have hm := h1 (mkS σ)
  rw [cnb_mk] at hm
  have b1 := cW_b h hω (mkS σ)
  have b2 := cW_b h hω S
  have b3 := cnb_nn σ S
  exact ⟨⟨S, by omega, by omega⟩, fun T hT => by have := h1 T; omega⟩
/-- the end of a filling, whatever the costs -/
theorem fin_min {N : Nat} {nb L : Nat → Int} {c0 : (Nat → Bool) → Int} {f : Int} {Ω : Mem} (hg : grph N nb) (h2 : FI N nb c0 f Ω) (hl : lab N nb (gt Ω 5) (gt Ω 7) L) (hF : ∀ v, v < N → 0 < gt Ω 4 v → L v = 0) : (∀ S, f ≤ c0 S) ∧ c0 (fun v => decide (L v = 0)) = f := by
  refine ⟨fun S => h2.le S, ?_⟩
  have hz : rc N nb (gt Ω 4) (gt Ω 5) (gt Ω 7) (fun v => decide (L v = 0)) = 0 := by
    rw [rc_z (fun v hv => (h2.1 v hv).1) h2.2.1 (fun e he hn => (h2.2.2.1 e he hn).1)]
    obtain ⟨a1, a2, a3, a4⟩ := hl
    refine ⟨fun v hv hs => ?_, fun v hv hs => ?_, fun e he hn hs hr => ?_⟩
    · have : L v = 0 := of_decide_eq_true hs
      have h5 := h2.2.1 v hv
      have := a2 v hv
      omega
    · have : ¬ L v = 0 := of_decide_eq_false hs
      have h5 := (h2.1 v hv).1
      have := hF v hv
      omega
    · have q : L (e / 8) = 0 := of_decide_eq_true hs
      apply decide_eq_true
      have a := a4 (e / 8) (by omega) (e % 8) (by omega)
      rw [show e / 8 * 8 + e % 8 = e by omega] at a
      have c2 := (hg.at he hn).1
      have := (a1 _ c2).1
      by_cases c : 0 < L (nb e).toNat
      · have := (a hn hr c).1; omega
      · omega
  have := h2.2.2.2.2.2 (fun v => decide (L v = 0))
  omega
/-- the network with one link's weight put otherwise -/
theorem netok_strain {σ : Sg} (hv : scok σ) {Ω : Mem} (h : netok σ (gt Ω 4) (gt Ω 5) (gt Ω 6) (gt Ω 7)) (h3 : gt Ω 3 0 = (sdots σ : Int)) {n d o : Nat} {x : Int} (hn : n < sdots σ) (hd : d < 4) (ho : lk σ n d = (o : Int)) (hx : 0 ≤ x) (hx2 : x ≤ 99) {Ω1 : Mem} (hM : Ω1 = ups (ups (ups (ups Ω 6 (n * 8 + d) (o : Int)) 6 (o * 8 + (d + 4)) (n : Int)) 7 (n * 8 + d) x) 7 (o * 8 + (d + 4)) x) :
    grph (sdots σ) (gt Ω1 6) ∧ FI (sdots σ) (gt Ω1 6) (fun S => cW σ (oms σ n d x) S + 1000000 * cnb σ S) 0 Ω1 := by
  have hN := sdots_le hv
  obtain ⟨o1, g1, g2, g3, g4⟩ := lk_inv hv hn hd (by omega)
  obtain rfl : o1 = o := by omega
  have hg := h.grph hv
  obtain ⟨h01, h02⟩ := h.FI hv h3
  have e1l : n * 8 + d < 8 * sdots σ := by omega
  have e2l : o1 * 8 + (d + 4) < 8 * sdots σ := by omega
  have n1 : gt Ω 6 (n * 8 + d) = (o1 : Int) := by
    rw [h.2.2.1 _ e1l]
    unfold nbP
    rw [show (n * 8 + d) / 8 = n by omega, show (n * 8 + d) % 8 = d by omega, if_pos hd, if_pos (by omega), ho]
  have hat := hg.at e1l (by omega)
  have hre : rve (gt Ω 6) (n * 8 + d) = o1 * 8 + (d + 4) := by
    unfold rve rv
    rw [n1, Int.toNat_natCast, show (n * 8 + d) % 8 = d by omega, if_pos hd]
  have n2 : gt Ω 6 (o1 * 8 + (d + 4)) = (n : Int) := by
    have := hat.2.2.1
    rw [hre] at this
    rw [this]; omega
  have zx : zb x := ⟨by omega, by omega⟩
  have f6 : gt Ω1 6 = gt Ω 6 := by
    rw [hM, gt_nf _ _ _ (by decide), gt_nf _ _ _ (by decide), gt_fup _ _ _ ⟨by omega, by omega⟩, gt_fup _ _ _ ⟨by omega, by omega⟩]
    funext e
    by_cases q1 : e = o1 * 8 + (d + 4)
    · rw [q1, fup_s, n2]
    · rw [fup_n _ _ q1]
      by_cases q2 : e = n * 8 + d
      · rw [q2, fup_s, n1]
      · rw [fup_n _ _ q2]
  have f7 : gt Ω1 7 = fup (fup (gt Ω 7) (n * 8 + d) x) (o1 * 8 + (d + 4)) x := by
    rw [hM, gt_fup _ _ _ zx, gt_fup _ _ _ zx, gt_nf _ _ _ (by decide), gt_nf _ _ _ (by decide)]
  have f4 : gt Ω1 4 = gt Ω 4 := by rw [hM, gt_nf _ _ _ (by decide), gt_nf _ _ _ (by decide), gt_nf _ _ _ (by decide), gt_nf _ _ _ (by decide)]
  have f5 : gt Ω1 5 = gt Ω 5 := by rw [hM, gt_nf _ _ _ (by decide), gt_nf _ _ _ (by decide), gt_nf _ _ _ (by decide), gt_nf _ _ _ (by decide)]
  have f3 : gt Ω1 3 0 = gt Ω 3 0 := by rw [hM, gt_n _ _ _ _ (by decide), gt_n _ _ _ _ (by decide), gt_n _ _ _ _ (by decide), gt_n _ _ _ _ (by decide)]
  have hne : o1 * 8 + (d + 4) ≠ n * 8 + d := by omega
  have w1 := wF_yes hv hn hd ho
  have r1 : gt Ω 7 (n * 8 + d) = sWt σ n o1 d := by rw [h.2.2.2 _ e1l (by omega), w1.1]
  have r2 : gt Ω 7 (o1 * 8 + (d + 4)) = sWt σ n o1 d := by rw [h.2.2.2 _ e2l (by omega), w1.2]
  refine ⟨by rw [f6]; exact hg, ?_⟩
  unfold FI
  rw [f4, f5, f6, f7, f3]
  obtain ⟨a1, a2, a3, a4, a5, a6⟩ := h01
  refine ⟨a1, a2, fun e he h0 => ?_, rfl, a5, fun S => ?_⟩
  · obtain ⟨k1, k2, k3, k4, k5, k6, k7⟩ := hg.at he h0
    by_cases q1 : e = n * 8 + d
    · rw [q1, hre, fup_s, fup_n _ _ (Ne.symm hne), fup_s]; omega
    · by_cases q2 : e = o1 * 8 + (d + 4)
      · have : rve (gt Ω 6) e = n * 8 + d := by rw [q2, ← hre]; exact hat.2.2.2.2.1
        rw [this, q2, fup_s, fup_n _ _ (Ne.symm hne), fup_s]; omega
      · have e3 : rve (gt Ω 6) e ≠ n * 8 + d := fun q => q2 (by rw [← k5, q, hre])
        have e4 : rve (gt Ω 6) e ≠ o1 * 8 + (d + 4) := fun q => q1 (by rw [← k5, q, ← hre]; exact hat.2.2.2.2.1)
        rw [fup_n _ _ q2, fup_n _ _ q1, fup_n _ _ e4, fup_n _ _ e3]
        exact a3 e he h0
  · show _ = cW σ (oms σ n d x) S + 1000000 * cnb σ S
    rw [rc_R e2l (by omega), rc_R e1l (by omega), fup_n _ _ hne, n1, n2, r1, r2, Int.toNat_natCast, Int.toNat_natCast, show (n * 8 + d) / 8 = n by omega, show (o1 * 8 + (d + 4)) / 8 = o1 by omega, cW_oms x hn hd ho S]
    have b := a6 S
    have b' : rc (sdots σ) (gt Ω 6) (gt Ω 4) (gt Ω 5) (gt Ω 7) S + 0 = cst σ S + 1000000 * cnb σ S := b
    cases c1 : S n <;> cases c2 : S o1 <;> simp <;> omega
/-- two best sets have in common what is best -/
theorem best_both {σ : Sg} (hv : scok σ) {f : Int} {Ω : Mem} (h : SV σ f Ω) {S T : Nat → Bool} (hS : best σ S) (hT : best σ T) : best σ (fun v => S v && T v) := by
  have hb := (h.mn hv).2
  obtain ⟨nb, hg, h2, -⟩ := h
  rw [← hb] at hS hT ⊢
  rw [SV.iff h2] at hS hT ⊢
  obtain ⟨s1, s2, s3⟩ := hS
  obtain ⟨t1, t2, t3⟩ := hT
  refine ⟨fun v hv hs => ?_, fun v hv hs => ?_, fun e he hn hs hr => ?_⟩
  · have hs' : (S v && T v) = true := hs
    rw [Bool.and_eq_true] at hs'
    exact s1 v hv hs'.1
  · have hs' : (S v && T v) = false := hs
    cases c : S v
    · exact s2 v hv c
    · rw [c] at hs'
      exact t2 v hv (by simpa using hs')
  · have hs' : (S (e / 8) && T (e / 8)) = true := hs
    rw [Bool.and_eq_true] at hs'
    show (S (nb e).toNat && T (nb e).toNat) = true
    rw [s3 e he hn hs'.1 hr, t3 e he hn hs'.2 hr]; rfl
