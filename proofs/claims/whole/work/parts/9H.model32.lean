def frQ (Ω Ω1 : Mem) : Prop := (∀ q, q ≠ 49 → q ≠ 50 → q ≠ 54 → q ≠ 55 → q ≠ 56 → q ≠ 58 → Ω1 q = Ω q) ∧ ∀ k, k ≠ 12 → k ≠ 14 → gt Ω1 49 k = gt Ω 49 k
theorem frQ.refl (Ω : Mem) : frQ Ω Ω := ⟨fun _ _ _ _ _ _ _ => rfl, fun _ _ _ => rfl⟩
theorem frQ.trans {A B C : Mem} (h : frQ A B) (g : frQ B C) : frQ A C := ⟨fun q a b c d e f => (g.1 q a b c d e f).trans (h.1 q a b c d e f), fun k a b => (g.2 k a b).trans (h.2 k a b)⟩
theorem frR.q {A B : Mem} (h : frR A B) : frQ A B := ⟨fun q a _ _ _ _ f => h.1 q a f, h.2⟩
theorem RM.rd {Ω Ω1 : Mem} {a : As} (h : RM Ω a) (g : frR Ω Ω1) : RM Ω1 a ∧ frG Ω Ω1 :=
  ⟨h.same (fun k hk => g.2 k (by omega) (by omega)) (fun q a b => g.1 q (by omega) (by omega)), fun q hq => g.1 q (by omega) (by omega)⟩
theorem RM.rq {Ω Ω1 : Mem} {a : As} {τ : Sg} (h : RM Ω a) (g : frQ Ω Ω1) (hs : scM Ω1 = τ) (ho : scok τ) : RM Ω1 (aSet a τ) ∧ frG Ω Ω1 :=
  ⟨h.set hs ho (fun k hk => g.2 k (by omega) (by omega)) (fun q a b => g.1 q (by omega) (by omega) (by omega) (by omega) (by omega) (by omega)), fun q hq => g.1 q (by omega) (by omega) (by omega) (by omega) (by omega) (by omega)⟩
theorem RA.fr {T : Nat → Int} {L : Nat} {Ω Ω1 : Mem} {p : Nat} (h : RA T L Ω p) (h53 : Ω1 53 = Ω 53) (h49 : Ω1 49 = Ω 49) : RA T L Ω1 p := by
  obtain ⟨a1, a2, a3, a4, a5⟩ := h
  exact ⟨by rw [gt_fr h49]; exact a1, a2, fun k hk => by rw [gt_fr h53]; exact a3 k hk, by rw [gt_fr h49]; exact a4, a5⟩
theorem doS_ok (T : Nat → Int) (L : Nat) {x y : Int} : ∀ (k n p i : Nat) (σ : Sg), scok σ → σ 0 = x → σ 1 = y → pA T L x y k p i = (none, i + n) → scok (doS T L n p σ)
  | _, 0, _, _, _, h, _, _, _ => h
  | 0, n + 1, p, i, σ, _, _, _, e => by rw [pA] at e; exact absurd (congrArg Prod.fst e) (by simp)
  | k + 1, n + 1, p, i, σ, h, hx, hy, e => by
    obtain ⟨j, j1, j2, j3⟩ := pA_go e (by omega)
    obtain rfl : k = j := by omega
    have ho := pO_ordV (f := fun _ => 0) (show (pO T L x y p (fun _ => 0)).1 = true from j2)
    rw [doS, hx, hy]
    rw [← hx, ← hy] at ho
    obtain ⟨o1, o2, o3⟩ := obey_ok h ho
    rw [hx, hy] at o1 o2 o3
    exact doS_ok T L k n _ (i + 1) _ o1 o2 o3 (by rw [j3]; congr 1; omega)
set_option maxHeartbeats 4000000 in
set_option maxRecDepth 100000 in
theorem L_X5_goesThrough_7 {E : zE} {w : zP} {l : Launch} {Post : Option Value → Mem → Prop} (hw : zOK w) (hC : zC E w l RX5 wsX5_goesThrough cX5_goesThrough 4 14 339 (some .int) Post) (Ω0 : Mem) (T : Nat → Int) (L : Nat) (x y : Int) (hx : 2 ≤ x ∧ x ≤ 6) (hy : 2 ≤ y ∧ y ≤ 6) (hgx : gt Ω0 50 0 = x) (hgy : gt Ω0 50 1 = y) (o : Option Nat) (nn : Nat) (KN : o = none → ∀ Ω1 : Mem, frR Ω0 Ω1 → Post (some (.int (zI (nn : Int)))) Ω1) (KS : ∀ q : Nat, o = some q → ∀ Ω1 : Mem, gt Ω1 49 12 = (q : Int) → frR Ω0 Ω1 → Post (some (.int (zI (-1)))) Ω1)  : ∀ (n : Nat) (i : Nat) (p : Nat) (k : Nat) (Ω : Mem) (o3 : Option Value), 101 < i + n → (i ≤ p) → (k + i = 101) → (pA T L x y k p i = (o, nn)) → (RA T L Ω p) → (frR Ω0 Ω) → X E Ω 7 [some (.ref (wa w 49)), some (.int (zI 0)), some (.int (zI (i : Int))), o3] [] := by
  intro n
  induction n with
  | zero =>
    intro i p k Ω o3 hfu hi hk hA h hF
    exact absurd hfu (by omega)
  | succ n ih =>
    intro i p k Ω o3 hfu hi hk hA h hF
    have hpL := h.2.2.2.2
    have hL1 := h.2.1
    refine z_iload_n (pc := 7) hC (i := 2) dX5_goesThrough_7 rfl rfl ?_
    refine z_if_eq (pc := 8) hC 19 ⟨by omega, by omega⟩ dX5_goesThrough_8 rfl (fun h8 => ?_) (fun h8 => ?_)
    · have hsim := sim_pO T L x y p (gt Ω 58)
      have hqq : qO T L x y p = qO T L x y p := rfl
      rw [hqq] at hsim
      obtain ⟨k1, rfl⟩ : ∃ k1, k = k1 + 1 := ⟨k - 1, by omega⟩
      refine S_X5_goesThrough_19 hw hC T L x y hx hy (by rw [gt_fr (hF.1 50 (by decide) (by decide))]; exact hgx) (by rw [gt_fr (hF.1 50 (by decide) (by decide))]; exact hgy) 0 i p h _ (fun Ω1 e1 e2 e3 => ?_) (fun Ω1 e1 e2 e3 => ?_)
      · have hno : (qO T L x y p).1 = false := hsim.1.symm.trans e1
        rw [pA_no (fun q => by omega) hno] at hA
        refine KS (qO T L x y p).2.1 (congrArg Prod.fst hA).symm Ω1 ?_ (hF.trans e3)
        rw [e2, hsim.2.1]
      · have hyes : (qO T L x y p).1 = true := hsim.1.symm.trans e1
        rw [pA_yes (fun q => by omega) hyes] at hA
        have hgt := qO_gt hyes
        have e2A : RA T L Ω1 (qO T L x y p).2.1 := by rw [← hsim.2.1]; exact e2.1
        refine z_iload_n (pc := 72) hC (i := 1) dX5_goesThrough_72 rfl rfl ?_
        refine z_if_eq (pc := 73) hC 81 ⟨by decide, by decide⟩ dX5_goesThrough_73 rfl (fun h73 => ?_) (fun h73 => ?_)
        · refine z_iinc (pc := 81) hC (i := 2) dX5_goesThrough_81 rfl (by decide) rfl (zS_s (zS_s zS_0)) ?_
          refine z_goto (pc := 84) hC 7 dX5_goesThrough_84 rfl ?_
          exact ih (i + 1) (qO T L x y p).2.1 k1 Ω1 _ (by omega) (by omega) (by omega) hA e2A (hF.trans e3)
        · exact absurd rfl h73
    · refine z_aload_n (pc := 11) hC (i := 0) dX5_goesThrough_11 rfl rfl ?_
      refine z_callV (n := 0) (T := TX5) (N := 15) (ci := 5) (pc := 12) hC (c_X5_sign l w hw _ T L p h) gX5_goesThrough_X5_sign rfl (by decide +kernel) (by decide) (by decide) rfl (by decide) (fun _ => rfl) rfl rfl (Nat.le_of_ble_eq_true rfl) dX5_goesThrough_12 (zi_k fun r12 Ω12 h12 => ?_)
      obtain ⟨hr12, hm12⟩ := h12
      subst hm12
      have hq12 := sk_le T (L := L) (p := p) (h).2.2.2.2
      have hb12 := sg_b (p := p) (fun k hk => ((h).2.2.1 k hk).2)
      subst hr12
      have hG := h.go hq12.2
      have hf12 := hF.trans (frR_up Ω (sk T L p : Int) (Or.inl rfl))
      refine z_iconst (pc := 15) hC dX5_goesThrough_15 ?_
      refine z_icmp_eq (pc := 16) hC 87 ⟨by omega, by omega⟩ ⟨by decide, by decide⟩ dX5_goesThrough_16 rfl (fun h16 => ?_) (fun h16 => ?_)
      · obtain ⟨k1, rfl⟩ : ∃ k1, k = k1 + 1 := ⟨k - 1, by omega⟩
        rw [pA_end (by omega) h16] at hA
        refine z_iload_n (pc := 87) hC (i := 2) dX5_goesThrough_87 rfl rfl ?_
        have e1 : i = nn := congrArg Prod.snd hA
        have hk := KN (congrArg Prod.fst hA).symm _ hf12
        rw [← e1] at hk
        exact z_iret (pc := 88) hC rfl hk dX5_goesThrough_88
      · have hsim := sim_pO T L x y (sk T L p) (gt (ups Ω 49 12 (sk T L p : Int)) 58)
        have hqq : qO T L x y (sk T L p) = qO T L x y p := qO_sk T L x y p
        rw [hqq] at hsim
        obtain ⟨k1, rfl⟩ : ∃ k1, k = k1 + 1 := ⟨k - 1, by omega⟩
        refine S_X5_goesThrough_19 hw hC T L x y hx hy (by rw [gt_fr (hf12.1 50 (by decide) (by decide))]; exact hgx) (by rw [gt_fr (hf12.1 50 (by decide) (by decide))]; exact hgy) 0 i (sk T L p) hG _ (fun Ω1 e1 e2 e3 => ?_) (fun Ω1 e1 e2 e3 => ?_)
        · have hno : (qO T L x y p).1 = false := hsim.1.symm.trans e1
          rw [pA_no (fun q => h16 q.2) hno] at hA
          refine KS (qO T L x y p).2.1 (congrArg Prod.fst hA).symm Ω1 ?_ (hf12.trans e3)
          rw [e2, hsim.2.1]
        · have hyes : (qO T L x y p).1 = true := hsim.1.symm.trans e1
          rw [pA_yes (fun q => h16 q.2) hyes] at hA
          have hgt := qO_gt hyes
          have e2A : RA T L Ω1 (qO T L x y p).2.1 := by rw [← hsim.2.1]; exact e2.1
          refine z_iload_n (pc := 72) hC (i := 1) dX5_goesThrough_72 rfl rfl ?_
          refine z_if_eq (pc := 73) hC 81 ⟨by decide, by decide⟩ dX5_goesThrough_73 rfl (fun h73 => ?_) (fun h73 => ?_)
          · refine z_iinc (pc := 81) hC (i := 2) dX5_goesThrough_81 rfl (by decide) rfl (zS_s (zS_s zS_0)) ?_
            refine z_goto (pc := 84) hC 7 dX5_goesThrough_84 rfl ?_
            exact ih (i + 1) (qO T L x y p).2.1 k1 Ω1 _ (by omega) (by omega) (by omega) hA e2A (hf12.trans e3)
          · exact absurd rfl h73
set_option maxHeartbeats 4000000 in
set_option maxRecDepth 100000 in
theorem L_X5_goesThrough_7d {E : zE} {w : zP} {l : Launch} {Post : Option Value → Mem → Prop} (hw : zOK w) (hC : zC E w l RX5 wsX5_goesThrough cX5_goesThrough 4 14 339 (some .int) Post) (Ω0 : Mem) (T : Nat → Int) (L : Nat) (x y : Int) (hx : 2 ≤ x ∧ x ≤ 6) (hy : 2 ≤ y ∧ y ≤ 6) (hs : gt Ω0 49 6 = -1) (nn : Nat) (τ : Sg) (KN : ∀ Ω1 : Mem, scM Ω1 = τ → frQ Ω0 Ω1 → Post (some (.int (zI (nn : Int)))) Ω1)  : ∀ (n : Nat) (i : Nat) (p : Nat) (k : Nat) (σ : Sg) (Ω : Mem) (o3 : Option Value), 101 < i + n → (i ≤ p) → (k + i = 101) → (pA T L x y k p i = (none, nn)) → (RA T L Ω p) → (scM Ω = σ) → (scok σ) → (σ 0 = x) → (σ 1 = y) → (frQ Ω0 Ω) → (τ = doS T L (nn - i) p σ) → X E Ω 7 [some (.ref (wa w 49)), some (.int (zI 1)), some (.int (zI (i : Int))), o3] [] := by
  intro n
  induction n with
  | zero =>
    intro i p k σ Ω o3 hfu hi hk hA h hσ hv hx0 hy0 hF hτ
    exact absurd hfu (by omega)
  | succ n ih =>
    intro i p k σ Ω o3 hfu hi hk hA h hσ hv hx0 hy0 hF hτ
    have hpL := h.2.2.2.2
    have hL1 := h.2.1
    have hgx : gt Ω 50 0 = x := (st_at hσ (by decide)).trans hx0
    have hgy : gt Ω 50 1 = y := (st_at hσ (by decide)).trans hy0
    refine z_iload_n (pc := 7) hC (i := 2) dX5_goesThrough_7 rfl rfl ?_
    refine z_if_eq (pc := 8) hC 19 ⟨by omega, by omega⟩ dX5_goesThrough_8 rfl (fun h8 => ?_) (fun h8 => ?_)
    · have hsim := sim_pO T L x y p (gt Ω 58)
      have hqq : qO T L x y p = qO T L x y p := rfl
      have hsgq : sg T L p = sg T L p := rfl
      rw [hqq] at hsim
      obtain ⟨k1, rfl⟩ : ∃ k1, k = k1 + 1 := ⟨k - 1, by omega⟩
      have hg0 : gt Ω 50 0 = x := (hgx)
      have hg1 : gt Ω 50 1 = y := (hgy)
      refine S_X5_goesThrough_19 hw hC T L x y hx hy hg0 hg1 1 i p h _ (fun Ω1 e1 e2 e3 => ?_) (fun Ω1 e1 e2 e3 => ?_)
      · have hno : (qO T L x y p).1 = false := hsim.1.symm.trans e1
        rw [pA_no (fun q => by omega) hno] at hA
        exact absurd (congrArg Prod.fst hA) (by simp)
      · have hyes : (qO T L x y p).1 = true := hsim.1.symm.trans e1
        rw [pA_yes (fun q => by omega) hyes] at hA
        have hgt := qO_gt hyes
        have hnn := (pA_n hA).1
        have ho := pO_ordV e1
        rw [hsgq] at ho
        have ho : ordV (σ 0) (σ 1) (sg T L p) (pO T L x y p (gt Ω 58)).2.2.1 (pO T L x y p (gt Ω 58)).2.2.2 := by rw [hx0, hy0]; exact ho
        obtain ⟨oc1, oc2⟩ := obey_cong σ ho hsim.2.2.2
        have hs1 : scM Ω1 = σ := (scM_cong (e3.1 50 (by decide) (by decide))).trans hσ
        have h61 : gt Ω1 49 6 = -1 := by rw [e3.2 6 (by decide) (by decide), hF.2 6 (by decide) (by decide)]; exact hs
        have hkb : zb (sg T L p) := by rcases ho with q | q | q <;> exact ⟨by omega, by omega⟩
        refine z_iload_n (pc := 72) hC (i := 1) dX5_goesThrough_72 rfl rfl ?_
        refine z_if_eq (pc := 73) hC 81 ⟨by decide, by decide⟩ dX5_goesThrough_73 rfl (fun h73 => ?_) (fun h73 => ?_)
        · exact absurd h73 (by decide)
        · refine z_aload_n (pc := 76) hC (i := 0) dX5_goesThrough_76 rfl rfl ?_
          refine z_iload_n (pc := 77) hC (i := 3) dX5_goesThrough_77 rfl rfl ?_
          rw [hsgq]
          refine z_callV (n := 1) (T := TX5) (N := 15) (ci := 5) (pc := 78) hC (c_X5_doesOrder l w hw _ σ hs1 hv h61 T L _ e2 (sg T L p) hkb ho) gX5_goesThrough_X5_doesOrder rfl (by decide +kernel) (by decide) (by decide) rfl (by decide) (fun _ => rfl) rfl rfl (Nat.le_of_ble_eq_true rfl) dX5_goesThrough_78 (zv_k fun Ω78 h78 => ?_)
          obtain ⟨hs78, hF78⟩ := h78
          refine z_iinc (pc := 81) hC (i := 2) dX5_goesThrough_81 rfl (by decide) rfl (zS_s (zS_s zS_0)) ?_
          refine z_goto (pc := 84) hC 7 dX5_goesThrough_84 rfl ?_
          obtain ⟨ok1, ok2, ok3⟩ := obey_ok hv ho
          have ec : (pO T L x y p (gt Ω 58)).2.2.1 = (qO T L x y p).2.2.1 := hsim.2.2.1
          rw [oc1, ec] at hs78 ok1 ok2 ok3
          have e2A : RA T L Ω78 (qO T L x y p).2.1 := by
            rw [← hsim.2.1]
            exact e2.1.fr (hF78 53 (by decide) (by decide) (by decide) (by decide)) (hF78 49 (by decide) (by decide) (by decide) (by decide))
          have hq78 : frQ Ω1 Ω78 := ⟨fun q u1 u2 u3 u4 u5 u6 => hF78 q u2 u3 u4 u5, fun j _ _ => gt_fr (hF78 49 (by decide) (by decide) (by decide) (by decide)) j⟩
          refine ih (i + 1) (qO T L x y p).2.1 k1 _ Ω78 _ (by omega) (by omega) (by omega) hA e2A hs78 ok1 (ok2.trans hx0) (ok3.trans hy0) (hF.trans (e3.q.trans hq78)) ?_
          rw [hτ]
          obtain ⟨d, hd⟩ : ∃ d, nn - i = d + 1 := ⟨nn - i - 1, by omega⟩
          rw [hd, show nn - (i + 1) = d by omega, doS, hx0, hy0]
    · refine z_aload_n (pc := 11) hC (i := 0) dX5_goesThrough_11 rfl rfl ?_
      refine z_callV (n := 0) (T := TX5) (N := 15) (ci := 5) (pc := 12) hC (c_X5_sign l w hw _ T L p h) gX5_goesThrough_X5_sign rfl (by decide +kernel) (by decide) (by decide) rfl (by decide) (fun _ => rfl) rfl rfl (Nat.le_of_ble_eq_true rfl) dX5_goesThrough_12 (zi_k fun r12 Ω12 h12 => ?_)
      obtain ⟨hr12, hm12⟩ := h12
      subst hm12
      have hq12 := sk_le T (L := L) (p := p) (h).2.2.2.2
      have hb12 := sg_b (p := p) (fun k hk => ((h).2.2.1 k hk).2)
      subst hr12
      have hG := h.go hq12.2
      have hf12 := hF.trans (frR_up Ω (sk T L p : Int) (Or.inl rfl)).q
      refine z_iconst (pc := 15) hC dX5_goesThrough_15 ?_
      refine z_icmp_eq (pc := 16) hC 87 ⟨by omega, by omega⟩ ⟨by decide, by decide⟩ dX5_goesThrough_16 rfl (fun h16 => ?_) (fun h16 => ?_)
      · obtain ⟨k1, rfl⟩ : ∃ k1, k = k1 + 1 := ⟨k - 1, by omega⟩
        rw [pA_end (by omega) h16] at hA
        refine z_iload_n (pc := 87) hC (i := 2) dX5_goesThrough_87 rfl rfl ?_
        have e1 : i = nn := congrArg Prod.snd hA
        subst e1
        rw [Nat.sub_self] at hτ
        exact z_iret (pc := 88) hC rfl (KN _ ((scM_cong (ups_n _ _ _ (by decide))).trans (hσ.trans hτ.symm)) hf12) dX5_goesThrough_88
      · have hsim := sim_pO T L x y (sk T L p) (gt (ups Ω 49 12 (sk T L p : Int)) 58)
        have hqq : qO T L x y (sk T L p) = qO T L x y p := qO_sk T L x y p
        have hsgq : sg T L (sk T L p) = sg T L p := sg_sk T L p
        rw [hqq] at hsim
        obtain ⟨k1, rfl⟩ : ∃ k1, k = k1 + 1 := ⟨k - 1, by omega⟩
        have hg0 : gt (ups Ω 49 12 (sk T L p : Int)) 50 0 = x := ((gt_n _ _ _ _ (by decide)).trans hgx)
        have hg1 : gt (ups Ω 49 12 (sk T L p : Int)) 50 1 = y := ((gt_n _ _ _ _ (by decide)).trans hgy)
        refine S_X5_goesThrough_19 hw hC T L x y hx hy hg0 hg1 1 i (sk T L p) hG _ (fun Ω1 e1 e2 e3 => ?_) (fun Ω1 e1 e2 e3 => ?_)
        · have hno : (qO T L x y p).1 = false := hsim.1.symm.trans e1
          rw [pA_no (fun q => h16 q.2) hno] at hA
          exact absurd (congrArg Prod.fst hA) (by simp)
        · have hyes : (qO T L x y p).1 = true := hsim.1.symm.trans e1
          rw [pA_yes (fun q => h16 q.2) hyes] at hA
          have hgt := qO_gt hyes
          have hnn := (pA_n hA).1
          have ho := pO_ordV e1
          rw [hsgq] at ho
          have ho : ordV (σ 0) (σ 1) (sg T L p) (pO T L x y (sk T L p) (gt (ups Ω 49 12 (sk T L p : Int)) 58)).2.2.1 (pO T L x y (sk T L p) (gt (ups Ω 49 12 (sk T L p : Int)) 58)).2.2.2 := by rw [hx0, hy0]; exact ho
          obtain ⟨oc1, oc2⟩ := obey_cong σ ho hsim.2.2.2
          have hs1 : scM Ω1 = σ := (scM_cong (e3.1 50 (by decide) (by decide))).trans ((scM_cong (ups_n _ _ _ (by decide))).trans hσ)
          have h61 : gt Ω1 49 6 = -1 := by rw [e3.2 6 (by decide) (by decide), hf12.2 6 (by decide) (by decide)]; exact hs
          have hkb : zb (sg T L p) := by rcases ho with q | q | q <;> exact ⟨by omega, by omega⟩
          refine z_iload_n (pc := 72) hC (i := 1) dX5_goesThrough_72 rfl rfl ?_
          refine z_if_eq (pc := 73) hC 81 ⟨by decide, by decide⟩ dX5_goesThrough_73 rfl (fun h73 => ?_) (fun h73 => ?_)
          · exact absurd h73 (by decide)
          · refine z_aload_n (pc := 76) hC (i := 0) dX5_goesThrough_76 rfl rfl ?_
            refine z_iload_n (pc := 77) hC (i := 3) dX5_goesThrough_77 rfl rfl ?_
            rw [hsgq]
            refine z_callV (n := 1) (T := TX5) (N := 15) (ci := 5) (pc := 78) hC (c_X5_doesOrder l w hw _ σ hs1 hv h61 T L _ e2 (sg T L p) hkb ho) gX5_goesThrough_X5_doesOrder rfl (by decide +kernel) (by decide) (by decide) rfl (by decide) (fun _ => rfl) rfl rfl (Nat.le_of_ble_eq_true rfl) dX5_goesThrough_78 (zv_k fun Ω78 h78 => ?_)
            obtain ⟨hs78, hF78⟩ := h78
            refine z_iinc (pc := 81) hC (i := 2) dX5_goesThrough_81 rfl (by decide) rfl (zS_s (zS_s zS_0)) ?_
            refine z_goto (pc := 84) hC 7 dX5_goesThrough_84 rfl ?_
            obtain ⟨ok1, ok2, ok3⟩ := obey_ok hv ho
            have ec : (pO T L x y (sk T L p) (gt (ups Ω 49 12 (sk T L p : Int)) 58)).2.2.1 = (qO T L x y p).2.2.1 := hsim.2.2.1
            rw [oc1, ec] at hs78 ok1 ok2 ok3
            have e2A : RA T L Ω78 (qO T L x y p).2.1 := by
              rw [← hsim.2.1]
              exact e2.1.fr (hF78 53 (by decide) (by decide) (by decide) (by decide)) (hF78 49 (by decide) (by decide) (by decide) (by decide))
            have hq78 : frQ Ω1 Ω78 := ⟨fun q u1 u2 u3 u4 u5 u6 => hF78 q u2 u3 u4 u5, fun j _ _ => gt_fr (hF78 49 (by decide) (by decide) (by decide) (by decide)) j⟩
            refine ih (i + 1) (qO T L x y p).2.1 k1 _ Ω78 _ (by omega) (by omega) (by omega) hA e2A hs78 ok1 (ok2.trans hx0) (ok3.trans hy0) (hf12.trans (e3.q.trans hq78)) ?_
            rw [hτ]
            obtain ⟨d, hd⟩ : ∃ d, nn - i = d + 1 := ⟨nn - i - 1, by omega⟩
            rw [hd, show nn - (i + 1) = d by omega, doS, hx0, hy0]
set_option maxHeartbeats 4000000 in
set_option maxRecDepth 100000 in
theorem c_X5_goesThrough (l : Launch) (w : zP) (hw : zOK w) (Ω : Mem) (σ : Sg) (hσ : scM Ω = σ) (hv : scok σ) (hs : gt Ω 49 6 = -1) (T : Nat → Int) (L : Nat) (h : gt Ω 49 5 = (L : Int) ∧ L ≤ 100 ∧ ∀ k, k < L → gt Ω 53 k = T k ∧ 0 ≤ T k ∧ T k ≤ 127) (dn : Int) (hd : dn = 0 ∨ (dn = 1 ∧ ∃ n1, pA T L (σ 0) (σ 1) 101 0 0 = (none, n1))) : zM l w yX5_goesThrough wsX5_goesThrough 14 339 [.ref (wa w 49), .int (zI dn)] Ω (zi (fun r Ω1 => (dn = 0 → (∀ n2, pA T L (σ 0) (σ 1) 101 0 0 = (none, n2) → r = (n2 : Int) ∧ frR Ω Ω1) ∧ (∀ q n2, pA T L (σ 0) (σ 1) 101 0 0 = (some q, n2) → r = -1 ∧ gt Ω1 49 12 = (q : Int) ∧ frR Ω Ω1)) ∧ (dn = 1 → ∀ n2, pA T L (σ 0) (σ 1) 101 0 0 = (none, n2) → r = (n2 : Int) ∧ scM Ω1 = doS T L n2 0 σ ∧ frQ Ω Ω1))) := by
  refine zM_of cX5_goesThrough 4 (some .int) RX5 [some (.ref (wa w 49)), some (.int (zI dn)), none, none] hw (by decide +kernel) rfl rfl (Nat.le_of_ble_eq_true rfl) rfl (fun E hC => ?_)
  obtain ⟨hL, hL1, hT⟩ := h
  refine z_iconst (pc := 0) hC dX5_goesThrough_0 ?_
  refine z_istore_n (pc := 1) hC (i := 2) dX5_goesThrough_1 rfl (by decide) rfl (zS_s (zS_s zS_0)) ?_
  refine z_aload_n (pc := 2) hC (i := 0) dX5_goesThrough_2 rfl rfl ?_
  refine z_iconst (pc := 3) hC dX5_goesThrough_3 ?_
  refine z_putI (C := RX5) (T := TX5) (N := 15) (ci := 5) (pc := 4) hC _ 12 in_X5_goesThrough_X5 rfl (by decide) (fun _ => rfl) (by decide) fl_X5_goesThrough_195 tyX5_ok nmX5 rfl (by decide +kernel) (fun _ => Nat.le_of_ble_eq_true rfl) (fun _ _ => rfl) dX5_goesThrough_4 ?_
  have hA0 : RA T L (ups Ω 49 12 0) 0 := ⟨(gt_sn _ _ _ (by decide)).trans hL, hL1, fun k hk => by rw [gt_n _ _ _ _ (by decide)]; exact hT k hk, gt_s _ _ _ zb_0, Nat.zero_le _⟩
  have hf0 := frR_up Ω (k := 12) 0 (Or.inl rfl)
  have hs0 : scM (ups Ω 49 12 0) = σ := (scM_cong (ups_n _ _ _ (by decide))).trans hσ
  obtain ⟨o, nn, hPA⟩ : ∃ o nn, pA T L (σ 0) (σ 1) 101 0 0 = (o, nn) := ⟨_, _, rfl⟩
  rcases hd with hd | ⟨hd, n1, hd1⟩
  · subst hd
    refine L_X5_goesThrough_7 hw hC (ups Ω 49 12 0) T L (σ 0) (σ 1) hv.1 hv.2.1 (st_at hs0 (by decide)) (st_at hs0 (by decide)) o nn (fun ho Ω1 hf1 => ⟨_, rfl, fun _ => ⟨fun n2 e2 => ?_, fun q n2 e2 => ?_⟩, fun q => absurd q (by decide)⟩) (fun q ho Ω1 hat hf1 => ⟨_, rfl, fun _ => ⟨fun n2 e2 => ?_, fun q2 n2 e2 => ?_⟩, fun q => absurd q (by decide)⟩) 102 0 0 101 (ups Ω 49 12 0) none (by omega) (by omega) (by omega) hPA hA0 (frR.refl _)
    · rw [hPA] at e2
      have : nn = n2 := congrArg Prod.snd e2
      exact ⟨by rw [this], hf0.trans hf1⟩
    · rw [hPA, ho] at e2
      exact absurd (congrArg Prod.fst e2) (by simp)
    · rw [hPA, ho] at e2
      exact absurd (congrArg Prod.fst e2) (by simp)
    · rw [hPA, ho] at e2
      have e3 : some q = some q2 := congrArg Prod.fst e2
      have e4 : q = q2 := Option.some.inj e3
      exact ⟨rfl, by rw [← e4]; exact hat, hf0.trans hf1⟩
  · subst hd
    refine L_X5_goesThrough_7d hw hC (ups Ω 49 12 0) T L (σ 0) (σ 1) hv.1 hv.2.1 ((gt_sn _ _ _ (by decide)).trans hs) n1 (doS T L n1 0 σ) (fun Ω1 hs1 hf1 => ⟨_, rfl, fun q => absurd q (by decide), fun _ n2 e2 => ?_⟩) 102 0 0 101 σ (ups Ω 49 12 0) none (by omega) (by omega) (by omega) hd1 hA0 hs0 hv rfl rfl (frQ.refl _) (by rw [Nat.sub_zero])
    rw [hd1] at e2
    have : n1 = n2 := congrArg Prod.snd e2
    rw [← this]
    exact ⟨rfl, hs1, hf0.q.trans hf1⟩
