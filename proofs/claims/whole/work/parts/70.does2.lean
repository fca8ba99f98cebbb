theorem sg_lt {T : Nat → Int} {L p : Nat} (h : sg T L p ≠ -1) : sk T L p < L := by
  unfold sg at h
  by_cases c : sk T L p < L
  · exact c
  · rw [if_neg c] at h; exact absurd rfl h
theorem rF_le {T : Nat → Int} {L : Nat} {a b : Int} {s : Ps} (ha : 0 ≤ a) (h : s.1 ≤ L) : (rF T L a b s).2.1 ≤ L := by
  have := sk_le T h
  unfold rF
  by_cases c : a ≤ sg T L s.1 - 48 ∧ sg T L s.1 - 48 ≤ b
  · rw [if_pos c]
    have := sg_lt (T := T) (L := L) (p := s.1) (by omega)
    exact this
  · rw [if_neg c]; exact this.2
theorem rE_le {T : Nat → Int} {L : Nat} {s : Ps} (h : s.1 ≤ L) : (rE T L s).2.1 ≤ L := by
  have := sk_le T h
  unfold rE
  by_cases c : sg T L s.1 = 59
  · rw [if_pos c]
    have := sg_lt (T := T) (L := L) (p := s.1) (by omega)
    exact this
  · rw [if_neg c]; exact this.2
theorem seqB_le {L : Nat} {A : Bool × Ps} {g : Ps → Bool × Ps} (h : A.2.1 ≤ L) (hg : ∀ s : Ps, s.1 ≤ L → (g s).2.1 ≤ L) : (seqB A g).2.1 ≤ L := by
  unfold seqB
  split
  · exact hg _ h
  · exact h
theorem rD_le {T : Nat → Int} {L : Nat} {x y : Int} {s : Ps} (h : s.1 ≤ L) : (rD T L x y s).2.1 ≤ L := seqB_le (rF_le (Int.le_refl 0) h) (fun _ => rF_le (Int.le_refl 0))
theorem rM_le {T : Nat → Int} {L : Nat} {x y : Int} {s : Ps} (h : s.1 ≤ L) : (rM T L x y s).2.1 ≤ L := by
  have := sk_le T h
  unfold rM
  split
  · exact this.2
  · exact rD_le this.2
theorem pO_le {T : Nat → Int} {L : Nat} {x y : Int} {p : Nat} {f : Nat → Int} (h : p ≤ L) : (pO T L x y p f).2.1 ≤ L := by
  have h1 := sk_le T h
  unfold pO
  by_cases c : sg T L p = 102 ∨ sg T L p = 103 ∨ sg T L p = 110 ∨ sg T L p = 115 ∨ sg T L p = 108
  · rw [if_pos c]
    have h2 : sk T L p + 1 ≤ L := sg_lt (T := T) (L := L) (p := p) (by omega)
    unfold rO
    split
    · exact seqB_le (seqB_le (rD_le h2) (fun _ => rM_le)) (fun _ => rE_le)
    · split
      · exact seqB_le (seqB_le (rD_le h2) (fun _ => rF_le (Int.le_refl 0))) (fun _ => rE_le)
      · split
        · exact seqB_le (rF_le (by decide) h2) (fun _ => rE_le)
        · exact h2
  · rw [if_neg c]; exact h1.2
theorem pA_le {T : Nat → Int} {L : Nat} {x y : Int} : ∀ {k p n q m : Nat}, pA T L x y k p n = (some q, m) → p ≤ L → q ≤ L
  | 0, p, n, q, m, h, hp => by
    rw [pA] at h
    have : some p = some q := congrArg Prod.fst h
    have := Option.some.inj this
    omega
  | k + 1, p, n, q, m, h, hp => by
    rw [pA] at h
    split at h
    · exact absurd (congrArg Prod.fst h) (by simp)
    · have h3 : (qO T L x y p).2.1 ≤ L := pO_le hp
      split at h
      · exact pA_le h h3
      · have : some (qO T L x y p).2.1 = some q := congrArg Prod.fst h
        have := Option.some.inj this
        omega
theorem ffv_b (T : Nat → Int) (L : Nat) (x y : Int) (hL : L ≤ 100) : -1 ≤ ffv (pA T L x y 101 0 0).1 ∧ ffv (pA T L x y 101 0 0).1 ≤ 101 := by
  obtain ⟨o, n, e⟩ : ∃ o n, pA T L x y 101 0 0 = (o, n) := ⟨_, _, rfl⟩
  rw [e]
  cases o with
  | none => show (-1 : Int) ≤ -1 ∧ (-1 : Int) ≤ 101; omega
  | some p =>
    have := pA_le e (Nat.zero_le _)
    show -1 ≤ (p : Int) ∧ (p : Int) ≤ 101
    omega
theorem pok_D {T : Nat → Int} {L : Nat} {Ω Ω1 : Mem} (h : pok T L Ω) (g : frD Ω Ω1) : pok T L Ω1 ∧ psC Ω1 = psC Ω := by
  obtain ⟨h1, h2, h3, h4, h5, h6⟩ := h
  have e10 : ∀ k, gt Ω1 10 k = gt Ω 10 k := fun k => gt_fr (g 10 (by omega)) k
  have e11 : gt Ω1 11 = gt Ω 11 := funext fun k => gt_fr (g 11 (by omega)) k
  have e12 : gt Ω1 12 = gt Ω 12 := funext fun k => gt_fr (g 12 (by omega)) k
  refine ⟨⟨by rw [e11]; exact h1, by rw [e10]; exact h2, h3, h4, by rw [e10]; exact h5, by rw [e10]; exact h6⟩, ?_⟩
  unfold psC
  rw [e10, e10, e12]
theorem RC.pk {Ω Ω1 : Mem} {a : As} {T : Nat → Int} {L : Nat} (h : RC Ω a) (hT : a.2.2.2.2 = T) (hL : a.2.2.2.1 = L) (hp : pok T L Ω1) (hq : ∀ q, q ≠ 10 → q ≠ 12 → Ω1 q = Ω q) : RC Ω1 a := by
  subst hT hL
  obtain ⟨h1, h2, h3, h4, h5, h6⟩ := hp
  exact h.read (fun q u1 u2 u3 => hq q u1 u3) h2 h3 h1 h4 h6
theorem fl_X4_does_33 : Cond.fieldLink RX4 33 "StrokeCuts" "script" "LStrokeCuts$Script;" ∈ wsX4_does := by decide +kernel
theorem in_X4_does_X4 : ∀ x ∈ u_ws RX4 TX4 7, x ∈ wsX4_does := by decide +kernel
theorem fl_X4_does_12 : Cond.fieldLink RX4 12 "StrokeCuts" "scene" "LStrokeCuts$Scene;" ∈ wsX4_does := by decide +kernel
theorem fl_X4_does_209 : Cond.fieldLink RX4 209 "StrokeCuts$Scene" "width" "I" ∈ wsX4_does := by decide +kernel
theorem in_X4_does_X2 : ∀ x ∈ u_ws RX2 TX2 5, x ∈ wsX4_does := by decide +kernel
theorem fl_X4_does_212 : Cond.fieldLink RX4 212 "StrokeCuts$Scene" "height" "I" ∈ wsX4_does := by decide +kernel
set_option maxHeartbeats 4000000 in
set_option maxRecDepth 100000 in
theorem L_X4_does_60 {E : zE} {w : zP} {l : Launch} {Post : Option Value → Mem → Prop} (hw : zOK w) (hC : zC E w l RX4 wsX4_does cX4_does 4 43 1187 (some .int) Post) (T : Nat → Int) (L n : Nat) (hn : n ≤ 101) (x y : Int) (hx : 2 ≤ x ∧ x ≤ 6) (hy : 2 ≤ y ∧ y ≤ 6) (a0 : As) (hT : a0.2.2.2.2 = T) (hL : a0.2.2.2.1 = L) (σ1 : Sg) (Ω0 : Mem) (o1 : Option Value) (K : ∀ Ω : Mem, RC Ω (aSet a0 σ1) → frC Ω0 Ω → X E Ω 99 [some (.ref (wa w 0)), o1, some (.int (zI (n : Int))), some (.int (zI (n : Int)))] []) : ∀ (fu : Nat) (i : Nat) (k : Nat) (p : Nat) (σ : Sg) (Ω : Mem), n < i + fu → (i ≤ n) → (RC Ω (aSet a0 σ)) → (pok T L Ω) → ((psC Ω).1 = p) → (pA T L x y k p i = (none, n)) → (doS T L (n - i) p σ = σ1) → (σ 0 = x) → (σ 1 = y) → (frC Ω0 Ω) → X E Ω 60 [some (.ref (wa w 0)), o1, some (.int (zI (n : Int))), some (.int (zI (i : Int)))] [] := by
  intro fu
  induction fu with
  | zero =>
    intro i k p σ Ω hfu hi h hp hpp hA hS hσ0 hσ1 hF
    exact absurd hfu (by omega)
  | succ fu ih =>
    intro i k p σ Ω hfu hi h hp hpp hA hS hσ0 hσ1 hF
    have q0 : gt Ω 13 0 = x := by rw [← scC_0, h.1.1]; exact hσ0
    have q1 : gt Ω 13 1 = y := by rw [← scC_1, h.1.1]; exact hσ1
    refine z_iload_n (pc := 60) hC (i := 3) dX4_does_60 rfl rfl ?_
    refine z_iload_n (pc := 61) hC (i := 2) dX4_does_61 rfl rfl ?_
    refine z_icmp_ge (pc := 62) hC 99 (by first | assumption | exact zb_gt _ _ _ | exact zcmp_zb _ _ | exact bI_zb _ | exact ⟨by omega, by omega⟩) (by first | assumption | exact zb_gt _ _ _ | exact zcmp_zb _ _ | exact bI_zb _ | exact ⟨by omega, by omega⟩) dX4_does_62 rfl (fun h62 => ?_) (fun h62 => ?_)
    · obtain rfl : i = n := by omega
      rw [Nat.sub_self] at hS
      have hS : σ = σ1 := hS
      subst hS
      exact K Ω h hF
    · refine z_aload_n (pc := 65) hC (i := 0) dX4_does_65 rfl rfl ?_
      refine z_getR (C := RX4) (T := TX4) (N := 7) (ci := 4) (pc := 66) hC _ _ 3 in_X4_does_X4 rfl (by decide) (fun _ => rfl) (by decide) fl_X4_does_33 (fun _ => rfl) dX4_does_66 ?_
      refine z_aload_n (pc := 69) hC (i := 0) dX4_does_69 rfl rfl ?_
      refine z_getR (C := RX4) (T := TX4) (N := 7) (ci := 4) (pc := 70) hC _ _ 0 in_X4_does_X4 rfl (by decide) (fun _ => rfl) (by decide) fl_X4_does_12 (fun _ => rfl) dX4_does_70 ?_
      refine z_getI (C := RX2) (T := TX2) (N := 5) (ci := 2) (pc := 73) hC _ 0 in_X4_does_X2 rfl (by decide) (fun _ => rfl) (by decide) fl_X4_does_209 (fun _ => rfl) dX4_does_73 ?_
      rw [q0]
      refine z_aload_n (pc := 76) hC (i := 0) dX4_does_76 rfl rfl ?_
      refine z_getR (C := RX4) (T := TX4) (N := 7) (ci := 4) (pc := 77) hC _ _ 0 in_X4_does_X4 rfl (by decide) (fun _ => rfl) (by decide) fl_X4_does_12 (fun _ => rfl) dX4_does_77 ?_
      refine z_getI (C := RX2) (T := TX2) (N := 5) (ci := 2) (pc := 80) hC _ 1 in_X4_does_X2 rfl (by decide) (fun _ => rfl) (by decide) fl_X4_does_212 (fun _ => rfl) dX4_does_80 ?_
      rw [q1]
      refine z_callV (n := 2) (T := TX3) (N := 7) (ci := 3) (pc := 83) hC (c_X3_readOrder l w hw _ T L hp x y hx hy) gX4_does_X3_readOrder rfl (by decide +kernel) (by decide) (by decide) rfl (by decide) (fun _ => rfl) rfl rfl (Nat.le_of_ble_eq_true rfl) dX4_does_83 (zb_k fun r83 Ω83 h83 => ?_)
      obtain ⟨hr83, hp83, hk83, hv83, hf83⟩ := h83
      obtain ⟨j, hj, hq, hA2⟩ := pA_go hA (by omega)
      have hsim := sim_pO T L x y (psC Ω).1 (psC Ω).2.2
      rw [hpp] at hsim hr83 hp83 hk83
      obtain ⟨s1, s2, s3, s4⟩ := hsim
      have ht : r83 = true := by rw [hr83, s1]; exact hq
      subst ht
      refine z_ifb_eq (pc := 86) hC 93 dX4_does_86 rfl (fun h86 => ?_) (fun h86 => ?_)
      · exact absurd h86 (by decide)
      · have hok : (pO T L x y p (psC Ω).2.2).1 = true := by rw [s1]; exact hq
        have hR2 : RC Ω83 (aSet a0 σ) := RC.pk h hT hL hv83 hf83.1
        have hkind : gt Ω83 10 5 = sg T L p := hk83
        refine z_aload_n (pc := 89) hC (i := 0) dX4_does_89 rfl rfl ?_
        refine z_callV (n := 0) (T := TX4) (N := 7) (ci := 4) (pc := 90) hC (c_X4_obeyOrder l w hw _ (aSet a0 σ) hR2 (by rw [hkind]; show ordV (σ 0) (σ 1) _ (psC Ω83).2.1 (psC Ω83).2.2; rw [hσ0, hσ1, hp83]; exact pO_ordV hok)) gX4_does_X4_obeyOrder rfl (by decide +kernel) (by decide) (by decide) rfl (by decide) (fun _ => rfl) rfl rfl (Nat.le_of_ble_eq_true rfl) dX4_does_90 (zv_k fun Ω90 h90 => ?_)
        obtain ⟨hR90, hf90⟩ := h90
        obtain ⟨hp90, hps90⟩ := pok_D hv83 hf90
        refine z_iinc (pc := 93) hC (i := 3) dX4_does_93 rfl (by decide) rfl (zS_s (zS_s (zS_s zS_0))) ?_
        refine z_goto (pc := 96) hC 60 dX4_does_96 rfl ?_
        have hc : (psC Ω83).2.1 = (qO T L x y p).2.2.1 := by rw [hp83]; exact s3
        have hob := obey_cong (x := x) (y := y) σ (pO_ordV hok) (g := (qO T L x y p).2.2.2) s4
        have e1 : obey σ (gt Ω83 10 5) (gt Ω83 10 6).toNat (gt Ω83 12) = obey σ (sg T L p) (qO T L x y p).2.2.1 (qO T L x y p).2.2.2 := by
          rw [hkind, ← s3, ← hob.1]
          show obey σ (sg T L p) (psC Ω83).2.1 (psC Ω83).2.2 = _
          rw [hp83]
        have hok2 := obey_ok (σ := σ) h.1.2 (k := sg T L p) (c := (pO T L x y p (psC Ω).2.2).2.2.1) (f := (pO T L x y p (psC Ω).2.2).2.2.2) (by show ordV (σ 0) (σ 1) _ _ _; rw [hσ0, hσ1]; exact pO_ordV hok)
        rw [hob.1, s3] at hok2
        have hok3 : obey σ (sg T L p) (qO T L x y p).2.2.1 (qO T L x y p).2.2.2 0 = σ 0 ∧ obey σ (sg T L p) (qO T L x y p).2.2.1 (qO T L x y p).2.2.2 1 = σ 1 := hok2.2
        rw [show (aSet a0 σ).1 = σ from rfl, e1] at hR90
        refine ih (i + 1) j (qO T L x y p).2.1 (obey σ (sg T L p) (qO T L x y p).2.2.1 (qO T L x y p).2.2.2) _ (by omega) (by omega) hR90 hp90 (by rw [hps90, hp83]; exact s2) hA2 ?_ (hok3.1.trans hσ0) (hok3.2.trans hσ1) (hF.trans (fun q hq => (hf90 q (by omega)).trans (hf83.1 q (by omega) (by omega))))
        rw [← hS, show n - i = (n - (i + 1)) + 1 by omega, doS, hσ0, hσ1]
theorem ord_rw {T : Nat → Int} {L : Nat} {Ω : Mem} (h : pok T L Ω) : pok T L (ups Ω 10 3 0) ∧ (psC (ups Ω 10 3 0)).1 = 0 := by
  obtain ⟨h1, h2, h3, h4, h5, h6⟩ := h
  refine ⟨⟨by rw [gt_nf _ _ _ (by decide)]; exact h1, by rw [gt_sn _ _ _ (by decide)]; exact h2, h3, h4, by rw [gt_s _ _ _ zb_0]; omega, by rw [gt_sn _ _ _ (by decide)]; exact h6⟩, ?_⟩
  show (gt (ups Ω 10 3 0) 10 3).toNat = 0
  rw [gt_s _ _ _ zb_0]; rfl
theorem fl_X4_does_19 : Cond.fieldLink RX4 19 "StrokeCuts" "past" "LStrokeCuts$History;" ∈ wsX4_does := by decide +kernel
theorem fl_X4_does_218 : Cond.fieldLink RX4 218 "StrokeCuts$Script" "orders" "I" ∈ wsX4_does := by decide +kernel
theorem in_X4_does_X3 : ∀ x ∈ u_ws RX3 TX3 7, x ∈ wsX4_does := by decide +kernel
set_option maxHeartbeats 4000000 in
set_option maxRecDepth 100000 in
theorem c_X4_does (l : Launch) (w : zP) (hw : zOK w) (Ω : Mem) (a : As) (h : RC Ω a) : zM l w yX4_does wsX4_does 43 1187 [.ref (wa w 0)] Ω (zi (fun r Ω1 => r = (aDoes a).1 ∧ RC Ω1 (aDoes a).2 ∧ frC Ω Ω1)) := by
  refine zM_of cX4_does 4 (some .int) RX4 [some (.ref (wa w 0)), none, none, none] hw (by decide +kernel) rfl rfl (Nat.le_of_ble_eq_true rfl) rfl (fun E hC => ?_)
  have hv := h.1.2
  have hv1 : scok (scC Ω) := by rw [h.1.1]; exact h.1.2
  have q0 : gt Ω 13 0 = a.1 0 := by rw [← scC_0, h.1.1]
  have q1 : gt Ω 13 1 = a.1 1 := by rw [← scC_1, h.1.1]
  have hN := sdots_le hv
  have hw01 := hv.1
  have hh01 := hv.2.1
  refine z_aload_n (pc := 0) hC (i := 0) dX4_does_0 rfl rfl ?_
  refine z_getR (C := RX4) (T := TX4) (N := 7) (ci := 4) (pc := 1) hC _ _ 3 in_X4_does_X4 rfl (by decide) (fun _ => rfl) (by decide) fl_X4_does_33 (fun _ => rfl) dX4_does_1 ?_
  refine z_aload_n (pc := 4) hC (i := 0) dX4_does_4 rfl rfl ?_
  refine z_getR (C := RX4) (T := TX4) (N := 7) (ci := 4) (pc := 5) hC _ _ 0 in_X4_does_X4 rfl (by decide) (fun _ => rfl) (by decide) fl_X4_does_12 (fun _ => rfl) dX4_does_5 ?_
  refine z_getI (C := RX2) (T := TX2) (N := 5) (ci := 2) (pc := 8) hC _ 0 in_X4_does_X2 rfl (by decide) (fun _ => rfl) (by decide) fl_X4_does_209 (fun _ => rfl) dX4_does_8 ?_
  rw [q0]
  refine z_aload_n (pc := 11) hC (i := 0) dX4_does_11 rfl rfl ?_
  refine z_getR (C := RX4) (T := TX4) (N := 7) (ci := 4) (pc := 12) hC _ _ 0 in_X4_does_X4 rfl (by decide) (fun _ => rfl) (by decide) fl_X4_does_12 (fun _ => rfl) dX4_does_12 ?_
  refine z_getI (C := RX2) (T := TX2) (N := 5) (ci := 2) (pc := 15) hC _ 1 in_X4_does_X2 rfl (by decide) (fun _ => rfl) (by decide) fl_X4_does_212 (fun _ => rfl) dX4_does_15 ?_
  rw [q1]
  refine z_callV (n := 2) (T := TX3) (N := 7) (ci := 3) (pc := 18) hC (c_X3_findFault l w hw _ a.2.2.2.2 a.2.2.2.1 h.2.2.2.2.2.1 h.2.2.2.1 h.2.2.2.2.1 h.2.2.2.2.2.2.1 h.2.2.2.2.2.2.2 (a.1 0) (a.1 1) hw01 hh01) gX4_does_X3_findFault rfl (by decide +kernel) (by decide) (by decide) rfl (by decide) (fun _ => rfl) rfl rfl (Nat.le_of_ble_eq_true rfl) dX4_does_18 (zi_k fun r18 Ω18 h18 => ?_)
  obtain ⟨f0, f1, f2, f3, f4⟩ := h18
  have f5 : -1 ≤ r18 ∧ r18 ≤ 101 := by
    rw [f0]
    exact ffv_b _ _ _ _ h.2.2.2.2.1
  have hR18 : RC Ω18 a := RC.pk h rfl rfl f2 f3
  have hf18 : frC Ω Ω18 := fun q hq => f3 q (by omega) (by omega)
  obtain ⟨oo, nn, hpA⟩ : ∃ oo nn, pA a.2.2.2.2 a.2.2.2.1 (a.1 0) (a.1 1) 101 0 0 = (oo, nn) := ⟨_, _, rfl⟩
  rw [hpA] at f0 f1
  have hr18b : -1 ≤ r18 ∧ r18 ≤ 101 := by exact f5
  refine z_istore_n (pc := 21) hC (i := 1) dX4_does_21 rfl (by decide) rfl (zS_s zS_0) ?_
  refine z_iload_n (pc := 22) hC (i := 1) dX4_does_22 rfl rfl ?_
  refine z_iconst (pc := 23) hC dX4_does_23 ?_
  refine z_icmp_eq (pc := 24) hC 32 (by first | assumption | exact zb_gt _ _ _ | exact zcmp_zb _ _ | exact bI_zb _ | exact ⟨by omega, by omega⟩) (by first | assumption | exact zb_gt _ _ _ | exact zcmp_zb _ _ | exact bI_zb _ | exact ⟨by omega, by omega⟩) dX4_does_24 rfl (fun h24 => ?_) (fun h24 => ?_)
  · have ho : oo = none := by
      cases oo with
      | none => rfl
      | some p => exact absurd (f0.symm.trans h24) (by show ¬ ((p : Int) = -1); omega)
    subst ho
    refine z_aload_n (pc := 32) hC (i := 0) dX4_does_32 rfl rfl ?_
    refine z_getR (C := RX4) (T := TX4) (N := 7) (ci := 4) (pc := 33) hC _ _ 1 in_X4_does_X4 rfl (by decide) (fun _ => rfl) (by decide) fl_X4_does_19 (fun _ => rfl) dX4_does_33 ?_
    refine z_aload_n (pc := 36) hC (i := 0) dX4_does_36 rfl rfl ?_
    refine z_getR (C := RX4) (T := TX4) (N := 7) (ci := 4) (pc := 37) hC _ _ 0 in_X4_does_X4 rfl (by decide) (fun _ => rfl) (by decide) fl_X4_does_12 (fun _ => rfl) dX4_does_37 ?_
    refine z_callV (n := 1) (T := TX0) (N := 3) (ci := 0) (pc := 40) hC (c_X0_remember l w hw _ hR18.2.1.2.2.1.1 hR18.2.1.2.2.1.2 (by rw [hR18.2.1.1]; omega) (by rw [hR18.2.1.1]; have := hR18.2.1.2.1; omega)) gX4_does_X0_remember rfl (by decide +kernel) (by decide) (by decide) rfl (by decide) (fun _ => rfl) rfl rfl (Nat.le_of_ble_eq_true rfl) dX4_does_40 (zv_k fun Ω40 h40 => ?_)
    obtain ⟨g1, g2, g3, g4⟩ := h40
    have hn8 := hR18.2.1.2.2.1
    obtain ⟨hR, hfr, hs⟩ := hR18.rem g1 g2 g3 g4
    have hp40 : pok a.2.2.2.2 a.2.2.2.1 Ω40 := (pok_D f2 (fun q hq => g4 q (by omega) (by omega))).1
    have e4 : gt Ω40 10 4 = (nn : Int) := (gt_fr (g4 10 (by omega) (by omega)) 4).trans (f1 (by omega))
    refine z_aload_n (pc := 43) hC (i := 0) dX4_does_43 rfl rfl ?_
    refine z_getR (C := RX4) (T := TX4) (N := 7) (ci := 4) (pc := 44) hC _ _ 3 in_X4_does_X4 rfl (by decide) (fun _ => rfl) (by decide) fl_X4_does_33 (fun _ => rfl) dX4_does_44 ?_
    refine z_getI (C := RX3) (T := TX3) (N := 7) (ci := 3) (pc := 47) hC _ 4 in_X4_does_X3 rfl (by decide) (fun _ => rfl) (by decide) fl_X4_does_218 (fun _ => rfl) dX4_does_47 ?_
    rw [e4]
    refine z_istore_n (pc := 50) hC (i := 2) dX4_does_50 rfl (by decide) rfl (zS_s (zS_s zS_0)) ?_
    refine z_aload_n (pc := 51) hC (i := 0) dX4_does_51 rfl rfl ?_
    refine z_getR (C := RX4) (T := TX4) (N := 7) (ci := 4) (pc := 52) hC _ _ 3 in_X4_does_X4 rfl (by decide) (fun _ => rfl) (by decide) fl_X4_does_33 (fun _ => rfl) dX4_does_52 ?_
    refine z_callV (n := 0) (T := TX3) (N := 7) (ci := 3) (pc := 55) hC (c_X3_rewind l w hw _) gX4_does_X3_rewind rfl (by decide +kernel) (by decide) (by decide) rfl (by decide) (fun _ => rfl) rfl rfl (Nat.le_of_ble_eq_true rfl) dX4_does_55 (zv_k fun Ω55 h55 => ?_)
    subst h55
    refine z_iconst (pc := 58) hC dX4_does_58 ?_
    refine z_istore_n (pc := 59) hC (i := 3) dX4_does_59 rfl (by decide) rfl (zS_s (zS_s (zS_s zS_0))) ?_
    have hz := ord_rw hp40
    have hnb := pA_n hpA
    refine L_X4_does_60 hw hC a.2.2.2.2 a.2.2.2.1 nn (by omega) (a.1 0) (a.1 1) hw01 hh01 (aRem a) rfl rfl _ Ω _ (fun Ω1 hR1 hf1 => ?_) (nn + 1) 0 101 0 a.1 _ (by omega) (by omega) (RC.pk hR rfl rfl hz.1 (fun q u v => ups_n _ _ _ u)) hz.1 hz.2 hpA rfl rfl rfl ((hf18.trans hfr).trans (frC_up _ _ _ (by decide)))
    refine z_iload_n (pc := 99) hC (i := 2) dX4_does_99 rfl rfl ?_
    exact z_iret (pc := 100) hC rfl ⟨_, rfl, ok_ret (by unfold aDoes; rw [hpA]; rfl) hR1 hf1⟩ dX4_does_100
  · obtain ⟨p, rfl⟩ : ∃ p, oo = some p := by
      cases oo with
      | none => exact absurd f0 h24
      | some p => exact ⟨p, rfl⟩
    refine z_bipush (pc := 27) hC dX4_does_27 rfl ?_
    refine z_iload_n (pc := 29) hC (i := 1) dX4_does_29 rfl rfl ?_
    refine z_isub (pc := 30) hC dX4_does_30 ?_
    exact z_iret (pc := 31) hC rfl ⟨_, rfl, by
          have f0 : r18 = (p : Int) := f0
          subst f0
          exact ok_ret (by unfold aDoes; rw [hpA]) hR18 hf18⟩ dX4_does_31
