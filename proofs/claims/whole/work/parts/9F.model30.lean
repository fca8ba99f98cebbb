/-! ===== the reference's reader ===== -/
theorem sk_ge (T : Nat → Int) (L p : Nat) : p ≤ sk T L p := (skf_le T L (L - p) p).1
theorem rF_ge (T : Nat → Int) (L : Nat) (a b : Int) (s : Ps) : s.1 ≤ (rF T L a b s).2.1 := by
  have := sk_ge T L s.1
  unfold rF
  split
  · show s.1 ≤ sk T L s.1 + 1; omega
  · exact this
theorem seq_ge {A : Bool × Ps} {g : Ps → Bool × Ps} (hg : ∀ s, s.1 ≤ (g s).2.1) : A.2.1 ≤ (seqB A g).2.1 := by
  unfold seqB
  split
  · exact hg _
  · exact Nat.le_refl _
theorem rD_ge (T : Nat → Int) (L : Nat) (x y : Int) (s : Ps) : s.1 ≤ (rD T L x y s).2.1 := Nat.le_trans (rF_ge T L 0 (x - 1) s) (seq_ge (rF_ge T L 0 (y - 1)))
theorem rE_ge (T : Nat → Int) (L : Nat) (s : Ps) : s.1 ≤ (rE T L s).2.1 := by
  have := sk_ge T L s.1
  unfold rE
  split
  · show s.1 ≤ sk T L s.1 + 1; omega
  · exact this
theorem rM_ge (T : Nat → Int) (L : Nat) (x y : Int) (s : Ps) : s.1 ≤ (rM T L x y s).2.1 := by
  have := sk_ge T L s.1
  unfold rM
  split
  · exact this
  · exact Nat.le_trans this (rD_ge T L x y (sk T L s.1, s.2))
/-- what is behind the letter, without the end -/
def rR (T : Nat → Int) (L : Nat) (x y k : Int) (s : Ps) : Bool × Ps := if k = 108 then rF T L 1 9 s else if k = 115 then seqB (rD T L x y s) (rF T L 0 9) else seqB (rD T L x y s) (rM T L x y)
theorem rR_ge (T : Nat → Int) (L : Nat) (x y k : Int) (s : Ps) : s.1 ≤ (rR T L x y k s).2.1 := by
  unfold rR
  split
  · exact rF_ge T L 1 9 s
  · split
    · exact Nat.le_trans (rD_ge T L x y s) (seq_ge (rF_ge T L 0 9))
    · exact Nat.le_trans (rD_ge T L x y s) (seq_ge (rM_ge T L x y))
theorem pO_rR {T : Nat → Int} {L : Nat} {x y : Int} {p : Nat} {f : Nat → Int} (h : sg T L p = 102 ∨ sg T L p = 103 ∨ sg T L p = 110 ∨ sg T L p = 115 ∨ sg T L p = 108) : pO T L x y p f = seqB (rR T L x y (sg T L p) (sk T L p + 1, 0, f)) (rE T L) := by
  rw [pO_yes h]
  unfold rR
  by_cases c1 : sg T L p = 108
  · rw [if_pos c1, rO_l c1]
  · rw [if_neg c1]
    by_cases c2 : sg T L p = 115
    · rw [if_pos c2, rO_s c2]
    · rw [if_neg c2, rO_fgn (by omega)]
theorem qO_gt {T : Nat → Int} {L : Nat} {x y : Int} {p : Nat} (h : (qO T L x y p).1 = true) : p + 1 ≤ (qO T L x y p).2.1 := by
  unfold qO at *
  by_cases c : sg T L p = 102 ∨ sg T L p = 103 ∨ sg T L p = 110 ∨ sg T L p = 115 ∨ sg T L p = 108
  · rw [pO_rR c]
    have h1 := sk_ge T L p
    have h2 := rR_ge T L x y (sg T L p) (sk T L p + 1, 0, fun _ => 0)
    have h3 := seq_ge (A := rR T L x y (sg T L p) (sk T L p + 1, 0, fun _ => 0)) (rE_ge T L)
    have h2 : sk T L p + 1 ≤ (rR T L x y (sg T L p) (sk T L p + 1, 0, fun _ => 0)).2.1 := h2
    omega
  · rw [pO_no c] at h; exact absurd (show false = true from h) (by decide)
/-- text and place -/
def RA (T : Nat → Int) (L : Nat) (Ω : Mem) (p : Nat) : Prop := gt Ω 49 5 = (L : Int) ∧ L ≤ 100 ∧ (∀ k, k < L → gt Ω 53 k = T k ∧ 0 ≤ T k ∧ T k ≤ 127) ∧ gt Ω 49 12 = (p : Int) ∧ p ≤ L
def RD (T : Nat → Int) (L : Nat) (Ω : Mem) (s : Ps) : Prop := RA T L Ω s.1 ∧ gt Ω 49 14 = (s.2.1 : Int) ∧ gt Ω 58 = s.2.2
def frR (Ω Ω1 : Mem) : Prop := (∀ q, q ≠ 49 → q ≠ 58 → Ω1 q = Ω q) ∧ ∀ k, k ≠ 12 → k ≠ 14 → gt Ω1 49 k = gt Ω 49 k
theorem frR.refl (Ω : Mem) : frR Ω Ω := ⟨fun _ _ _ => rfl, fun _ _ _ => rfl⟩
theorem frR.trans {A B C : Mem} (h : frR A B) (g : frR B C) : frR A C := ⟨fun q a b => (g.1 q a b).trans (h.1 q a b), fun k a b => (g.2 k a b).trans (h.2 k a b)⟩
theorem frR_up (Ω : Mem) {k : Nat} (v : Int) (h : k = 12 ∨ k = 14) : frR Ω (ups Ω 49 k v) := ⟨fun q a _ => ups_n _ _ _ a, fun j a b => gt_sn _ _ _ (by omega)⟩
theorem frR_fig (Ω : Mem) (k : Nat) (v : Int) : frR Ω (ups Ω 58 k v) := ⟨fun q _ b => ups_n _ _ _ b, fun j _ _ => gt_n _ _ _ _ (by decide)⟩
theorem RA.go {T : Nat → Int} {L : Nat} {Ω : Mem} {p p1 : Nat} (h : RA T L Ω p) (h1 : p1 ≤ L) : RA T L (ups Ω 49 12 (p1 : Int)) p1 := by
  obtain ⟨a1, a2, a3, a4, a5⟩ := h
  exact ⟨(gt_sn _ _ _ (by decide)).trans a1, a2, fun k hk => by rw [gt_n _ _ _ _ (by decide)]; exact a3 k hk, gt_s _ _ _ ⟨by omega, by omega⟩, h1⟩
theorem RD.go {T : Nat → Int} {L : Nat} {Ω : Mem} {s : Ps} {p1 : Nat} (h : RD T L Ω s) (h1 : p1 ≤ L) : RD T L (ups Ω 49 12 (p1 : Int)) (p1, s.2) :=
  ⟨h.1.go h1, (gt_sn _ _ _ (by decide)).trans h.2.1, (gt_nf _ _ _ (by decide)).trans h.2.2⟩
theorem RA.zero {T : Nat → Int} {L : Nat} {Ω : Mem} {p : Nat} (h : RA T L Ω p) : RD T L (ups Ω 49 14 0) (p, 0, gt Ω 58) := by
  obtain ⟨a1, a2, a3, a4, a5⟩ := h
  exact ⟨⟨(gt_sn _ _ _ (by decide)).trans a1, a2, fun k hk => by rw [gt_n _ _ _ _ (by decide)]; exact a3 k hk, (gt_sn _ _ _ (by decide)).trans a4, a5⟩, gt_s _ _ _ zb_0, gt_nf _ _ _ (by decide)⟩
theorem RD.take {T : Nat → Int} {L : Nat} {Ω : Mem} {s : Ps} {v : Int} (h : RD T L Ω s) (hz : zb v) (hc : s.2.1 ≤ 3) (h1 : s.1 + 1 ≤ L) : RD T L (ups (ups (ups Ω 58 s.2.1 v) 49 14 ((s.2.1 : Int) + 1)) 49 12 ((s.1 : Int) + 1)) (s.1 + 1, s.2.1 + 1, fup s.2.2 s.2.1 v) := by
  obtain ⟨⟨a1, a2, a3, a4, a5⟩, b1, b2⟩ := h
  refine ⟨⟨?_, a2, fun k hk => ?_, ?_, h1⟩, ?_, ?_⟩
  · rw [gt_sn _ _ _ (by decide), gt_sn _ _ _ (by decide), gt_n _ _ _ _ (by decide)]; exact a1
  · rw [gt_n _ _ _ _ (by decide), gt_n _ _ _ _ (by decide), gt_n _ _ _ _ (by decide)]; exact a3 k hk
  · exact gt_s _ _ _ ⟨by omega, by omega⟩
  · rw [gt_sn _ _ _ (by decide)]; exact gt_s _ _ _ ⟨by omega, by omega⟩
  · rw [gt_nf _ _ _ (by decide), gt_nf _ _ _ (by decide), gt_fup _ _ _ hz, b2]
theorem fl_X5_sign_195 : Cond.fieldLink RX5 195 "StrokeCutsModel" "at" "I" ∈ wsX5_sign := by decide +kernel
theorem in_X5_sign_X5 : ∀ x ∈ u_ws RX5 TX5 15, x ∈ wsX5_sign := by decide +kernel
theorem fl_X5_sign_189 : Cond.fieldLink RX5 189 "StrokeCutsModel" "letters" "I" ∈ wsX5_sign := by decide +kernel
theorem fl_X5_sign_19 : Cond.fieldLink RX5 19 "StrokeCutsModel" "text" "[I" ∈ wsX5_sign := by decide +kernel
set_option maxHeartbeats 4000000 in
set_option maxRecDepth 100000 in
theorem L_X5_sign_0 {E : zE} {w : zP} {l : Launch} {Post : Option Value → Mem → Prop} (hw : zOK w) (hC : zC E w l RX5 wsX5_sign cX5_sign 1 0 0 (some .int) Post) (Ω0 : Mem) (T : Nat → Int) (L e : Nat) (hL : gt Ω0 49 5 = (L : Int)) (hL1 : L ≤ 100) (hT : ∀ k, k < L → gt Ω0 53 k = T k ∧ 0 ≤ T k ∧ T k ≤ 127) (K : X E (ups Ω0 49 12 (e : Int)) 38 [some (.ref (wa w 49))] []) : ∀ (n : Nat) (p : Nat), L < p + n → (p ≤ L) → (sk T L p = e) → X E (ups Ω0 49 12 (p : Int)) 0 [some (.ref (wa w 49))] [] := by
  intro n
  induction n with
  | zero =>
    intro p hfu hp hs
    exact absurd hfu (by omega)
  | succ n ih =>
    intro p hfu hp hs
    have e2 : gt (ups Ω0 49 12 (p : Int)) 49 5 = L := by rw [gt_sn _ _ _ (by decide : (5 : Nat) ≠ 12)]; exact hL
    have e3 : gt (ups Ω0 49 12 (p : Int)) 49 12 = p := gt_s _ _ _ ⟨by omega, by omega⟩
    have e1 : ∀ k, gt (ups Ω0 49 12 (p : Int)) 53 k = gt Ω0 53 k := fun k => gt_n _ _ _ _ (by decide)
    refine z_aload_n (pc := 0) hC (i := 0) dX5_sign_0 rfl rfl ?_
    refine z_getI (C := RX5) (T := TX5) (N := 15) (ci := 5) (pc := 1) hC _ 12 in_X5_sign_X5 rfl (by decide) (fun _ => rfl) (by decide) fl_X5_sign_195 (fun _ => rfl) dX5_sign_1 ?_
    refine z_aload_n (pc := 4) hC (i := 0) dX5_sign_4 rfl rfl ?_
    refine z_getI (C := RX5) (T := TX5) (N := 15) (ci := 5) (pc := 5) hC _ 5 in_X5_sign_X5 rfl (by decide) (fun _ => rfl) (by decide) fl_X5_sign_189 (fun _ => rfl) dX5_sign_5 ?_
    rw [e2, e3]
    refine z_icmp_ge (pc := 8) hC 38 (by first | assumption | exact zb_gt _ _ _ | exact zcmp_zb _ _ | exact bI_zb _ | exact ⟨by omega, by omega⟩) (by first | assumption | exact zb_gt _ _ _ | exact zcmp_zb _ _ | exact bI_zb _ | exact ⟨by omega, by omega⟩) dX5_sign_8 rfl (fun h8 => ?_) (fun h8 => ?_)
    · obtain rfl : p = e := by rw [← hs]; exact (sk_stop (fun q => by omega)).symm
      exact K
    · refine z_aload_n (pc := 11) hC (i := 0) dX5_sign_11 rfl rfl ?_
      refine z_getR (C := RX5) (T := TX5) (N := 15) (ci := 5) (pc := 12) hC _ _ 4 in_X5_sign_X5 rfl (by decide) (fun _ => rfl) (by decide) fl_X5_sign_19 (fun _ => rfl) dX5_sign_12 ?_
      refine z_aload_n (pc := 15) hC (i := 0) dX5_sign_15 rfl rfl ?_
      refine z_getI (C := RX5) (T := TX5) (N := 15) (ci := 5) (pc := 16) hC _ 12 in_X5_sign_X5 rfl (by decide) (fun _ => rfl) (by decide) fl_X5_sign_195 (fun _ => rfl) dX5_sign_16 ?_
      rw [e3]
      refine z_ialk (pc := 19) hC _ p (by decide) (fun _ => rfl) rfl (by omega) (by decide) dX5_sign_19 ?_
      rw [e1, (hT p (by omega)).1]
      have hTp := hT p (by omega)
      refine z_bipush (pc := 20) hC dX5_sign_20 rfl ?_
      refine z_icmp_ne (pc := 22) hC 38 ⟨by omega, by omega⟩ ⟨by decide, by decide⟩ dX5_sign_22 rfl (fun h22 => ?_) (fun h22 => ?_)
      · obtain rfl : p = e := by rw [← hs]; exact (sk_stop (fun q => h22 q.2)).symm
        exact K
      · refine z_aload_n (pc := 25) hC (i := 0) dX5_sign_25 rfl rfl ?_
        refine z_dup (pc := 26) hC dX5_sign_26 rfl ?_
        refine z_getI (C := RX5) (T := TX5) (N := 15) (ci := 5) (pc := 27) hC _ 12 in_X5_sign_X5 rfl (by decide) (fun _ => rfl) (by decide) fl_X5_sign_195 (fun _ => rfl) dX5_sign_27 ?_
        rw [e3]
        refine z_iconst (pc := 30) hC dX5_sign_30 ?_
        refine z_iadd (pc := 31) hC dX5_sign_31 ?_
        refine z_putI (C := RX5) (T := TX5) (N := 15) (ci := 5) (pc := 32) hC _ 12 in_X5_sign_X5 rfl (by decide) (fun _ => rfl) (by decide) fl_X5_sign_195 tyX5_ok nmX5 rfl (by decide +kernel) (fun _ => Nat.le_of_ble_eq_true rfl) (fun _ _ => rfl) dX5_sign_32 ?_
        refine z_goto (pc := 35) hC 0 dX5_sign_35 rfl ?_
        rw [ups_ups]
        exact ih (p + 1) (by omega) (by omega) (by rw [← hs]; exact (sk_step (by omega) h22).symm)
set_option maxHeartbeats 4000000 in
set_option maxRecDepth 100000 in
theorem c_X5_sign (l : Launch) (w : zP) (hw : zOK w) (Ω : Mem) (T : Nat → Int) (L p : Nat) (h : RA T L Ω p) : zM l w yX5_sign wsX5_sign 0 0 [.ref (wa w 49)] Ω (zi (fun r Ω1 => r = sg T L p ∧ Ω1 = ups Ω 49 12 (sk T L p : Int))) := by
  refine zM_of cX5_sign 1 (some .int) RX5 [some (.ref (wa w 49))] hw (by decide +kernel) rfl rfl (Nat.le_of_ble_eq_true rfl) rfl (fun E hC => ?_)
  obtain ⟨hL, hL1, hT, hp, hpL⟩ := h
  obtain ⟨e, he⟩ : ∃ e, sk T L p = e := ⟨_, rfl⟩
  have hle := sk_le T (L := L) (p := p) (by omega)
  rw [← ups_self Ω 49 12, hp]
  refine L_X5_sign_0 hw hC Ω T L e hL (by omega) hT ?_ (L + 1) p (by omega) (by omega) he
  have e2 : gt (ups Ω 49 12 (e : Int)) 49 5 = L := by rw [gt_sn _ _ _ (by decide : (5 : Nat) ≠ 12)]; exact hL
  have e3 : gt (ups Ω 49 12 (e : Int)) 49 12 = e := gt_s _ _ _ ⟨by omega, by omega⟩
  have e1 : ∀ k, gt (ups Ω 49 12 (e : Int)) 53 k = gt Ω 53 k := fun k => gt_n _ _ _ _ (by decide)
  refine z_aload_n (pc := 38) hC (i := 0) dX5_sign_38 rfl rfl ?_
  refine z_getI (C := RX5) (T := TX5) (N := 15) (ci := 5) (pc := 39) hC _ 12 in_X5_sign_X5 rfl (by decide) (fun _ => rfl) (by decide) fl_X5_sign_195 (fun _ => rfl) dX5_sign_39 ?_
  refine z_aload_n (pc := 42) hC (i := 0) dX5_sign_42 rfl rfl ?_
  refine z_getI (C := RX5) (T := TX5) (N := 15) (ci := 5) (pc := 43) hC _ 5 in_X5_sign_X5 rfl (by decide) (fun _ => rfl) (by decide) fl_X5_sign_189 (fun _ => rfl) dX5_sign_43 ?_
  rw [e2, e3]
  refine z_icmp_ge (pc := 46) hC 61 (by first | assumption | exact zb_gt _ _ _ | exact zcmp_zb _ _ | exact bI_zb _ | exact ⟨by omega, by omega⟩) (by first | assumption | exact zb_gt _ _ _ | exact zcmp_zb _ _ | exact bI_zb _ | exact ⟨by omega, by omega⟩) dX5_sign_46 rfl (fun h46 => ?_) (fun h46 => ?_)
  · refine z_iconst (pc := 61) hC dX5_sign_61 ?_
    exact z_iret (pc := 62) hC rfl ⟨_, rfl, ⟨by unfold sg; rw [he, if_neg (by omega)], by rw [he]⟩⟩ dX5_sign_62
  · refine z_aload_n (pc := 49) hC (i := 0) dX5_sign_49 rfl rfl ?_
    refine z_getR (C := RX5) (T := TX5) (N := 15) (ci := 5) (pc := 50) hC _ _ 4 in_X5_sign_X5 rfl (by decide) (fun _ => rfl) (by decide) fl_X5_sign_19 (fun _ => rfl) dX5_sign_50 ?_
    refine z_aload_n (pc := 53) hC (i := 0) dX5_sign_53 rfl rfl ?_
    refine z_getI (C := RX5) (T := TX5) (N := 15) (ci := 5) (pc := 54) hC _ 12 in_X5_sign_X5 rfl (by decide) (fun _ => rfl) (by decide) fl_X5_sign_195 (fun _ => rfl) dX5_sign_54 ?_
    rw [e3]
    refine z_ialk (pc := 57) hC _ e (by decide) (fun _ => rfl) rfl (by omega) (by decide) dX5_sign_57 ?_
    rw [e1, (hT e (by omega)).1]
    refine z_goto (pc := 58) hC 62 dX5_sign_58 rfl ?_
    exact z_iret (pc := 62) hC rfl ⟨_, rfl, ⟨by unfold sg; rw [he, if_pos (by omega)], by rw [he]⟩⟩ dX5_sign_62
theorem fl_X5_reads_38 : Cond.fieldLink RX5 38 "StrokeCutsModel" "figures" "[I" ∈ wsX5_reads := by decide +kernel
theorem in_X5_reads_X5 : ∀ x ∈ u_ws RX5 TX5 15, x ∈ wsX5_reads := by decide +kernel
theorem fl_X5_reads_201 : Cond.fieldLink RX5 201 "StrokeCutsModel" "figuresMany" "I" ∈ wsX5_reads := by decide +kernel
theorem fl_X5_reads_195 : Cond.fieldLink RX5 195 "StrokeCutsModel" "at" "I" ∈ wsX5_reads := by decide +kernel
set_option maxHeartbeats 4000000 in
set_option maxRecDepth 100000 in
theorem c_X5_reads (l : Launch) (w : zP) (hw : zOK w) (Ω : Mem) (T : Nat → Int) (L : Nat) (s : Ps) (h : RD T L Ω s) (hc3 : s.2.1 ≤ 3) (a b : Int) (ha : 0 ≤ a ∧ a ≤ 9) (hb : -100 ≤ b ∧ b ≤ 9) : zM l w yX5_reads wsX5_reads 1 22 [.ref (wa w 49), .int (zI a), .int (zI b)] Ω (zbo (fun t Ω1 => t = (rF T L a b s).1 ∧ RD T L Ω1 (rF T L a b s).2 ∧ frR Ω Ω1)) := by
  refine zM_of cX5_reads 4 (some .boolean) RX5 [some (.ref (wa w 49)), some (.int (zI a)), some (.int (zI b)), none] hw (by decide +kernel) rfl rfl (Nat.le_of_ble_eq_true rfl) rfl (fun E hC => ?_)
  refine z_aload_n (pc := 0) hC (i := 0) dX5_reads_0 rfl rfl ?_
  refine z_callV (n := 0) (T := TX5) (N := 15) (ci := 5) (pc := 1) hC (c_X5_sign l w hw _ T L s.1 h.1) gX5_reads_X5_sign rfl (by decide +kernel) (by decide) (by decide) rfl (by decide) (fun _ => rfl) rfl rfl (Nat.le_of_ble_eq_true rfl) dX5_reads_1 (zi_k fun r1 Ω1 h1 => ?_)
  obtain ⟨hr1, hm1⟩ := h1
  subst hm1
  have hq1 := sk_le T (L := L) (p := s.1) (h.1).2.2.2.2
  have hb1 := sg_b (p := s.1) (fun k hk => ((h.1).2.2.1 k hk).2)
  subst hr1
  have hG := h.go hq1.2
  refine z_istore_n (pc := 4) hC (i := 3) dX5_reads_4 rfl (by decide) rfl (zS_s (zS_s (zS_s zS_0))) ?_
  refine z_iload_n (pc := 5) hC (i := 3) dX5_reads_5 rfl rfl ?_
  refine z_bipush (pc := 6) hC dX5_reads_6 rfl ?_
  refine z_iload_n (pc := 8) hC (i := 1) dX5_reads_8 rfl rfl ?_
  refine z_iadd (pc := 9) hC dX5_reads_9 ?_
  refine z_bipush (pc := 10) hC dX5_reads_10 rfl ?_
  refine z_iload_n (pc := 12) hC (i := 2) dX5_reads_12 rfl rfl ?_
  refine z_iadd (pc := 13) hC dX5_reads_13 ?_
  refine z_callS (n := 3) (pc := 14) hC (c_X5_in l w hw _ _ _ _ ⟨by omega, by omega⟩ ⟨by omega, by omega⟩ ⟨by omega, by omega⟩) gX5_reads_X5_in rfl (by decide +kernel) (by decide) (by decide) rfl rfl (Nat.le_of_ble_eq_true rfl) dX5_reads_14 (zb_k fun r14 Ω14 h14 => ?_)
  obtain ⟨rfl, hM14⟩ := h14
  obtain rfl := hM14.symm
  refine z_ifd_ne (pc := 17) hC 22 dX5_reads_17 rfl (fun h17 => ?_) (fun h17 => ?_)
  · have hsin := sg_in (T := T) (L := L) (p := s.1) (by omega)
    have hTk := hG.take (v := sg T L s.1 - 48) ⟨by omega, by omega⟩ hc3 (by show sk T L s.1 + 1 ≤ L; omega)
    refine z_aload_n (pc := 22) hC (i := 0) dX5_reads_22 rfl rfl ?_
    refine z_getR (C := RX5) (T := TX5) (N := 15) (ci := 5) (pc := 23) hC _ _ 13 in_X5_reads_X5 rfl (by decide) (fun _ => rfl) (by decide) fl_X5_reads_38 (fun _ => rfl) dX5_reads_23 ?_
    refine z_aload_n (pc := 26) hC (i := 0) dX5_reads_26 rfl rfl ?_
    refine z_getI (C := RX5) (T := TX5) (N := 15) (ci := 5) (pc := 27) hC _ 14 in_X5_reads_X5 rfl (by decide) (fun _ => rfl) (by decide) fl_X5_reads_201 (fun _ => rfl) dX5_reads_27 ?_
    rw [hG.2.1]
    refine z_iload_n (pc := 30) hC (i := 3) dX5_reads_30 rfl rfl ?_
    refine z_bipush (pc := 31) hC dX5_reads_31 rfl ?_
    refine z_isub (pc := 33) hC dX5_reads_33 ?_
    refine z_iask (pc := 34) hC _ s.2.1 (by decide) (fun _ => rfl) rfl (by omega) (by decide) dX5_reads_34 ?_
    refine z_aload_n (pc := 35) hC (i := 0) dX5_reads_35 rfl rfl ?_
    refine z_dup (pc := 36) hC dX5_reads_36 rfl ?_
    refine z_getI (C := RX5) (T := TX5) (N := 15) (ci := 5) (pc := 37) hC _ 14 in_X5_reads_X5 rfl (by decide) (fun _ => rfl) (by decide) fl_X5_reads_201 (fun _ => rfl) dX5_reads_37 ?_
    rw [gt_n _ _ _ _ (by decide : 49 ≠ 58), hG.2.1]
    refine z_iconst (pc := 40) hC dX5_reads_40 ?_
    refine z_iadd (pc := 41) hC dX5_reads_41 ?_
    refine z_putI (C := RX5) (T := TX5) (N := 15) (ci := 5) (pc := 42) hC _ 14 in_X5_reads_X5 rfl (by decide) (fun _ => rfl) (by decide) fl_X5_reads_201 tyX5_ok nmX5 rfl (by decide +kernel) (fun _ => Nat.le_of_ble_eq_true rfl) (fun _ _ => rfl) dX5_reads_42 ?_
    refine z_aload_n (pc := 45) hC (i := 0) dX5_reads_45 rfl rfl ?_
    refine z_dup (pc := 46) hC dX5_reads_46 rfl ?_
    refine z_getI (C := RX5) (T := TX5) (N := 15) (ci := 5) (pc := 47) hC _ 12 in_X5_reads_X5 rfl (by decide) (fun _ => rfl) (by decide) fl_X5_reads_195 (fun _ => rfl) dX5_reads_47 ?_
    rw [gt_sn _ _ _ (by decide : (12 : Nat) ≠ 14), gt_n _ _ _ _ (by decide : 49 ≠ 58), hG.1.2.2.2.1]
    refine z_iconst (pc := 50) hC dX5_reads_50 ?_
    refine z_iadd (pc := 51) hC dX5_reads_51 ?_
    refine z_putI (C := RX5) (T := TX5) (N := 15) (ci := 5) (pc := 52) hC _ 12 in_X5_reads_X5 rfl (by decide) (fun _ => rfl) (by decide) fl_X5_reads_195 tyX5_ok nmX5 rfl (by decide +kernel) (fun _ => Nat.le_of_ble_eq_true rfl) (fun _ _ => rfl) dX5_reads_52 ?_
    refine z_iconst (pc := 55) hC dX5_reads_55 ?_
    exact z_zret (b := true) (pc := 56) hC rfl ⟨true, rfl, ⟨by rw [rF_yes (by omega)], by rw [rF_yes (by omega)]; exact hTk, (frR_up _ _ (Or.inl rfl)).trans ((frR_fig _ _ _).trans ((frR_up _ _ (Or.inr rfl)).trans (frR_up _ _ (Or.inl rfl))))⟩⟩ dX5_reads_56
  · refine z_iconst (pc := 20) hC dX5_reads_20 ?_
    exact z_zret (b := false) (pc := 21) hC rfl ⟨false, rfl, ⟨by rw [rF_no (by omega)], by rw [rF_no (by omega)]; exact hG, frR_up _ _ (Or.inl rfl)⟩⟩ dX5_reads_21
theorem fl_X5_readsDot_7 : Cond.fieldLink RX5 7 "StrokeCutsModel" "st" "[I" ∈ wsX5_readsDot := by decide +kernel
theorem in_X5_readsDot_X5 : ∀ x ∈ u_ws RX5 TX5 15, x ∈ wsX5_readsDot := by decide +kernel
set_option maxHeartbeats 4000000 in
set_option maxRecDepth 100000 in
theorem c_X5_readsDot (l : Launch) (w : zP) (hw : zOK w) (Ω : Mem) (T : Nat → Int) (L : Nat) (s : Ps) (h : RD T L Ω s) (hc2 : s.2.1 ≤ 2) (x y : Int) (hx : 2 ≤ x ∧ x ≤ 6) (hy : 2 ≤ y ∧ y ≤ 6) (hgx : gt Ω 50 0 = x) (hgy : gt Ω 50 1 = y) : zM l w yX5_readsDot wsX5_readsDot 2 45 [.ref (wa w 49)] Ω (zbo (fun t Ω1 => t = (rD T L x y s).1 ∧ RD T L Ω1 (rD T L x y s).2 ∧ frR Ω Ω1)) := by
  refine zM_of cX5_readsDot 1 (some .boolean) RX5 [some (.ref (wa w 49))] hw (by decide +kernel) rfl rfl (Nat.le_of_ble_eq_true rfl) rfl (fun E hC => ?_)
  refine z_aload_n (pc := 0) hC (i := 0) dX5_readsDot_0 rfl rfl ?_
  refine z_iconst (pc := 1) hC dX5_readsDot_1 ?_
  refine z_aload_n (pc := 2) hC (i := 0) dX5_readsDot_2 rfl rfl ?_
  refine z_getR (C := RX5) (T := TX5) (N := 15) (ci := 5) (pc := 3) hC _ _ 0 in_X5_readsDot_X5 rfl (by decide) (fun _ => rfl) (by decide) fl_X5_readsDot_7 (fun _ => rfl) dX5_readsDot_3 ?_
  refine z_iconst (pc := 6) hC dX5_readsDot_6 ?_
  refine z_ialk (pc := 7) hC _ 0 (by decide) (fun _ => rfl) rfl (by decide) (by decide) dX5_readsDot_7 ?_
  rw [hgx]
  refine z_iconst (pc := 8) hC dX5_readsDot_8 ?_
  refine z_isub (pc := 9) hC dX5_readsDot_9 ?_
  refine z_callV (n := 2) (T := TX5) (N := 15) (ci := 5) (pc := 10) hC (c_X5_reads l w hw _ T L s h (by omega) 0 (x - 1) (by omega) (by omega)) gX5_readsDot_X5_reads rfl (by decide +kernel) (by decide) (by decide) rfl (by decide) (fun _ => rfl) rfl rfl (Nat.le_of_ble_eq_true rfl) dX5_readsDot_10 (zb_k fun r10 Ω10 h10 => ?_)
  obtain ⟨rfl, hd10, hf10⟩ := h10
  refine z_ifb_eq (pc := 13) hC 36 dX5_readsDot_13 rfl (fun h13 => ?_) (fun h13 => ?_)
  · refine z_iconst (pc := 36) hC dX5_readsDot_36 ?_
    exact z_zret (b := false) (pc := 37) hC rfl ⟨false, rfl, ⟨by unfold rD; rw [seqB_f h13, h13], by unfold rD; rw [seqB_f h13]; exact hd10, hf10⟩⟩ dX5_readsDot_37
  · refine z_aload_n (pc := 16) hC (i := 0) dX5_readsDot_16 rfl rfl ?_
    refine z_iconst (pc := 17) hC dX5_readsDot_17 ?_
    refine z_aload_n (pc := 18) hC (i := 0) dX5_readsDot_18 rfl rfl ?_
    refine z_getR (C := RX5) (T := TX5) (N := 15) (ci := 5) (pc := 19) hC _ _ 0 in_X5_readsDot_X5 rfl (by decide) (fun _ => rfl) (by decide) fl_X5_readsDot_7 (fun _ => rfl) dX5_readsDot_19 ?_
    refine z_iconst (pc := 22) hC dX5_readsDot_22 ?_
    refine z_ialk (pc := 23) hC _ 1 (by decide) (fun _ => rfl) rfl (by decide) (by decide) dX5_readsDot_23 ?_
    rw [gt_fr (hf10.1 50 (by decide) (by decide)), hgy]
    refine z_iconst (pc := 24) hC dX5_readsDot_24 ?_
    refine z_isub (pc := 25) hC dX5_readsDot_25 ?_
    refine z_callV (n := 2) (T := TX5) (N := 15) (ci := 5) (pc := 26) hC (c_X5_reads l w hw _ T L _ hd10 (by have := rF_cnt T L 0 (x - 1) s; omega) 0 (y - 1) (by omega) (by omega)) gX5_readsDot_X5_reads rfl (by decide +kernel) (by decide) (by decide) rfl (by decide) (fun _ => rfl) rfl rfl (Nat.le_of_ble_eq_true rfl) dX5_readsDot_26 (zb_k fun r26 Ω26 h26 => ?_)
    obtain ⟨rfl, hd26, hf26⟩ := h26
    refine z_ifb_eq (pc := 29) hC 36 dX5_readsDot_29 rfl (fun h29 => ?_) (fun h29 => ?_)
    · refine z_iconst (pc := 36) hC dX5_readsDot_36 ?_
      exact z_zret (b := false) (pc := 37) hC rfl ⟨false, rfl, ⟨by unfold rD; rw [seqB_t h13, h29], by unfold rD; rw [seqB_t h13]; exact hd26, hf10.trans hf26⟩⟩ dX5_readsDot_37
    · refine z_iconst (pc := 32) hC dX5_readsDot_32 ?_
      refine z_goto (pc := 33) hC 37 dX5_readsDot_33 rfl ?_
      exact z_zret (b := true) (pc := 37) hC rfl ⟨true, rfl, ⟨by unfold rD; rw [seqB_t h13, h29], by unfold rD; rw [seqB_t h13]; exact hd26, hf10.trans hf26⟩⟩ dX5_readsDot_37
set_option maxHeartbeats 4000000 in
set_option maxRecDepth 100000 in
theorem c_X5_isOrder (l : Launch) (w : zP) (hw : zOK w) (Ω : Mem) (c : Int) (hc : zb c) : zM l w yX5_isOrder wsX5_isOrder 0 0 [.int (zI c)] Ω (zbo (fun b Ω1 => b = decide (c = 102 ∨ c = 103 ∨ c = 110 ∨ c = 115 ∨ c = 108) ∧ Ω1 = Ω)) := by
  refine zM_of cX5_isOrder 1 (some .boolean) RX5 [some (.int (zI c))] hw (by decide +kernel) rfl rfl (Nat.le_of_ble_eq_true rfl) rfl (fun E hC => ?_)
  refine z_iload_n (pc := 0) hC (i := 0) dX5_isOrder_0 rfl rfl ?_
  refine z_bipush (pc := 1) hC dX5_isOrder_1 rfl ?_
  refine z_icmp_eq (pc := 3) hC 30 (by first | assumption | exact zb_gt _ _ _ | exact zcmp_zb _ _ | exact bI_zb _ | exact ⟨by omega, by omega⟩) (by first | assumption | exact zb_gt _ _ _ | exact zcmp_zb _ _ | exact bI_zb _ | exact ⟨by omega, by omega⟩) dX5_isOrder_3 rfl (fun h3 => ?_) (fun h3 => ?_)
  · refine z_iconst (pc := 30) hC dX5_isOrder_30 ?_
    refine z_goto (pc := 31) hC 35 dX5_isOrder_31 rfl ?_
    exact z_zret (b := true) (pc := 35) hC rfl ⟨true, rfl, ⟨(decide_eq_true (by omega)).symm, rfl⟩⟩ dX5_isOrder_35
  · refine z_iload_n (pc := 6) hC (i := 0) dX5_isOrder_6 rfl rfl ?_
    refine z_bipush (pc := 7) hC dX5_isOrder_7 rfl ?_
    refine z_icmp_eq (pc := 9) hC 30 (by first | assumption | exact zb_gt _ _ _ | exact zcmp_zb _ _ | exact bI_zb _ | exact ⟨by omega, by omega⟩) (by first | assumption | exact zb_gt _ _ _ | exact zcmp_zb _ _ | exact bI_zb _ | exact ⟨by omega, by omega⟩) dX5_isOrder_9 rfl (fun h9 => ?_) (fun h9 => ?_)
    · refine z_iconst (pc := 30) hC dX5_isOrder_30 ?_
      refine z_goto (pc := 31) hC 35 dX5_isOrder_31 rfl ?_
      exact z_zret (b := true) (pc := 35) hC rfl ⟨true, rfl, ⟨(decide_eq_true (by omega)).symm, rfl⟩⟩ dX5_isOrder_35
    · refine z_iload_n (pc := 12) hC (i := 0) dX5_isOrder_12 rfl rfl ?_
      refine z_bipush (pc := 13) hC dX5_isOrder_13 rfl ?_
      refine z_icmp_eq (pc := 15) hC 30 (by first | assumption | exact zb_gt _ _ _ | exact zcmp_zb _ _ | exact bI_zb _ | exact ⟨by omega, by omega⟩) (by first | assumption | exact zb_gt _ _ _ | exact zcmp_zb _ _ | exact bI_zb _ | exact ⟨by omega, by omega⟩) dX5_isOrder_15 rfl (fun h15 => ?_) (fun h15 => ?_)
      · refine z_iconst (pc := 30) hC dX5_isOrder_30 ?_
        refine z_goto (pc := 31) hC 35 dX5_isOrder_31 rfl ?_
        exact z_zret (b := true) (pc := 35) hC rfl ⟨true, rfl, ⟨(decide_eq_true (by omega)).symm, rfl⟩⟩ dX5_isOrder_35
      · refine z_iload_n (pc := 18) hC (i := 0) dX5_isOrder_18 rfl rfl ?_
        refine z_bipush (pc := 19) hC dX5_isOrder_19 rfl ?_
        refine z_icmp_eq (pc := 21) hC 30 (by first | assumption | exact zb_gt _ _ _ | exact zcmp_zb _ _ | exact bI_zb _ | exact ⟨by omega, by omega⟩) (by first | assumption | exact zb_gt _ _ _ | exact zcmp_zb _ _ | exact bI_zb _ | exact ⟨by omega, by omega⟩) dX5_isOrder_21 rfl (fun h21 => ?_) (fun h21 => ?_)
        · refine z_iconst (pc := 30) hC dX5_isOrder_30 ?_
          refine z_goto (pc := 31) hC 35 dX5_isOrder_31 rfl ?_
          exact z_zret (b := true) (pc := 35) hC rfl ⟨true, rfl, ⟨(decide_eq_true (by omega)).symm, rfl⟩⟩ dX5_isOrder_35
        · refine z_iload_n (pc := 24) hC (i := 0) dX5_isOrder_24 rfl rfl ?_
          refine z_bipush (pc := 25) hC dX5_isOrder_25 rfl ?_
          refine z_icmp_ne (pc := 27) hC 34 (by first | assumption | exact zb_gt _ _ _ | exact zcmp_zb _ _ | exact bI_zb _ | exact ⟨by omega, by omega⟩) (by first | assumption | exact zb_gt _ _ _ | exact zcmp_zb _ _ | exact bI_zb _ | exact ⟨by omega, by omega⟩) dX5_isOrder_27 rfl (fun h27 => ?_) (fun h27 => ?_)
          · refine z_iconst (pc := 34) hC dX5_isOrder_34 ?_
            exact z_zret (b := false) (pc := 35) hC rfl ⟨false, rfl, ⟨(decide_eq_false (by omega)).symm, rfl⟩⟩ dX5_isOrder_35
          · refine z_iconst (pc := 30) hC dX5_isOrder_30 ?_
            refine z_goto (pc := 31) hC 35 dX5_isOrder_31 rfl ?_
            exact z_zret (b := true) (pc := 35) hC rfl ⟨true, rfl, ⟨(decide_eq_true (by omega)).symm, rfl⟩⟩ dX5_isOrder_35
theorem fl_X5_readsRest_201 : Cond.fieldLink RX5 201 "StrokeCutsModel" "figuresMany" "I" ∈ wsX5_readsRest := by decide +kernel
theorem in_X5_readsRest_X5 : ∀ x ∈ u_ws RX5 TX5 15, x ∈ wsX5_readsRest := by decide +kernel
set_option maxHeartbeats 4000000 in
set_option maxRecDepth 100000 in
theorem c_X5_readsRest (l : Launch) (w : zP) (hw : zOK w) (Ω : Mem) (T : Nat → Int) (L p : Nat) (h : RA T L Ω p) (x y : Int) (hx : 2 ≤ x ∧ x ≤ 6) (hy : 2 ≤ y ∧ y ≤ 6) (hgx : gt Ω 50 0 = x) (hgy : gt Ω 50 1 = y) (k : Int) (hk : zb k) : zM l w yX5_readsRest wsX5_readsRest 3 65 [.ref (wa w 49), .int (zI k)] Ω (zbo (fun t Ω1 => t = (rR T L x y k (p, 0, gt Ω 58)).1 ∧ RD T L Ω1 (rR T L x y k (p, 0, gt Ω 58)).2 ∧ frR Ω Ω1)) := by
  refine zM_of cX5_readsRest 2 (some .boolean) RX5 [some (.ref (wa w 49)), some (.int (zI k))] hw (by decide +kernel) rfl rfl (Nat.le_of_ble_eq_true rfl) rfl (fun E hC => ?_)
  refine z_aload_n (pc := 0) hC (i := 0) dX5_readsRest_0 rfl rfl ?_
  refine z_iconst (pc := 1) hC dX5_readsRest_1 ?_
  refine z_putI (C := RX5) (T := TX5) (N := 15) (ci := 5) (pc := 2) hC _ 14 in_X5_readsRest_X5 rfl (by decide) (fun _ => rfl) (by decide) fl_X5_readsRest_201 tyX5_ok nmX5 rfl (by decide +kernel) (fun _ => Nat.le_of_ble_eq_true rfl) (fun _ _ => rfl) dX5_readsRest_2 ?_
  have hZ := h.zero
  have hf0 := frR_up Ω (k := 14) 0 (Or.inr rfl)
  refine z_iload_n (pc := 5) hC (i := 1) dX5_readsRest_5 rfl rfl ?_
  refine z_bipush (pc := 6) hC dX5_readsRest_6 rfl ?_
  refine z_icmp_ne (pc := 8) hC 19 (by first | assumption | exact zb_gt _ _ _ | exact zcmp_zb _ _ | exact bI_zb _ | exact ⟨by omega, by omega⟩) (by first | assumption | exact zb_gt _ _ _ | exact zcmp_zb _ _ | exact bI_zb _ | exact ⟨by omega, by omega⟩) dX5_readsRest_8 rfl (fun h8 => ?_) (fun h8 => ?_)
  · refine z_aload_n (pc := 19) hC (i := 0) dX5_readsRest_19 rfl rfl ?_
    refine z_callV (n := 0) (T := TX5) (N := 15) (ci := 5) (pc := 20) hC (c_X5_readsDot l w hw _ T L (p, 0, gt Ω 58) hZ (Nat.zero_le _) x y hx hy (by rw [gt_fr (hf0.1 50 (by decide) (by decide))]; exact hgx) (by rw [gt_fr (hf0.1 50 (by decide) (by decide))]; exact hgy)) gX5_readsRest_X5_readsDot rfl (by decide +kernel) (by decide) (by decide) rfl (by decide) (fun _ => rfl) rfl rfl (Nat.le_of_ble_eq_true rfl) dX5_readsRest_20 (zb_k fun r20 Ω20 h20 => ?_)
    obtain ⟨rfl, hd20, hf20⟩ := h20
    refine z_ifb_ne (pc := 23) hC 28 dX5_readsRest_23 rfl (fun h23 => ?_) (fun h23 => ?_)
    · refine z_iload_n (pc := 28) hC (i := 1) dX5_readsRest_28 rfl rfl ?_
      refine z_bipush (pc := 29) hC dX5_readsRest_29 rfl ?_
      refine z_icmp_ne (pc := 31) hC 42 (by first | assumption | exact zb_gt _ _ _ | exact zcmp_zb _ _ | exact bI_zb _ | exact ⟨by omega, by omega⟩) (by first | assumption | exact zb_gt _ _ _ | exact zcmp_zb _ _ | exact bI_zb _ | exact ⟨by omega, by omega⟩) dX5_readsRest_31 rfl (fun h31 => ?_) (fun h31 => ?_)
      · refine z_aload_n (pc := 42) hC (i := 0) dX5_readsRest_42 rfl rfl ?_
        refine z_callV (n := 0) (T := TX5) (N := 15) (ci := 5) (pc := 43) hC (c_X5_sign l w hw _ T L _ hd20.1) gX5_readsRest_X5_sign rfl (by decide +kernel) (by decide) (by decide) rfl (by decide) (fun _ => rfl) rfl rfl (Nat.le_of_ble_eq_true rfl) dX5_readsRest_43 (zi_k fun r43 Ω43 h43 => ?_)
        obtain ⟨hr43, hm43⟩ := h43
        subst hm43
        have hq43 := sk_le T (L := L) (p := (rD T L x y (p, 0, gt Ω 58)).2.1) (hd20.1).2.2.2.2
        have hb43 := sg_b (p := (rD T L x y (p, 0, gt Ω 58)).2.1) (fun k hk => ((hd20.1).2.2.1 k hk).2)
        subst hr43
        have hG := hd20.go hq43.2
        refine z_bipush (pc := 46) hC dX5_readsRest_46 rfl ?_
        refine z_icmp_eq (pc := 48) hC 58 (by first | assumption | exact zb_gt _ _ _ | exact zcmp_zb _ _ | exact bI_zb _ | exact ⟨by omega, by omega⟩) (by first | assumption | exact zb_gt _ _ _ | exact zcmp_zb _ _ | exact bI_zb _ | exact ⟨by omega, by omega⟩) dX5_readsRest_48 rfl (fun h48 => ?_) (fun h48 => ?_)
        · refine z_iconst (pc := 58) hC dX5_readsRest_58 ?_
          refine z_goto (pc := 59) hC 63 dX5_readsRest_59 rfl ?_
          exact z_zret (b := true) (pc := 63) hC rfl ⟨true, rfl, ⟨by unfold rR; rw [if_neg h8, if_neg h31, seqB_t h23, rM_yes h48], by unfold rR; rw [if_neg h8, if_neg h31, seqB_t h23, rM_yes h48]; exact hG, (hf0.trans hf20).trans (frR_up _ _ (Or.inl rfl))⟩⟩ dX5_readsRest_63
        · refine z_aload_n (pc := 51) hC (i := 0) dX5_readsRest_51 rfl rfl ?_
          refine z_callV (n := 0) (T := TX5) (N := 15) (ci := 5) (pc := 52) hC (c_X5_readsDot l w hw _ T L _ hG (by have := rD_cnt T L x y (p, 0, gt Ω 58); have : (rD T L x y (p, 0, gt Ω 58)).2.2.1 ≤ 0 + 2 := this; show (rD T L x y (p, 0, gt Ω 58)).2.2.1 ≤ 2; omega) x y hx hy (by rw [gt_fr (((hf0.trans hf20).trans (frR_up _ _ (Or.inl rfl))).1 50 (by decide) (by decide))]; exact hgx) (by rw [gt_fr (((hf0.trans hf20).trans (frR_up _ _ (Or.inl rfl))).1 50 (by decide) (by decide))]; exact hgy)) gX5_readsRest_X5_readsDot rfl (by decide +kernel) (by decide) (by decide) rfl (by decide) (fun _ => rfl) rfl rfl (Nat.le_of_ble_eq_true rfl) dX5_readsRest_52 (zb_k fun r52 Ω52 h52 => ?_)
          obtain ⟨rfl, hd52, hf52⟩ := h52
          refine z_ifb_eq (pc := 55) hC 62 dX5_readsRest_55 rfl (fun h55 => ?_) (fun h55 => ?_)
          · refine z_iconst (pc := 62) hC dX5_readsRest_62 ?_
            exact z_zret (b := false) (pc := 63) hC rfl ⟨false, rfl, ⟨by unfold rR; rw [if_neg h8, if_neg h31, seqB_t h23, rM_no h48]; exact h55.symm, by unfold rR; rw [if_neg h8, if_neg h31, seqB_t h23, rM_no h48]; exact hd52, ((hf0.trans hf20).trans (frR_up _ _ (Or.inl rfl))).trans hf52⟩⟩ dX5_readsRest_63
          · refine z_iconst (pc := 58) hC dX5_readsRest_58 ?_
            refine z_goto (pc := 59) hC 63 dX5_readsRest_59 rfl ?_
            exact z_zret (b := true) (pc := 63) hC rfl ⟨true, rfl, ⟨by unfold rR; rw [if_neg h8, if_neg h31, seqB_t h23, rM_no h48]; exact h55.symm, by unfold rR; rw [if_neg h8, if_neg h31, seqB_t h23, rM_no h48]; exact hd52, ((hf0.trans hf20).trans (frR_up _ _ (Or.inl rfl))).trans hf52⟩⟩ dX5_readsRest_63
      · refine z_aload_n (pc := 34) hC (i := 0) dX5_readsRest_34 rfl rfl ?_
        refine z_iconst (pc := 35) hC dX5_readsRest_35 ?_
        refine z_bipush (pc := 36) hC dX5_readsRest_36 rfl ?_
        refine z_callV (n := 2) (T := TX5) (N := 15) (ci := 5) (pc := 38) hC (c_X5_reads l w hw _ T L _ hd20 (by have := rD_cnt T L x y (p, 0, gt Ω 58); have : (rD T L x y (p, 0, gt Ω 58)).2.2.1 ≤ 0 + 2 := this; omega) 0 9 (by omega) (by omega)) gX5_readsRest_X5_reads rfl (by decide +kernel) (by decide) (by decide) rfl (by decide) (fun _ => rfl) rfl rfl (Nat.le_of_ble_eq_true rfl) dX5_readsRest_38 (zb_k fun r38 Ω38 h38 => ?_)
        obtain ⟨rfl, hd38, hf38⟩ := h38
        exact z_zret (pc := 41) hC rfl ⟨_, rfl, ⟨by unfold rR; rw [if_neg h8, if_pos h31, seqB_t h23], by unfold rR; rw [if_neg h8, if_pos h31, seqB_t h23]; exact hd38, (hf0.trans hf20).trans hf38⟩⟩ dX5_readsRest_41
    · refine z_iconst (pc := 26) hC dX5_readsRest_26 ?_
      exact z_zret (b := false) (pc := 27) hC rfl ⟨false, rfl, ⟨by unfold rR; rw [if_neg h8]; split <;> rw [seqB_f h23, h23], by unfold rR; rw [if_neg h8]; split <;> (rw [seqB_f h23]; exact hd20), hf0.trans hf20⟩⟩ dX5_readsRest_27
  · refine z_aload_n (pc := 11) hC (i := 0) dX5_readsRest_11 rfl rfl ?_
    refine z_iconst (pc := 12) hC dX5_readsRest_12 ?_
    refine z_bipush (pc := 13) hC dX5_readsRest_13 rfl ?_
    refine z_callV (n := 2) (T := TX5) (N := 15) (ci := 5) (pc := 15) hC (c_X5_reads l w hw _ T L (p, 0, gt Ω 58) hZ (Nat.zero_le _) 1 9 (by omega) (by omega)) gX5_readsRest_X5_reads rfl (by decide +kernel) (by decide) (by decide) rfl (by decide) (fun _ => rfl) rfl rfl (Nat.le_of_ble_eq_true rfl) dX5_readsRest_15 (zb_k fun r15 Ω15 h15 => ?_)
    obtain ⟨rfl, hd15, hf15⟩ := h15
    exact z_zret (pc := 18) hC rfl ⟨_, rfl, ⟨by unfold rR; rw [if_pos h8], by unfold rR; rw [if_pos h8]; exact hd15, hf0.trans hf15⟩⟩ dX5_readsRest_18
