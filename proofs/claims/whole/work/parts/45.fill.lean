/-! ===== fill: rounds of sending ===== -/
theorem lab_cong {N : Nat} {nb G R G1 R1 D : Nat → Int} (hG : ∀ v, v < N → G1 v = G v) (hR : ∀ e, e < 8 * N → 0 ≤ nb e → R1 e = R e) (h : lab N nb G R D) : lab N nb G1 R1 D := by
  obtain ⟨a1, a2, a3, a4⟩ := h
  refine ⟨a1, fun v hv => by rw [hG v hv]; exact a2 v hv, fun v hv hd => ?_, fun v hv j hj hn hr => ?_⟩
  · obtain ⟨j, b1, b2, b3, b4⟩ := a3 v hv hd
    exact ⟨j, b1, b2, by rw [hR _ (by omega) b2]; exact b3, b4⟩
  · rw [hR _ (by omega) hn] at hr
    exact a4 v hv j hj hn hr
theorem PI_start {N : Nat} {nb G R L : Nat → Int} (hl : lab N nb G R L) (hG : ∀ v, v < N → 0 ≤ G v) (hR : ∀ e, e < 8 * N → 0 ≤ nb e → 0 ≤ R e ∧ R e + R (rve nb e) ≤ 200) : PI N nb L (G, R, L) := by
  obtain ⟨a1, a2, a3, a4⟩ := hl
  refine ⟨fun _ _ => Or.inl rfl, hG, hR, fun v hv h0 hd => ?_, a4, fun v hv hg => (a2 v hv).mp hg⟩
  have hd' : L v = 0 := hd
  omega
/-- a new round's distances are no smaller, and greater where nothing more went through -/
theorem ph_lab {N : Nat} {nb L L1 : Nat → Int} {t : Fl} (hg : grph N nb) (hP : PI N nb L t) (hl : lab N nb t.1 t.2.1 L1) : ∀ (n v : Nat), v < N → L1 v = (n : Int) → 0 < L1 v → 0 < L v ∧ L v ≤ L1 v ∧ (t.2.2 v = 0 → L v < L1 v)
  | 0, v, hv, h, h0 => by omega
  | n + 1, v, hv, h, h0 => by
    have hP' := hP
    have hl' := hl
    obtain ⟨a1, a2, a3, a4, a5, a6⟩ := hP'
    obtain ⟨b1, b2, b3, b4⟩ := hl'
    by_cases e : L1 v = 1
    · have hgv := (b2 v hv).mpr e
      have hL := a6 v hv hgv
      refine ⟨by omega, by omega, fun hd => ?_⟩
      have := (a4 v hv (by omega) hd).1 hL
      omega
    · obtain ⟨j, c1, c2, c3, c4⟩ := b3 v hv (by omega)
      have hu := (hg.at (show v * 8 + j < 8 * N by omega) c2).1
      obtain ⟨d1, d2, d3⟩ := ph_lab hg hP hl n _ hu (by omega) (by omega)
      have h5 := a5 v hv j c1 c2 c3 d1
      refine ⟨h5.1, by omega, fun hd => ?_⟩
      by_cases q : L v < L1 v
      · exact q
      · have := d3 ((a4 v hv h5.1 hd).2 j c1 c2 c3 (by omega) d1)
        omega
def frF (Ω Ω1 : Mem) : Prop := (∀ q, q ≠ 3 → q ≠ 4 → q ≠ 5 → q ≠ 7 → q ≠ 8 → q ≠ 9 → Ω1 q = Ω q) ∧ gt Ω1 3 0 = gt Ω 3 0
theorem frF.trans {A B C : Mem} (h : frF A B) (g : frF B C) : frF A C := ⟨fun q a b c d e f => (g.1 q a b c d e f).trans (h.1 q a b c d e f), g.2.trans h.2⟩
theorem frF.refl (A : Mem) : frF A A := ⟨fun _ _ _ _ _ _ _ => rfl, rfl⟩
theorem frM.F {A B : Mem} (h : frM A B) : frF A B := ⟨fun q a _ _ _ e f => h.1 q a e f, h.2⟩
theorem frN.F {A B : Mem} (h : frN A B) : frF A B := ⟨fun q _ _ c d e _ => h q c d e, gt_fr (h 3 (by decide) (by decide) (by decide)) 0⟩
theorem frF_4 (Ω : Mem) (k : Nat) (v : Int) : frF Ω (ups Ω 4 k v) := ⟨fun q _ b _ _ _ _ => ups_n _ _ _ b, gt_n _ _ _ _ (by decide)⟩
/-- the state of a filling: c0 what each set costs at the start, f what has been sent -/
def FI (N : Nat) (nb : Nat → Int) (c0 : (Nat → Bool) → Int) (f : Int) (Ω : Mem) : Prop :=
  (∀ v, v < N → 0 ≤ gt Ω 4 v ∧ gt Ω 4 v ≤ 2000000) ∧ (∀ v, v < N → 0 ≤ gt Ω 5 v) ∧ (∀ e, e < 8 * N → 0 ≤ nb e → 0 ≤ gt Ω 7 e ∧ gt Ω 7 e + gt Ω 7 (rve nb e) ≤ 200) ∧ gt Ω 6 = nb ∧ gt Ω 3 0 = (N : Int) ∧ ∀ S, rc N nb (gt Ω 4) (gt Ω 5) (gt Ω 7) S + f = c0 S
theorem FI.le {N : Nat} {nb : Nat → Int} {c0 : (Nat → Bool) → Int} {f : Int} {Ω : Mem} (h : FI N nb c0 f Ω) (S : Nat → Bool) : f ≤ c0 S := by
  obtain ⟨h1, h2, h3, h4, h5, h6⟩ := h
  have := rc_nn (fun v hv => (h1 v hv).1) h2 (fun e he hn => (h3 e he hn).1) S
  have := h6 S
  omega
theorem FI.moved {N : Nat} {nb : Nat → Int} {c0 : (Nat → Bool) → Int} {f : Int} {Ω Ω1 : Mem} (h : FI N nb c0 f Ω) (g : frM Ω Ω1) : FI N nb c0 f Ω1 := by
  have e4 : gt Ω1 4 = gt Ω 4 := by unfold gt; rw [g.1 4 (by decide) (by decide) (by decide)]
  have e5 : gt Ω1 5 = gt Ω 5 := by unfold gt; rw [g.1 5 (by decide) (by decide) (by decide)]
  have e6 : gt Ω1 6 = gt Ω 6 := by unfold gt; rw [g.1 6 (by decide) (by decide) (by decide)]
  have e7 : gt Ω1 7 = gt Ω 7 := by unfold gt; rw [g.1 7 (by decide) (by decide) (by decide)]
  unfold FI
  rw [e4, e5, e6, e7, g.2]
  exact h
/-- one dot's sending, and what is left for it -/
theorem FI.sent {N : Nat} {nb L : Nat → Int} {c0 : (Nat → Bool) → Int} {f s : Int} {Ω Ω1 : Mem} {k : Nat} (h : FI N nb c0 f Ω) (hk : k < N) (g : sendP N nb L (gt Ω 4) k (gt Ω 4 k) Ω s Ω1) : FI N nb c0 (f + s) (ups Ω1 4 k (gt Ω 4 k - s)) ∧ gt (ups Ω1 4 k (gt Ω 4 k - s)) 4 = fup (gt Ω 4) k (gt Ω 4 k - s) ∧ flC (ups Ω1 4 k (gt Ω 4 k - s)) = flC Ω1 := by
  obtain ⟨g1, g2, g3, g4, g5⟩ := g
  obtain ⟨h1, h2, h3, h4, h5, h6⟩ := h
  have hk1 := h1 k hk
  have hs0 := g3.1
  have e4 : gt Ω1 4 = gt Ω 4 := by unfold gt; rw [g5 4 (by decide) (by decide) (by decide)]
  have q4 : gt (ups Ω1 4 k (gt Ω 4 k - s)) 4 = fup (gt Ω 4) k (gt Ω 4 k - s) := by rw [gt_fup _ _ _ ⟨by omega, by omega⟩, e4]
  have q5 : gt (ups Ω1 4 k (gt Ω 4 k - s)) 5 = gt Ω1 5 := gt_nf _ _ _ (by decide)
  have q6 : gt (ups Ω1 4 k (gt Ω 4 k - s)) 6 = nb := by rw [gt_nf _ _ _ (by decide), ← h4]; unfold gt; rw [g5 6 (by decide) (by decide) (by decide)]
  have q7 : gt (ups Ω1 4 k (gt Ω 4 k - s)) 7 = gt Ω1 7 := gt_nf _ _ _ (by decide)
  have q8 : gt (ups Ω1 4 k (gt Ω 4 k - s)) 8 = gt Ω1 8 := gt_nf _ _ _ (by decide)
  have q3 : gt (ups Ω1 4 k (gt Ω 4 k - s)) 3 0 = (N : Int) := by rw [gt_n _ _ _ _ (by decide), ← h5]; exact gt_fr (g5 3 (by decide) (by decide) (by decide)) 0
  refine ⟨?_, q4, by unfold flC; rw [q5, q7, q8]⟩
  unfold FI
  rw [q4, q5, q6, q7, q3]
  refine ⟨fun v hv => ?_, g2.2.1, g2.2.2.1, rfl, rfl, fun S => ?_⟩
  · by_cases e : v = k
    · subst e; rw [fup_s]; omega
    · rw [fup_n _ _ e]; exact h1 v hv
  · have a1 := g3.2.2.2.2.2.2.2 S
    have a1' : rc N nb (gt Ω 4) (gt Ω1 5) (gt Ω1 7) S = rc N nb (gt Ω 4) (gt Ω 5) (gt Ω 7) S - (if S k = true then s else 0) := a1
    rw [rc_F hk, a1', ← h6 S]
    by_cases c : S k = true
    · simp only [c, if_true]; omega
    · simp only [c]; simp; omega

theorem fl_X1_fill_43 : Cond.fieldLink RX1 43 "StrokeCuts$Network" "dots" "I" ∈ wsX1_fill := by decide +kernel
theorem in_X1_fill_X1 : ∀ x ∈ u_ws RX1 TX1 8, x ∈ wsX1_fill := by decide +kernel
theorem fl_X1_fill_9 : Cond.fieldLink RX1 9 "StrokeCuts$Network" "fromFigure" "[I" ∈ wsX1_fill := by decide +kernel
theorem fl_X1_fill_24 : Cond.fieldLink RX1 24 "StrokeCuts$Network" "distance" "[I" ∈ wsX1_fill := by decide +kernel
set_option maxHeartbeats 4000000 in
set_option maxRecDepth 100000 in
theorem L_X1_fill_20 {E : zE} {w : zP} {l : Launch} {Post : Option Value → Mem → Prop} (hw : zOK w) (hC : zC E w l RX1 wsX1_fill cX1_fill 6 39 1096 (some .int) Post) (N : Nat) (nb : Nat → Int) (c0 : (Nat → Bool) → Int) (hN : N ≤ 36) (hg : grph N nb) (hc0 : c0 (fun _ => false) ≤ 1000000000) (Ω0 : Mem) (L F0 G0 R0 : Nat → Int) (hL36 : ∀ u, u < N → 0 ≤ L u ∧ L u ≤ 36) (b : Int) (hb0 : 0 ≤ b) (r : Nat) (K : ∀ (f : Int) (Ω : Mem) (k : Nat) (o5 : Option Value), k = N → (PI N nb L (flC Ω)) → (FI N nb c0 f Ω) → (∀ v, v < k → 0 < gt Ω 4 v → gt Ω 8 v = 0) → (∀ v, v < N → gt Ω 4 v ≤ F0 v) → (b ≤ f) → (f = b → (∀ v, v < N → gt Ω 5 v = G0 v) ∧ ∀ e, e < 8 * N → 0 ≤ nb e → gt Ω 7 e = R0 e) → (f ≠ b → ∃ v, v < N ∧ 0 < F0 v ∧ 0 < L v) → (frF Ω0 Ω) → X E Ω 88 [some (.ref (wa w 3)), some (.int (zI f)), some (.int (zI (r : Int))), some (.int (zI b)), some (.int (zI (k : Int))), o5] []) : ∀ (n : Nat) (k : Nat) (f : Int) (Ω : Mem) (o5 : Option Value), N < k + n → (k ≤ N) → (PI N nb L (flC Ω)) → (FI N nb c0 f Ω) → (∀ v, v < k → 0 < gt Ω 4 v → gt Ω 8 v = 0) → (∀ v, v < N → gt Ω 4 v ≤ F0 v) → (b ≤ f) → (f = b → (∀ v, v < N → gt Ω 5 v = G0 v) ∧ ∀ e, e < 8 * N → 0 ≤ nb e → gt Ω 7 e = R0 e) → (f ≠ b → ∃ v, v < N ∧ 0 < F0 v ∧ 0 < L v) → (frF Ω0 Ω) → X E Ω 20 [some (.ref (wa w 3)), some (.int (zI f)), some (.int (zI (r : Int))), some (.int (zI b)), some (.int (zI (k : Int))), o5] [] := by
  intro n
  induction n with
  | zero =>
    intro k f Ω o5 hfu hk hP hI hd hFm hbf heq hx hF
    exact absurd hfu (by omega)
  | succ n ih =>
    intro k f Ω o5 hfu hk hP hI hd hFm hbf heq hx hF
    have hf1 := hI.le (fun _ => false)
    have e0 := hI.2.2.2.2.1
    refine z_iload (pc := 20) hC (i := 4) dX1_fill_20 rfl ?_
    refine z_aload_n (pc := 22) hC (i := 0) dX1_fill_22 rfl rfl ?_
    refine z_getI (C := RX1) (T := TX1) (N := 8) (ci := 1) (pc := 23) hC _ 0 in_X1_fill_X1 rfl (by decide) (fun _ => rfl) (by decide) fl_X1_fill_43 (fun _ => rfl) dX1_fill_23 ?_
    rw [e0]
    refine z_icmp_ge (pc := 26) hC 88 (by first | assumption | exact zb_gt _ _ _ | exact zcmp_zb _ _ | exact bI_zb _ | exact ⟨by omega, by omega⟩) (by first | assumption | exact zb_gt _ _ _ | exact zcmp_zb _ _ | exact bI_zb _ | exact ⟨by omega, by omega⟩) dX1_fill_26 rfl (fun h26 => ?_) (fun h26 => ?_)
    · exact K f Ω k _ (by omega) hP hI hd hFm hbf heq hx hF
    · refine z_aload_n (pc := 29) hC (i := 0) dX1_fill_29 rfl rfl ?_
      refine z_getR (C := RX1) (T := TX1) (N := 8) (ci := 1) (pc := 30) hC _ _ 1 in_X1_fill_X1 rfl (by decide) (fun _ => rfl) (by decide) fl_X1_fill_9 (fun _ => rfl) dX1_fill_30 ?_
      refine z_iload (pc := 33) hC (i := 4) dX1_fill_33 rfl ?_
      refine z_ialk (pc := 35) hC _ k (by decide) (fun _ => rfl) rfl (by omega) (by decide) dX1_fill_35 ?_
      refine z_if_le (pc := 36) hC 82 (by first | assumption | exact zb_gt _ _ _ | exact zcmp_zb _ _ | exact bI_zb _ | exact ⟨by omega, by omega⟩) dX1_fill_36 rfl (fun h36 => ?_) (fun h36 => ?_)
      · refine z_iinc (pc := 82) hC (i := 4) dX1_fill_82 rfl (by decide) rfl (zS_s (zS_s (zS_s (zS_s zS_0)))) ?_
        refine z_goto (pc := 85) hC 20 dX1_fill_85 rfl ?_
        exact ih (k + 1) f Ω _ (by omega) (by omega) hP hI (fun v hv hp => by
          by_cases e : v = k
          · subst e
            omega
          · exact hd v (by omega) hp) hFm hbf heq hx hF
      · refine z_aload_n (pc := 39) hC (i := 0) dX1_fill_39 rfl rfl ?_
        refine z_getR (C := RX1) (T := TX1) (N := 8) (ci := 1) (pc := 40) hC _ _ 5 in_X1_fill_X1 rfl (by decide) (fun _ => rfl) (by decide) fl_X1_fill_24 (fun _ => rfl) dX1_fill_40 ?_
        refine z_iload (pc := 43) hC (i := 4) dX1_fill_43 rfl ?_
        refine z_ialk (pc := 45) hC _ k (by decide) (fun _ => rfl) rfl (by omega) (by decide) dX1_fill_45 ?_
        refine z_if_le (pc := 46) hC 82 (by first | assumption | exact zb_gt _ _ _ | exact zcmp_zb _ _ | exact bI_zb _ | exact ⟨by omega, by omega⟩) dX1_fill_46 rfl (fun h46 => ?_) (fun h46 => ?_)
        · refine z_iinc (pc := 82) hC (i := 4) dX1_fill_82 rfl (by decide) rfl (zS_s (zS_s (zS_s (zS_s zS_0)))) ?_
          refine z_goto (pc := 85) hC 20 dX1_fill_85 rfl ?_
          exact ih (k + 1) f Ω _ (by omega) (by omega) hP hI (fun v hv hp => by
            by_cases e : v = k
            · subst e
              rcases hP.1 v (by omega) with q | q
              · have q1 : gt Ω 8 v = L v := q
                have := hL36 v (by omega)
                omega
              · exact q
            · exact hd v (by omega) hp) hFm hbf heq hx hF
        · have hk4 := hI.1 k (by omega)
          have hD : gt Ω 8 k = L k := by
            rcases hP.1 k (by omega) with q | q
            · exact q
            · have q1 : gt Ω 8 k = 0 := q
              omega
          have hLk := hL36 k (by omega)
          refine z_aload_n (pc := 49) hC (i := 0) dX1_fill_49 rfl rfl ?_
          refine z_iload (pc := 50) hC (i := 4) dX1_fill_50 rfl ?_
          refine z_aload_n (pc := 52) hC (i := 0) dX1_fill_52 rfl rfl ?_
          refine z_getR (C := RX1) (T := TX1) (N := 8) (ci := 1) (pc := 53) hC _ _ 1 in_X1_fill_X1 rfl (by decide) (fun _ => rfl) (by decide) fl_X1_fill_9 (fun _ => rfl) dX1_fill_53 ?_
          refine z_iload (pc := 56) hC (i := 4) dX1_fill_56 rfl ?_
          refine z_ialk (pc := 58) hC _ k (by decide) (fun _ => rfl) rfl (by omega) (by decide) dX1_fill_58 ?_
          refine z_iconst (pc := 59) hC dX1_fill_59 ?_
          refine z_callS (n := 4) (pc := 60) hC (c_X1_send l w hw N nb L (gt Ω 4) hN hg hL36 (L k).toNat _ k _ 1 hI.2.2.2.1 hP (by omega) (by omega) (by omega) hD (by omega) (by omega) (by omega) (by omega)) gX1_fill_X1_send rfl (by decide +kernel) (by unfold sFr; omega) (by unfold sLo; omega) rfl rfl (Nat.le_of_ble_eq_true rfl) dX1_fill_60 (zi_k fun r60 Ω60 h60 => ?_)
          obtain ⟨i1, i2, i3⟩ := hI.sent (show k < N by omega) h60
          obtain ⟨t1, t2, t3, t4, t5⟩ := h60
          have hs0 := t3.1
          have e4 : gt Ω60 4 k = gt Ω 4 k := gt_fr (t5 4 (by decide) (by decide) (by decide)) k
          refine z_istore (pc := 63) hC (i := 5) dX1_fill_63 (by decide) rfl (zS_s (zS_s (zS_s (zS_s (zS_s zS_0))))) ?_
          refine z_aload_n (pc := 65) hC (i := 0) dX1_fill_65 rfl rfl ?_
          refine z_getR (C := RX1) (T := TX1) (N := 8) (ci := 1) (pc := 66) hC _ _ 1 in_X1_fill_X1 rfl (by decide) (fun _ => rfl) (by decide) fl_X1_fill_9 (fun _ => rfl) dX1_fill_66 ?_
          refine z_iload (pc := 69) hC (i := 4) dX1_fill_69 rfl ?_
          refine z_dup2 (pc := 71) hC dX1_fill_71 rfl rfl ?_
          refine z_ialk (pc := 72) hC _ k (by decide) (fun _ => rfl) rfl (by omega) (by decide) dX1_fill_72 ?_
          rw [e4]
          refine z_iload (pc := 73) hC (i := 5) dX1_fill_73 rfl ?_
          refine z_isub (pc := 75) hC dX1_fill_75 ?_
          refine z_iask (pc := 76) hC _ k (by decide) (fun _ => rfl) rfl (by omega) (by decide) dX1_fill_76 ?_
          refine z_iload_n (pc := 77) hC (i := 1) dX1_fill_77 rfl rfl ?_
          refine z_iload (pc := 78) hC (i := 5) dX1_fill_78 rfl ?_
          refine z_iadd (pc := 80) hC dX1_fill_80 ?_
          refine z_istore_n (pc := 81) hC (i := 1) dX1_fill_81 rfl (by decide) rfl (zS_s zS_0) ?_
          refine z_iinc (pc := 82) hC (i := 4) dX1_fill_82 rfl (by decide) rfl (zS_s (zS_s (zS_s (zS_s zS_0)))) ?_
          refine z_goto (pc := 85) hC 20 dX1_fill_85 rfl ?_
          have hfs : f + r60 ≤ c0 (fun _ => false) := i1.le _
          have hM8 : gt (ups Ω60 4 k (gt Ω 4 k - r60)) 8 = gt Ω60 8 := gt_nf _ _ _ (by decide)
          refine ih (k + 1) (f + r60) _ _ (by omega) (by omega) (by rw [i3]; exact t2) i1 (fun v hv hp => ?_) (fun v hv => ?_) (by omega) (fun hz => ?_) (fun _ => ⟨k, by omega, by have := hFm k (by omega); omega, by omega⟩) ((hF.trans t5.F).trans (frF_4 _ _ _))
          · rw [hM8]
            rw [i2] at hp
            by_cases e : v = k
            · subst e
              rw [fup_s] at hp
              exact t4 (by omega)
            · rw [fup_n _ _ e] at hp
              have h9 := hd v (by omega) hp
              rcases t3.2.1 v (by omega) with q | q
              · have q1 : gt Ω60 8 v = gt Ω 8 v := q
                rw [q1]; exact h9
              · exact q
          · rw [i2]
            have := hFm v hv
            by_cases e : v = k
            · subst e; rw [fup_s]; omega
            · rw [fup_n _ _ e]; exact this
          · obtain ⟨z1, z2⟩ := t3.2.2.2.2.2.2.1 (by omega)
            obtain ⟨y1, y2⟩ := heq (by omega)
            rw [show gt (ups Ω60 4 k (gt Ω 4 k - r60)) 5 = gt Ω60 5 from gt_nf _ _ _ (by decide), show gt (ups Ω60 4 k (gt Ω 4 k - r60)) 7 = gt Ω60 7 from gt_nf _ _ _ (by decide)]
            exact ⟨fun v hv => (z1 v hv).trans (y1 v hv), fun e he hn => (z2 e he hn).trans (y2 e he hn)⟩
set_option maxHeartbeats 4000000 in
set_option maxRecDepth 100000 in
theorem L_X1_fill_4 {E : zE} {w : zP} {l : Launch} {Post : Option Value → Mem → Prop} (hw : zOK w) (hC : zC E w l RX1 wsX1_fill cX1_fill 6 39 1096 (some .int) Post) (N : Nat) (nb : Nat → Int) (c0 : (Nat → Bool) → Int) (hN : N ≤ 36) (hg : grph N nb) (hc0 : c0 (fun _ => false) ≤ 1000000000) (Ω0 : Mem) (K : ∀ (f : Int) (Ω : Mem) (r : Nat) (o3 o4 o5 : Option Value), (FI N nb c0 f Ω ∧ frF Ω0 Ω ∧ 0 ≤ f ∧ ∃ L, lab N nb (gt Ω 5) (gt Ω 7) L ∧ ∀ v, v < N → 0 < gt Ω 4 v → L v = 0) → X E Ω 102 [some (.ref (wa w 3)), some (.int (zI f)), some (.int (zI (r : Int))), o3, o4, o5] []) : ∀ (n : Nat) (r : Nat) (f : Int) (Ω : Mem) (o3 : Option Value) (o4 : Option Value) (o5 : Option Value), 36 < r + n → (r ≤ 36) → (FI N nb c0 f Ω) → (∀ L, lab N nb (gt Ω 5) (gt Ω 7) L → ∀ k, k < N → 0 < gt Ω 4 k → 0 < L k → (r : Int) < L k) → (0 ≤ f) → (frF Ω0 Ω) → X E Ω 4 [some (.ref (wa w 3)), some (.int (zI f)), some (.int (zI (r : Int))), o3, o4, o5] [] := by
  intro n
  induction n with
  | zero =>
    intro r f Ω o3 o4 o5 hfu hr hI hL hf0 hF
    exact absurd hfu (by omega)
  | succ n ih =>
    intro r f Ω o3 o4 o5 hfu hr hI hL hf0 hF
    have hf1 := hI.le (fun _ => false)
    refine z_iload_n (pc := 4) hC (i := 2) dX1_fill_4 rfl rfl ?_
    refine z_sipush (pc := 5) hC dX1_fill_5 rfl ?_
    refine z_icmp_ge (pc := 8) hC 102 (by first | assumption | exact zb_gt _ _ _ | exact zcmp_zb _ _ | exact bI_zb _ | exact ⟨by omega, by omega⟩) (by first | assumption | exact zb_gt _ _ _ | exact zcmp_zb _ _ | exact bI_zb _ | exact ⟨by omega, by omega⟩) dX1_fill_8 rfl (fun h8 => ?_) (fun h8 => ?_)
    · exact absurd h8 (by omega)
    · refine z_aload_n (pc := 11) hC (i := 0) dX1_fill_11 rfl rfl ?_
      refine z_callV (n := 0) (T := TX1) (N := 8) (ci := 1) (pc := 12) hC (c_X1_measureDistances l w hw _ N hN hI.2.2.2.2.1 (by rw [hI.2.2.2.1]; exact hg)) gX1_fill_X1_measureDistances rfl (by decide +kernel) (by decide) (by decide) rfl (by decide) (fun _ => rfl) rfl rfl (Nat.le_of_ble_eq_true rfl) dX1_fill_12 (zv_k fun Ω12 h12 => ?_)
      obtain ⟨hl, hM⟩ := h12
      rw [hI.2.2.2.1] at hl
      have hI1 := hI.moved hM
      have e5 : gt Ω12 5 = gt Ω 5 := by unfold gt; rw [hM.1 5 (by decide) (by decide) (by decide)]
      have e7 : gt Ω12 7 = gt Ω 7 := by unfold gt; rw [hM.1 7 (by decide) (by decide) (by decide)]
      have e4 : gt Ω12 4 = gt Ω 4 := by unfold gt; rw [hM.1 4 (by decide) (by decide) (by decide)]
      have hP0 : PI N nb (gt Ω12 8) (flC Ω12) := by
        show PI N nb (gt Ω12 8) (gt Ω12 5, gt Ω12 7, gt Ω12 8)
        rw [e5, e7]
        exact PI_start hl hI.2.1 hI.2.2.1
      refine z_iload_n (pc := 15) hC (i := 1) dX1_fill_15 rfl rfl ?_
      refine z_istore_n (pc := 16) hC (i := 3) dX1_fill_16 rfl (by decide) rfl (zS_s (zS_s (zS_s zS_0))) ?_
      refine z_iconst (pc := 17) hC dX1_fill_17 ?_
      refine z_istore (pc := 18) hC (i := 4) dX1_fill_18 (by decide) rfl (zS_s (zS_s (zS_s (zS_s zS_0)))) ?_
      refine L_X1_fill_20 hw hC N nb c0 hN hg hc0 Ω0 (gt Ω12 8) (gt Ω 4) (gt Ω 5) (gt Ω 7) (fun u hu => ⟨(hl.1 u hu).1, by have := (hl.1 u hu).2; omega⟩) f hf0 r (fun f1 Ω1 k o5 hkN gP gI gd gFm gbf geq gx gF => ?_) (N + 1) 0 f Ω12 _ (by omega) (by omega) hP0 hI1 (fun v hv => absurd hv (Nat.not_lt_zero v)) (fun v hv => by rw [e4]; omega) (by omega) (fun _ => ⟨fun v hv => by rw [e5], fun e he hn => by rw [e7]⟩) (fun q => absurd rfl q) (hF.trans hM.F)
      subst hkN
      have gf1 := gI.le (fun _ => false)
      refine z_iload_n (pc := 88) hC (i := 1) dX1_fill_88 rfl rfl ?_
      refine z_iload_n (pc := 89) hC (i := 3) dX1_fill_89 rfl rfl ?_
      refine z_icmp_ne (pc := 90) hC 96 (by first | assumption | exact zb_gt _ _ _ | exact zcmp_zb _ _ | exact bI_zb _ | exact ⟨by omega, by omega⟩) (by first | assumption | exact zb_gt _ _ _ | exact zcmp_zb _ _ | exact bI_zb _ | exact ⟨by omega, by omega⟩) dX1_fill_90 rfl (fun h90 => ?_) (fun h90 => ?_)
      · refine z_iinc (pc := 96) hC (i := 2) dX1_fill_96 rfl (by decide) rfl (zS_s (zS_s zS_0)) ?_
        refine z_goto (pc := 99) hC 4 dX1_fill_99 rfl ?_
        have hr35 : r ≤ 35 := by
          obtain ⟨v, hv, q1, q2⟩ := gx h90
          have q3 := hL _ hl v hv q1 q2
          have q4 := (hl.1 v hv).2
          omega
        refine ih (r + 1) f1 Ω1 _ _ _ (by omega) (by omega) gI (fun L1 hl1 v hv hp h0 => ?_) (by omega) gF
        obtain ⟨n, hn⟩ := nat_of (show 0 ≤ L1 v by omega)
        obtain ⟨d1, d2, d3⟩ := ph_lab hg gP hl1 n v hv hn h0
        have d4 := d3 (gd v (by omega) hp)
        have d5 := hL _ hl v hv (by have := gFm v hv; omega) d1
        omega
      · refine z_goto (pc := 93) hC 102 dX1_fill_93 rfl ?_
        obtain ⟨y1, y2⟩ := geq (by omega)
        have hl2 := lab_cong y1 y2 hl
        exact K f1 Ω1 r _ _ _ ⟨gI, gF, by omega, gt Ω12 8, hl2, fun v hv hp => by
          by_cases q : gt Ω12 8 v = 0
          · exact q
          · have hv0 := (hl.1 v hv).1
            obtain ⟨n, hn⟩ := nat_of hv0
            have := (ph_lab hg gP hl2 n v hv hn (by omega)).2.2 (gd v (by omega) hp)
            omega⟩
set_option maxHeartbeats 4000000 in
set_option maxRecDepth 100000 in
theorem c_X1_fill (l : Launch) (w : zP) (hw : zOK w) (Ω : Mem) (N : Nat) (nb : Nat → Int) (c0 : (Nat → Bool) → Int) (hN : N ≤ 36) (hg : grph N nb) (hc0 : c0 (fun _ => false) ≤ 1000000000) (hI : FI N nb c0 0 Ω) : zM l w yX1_fill wsX1_fill 39 1096 [.ref (wa w 3)] Ω (zi (fun f Ω1 => FI N nb c0 f Ω1 ∧ frF Ω Ω1 ∧ 0 ≤ f ∧ ∃ L, lab N nb (gt Ω1 5) (gt Ω1 7) L ∧ ∀ v, v < N → 0 < gt Ω1 4 v → L v = 0)) := by
  refine zM_of cX1_fill 6 (some .int) RX1 [some (.ref (wa w 3)), none, none, none, none, none] hw (by decide +kernel) rfl rfl (Nat.le_of_ble_eq_true rfl) rfl (fun E hC => ?_)
  refine z_iconst (pc := 0) hC dX1_fill_0 ?_
  refine z_istore_n (pc := 1) hC (i := 1) dX1_fill_1 rfl (by decide) rfl (zS_s zS_0) ?_
  refine z_iconst (pc := 2) hC dX1_fill_2 ?_
  refine z_istore_n (pc := 3) hC (i := 2) dX1_fill_3 rfl (by decide) rfl (zS_s (zS_s zS_0)) ?_
  refine L_X1_fill_4 hw hC N nb c0 hN hg hc0 Ω (fun f Ω r o3 o4 o5 hp => ?_) 37 0 0 Ω none none none (by omega) (by omega) hI (fun L hl k hk h1 h2 => by omega) (by omega) (frF.refl _)
  refine z_iload_n (pc := 102) hC (i := 1) dX1_fill_102 rfl rfl ?_
  exact z_iret (pc := 103) hC rfl ⟨_, rfl, hp⟩ dX1_fill_103
