/-! what the reader answers doesn't hang on the numbers that lay there before -/
def simP (s t : Ps) : Prop := s.1 = t.1 ∧ s.2.1 = t.2.1 ∧ ∀ j, j < s.2.1 → s.2.2 j = t.2.2 j
def simB (a b : Bool × Ps) : Prop := a.1 = b.1 ∧ simP a.2 b.2
theorem sim_rF (T : Nat → Int) (L : Nat) (a b : Int) {s t : Ps} (h : simP s t) : simB (rF T L a b s) (rF T L a b t) := by
  obtain ⟨h1, h2, h3⟩ := h
  unfold rF
  rw [← h1]
  by_cases c : a ≤ sg T L s.1 - 48 ∧ sg T L s.1 - 48 ≤ b
  · rw [if_pos c, if_pos c]
    refine ⟨rfl, rfl, by simp [h2], fun j hj => ?_⟩
    simp only [fup] at hj ⊢
    rw [← h2]
    by_cases e : j = s.2.1
    · simp [e]
    · simp only [e, if_false]; exact h3 j (by omega)
  · rw [if_neg c, if_neg c]
    exact ⟨rfl, rfl, h2, h3⟩
theorem sim_seq {a b : Bool × Ps} {f g : Ps → Bool × Ps} (h : simB a b) (hf : ∀ s t, simP s t → simB (f s) (g t)) : simB (seqB a f) (seqB b g) := by
  unfold seqB
  rw [← h.1]
  by_cases c : a.1 = true
  · rw [if_pos c, if_pos c]; exact hf _ _ h.2
  · rw [if_neg c, if_neg c]; exact h
theorem sim_rD (T : Nat → Int) (L : Nat) (x y : Int) {s t : Ps} (h : simP s t) : simB (rD T L x y s) (rD T L x y t) := sim_seq (sim_rF T L _ _ h) (fun _ _ h => sim_rF T L _ _ h)
theorem sim_rE (T : Nat → Int) (L : Nat) {s t : Ps} (h : simP s t) : simB (rE T L s) (rE T L t) := by
  unfold rE
  rw [← h.1]
  by_cases c : sg T L s.1 = 59
  · rw [if_pos c, if_pos c]; exact ⟨rfl, rfl, h.2⟩
  · rw [if_neg c, if_neg c]; exact ⟨rfl, rfl, h.2⟩
theorem sim_rM (T : Nat → Int) (L : Nat) (x y : Int) {s t : Ps} (h : simP s t) : simB (rM T L x y s) (rM T L x y t) := by
  unfold rM
  rw [← h.1]
  by_cases c : sg T L s.1 = 59
  · rw [if_pos c, if_pos c]; exact ⟨rfl, rfl, h.2⟩
  · rw [if_neg c, if_neg c]; exact sim_rD T L x y ⟨rfl, h.2⟩
theorem sim_rO (T : Nat → Int) (L : Nat) (x y k : Int) {s t : Ps} (h : simP s t) : simB (rO T L x y k s) (rO T L x y k t) := by
  unfold rO
  split
  · exact sim_seq (sim_seq (sim_rD T L x y h) (fun _ _ h => sim_rM T L x y h)) (fun _ _ h => sim_rE T L h)
  · split
    · exact sim_seq (sim_seq (sim_rD T L x y h) (fun _ _ h => sim_rF T L _ _ h)) (fun _ _ h => sim_rE T L h)
    · split
      · exact sim_seq (sim_rF T L _ _ h) (fun _ _ h => sim_rE T L h)
      · exact ⟨rfl, h⟩
def qO (T : Nat → Int) (L : Nat) (x y : Int) (p : Nat) : Bool × Ps := pO T L x y p (fun _ => 0)
theorem sim_pO (T : Nat → Int) (L : Nat) (x y : Int) (p : Nat) (f : Nat → Int) : simB (pO T L x y p f) (qO T L x y p) := by
  unfold qO pO
  by_cases c : sg T L p = 102 ∨ sg T L p = 103 ∨ sg T L p = 110 ∨ sg T L p = 115 ∨ sg T L p = 108
  · rw [if_pos c, if_pos c]; exact sim_rO T L x y _ ⟨rfl, rfl, fun j h => absurd h (Nat.not_lt_zero j)⟩
  · rw [if_neg c, if_neg c]; exact ⟨rfl, rfl, rfl, fun j h => absurd h (Nat.not_lt_zero j)⟩
/-- the whole text: no fault, or where; and how many orders were read -/
def pA (T : Nat → Int) (L : Nat) (x y : Int) : Nat → Nat → Nat → Option Nat × Nat
  | 0, p, n => (some p, n)
  | k + 1, p, n => if 0 < n ∧ sg T L p = -1 then (none, n) else if (qO T L x y p).1 = true then pA T L x y k (qO T L x y p).2.1 (n + 1) else (some (qO T L x y p).2.1, n)
def ffv (o : Option Nat) : Int := match o with
  | none => -1
  | some p => p
theorem pA_end {T : Nat → Int} {L : Nat} {x y : Int} {k p n : Nat} (h : 0 < n) (h2 : sg T L p = -1) : pA T L x y (k + 1) p n = (none, n) := by rw [pA, if_pos ⟨h, h2⟩]
theorem pA_yes {T : Nat → Int} {L : Nat} {x y : Int} {k p n : Nat} (h : ¬ (0 < n ∧ sg T L p = -1)) (h2 : (qO T L x y p).1 = true) : pA T L x y (k + 1) p n = pA T L x y k (qO T L x y p).2.1 (n + 1) := by rw [pA, if_neg h, if_pos h2]
theorem pA_no {T : Nat → Int} {L : Nat} {x y : Int} {k p n : Nat} (h : ¬ (0 < n ∧ sg T L p = -1)) (h2 : (qO T L x y p).1 = false) : pA T L x y (k + 1) p n = (some (qO T L x y p).2.1, n) := by rw [pA, if_neg h, if_neg (by rw [h2]; decide)]
/-- blanks ahead don't matter -/
theorem qO_sk (T : Nat → Int) (L : Nat) (x y : Int) (p : Nat) : qO T L x y (sk T L p) = qO T L x y p := by unfold qO pO; rw [sg_sk, sk_sk]

/-- one more order read -/
theorem ord2 {T : Nat → Int} {L : Nat} {Ω0 Ω1 : Mem} {c : Nat} (hv : pok T L Ω1) (hF : ∀ q, q ≠ 10 → q ≠ 12 → Ω1 q = Ω0 q) (h2 : gt Ω1 10 2 = gt Ω0 10 2) (hc : c ≤ 100) : gt (ups Ω1 10 4 ((c : Int) + 1)) 10 4 = ((c + 1 : Nat) : Int) ∧ pok T L (ups Ω1 10 4 ((c : Int) + 1)) ∧ psC (ups Ω1 10 4 ((c : Int) + 1)) = psC Ω1 ∧ (∀ q, q ≠ 10 → q ≠ 12 → ups Ω1 10 4 ((c : Int) + 1) q = Ω0 q) ∧ gt (ups Ω1 10 4 ((c : Int) + 1)) 10 2 = gt Ω0 10 2 := by
  obtain ⟨h1, h2', h3, h4, h5, h6⟩ := hv
  generalize hM : ups Ω1 10 4 ((c : Int) + 1) = M
  have a4 : gt M 10 4 = (c : Int) + 1 := by rw [← hM]; exact gt_s _ _ _ ⟨by omega, by omega⟩
  have ak : ∀ k, k ≠ 4 → gt M 10 k = gt Ω1 10 k := fun k x => by rw [← hM, gt_sn _ _ _ x]
  have aq : ∀ q, q ≠ 10 → M q = Ω1 q := fun q x => by rw [← hM, ups_n _ _ _ x]
  refine ⟨by rw [a4]; omega, ⟨?_, ?_, h3, h4, ?_, ?_⟩, ?_, fun q x y => (aq q x).trans (hF q x y), (ak 2 (by decide)).trans h2⟩
  · rw [← h1]; unfold gt; rw [aq 11 (by decide)]
  · rw [ak 2 (by decide)]; exact h2'
  · rw [ak 3 (by decide)]; exact h5
  · rw [ak 6 (by decide)]; exact h6
  · unfold psC
    rw [ak 3 (by decide), ak 6 (by decide), show gt M 12 = gt Ω1 12 by unfold gt; rw [aq 12 (by decide)]]
theorem fl_X3_findFault_31 : Cond.fieldLink RX3 31 "StrokeCuts$Script" "orders" "I" ∈ wsX3_findFault := by decide +kernel
theorem in_X3_findFault_X3 : ∀ x ∈ u_ws RX3 TX3 7, x ∈ wsX3_findFault := by decide +kernel
theorem fl_X3_findFault_22 : Cond.fieldLink RX3 22 "StrokeCuts$Script" "place" "I" ∈ wsX3_findFault := by decide +kernel
set_option maxHeartbeats 4000000 in
set_option maxRecDepth 100000 in
theorem S_X3_findFault_34 {E : zE} {w : zP} {l : Launch} {Post : Option Value → Mem → Prop} (hw : zOK w) (hC : zC E w l RX3 wsX3_findFault cX3_findFault 4 4 89 (some .int) Post) {Ω : Mem} (Ω0 : Mem) (T : Nat → Int) (L : Nat) (x y : Int) (hx : 2 ≤ x ∧ x ≤ 6) (hy : 2 ≤ y ∧ y ≤ 6) (i c : Nat) (Ka : ∀ (Ω1 : Mem), (qO T L x y (psC Ω).1).1 = false → gt Ω1 10 3 = ((qO T L x y (psC Ω).1).2.1 : Int) → gt Ω1 10 4 = (c : Int) → pok T L Ω1 → (∀ q, q ≠ 10 → q ≠ 12 → Ω1 q = Ω0 q) → gt Ω1 10 2 = gt Ω0 10 2 → Post (some (.int (zI (gt Ω1 10 3)))) Ω1) (Kb : ∀ (Ω1 : Mem), (qO T L x y (psC Ω).1).1 = true → (psC Ω1).1 = (qO T L x y (psC Ω).1).2.1 → gt Ω1 10 4 = ((c + 1 : Nat) : Int) → pok T L Ω1 → (∀ q, q ≠ 10 → q ≠ 12 → Ω1 q = Ω0 q) → gt Ω1 10 2 = gt Ω0 10 2 → X E Ω1 11 [some (.ref (wa w 10)), some (.int (zI x)), some (.int (zI y)), some (.int (zI ((i + 1 : Nat) : Int)))] []) (hv : pok T L Ω) (hF : ∀ q, q ≠ 10 → q ≠ 12 → Ω q = Ω0 q) (h2 : gt Ω 10 2 = gt Ω0 10 2) (hc : gt Ω 10 4 = (c : Int)) (hcb : c ≤ 100) (hi : i ≤ 100) : X E Ω 34 [some (.ref (wa w 10)), some (.int (zI x)), some (.int (zI y)), some (.int (zI (i : Int)))] [] := by
  have hsim := sim_pO T L x y (psC Ω).1 (psC Ω).2.2
  refine z_aload_n (pc := 34) hC (i := 0) dX3_findFault_34 rfl rfl ?_
  refine z_iload_n (pc := 35) hC (i := 1) dX3_findFault_35 rfl rfl ?_
  refine z_iload_n (pc := 36) hC (i := 2) dX3_findFault_36 rfl rfl ?_
  refine z_callV (n := 2) (T := TX3) (N := 7) (ci := 3) (pc := 37) hC (c_X3_readOrder l w hw _ T L hv _ _ hx hy) gX3_findFault_X3_readOrder rfl (by decide +kernel) (by decide) (by decide) rfl (by decide) (fun _ => rfl) rfl rfl (Nat.le_of_ble_eq_true rfl) dX3_findFault_37 (zb_k fun r37 Ω37 h37 => ?_)
  obtain ⟨rfl, hp37, hk37, hv37, hf37⟩ := h37
  have e4 : gt Ω37 10 4 = (c : Int) := hf37.2.2.trans hc
  obtain ⟨g1, g2, g3, g4, g5⟩ := ord2 (Ω0 := Ω0) (c := c) hv37 (fun q a b => (hf37.1 q a b).trans (hF q a b)) (hf37.2.1.trans h2) hcb
  have hpl : gt Ω37 10 3 = ((qO T L x y (psC Ω).1).2.1 : Int) := by
    have this : (psC Ω37).1 = (qO T L x y (psC Ω).1).2.1 := by rw [hp37]; exact hsim.2.1
    rw [← this]; unfold psC; exact (Int.toNat_of_nonneg hv37.2.2.2.2.1.1).symm
  refine z_ifb_ne (pc := 40) hC 48 dX3_findFault_40 rfl (fun h40 => ?_) (fun h40 => ?_)
  · refine z_aload_n (pc := 48) hC (i := 0) dX3_findFault_48 rfl rfl ?_
    refine z_dup (pc := 49) hC dX3_findFault_49 rfl ?_
    refine z_getI (C := RX3) (T := TX3) (N := 7) (ci := 3) (pc := 50) hC _ 4 in_X3_findFault_X3 rfl (by decide) (fun _ => rfl) (by decide) fl_X3_findFault_31 (fun _ => rfl) dX3_findFault_50 ?_
    rw [e4]
    refine z_iconst (pc := 53) hC dX3_findFault_53 ?_
    refine z_iadd (pc := 54) hC dX3_findFault_54 ?_
    refine z_putI (C := RX3) (T := TX3) (N := 7) (ci := 3) (pc := 55) hC _ 4 in_X3_findFault_X3 rfl (by decide) (fun _ => rfl) (by decide) fl_X3_findFault_31 tyX3_ok nmX3 rfl (by decide +kernel) (fun _ => Nat.le_of_ble_eq_true rfl) (fun _ _ => rfl) dX3_findFault_55 ?_
    refine z_iinc (pc := 58) hC (i := 3) dX3_findFault_58 rfl (by decide) rfl (zS_s (zS_s (zS_s zS_0))) ?_
    refine z_goto (pc := 61) hC 11 dX3_findFault_61 rfl ?_
    exact Kb _ (hsim.1.symm.trans h40) (by rw [g3, hp37]; exact hsim.2.1) g1 g2 g4 g5
  · refine z_aload_n (pc := 43) hC (i := 0) dX3_findFault_43 rfl rfl ?_
    refine z_getI (C := RX3) (T := TX3) (N := 7) (ci := 3) (pc := 44) hC _ 3 in_X3_findFault_X3 rfl (by decide) (fun _ => rfl) (by decide) fl_X3_findFault_22 (fun _ => rfl) dX3_findFault_44 ?_
    exact z_iret (pc := 47) hC rfl (Ka _ (hsim.1.symm.trans h40) hpl e4 hv37 (fun q a b => (hf37.1 q a b).trans (hF q a b)) (hf37.2.1.trans h2)) dX3_findFault_47
set_option maxHeartbeats 4000000 in
set_option maxRecDepth 100000 in
theorem L_X3_findFault_11 {E : zE} {w : zP} {l : Launch} {Post : Option Value → Mem → Prop} (hw : zOK w) (hC : zC E w l RX3 wsX3_findFault cX3_findFault 4 4 89 (some .int) Post) (Ω0 : Mem) (T : Nat → Int) (L : Nat) (x y : Int) (hx : 2 ≤ x ∧ x ≤ 6) (hy : 2 ≤ y ∧ y ≤ 6) (e : Option Nat × Nat) (K : ∀ (r : Int) (Ω1 : Mem), r = ffv e.1 → (r = -1 → gt Ω1 10 4 = (e.2 : Int)) → pok T L Ω1 → (∀ q, q ≠ 10 → q ≠ 12 → Ω1 q = Ω0 q) → gt Ω1 10 2 = gt Ω0 10 2 → Post (some (.int (zI r))) Ω1) : ∀ (n i : Nat) (Ω : Mem), 101 = i + n → (pok T L Ω) → (∀ q, q ≠ 10 → q ≠ 12 → Ω q = Ω0 q) → (gt Ω 10 2 = gt Ω0 10 2) → (gt Ω 10 4 = (i : Int)) → (pA T L x y n (psC Ω).1 i = e) → X E Ω 11 [some (.ref (wa w 10)), some (.int (zI x)), some (.int (zI y)), some (.int (zI (i : Int)))] [] := by
  intro n
  induction n with
  | zero =>
    intro i Ω hfu hv hF h2 hc hpA
    have hi : i = 101 := by omega
    refine z_iload_n (pc := 11) hC (i := 3) dX3_findFault_11 rfl rfl ?_
    refine z_bipush (pc := 12) hC dX3_findFault_12 rfl ?_
    refine z_icmp_gt (pc := 14) hC 64 (by first | assumption | exact zb_gt _ _ _ | exact zcmp_zb _ _ | exact bI_zb _ | exact ⟨by omega, by omega⟩) (by first | assumption | exact zb_gt _ _ _ | exact zcmp_zb _ _ | exact bI_zb _ | exact ⟨by omega, by omega⟩) dX3_findFault_14 rfl (fun h14 => ?_) (fun h14 => ?_)
    · refine z_aload_n (pc := 64) hC (i := 0) dX3_findFault_64 rfl rfl ?_
      refine z_getI (C := RX3) (T := TX3) (N := 7) (ci := 3) (pc := 65) hC _ 3 in_X3_findFault_X3 rfl (by decide) (fun _ => rfl) (by decide) fl_X3_findFault_22 (fun _ => rfl) dX3_findFault_65 ?_
      exact z_iret (pc := 68) hC rfl (K _ _ (by rw [← hpA]; show _ = (((psC Ω).1 : Nat) : Int); unfold psC; exact (Int.toNat_of_nonneg hv.2.2.2.2.1.1).symm) (fun q => absurd hv.2.2.2.2.1.1 (by omega)) hv hF h2) dX3_findFault_68
    · exact absurd h14 (by omega)
  | succ n ih =>
    intro i Ω hfu hv hF h2 hc hpA
    refine z_iload_n (pc := 11) hC (i := 3) dX3_findFault_11 rfl rfl ?_
    refine z_bipush (pc := 12) hC dX3_findFault_12 rfl ?_
    refine z_icmp_gt (pc := 14) hC 64 (by first | assumption | exact zb_gt _ _ _ | exact zcmp_zb _ _ | exact bI_zb _ | exact ⟨by omega, by omega⟩) (by first | assumption | exact zb_gt _ _ _ | exact zcmp_zb _ _ | exact bI_zb _ | exact ⟨by omega, by omega⟩) dX3_findFault_14 rfl (fun h14 => ?_) (fun h14 => ?_)
    · exact absurd h14 (by omega)
    · refine z_aload_n (pc := 17) hC (i := 0) dX3_findFault_17 rfl rfl ?_
      refine z_getI (C := RX3) (T := TX3) (N := 7) (ci := 3) (pc := 18) hC _ 4 in_X3_findFault_X3 rfl (by decide) (fun _ => rfl) (by decide) fl_X3_findFault_31 (fun _ => rfl) dX3_findFault_18 ?_
      rw [hc]
      refine z_if_le (pc := 21) hC 34 (by first | assumption | exact zb_gt _ _ _ | exact zcmp_zb _ _ | exact bI_zb _ | exact ⟨by omega, by omega⟩) dX3_findFault_21 rfl (fun h21 => ?_) (fun h21 => ?_)
      · exact S_X3_findFault_34 hw hC Ω0 T L x y hx hy i i (fun Ω1 a1 a2 a3 a4 a5 a6 => K _ Ω1 (by rw [← hpA, pA_no (fun q => absurd q.1 (by omega)) a1]; exact a2.trans (congrArg (fun z : Nat => (z : Int)) rfl)) (fun q => absurd a4.2.2.2.2.1.1 (by omega)) a4 a5 a6) (fun Ω1 a1 a2 a3 a4 a5 a6 => ih (i + 1) Ω1 (by omega) a4 a5 a6 a3 (by rw [← hpA, pA_yes (fun q => absurd q.1 (by omega)) a1, a2])) hv hF h2 hc (by omega) (by omega)
      · refine z_aload_n (pc := 24) hC (i := 0) dX3_findFault_24 rfl rfl ?_
        refine z_callV (n := 0) (T := TX3) (N := 7) (ci := 3) (pc := 25) hC (c_X3_peekSign l w hw _ hv.tok) gX3_findFault_X3_peekSign rfl (by decide +kernel) (by decide) (by decide) rfl (by decide) (fun _ => rfl) rfl rfl (Nat.le_of_ble_eq_true rfl) dX3_findFault_25 (zi_k fun r25 Ω25 h25 => ?_)
        obtain ⟨hr25, hm25⟩ := h25
        obtain ⟨hq25, hv25, hf25, hp25, hb25⟩ := pk_facts hv hr25 hm25
        refine z_iconst (pc := 28) hC dX3_findFault_28 ?_
        refine z_icmp_ne (pc := 29) hC 34 (by first | assumption | exact zb_gt _ _ _ | exact zcmp_zb _ _ | exact bI_zb _ | exact ⟨by omega, by omega⟩) (by first | assumption | exact zb_gt _ _ _ | exact zcmp_zb _ _ | exact bI_zb _ | exact ⟨by omega, by omega⟩) dX3_findFault_29 rfl (fun h29 => ?_) (fun h29 => ?_)
        · exact S_X3_findFault_34 hw hC Ω0 T L x y hx hy i i (fun Ω1 a1 a2 a3 a4 a5 a6 => K _ Ω1 (by rw [← hpA, pA_no (fun q => h29 (by rw [hq25]; exact q.2)) (by rw [hp25, qO_sk] at a1; exact a1)]; exact a2.trans (congrArg (fun z : Nat => (z : Int)) (by rw [hp25, qO_sk]))) (fun q => absurd a4.2.2.2.2.1.1 (by omega)) a4 a5 a6) (fun Ω1 a1 a2 a3 a4 a5 a6 => ih (i + 1) Ω1 (by omega) a4 a5 a6 a3 (by rw [← hpA, pA_yes (fun q => h29 (by rw [hq25]; exact q.2)) (by rw [hp25, qO_sk] at a1; exact a1), a2, hp25, qO_sk])) hv25 (fun q a b => (hf25.1 q a b).trans (hF q a b)) (hf25.2.1.trans h2) (hf25.2.2.1.trans hc) (by omega) (by omega)
        · refine z_iconst (pc := 32) hC dX3_findFault_32 ?_
          exact z_iret (pc := 33) hC rfl (K _ _ (by rw [← hpA, pA_end (by omega) (by rw [← hq25]; exact h29)]; rfl) (fun _ => by rw [← hpA, pA_end (by omega) (by rw [← hq25]; exact h29)]; exact hf25.2.2.1.trans hc) hv25 (fun q a b => (hf25.1 q a b).trans (hF q a b)) (hf25.2.1.trans h2)) dX3_findFault_33
set_option maxHeartbeats 4000000 in
set_option maxRecDepth 100000 in
theorem c_X3_findFault (l : Launch) (w : zP) (hw : zOK w) (Ω : Mem) (T : Nat → Int) (L : Nat) (hT : gt Ω 11 = T) (hL : gt Ω 10 2 = (L : Int)) (hL1 : L ≤ 100) (hTb : ∀ k, k < L → 0 ≤ T k ∧ T k ≤ 127) (h6 : 0 ≤ gt Ω 10 6 ∧ gt Ω 10 6 ≤ 4) (x y : Int) (hx : 2 ≤ x ∧ x ≤ 6) (hy : 2 ≤ y ∧ y ≤ 6) : zM l w yX3_findFault wsX3_findFault 4 89 [.ref (wa w 10), .int (zI x), .int (zI y)] Ω (zi (fun r Ω1 => r = ffv (pA T L x y 101 0 0).1 ∧ (r = -1 → gt Ω1 10 4 = ((pA T L x y 101 0 0).2 : Int)) ∧ pok T L Ω1 ∧ (∀ q, q ≠ 10 → q ≠ 12 → Ω1 q = Ω q) ∧ gt Ω1 10 2 = gt Ω 10 2)) := by
  refine zM_of cX3_findFault 4 (some .int) RX3 [some (.ref (wa w 10)), some (.int (zI x)), some (.int (zI y)), none] hw (by decide +kernel) rfl rfl (Nat.le_of_ble_eq_true rfl) rfl (fun E hC => ?_)
  refine z_aload_n (pc := 0) hC (i := 0) dX3_findFault_0 rfl rfl ?_
  refine z_callV (n := 0) (T := TX3) (N := 7) (ci := 3) (pc := 1) hC (c_X3_rewind l w hw _) gX3_findFault_X3_rewind rfl (by decide +kernel) (by decide) (by decide) rfl (by decide) (fun _ => rfl) rfl rfl (Nat.le_of_ble_eq_true rfl) dX3_findFault_1 (zv_k fun Ω1 h1 => ?_)
  subst h1
  have hv0 : pok T L (ups Ω 10 3 0) := by
    refine ⟨?_, ?_, hL1, hTb, ?_, ?_⟩
    · rw [← hT]; unfold gt; rw [ups_n _ _ _ (by decide)]
    · rw [gt_sn _ _ _ (by decide)]; exact hL
    · rw [gt_s _ _ _ zb_0]; omega
    · rw [gt_sn _ _ _ (by decide)]; exact h6
  refine z_aload_n (pc := 4) hC (i := 0) dX3_findFault_4 rfl rfl ?_
  refine z_iconst (pc := 5) hC dX3_findFault_5 ?_
  refine z_putI (C := RX3) (T := TX3) (N := 7) (ci := 3) (pc := 6) hC _ 4 in_X3_findFault_X3 rfl (by decide) (fun _ => rfl) (by decide) fl_X3_findFault_31 tyX3_ok nmX3 rfl (by decide +kernel) (fun _ => Nat.le_of_ble_eq_true rfl) (fun _ _ => rfl) dX3_findFault_6 ?_
  refine z_iconst (pc := 9) hC dX3_findFault_9 ?_
  refine z_istore_n (pc := 10) hC (i := 3) dX3_findFault_10 rfl (by decide) rfl (zS_s (zS_s (zS_s zS_0))) ?_
  have g1 : pok T L (ups (ups Ω 10 3 0) 10 4 0) := by
    obtain ⟨h1, h2, h3, h4, h5, h6⟩ := hv0
    refine ⟨?_, ?_, h3, h4, ?_, ?_⟩
    · rw [← h1]; unfold gt; rw [ups_n _ _ _ (by decide)]
    · rw [gt_sn _ _ _ (by decide)]; exact h2
    · rw [gt_sn _ _ _ (by decide)]; exact h5
    · rw [gt_sn _ _ _ (by decide)]; exact h6
  have g2 : (psC (ups (ups Ω 10 3 0) 10 4 0)).1 = 0 := by unfold psC; rw [gt_sn _ _ _ (by decide : (3 : Nat) ≠ 4), gt_s _ _ _ zb_0]; rfl
  exact L_X3_findFault_11 hw hC Ω T L x y hx hy (pA T L x y 101 0 0) (fun r Ω1 a1 a2 a3 a4 a5 => ⟨r, rfl, a1, a2, a3, a4, a5⟩) 101 0 _ rfl g1 (fun q a b => by rw [ups_n _ _ _ a, ups_n _ _ _ a]) (by rw [gt_sn _ _ _ (by decide : (2 : Nat) ≠ 4), gt_sn _ _ _ (by decide : (2 : Nat) ≠ 3)]) (by rw [gt_s _ _ _ zb_0]; rfl) (by rw [g2])
