theorem seqB_t {x : Bool × Ps} {g : Ps → Bool × Ps} (h : x.1 = true) : seqB x g = g x.2 := if_pos h
theorem seqB_f {x : Bool × Ps} {g : Ps → Bool × Ps} (h : x.1 = false) : seqB x g = x := if_neg (by rw [h]; decide)
theorem rF_cnt (T : Nat → Int) (L : Nat) (a b : Int) (s : Ps) : (rF T L a b s).2.2.1 ≤ s.2.1 + 1 := by
  unfold rF; split <;> simp
theorem rD_cnt (T : Nat → Int) (L : Nat) (x y : Int) (s : Ps) : (rD T L x y s).2.2.1 ≤ s.2.1 + 2 := by
  unfold rD seqB
  have h1 := rF_cnt T L 0 (x - 1) s
  split
  · have h2 := rF_cnt T L 0 (y - 1) (rF T L 0 (x - 1) s).2
    omega
  · omega

set_option maxHeartbeats 4000000 in
set_option maxRecDepth 100000 in
theorem c_X3_readDot (l : Launch) (w : zP) (hw : zOK w) (Ω : Mem) (T : Nat → Int) (L : Nat) (hv : pok T L Ω) (x y : Int) (hx : 2 ≤ x ∧ x ≤ 6) (hy : 2 ≤ y ∧ y ≤ 6) (hc2 : (psC Ω).2.1 ≤ 2) : zM l w yX3_readDot wsX3_readDot 2 45 [.ref (wa w 10), .int (zI x), .int (zI y)] Ω (zbo (fun t Ω1 => t = (rD T L x y (psC Ω)).1 ∧ psC Ω1 = (rD T L x y (psC Ω)).2 ∧ pok T L Ω1 ∧ frS Ω Ω1)) := by
  refine zM_of cX3_readDot 3 (some .boolean) RX3 [some (.ref (wa w 10)), some (.int (zI x)), some (.int (zI y))] hw (by decide +kernel) rfl rfl (Nat.le_of_ble_eq_true rfl) rfl (fun E hC => ?_)
  refine z_aload_n (pc := 0) hC (i := 0) dX3_readDot_0 rfl rfl ?_
  refine z_iconst (pc := 1) hC dX3_readDot_1 ?_
  refine z_iload_n (pc := 2) hC (i := 1) dX3_readDot_2 rfl rfl ?_
  refine z_iconst (pc := 3) hC dX3_readDot_3 ?_
  refine z_isub (pc := 4) hC dX3_readDot_4 ?_
  refine z_callV (n := 2) (T := TX3) (N := 7) (ci := 3) (pc := 5) hC (c_X3_readFigure l w hw _ T L hv _ _ (by omega) (by omega) (by omega) (by omega) (by omega)) gX3_readDot_X3_readFigure rfl (by decide +kernel) (by decide) (by decide) rfl (by decide) (fun _ => rfl) rfl rfl (Nat.le_of_ble_eq_true rfl) dX3_readDot_5 (zb_k fun r5 Ω5 h5 => ?_)
  obtain ⟨rfl, hp5, hv5, hf5⟩ := h5
  refine z_ifb_eq (pc := 8) hC 26 dX3_readDot_8 rfl (fun h8 => ?_) (fun h8 => ?_)
  · refine z_iconst (pc := 26) hC dX3_readDot_26 ?_
    exact z_zret (b := false) (pc := 27) hC rfl ⟨false, rfl, ⟨by unfold rD; rw [seqB_f h8, h8], by unfold rD; rw [seqB_f h8]; exact hp5, hv5, hf5⟩⟩ dX3_readDot_27
  · refine z_aload_n (pc := 11) hC (i := 0) dX3_readDot_11 rfl rfl ?_
    refine z_iconst (pc := 12) hC dX3_readDot_12 ?_
    refine z_iload_n (pc := 13) hC (i := 2) dX3_readDot_13 rfl rfl ?_
    refine z_iconst (pc := 14) hC dX3_readDot_14 ?_
    refine z_isub (pc := 15) hC dX3_readDot_15 ?_
    refine z_callV (n := 2) (T := TX3) (N := 7) (ci := 3) (pc := 16) hC (c_X3_readFigure l w hw _ T L hv5 _ _ (by omega) (by omega) (by omega) (by omega) (by rw [hp5]; have := rF_cnt T L 0 (x - 1) (psC Ω); omega)) gX3_readDot_X3_readFigure rfl (by decide +kernel) (by decide) (by decide) rfl (by decide) (fun _ => rfl) rfl rfl (Nat.le_of_ble_eq_true rfl) dX3_readDot_16 (zb_k fun r16 Ω16 h16 => ?_)
    obtain ⟨rfl, hp16, hv16, hf16⟩ := h16
    refine z_ifb_eq (pc := 19) hC 26 dX3_readDot_19 rfl (fun h19 => ?_) (fun h19 => ?_)
    · refine z_iconst (pc := 26) hC dX3_readDot_26 ?_
      exact z_zret (b := false) (pc := 27) hC rfl ⟨false, rfl, ⟨by unfold rD; rw [seqB_t h8, ← hp5, h19], by unfold rD; rw [seqB_t h8, ← hp5]; exact hp16, hv16, hf5.trans hf16⟩⟩ dX3_readDot_27
    · refine z_iconst (pc := 22) hC dX3_readDot_22 ?_
      refine z_goto (pc := 23) hC 27 dX3_readDot_23 rfl ?_
      exact z_zret (b := true) (pc := 27) hC rfl ⟨true, rfl, ⟨by unfold rD; rw [seqB_t h8, ← hp5, h19], by unfold rD; rw [seqB_t h8, ← hp5]; exact hp16, hv16, hf5.trans hf16⟩⟩ dX3_readDot_27
theorem rE_yes {T : Nat → Int} {L : Nat} {s : Ps} (h : sg T L s.1 = 59) : rE T L s = (true, (sk T L s.1 + 1, s.2)) := if_pos h
theorem rE_no {T : Nat → Int} {L : Nat} {s : Ps} (h : ¬ sg T L s.1 = 59) : rE T L s = (false, (sk T L s.1, s.2)) := if_neg h
/-- the reader goes on by one -/
theorem step1 {T : Nat → Int} {L : Nat} {Ω Ω1 : Mem} {p : Nat} {r : Nat × (Nat → Int)} (hv : pok T L Ω1) (hf : frS Ω Ω1) (hp : psC Ω1 = (p, r)) (hsk : p < L) : pok T L (ups Ω1 10 3 (gt Ω1 10 3 + 1)) ∧ frS Ω (ups Ω1 10 3 (gt Ω1 10 3 + 1)) ∧ psC (ups Ω1 10 3 (gt Ω1 10 3 + 1)) = (p + 1, r) := by
  obtain ⟨h1, h2, h3, h4, h5, h6⟩ := hv
  have hp1 : (gt Ω1 10 3).toNat = p := congrArg Prod.fst hp
  have hp2 : ((gt Ω1 10 6).toNat, gt Ω1 12) = r := congrArg Prod.snd hp
  generalize hM : ups Ω1 10 3 (gt Ω1 10 3 + 1) = M
  have a3 : gt M 10 3 = gt Ω1 10 3 + 1 := by rw [← hM]; exact gt_s _ _ _ ⟨by omega, by omega⟩
  have ak : ∀ k, k ≠ 3 → gt M 10 k = gt Ω1 10 k := fun k x => by rw [← hM, gt_sn _ _ _ x]
  have aq : ∀ q, q ≠ 10 → M q = Ω1 q := fun q x => by rw [← hM, ups_n _ _ _ x]
  refine ⟨⟨?_, ?_, h3, h4, ?_, ?_⟩, ⟨fun q x y => (aq q x).trans (hf.1 q x y), ?_, ?_, ?_⟩, ?_⟩
  · rw [← h1]; unfold gt; rw [aq 11 (by decide)]
  · rw [ak 2 (by decide)]; exact h2
  · rw [a3]; omega
  · rw [ak 6 (by decide)]; exact h6
  · rw [ak 2 (by decide)]; exact hf.2.1
  · rw [ak 4 (by decide)]; exact hf.2.2.1
  · rw [ak 5 (by decide)]; exact hf.2.2.2
  · unfold psC
    rw [a3, ak 6 (by decide), show gt M 12 = gt Ω1 12 by unfold gt; rw [aq 12 (by decide)], show (gt Ω1 10 3 + 1).toNat = p + 1 by omega, ← hp2]

theorem fl_X3_readEnd_22 : Cond.fieldLink RX3 22 "StrokeCuts$Script" "place" "I" ∈ wsX3_readEnd := by decide +kernel
theorem in_X3_readEnd_X3 : ∀ x ∈ u_ws RX3 TX3 7, x ∈ wsX3_readEnd := by decide +kernel
set_option maxHeartbeats 4000000 in
set_option maxRecDepth 100000 in
theorem c_X3_readEnd (l : Launch) (w : zP) (hw : zOK w) (Ω : Mem) (T : Nat → Int) (L : Nat) (hv : pok T L Ω) : zM l w yX3_readEnd wsX3_readEnd 1 20 [.ref (wa w 10)] Ω (zbo (fun t Ω1 => t = (rE T L (psC Ω)).1 ∧ psC Ω1 = (rE T L (psC Ω)).2 ∧ pok T L Ω1 ∧ frS Ω Ω1)) := by
  refine zM_of cX3_readEnd 1 (some .boolean) RX3 [some (.ref (wa w 10))] hw (by decide +kernel) rfl rfl (Nat.le_of_ble_eq_true rfl) rfl (fun E hC => ?_)
  refine z_aload_n (pc := 0) hC (i := 0) dX3_readEnd_0 rfl rfl ?_
  refine z_callV (n := 0) (T := TX3) (N := 7) (ci := 3) (pc := 1) hC (c_X3_peekSign l w hw _ hv.tok) gX3_readEnd_X3_peekSign rfl (by decide +kernel) (by decide) (by decide) rfl (by decide) (fun _ => rfl) rfl rfl (Nat.le_of_ble_eq_true rfl) dX3_readEnd_1 (zi_k fun r1 Ω1 h1 => ?_)
  obtain ⟨hr1, hm1⟩ := h1
  obtain ⟨hq1, hv1, hf1, hp1, hb1⟩ := pk_facts hv hr1 hm1
  refine z_bipush (pc := 4) hC dX3_readEnd_4 rfl ?_
  refine z_icmp_eq (pc := 6) hC 11 (by first | assumption | exact zb_gt _ _ _ | exact zcmp_zb _ _ | exact bI_zb _ | exact ⟨by omega, by omega⟩) (by first | assumption | exact zb_gt _ _ _ | exact zcmp_zb _ _ | exact bI_zb _ | exact ⟨by omega, by omega⟩) dX3_readEnd_6 rfl (fun h6 => ?_) (fun h6 => ?_)
  · rw [hq1] at h6
    refine z_aload_n (pc := 11) hC (i := 0) dX3_readEnd_11 rfl rfl ?_
    refine z_dup (pc := 12) hC dX3_readEnd_12 rfl ?_
    refine z_getI (C := RX3) (T := TX3) (N := 7) (ci := 3) (pc := 13) hC _ 3 in_X3_readEnd_X3 rfl (by decide) (fun _ => rfl) (by decide) fl_X3_readEnd_22 (fun _ => rfl) dX3_readEnd_13 ?_
    refine z_iconst (pc := 16) hC dX3_readEnd_16 ?_
    refine z_iadd (pc := 17) hC dX3_readEnd_17 ?_
    refine z_putI (C := RX3) (T := TX3) (N := 7) (ci := 3) (pc := 18) hC _ 3 in_X3_readEnd_X3 rfl (by decide) (fun _ => rfl) (by decide) fl_X3_readEnd_22 tyX3_ok nmX3 rfl (by decide +kernel) (fun _ => Nat.le_of_ble_eq_true rfl) (fun _ _ => rfl) dX3_readEnd_18 ?_
    refine z_iconst (pc := 21) hC dX3_readEnd_21 ?_
    exact z_zret (b := true) (pc := 22) hC rfl ⟨true, rfl, ⟨by rw [rE_yes h6], by rw [rE_yes h6]; exact (step1 hv1 hf1 hp1 (sg_in (by omega))).2.2, (step1 hv1 hf1 hp1 (sg_in (by omega))).1, (step1 hv1 hf1 hp1 (sg_in (by omega))).2.1⟩⟩ dX3_readEnd_22
  · rw [hq1] at h6
    refine z_iconst (pc := 9) hC dX3_readEnd_9 ?_
    exact z_zret (b := false) (pc := 10) hC rfl ⟨false, rfl, ⟨by rw [rE_no h6], by rw [rE_no h6]; exact hp1, hv1, hf1⟩⟩ dX3_readEnd_10
def frO (Ω Ω1 : Mem) : Prop := (∀ q, q ≠ 10 → q ≠ 12 → Ω1 q = Ω q) ∧ gt Ω1 10 2 = gt Ω 10 2 ∧ gt Ω1 10 4 = gt Ω 10 4
theorem frS.o {A B C : Mem} (h : frO A B) (h2 : frS B C) : frO A C := ⟨fun q a b => (h2.1 q a b).trans (h.1 q a b), h2.2.1.trans h.2.1, h2.2.2.1.trans h.2.2⟩
theorem rO_fgn {T : Nat → Int} {L : Nat} {x y k : Int} {s : Ps} (h : k = 102 ∨ k = 103 ∨ k = 110) : rO T L x y k s = seqB (seqB (rD T L x y s) (rM T L x y)) (rE T L) := if_pos h
theorem rO_s {T : Nat → Int} {L : Nat} {x y k : Int} {s : Ps} (h : k = 115) : rO T L x y k s = seqB (seqB (rD T L x y s) (rF T L 0 9)) (rE T L) := by unfold rO; rw [if_neg (by omega), if_pos h]
theorem rO_l {T : Nat → Int} {L : Nat} {x y k : Int} {s : Ps} (h : k = 108) : rO T L x y k s = seqB (rF T L 1 9 s) (rE T L) := by unfold rO; rw [if_neg (by omega), if_neg (by omega), if_pos h]
theorem pO_yes {T : Nat → Int} {L : Nat} {x y : Int} {p : Nat} {f : Nat → Int} (h : sg T L p = 102 ∨ sg T L p = 103 ∨ sg T L p = 110 ∨ sg T L p = 115 ∨ sg T L p = 108) : pO T L x y p f = rO T L x y (sg T L p) (sk T L p + 1, 0, f) := if_pos h
theorem pO_no {T : Nat → Int} {L : Nat} {x y : Int} {p : Nat} {f : Nat → Int} (h : ¬ (sg T L p = 102 ∨ sg T L p = 103 ∨ sg T L p = 110 ∨ sg T L p = 115 ∨ sg T L p = 108)) : pO T L x y p f = (false, (sk T L p, 0, f)) := if_neg h
theorem rM_yes {T : Nat → Int} {L : Nat} {x y : Int} {s : Ps} (h : sg T L s.1 = 59) : rM T L x y s = (true, (sk T L s.1, s.2)) := if_pos h
theorem rM_no {T : Nat → Int} {L : Nat} {x y : Int} {s : Ps} (h : ¬ sg T L s.1 = 59) : rM T L x y s = rD T L x y (sk T L s.1, s.2) := if_neg h
/-- which way an order's letter goes -/
theorem ts17 {a : Int} {tgt : Nat} (h : (102 ≤ a ∧ a ≤ 115 ∧ (#[71, 71, 196, 196, 196, 196, 163, 196, 71, 196, 196, 196, 196, 121] : Array Int)[(a - 102).toNat]? = some ((tgt : Int) - (17 : Nat))) ∨ ((a < 102 ∨ 115 < a) ∧ (tgt : Int) = (17 : Nat) + 196)) : (tgt = 88 ∧ (a = 102 ∨ a = 103 ∨ a = 110)) ∨ (tgt = 138 ∧ a = 115) ∨ (tgt = 180 ∧ a = 108) ∨ (tgt = 213 ∧ ¬ (a = 102 ∨ a = 103 ∨ a = 110 ∨ a = 115 ∨ a = 108)) := by
  rcases h with ⟨h1, h2, h3⟩ | ⟨h1, h2⟩
  · obtain ⟨i, hi⟩ := nat_of (by omega : 0 ≤ a - 102)
    rw [hi, Int.toNat_natCast] at h3
    rcases (by omega : i = 0 ∨ i = 1 ∨ i = 2 ∨ i = 3 ∨ i = 4 ∨ i = 5 ∨ i = 6 ∨ i = 7 ∨ i = 8 ∨ i = 9 ∨ i = 10 ∨ i = 11 ∨ i = 12 ∨ i = 13) with rfl | rfl | rfl | rfl | rfl | rfl | rfl | rfl | rfl | rfl | rfl | rfl | rfl | rfl <;> simp at h3 <;> omega
  · omega
/-- the reader at an order's beginning: no numbers yet, the letter kept -/
theorem ord0 {T : Nat → Int} {L : Nat} {Ω : Mem} (hv : pok T L Ω) : pok T L (ups Ω 10 6 0) ∧ psC (ups Ω 10 6 0) = ((psC Ω).1, 0, (psC Ω).2.2) ∧ frO Ω (ups Ω 10 6 0) := by
  obtain ⟨h1, h2, h3, h4, h5, h6⟩ := hv
  generalize hM : ups Ω 10 6 0 = M
  have a6 : gt M 10 6 = 0 := by rw [← hM]; exact gt_s _ _ _ zb_0
  have ak : ∀ k, k ≠ 6 → gt M 10 k = gt Ω 10 k := fun k x => by rw [← hM, gt_sn _ _ _ x]
  have aq : ∀ q, q ≠ 10 → M q = Ω q := fun q x => by rw [← hM, ups_n _ _ _ x]
  refine ⟨⟨?_, ?_, h3, h4, ?_, ?_⟩, ?_, fun q x _ => aq q x, ak 2 (by decide), ak 4 (by decide)⟩
  · rw [← h1]; unfold gt; rw [aq 11 (by decide)]
  · rw [ak 2 (by decide)]; exact h2
  · rw [ak 3 (by decide)]; exact h5
  · rw [a6]; omega
  · unfold psC
    rw [a6, ak 3 (by decide), show gt M 12 = gt Ω 12 by unfold gt; rw [aq 12 (by decide)]]
    rfl
theorem ord1 {T : Nat → Int} {L : Nat} {Ω Ω1 : Mem} {k : Int} (hv : pok T L Ω1) (hf : frO Ω Ω1) : pok T L (ups Ω1 10 5 k) ∧ psC (ups Ω1 10 5 k) = psC Ω1 ∧ frO Ω (ups Ω1 10 5 k) := by
  obtain ⟨h1, h2, h3, h4, h5, h6⟩ := hv
  generalize hM : ups Ω1 10 5 k = M
  have ak : ∀ k, k ≠ 5 → gt M 10 k = gt Ω1 10 k := fun k x => by rw [← hM, gt_sn _ _ _ x]
  have aq : ∀ q, q ≠ 10 → M q = Ω1 q := fun q x => by rw [← hM, ups_n _ _ _ x]
  refine ⟨⟨?_, ?_, h3, h4, ?_, ?_⟩, ?_, fun q x y => (aq q x).trans (hf.1 q x y), (ak 2 (by decide)).trans hf.2.1, (ak 4 (by decide)).trans hf.2.2⟩
  · rw [← h1]; unfold gt; rw [aq 11 (by decide)]
  · rw [ak 2 (by decide)]; exact h2
  · rw [ak 3 (by decide)]; exact h5
  · rw [ak 6 (by decide)]; exact h6
  · unfold psC
    rw [ak 3 (by decide), ak 6 (by decide), show gt M 12 = gt Ω1 12 by unfold gt; rw [aq 12 (by decide)]]

theorem fl_X3_readOrder_22 : Cond.fieldLink RX3 22 "StrokeCuts$Script" "place" "I" ∈ wsX3_readOrder := by decide +kernel
theorem in_X3_readOrder_X3 : ∀ x ∈ u_ws RX3 TX3 7, x ∈ wsX3_readOrder := by decide +kernel
set_option maxHeartbeats 4000000 in
set_option maxRecDepth 100000 in
theorem S_X3_readOrder_88 {E : zE} {w : zP} {l : Launch} {Post : Option Value → Mem → Prop} (hw : zOK w) (hC : zC E w l RX3 wsX3_readOrder cX3_readOrder 3 3 67 (some .boolean) Post) {Ω : Mem} (Ω0 : Mem) (T : Nat → Int) (L : Nat) (x y : Int) (hx : 2 ≤ x ∧ x ≤ 6) (hy : 2 ≤ y ∧ y ≤ 6) (p : Nat) (f : Nat → Int) (hv : pok T L Ω) (hf : frO Ω0 Ω) (hp : psC Ω = (sk T L p, 0, f)) (hk : gt Ω 10 5 = sg T L p) (K : ∀ (t : Bool) (Ω1 : Mem), t = (pO T L x y p f).1 → psC Ω1 = (pO T L x y p f).2 → gt Ω1 10 5 = sg T L p → pok T L Ω1 → frO Ω0 Ω1 → Post (some (.int (zI (bI t)))) Ω1) (hkk : sg T L p = 102 ∨ sg T L p = 103 ∨ sg T L p = 110) : X E Ω 88 [some (.ref (wa w 10)), some (.int (zI x)), some (.int (zI y))] [] := by
  obtain ⟨hvA, hfA, hpA⟩ := step1 hv (frS.refl Ω) hp (sg_in (by omega))
  refine z_aload_n (pc := 88) hC (i := 0) dX3_readOrder_88 rfl rfl ?_
  refine z_dup (pc := 89) hC dX3_readOrder_89 rfl ?_
  refine z_getI (C := RX3) (T := TX3) (N := 7) (ci := 3) (pc := 90) hC _ 3 in_X3_readOrder_X3 rfl (by decide) (fun _ => rfl) (by decide) fl_X3_readOrder_22 (fun _ => rfl) dX3_readOrder_90 ?_
  refine z_iconst (pc := 93) hC dX3_readOrder_93 ?_
  refine z_iadd (pc := 94) hC dX3_readOrder_94 ?_
  refine z_putI (C := RX3) (T := TX3) (N := 7) (ci := 3) (pc := 95) hC _ 3 in_X3_readOrder_X3 rfl (by decide) (fun _ => rfl) (by decide) fl_X3_readOrder_22 tyX3_ok nmX3 rfl (by decide +kernel) (fun _ => Nat.le_of_ble_eq_true rfl) (fun _ _ => rfl) dX3_readOrder_95 ?_
  refine z_aload_n (pc := 98) hC (i := 0) dX3_readOrder_98 rfl rfl ?_
  refine z_iload_n (pc := 99) hC (i := 1) dX3_readOrder_99 rfl rfl ?_
  refine z_iload_n (pc := 100) hC (i := 2) dX3_readOrder_100 rfl rfl ?_
  refine z_callV (n := 2) (T := TX3) (N := 7) (ci := 3) (pc := 101) hC (c_X3_readDot l w hw _ T L hvA _ _ hx hy (by rw [hpA]; exact Nat.zero_le _)) gX3_readOrder_X3_readDot rfl (by decide +kernel) (by decide) (by decide) rfl (by decide) (fun _ => rfl) rfl rfl (Nat.le_of_ble_eq_true rfl) dX3_readOrder_101 (zb_k fun r101 Ω101 h101 => ?_)
  obtain ⟨rfl, hp101, hv101, hf101⟩ := h101
  refine z_ifb_eq (pc := 104) hC 136 dX3_readOrder_104 rfl (fun h104 => ?_) (fun h104 => ?_)
  · refine z_iconst (pc := 136) hC dX3_readOrder_136 ?_
    exact z_zret (b := false) (pc := 137) hC rfl (K _ _ (by rw [pO_yes (by omega), rO_fgn hkk, ← hpA, seqB_f (by rw [seqB_f h104]; exact h104), seqB_f h104, h104]) (by rw [pO_yes (by omega), rO_fgn hkk, ← hpA, seqB_f (by rw [seqB_f h104]; exact h104), seqB_f h104]; exact hp101) (hf101.2.2.2.trans (hfA.2.2.2.trans hk)) hv101 (hf101.o (hfA.o hf))) dX3_readOrder_137
  · refine z_aload_n (pc := 107) hC (i := 0) dX3_readOrder_107 rfl rfl ?_
    refine z_callV (n := 0) (T := TX3) (N := 7) (ci := 3) (pc := 108) hC (c_X3_peekSign l w hw _ hv101.tok) gX3_readOrder_X3_peekSign rfl (by decide +kernel) (by decide) (by decide) rfl (by decide) (fun _ => rfl) rfl rfl (Nat.le_of_ble_eq_true rfl) dX3_readOrder_108 (zi_k fun r108 Ω108 h108 => ?_)
    obtain ⟨hr108, hm108⟩ := h108
    obtain ⟨hq108, hv108, hf108, hp108, hb108⟩ := pk_facts hv101 hr108 hm108
    refine z_bipush (pc := 111) hC dX3_readOrder_111 rfl ?_
    refine z_icmp_eq (pc := 113) hC 125 (by first | assumption | exact zb_gt _ _ _ | exact zcmp_zb _ _ | exact bI_zb _ | exact ⟨by omega, by omega⟩) (by first | assumption | exact zb_gt _ _ _ | exact zcmp_zb _ _ | exact bI_zb _ | exact ⟨by omega, by omega⟩) dX3_readOrder_113 rfl (fun h113 => ?_) (fun h113 => ?_)
    · rw [hq108] at h113
      refine z_aload_n (pc := 125) hC (i := 0) dX3_readOrder_125 rfl rfl ?_
      refine z_callV (n := 0) (T := TX3) (N := 7) (ci := 3) (pc := 126) hC (c_X3_readEnd l w hw _ T L (by assumption)) gX3_readOrder_X3_readEnd rfl (by decide +kernel) (by decide) (by decide) rfl (by decide) (fun _ => rfl) rfl rfl (Nat.le_of_ble_eq_true rfl) dX3_readOrder_126 (zb_k fun r126 Ω126 h126 => ?_)
      obtain ⟨rfl, hp126, hv126, hf126⟩ := h126
      refine z_ifb_eq (pc := 129) hC 136 dX3_readOrder_129 rfl (fun h129 => ?_) (fun h129 => ?_)
      · refine z_iconst (pc := 136) hC dX3_readOrder_136 ?_
        exact z_zret (b := false) (pc := 137) hC rfl (K _ _ (by rw [pO_yes (by omega), rO_fgn hkk, ← hpA, seqB_t (x := rD T L x y _) h104, ← hp101, rM_yes h113, seqB_t rfl, ← hp108, h129]) (by rw [pO_yes (by omega), rO_fgn hkk, ← hpA, seqB_t (x := rD T L x y _) h104, ← hp101, rM_yes h113, seqB_t rfl, ← hp108]; exact hp126) (hf126.2.2.2.trans (hf108.2.2.2.trans (hf101.2.2.2.trans (hfA.2.2.2.trans hk)))) hv126 (hf126.o (hf108.o (hf101.o (hfA.o hf))))) dX3_readOrder_137
      · refine z_iconst (pc := 132) hC dX3_readOrder_132 ?_
        refine z_goto (pc := 133) hC 137 dX3_readOrder_133 rfl ?_
        exact z_zret (b := true) (pc := 137) hC rfl (K _ _ (by rw [pO_yes (by omega), rO_fgn hkk, ← hpA, seqB_t (x := rD T L x y _) h104, ← hp101, rM_yes h113, seqB_t rfl, ← hp108, h129]) (by rw [pO_yes (by omega), rO_fgn hkk, ← hpA, seqB_t (x := rD T L x y _) h104, ← hp101, rM_yes h113, seqB_t rfl, ← hp108]; exact hp126) (hf126.2.2.2.trans (hf108.2.2.2.trans (hf101.2.2.2.trans (hfA.2.2.2.trans hk)))) hv126 (hf126.o (hf108.o (hf101.o (hfA.o hf))))) dX3_readOrder_137
    · rw [hq108] at h113
      refine z_aload_n (pc := 116) hC (i := 0) dX3_readOrder_116 rfl rfl ?_
      refine z_iload_n (pc := 117) hC (i := 1) dX3_readOrder_117 rfl rfl ?_
      refine z_iload_n (pc := 118) hC (i := 2) dX3_readOrder_118 rfl rfl ?_
      refine z_callV (n := 2) (T := TX3) (N := 7) (ci := 3) (pc := 119) hC (c_X3_readDot l w hw _ T L hv108 _ _ hx hy (by rw [hp108]; show (psC Ω101).2.1 ≤ 2; rw [hp101]; have := rD_cnt T L x y (psC (ups Ω 10 3 (gt Ω 10 3 + 1))); rw [show (psC (ups Ω 10 3 (gt Ω 10 3 + 1))).2.1 = 0 by rw [hpA]] at this; exact this)) gX3_readOrder_X3_readDot rfl (by decide +kernel) (by decide) (by decide) rfl (by decide) (fun _ => rfl) rfl rfl (Nat.le_of_ble_eq_true rfl) dX3_readOrder_119 (zb_k fun r119 Ω119 h119 => ?_)
      obtain ⟨rfl, hp119, hv119, hf119⟩ := h119
      refine z_ifb_eq (pc := 122) hC 136 dX3_readOrder_122 rfl (fun h122 => ?_) (fun h122 => ?_)
      · refine z_iconst (pc := 136) hC dX3_readOrder_136 ?_
        exact z_zret (b := false) (pc := 137) hC rfl (K _ _ (by rw [pO_yes (by omega), rO_fgn hkk, ← hpA, seqB_t (x := rD T L x y _) h104, ← hp101, rM_no h113, ← hp108, seqB_f h122, h122]) (by rw [pO_yes (by omega), rO_fgn hkk, ← hpA, seqB_t (x := rD T L x y _) h104, ← hp101, rM_no h113, ← hp108, seqB_f h122]; exact hp119) (hf119.2.2.2.trans (hf108.2.2.2.trans (hf101.2.2.2.trans (hfA.2.2.2.trans hk)))) hv119 (hf119.o (hf108.o (hf101.o (hfA.o hf))))) dX3_readOrder_137
      · refine z_aload_n (pc := 125) hC (i := 0) dX3_readOrder_125 rfl rfl ?_
        refine z_callV (n := 0) (T := TX3) (N := 7) (ci := 3) (pc := 126) hC (c_X3_readEnd l w hw _ T L (by assumption)) gX3_readOrder_X3_readEnd rfl (by decide +kernel) (by decide) (by decide) rfl (by decide) (fun _ => rfl) rfl rfl (Nat.le_of_ble_eq_true rfl) dX3_readOrder_126 (zb_k fun r126 Ω126 h126 => ?_)
        obtain ⟨rfl, hp126, hv126, hf126⟩ := h126
        refine z_ifb_eq (pc := 129) hC 136 dX3_readOrder_129 rfl (fun h129 => ?_) (fun h129 => ?_)
        · refine z_iconst (pc := 136) hC dX3_readOrder_136 ?_
          exact z_zret (b := false) (pc := 137) hC rfl (K _ _ (by rw [pO_yes (by omega), rO_fgn hkk, ← hpA, seqB_t (x := rD T L x y _) h104, ← hp101, rM_no h113, ← hp108, seqB_t h122, ← hp119, h129]) (by rw [pO_yes (by omega), rO_fgn hkk, ← hpA, seqB_t (x := rD T L x y _) h104, ← hp101, rM_no h113, ← hp108, seqB_t h122, ← hp119]; exact hp126) (hf126.2.2.2.trans (hf119.2.2.2.trans (hf108.2.2.2.trans (hf101.2.2.2.trans (hfA.2.2.2.trans hk))))) hv126 (hf126.o (hf119.o (hf108.o (hf101.o (hfA.o hf)))))) dX3_readOrder_137
        · refine z_iconst (pc := 132) hC dX3_readOrder_132 ?_
          refine z_goto (pc := 133) hC 137 dX3_readOrder_133 rfl ?_
          exact z_zret (b := true) (pc := 137) hC rfl (K _ _ (by rw [pO_yes (by omega), rO_fgn hkk, ← hpA, seqB_t (x := rD T L x y _) h104, ← hp101, rM_no h113, ← hp108, seqB_t h122, ← hp119, h129]) (by rw [pO_yes (by omega), rO_fgn hkk, ← hpA, seqB_t (x := rD T L x y _) h104, ← hp101, rM_no h113, ← hp108, seqB_t h122, ← hp119]; exact hp126) (hf126.2.2.2.trans (hf119.2.2.2.trans (hf108.2.2.2.trans (hf101.2.2.2.trans (hfA.2.2.2.trans hk))))) hv126 (hf126.o (hf119.o (hf108.o (hf101.o (hfA.o hf)))))) dX3_readOrder_137
set_option maxHeartbeats 4000000 in
set_option maxRecDepth 100000 in
theorem S_X3_readOrder_138 {E : zE} {w : zP} {l : Launch} {Post : Option Value → Mem → Prop} (hw : zOK w) (hC : zC E w l RX3 wsX3_readOrder cX3_readOrder 3 3 67 (some .boolean) Post) {Ω : Mem} (Ω0 : Mem) (T : Nat → Int) (L : Nat) (x y : Int) (hx : 2 ≤ x ∧ x ≤ 6) (hy : 2 ≤ y ∧ y ≤ 6) (p : Nat) (f : Nat → Int) (hv : pok T L Ω) (hf : frO Ω0 Ω) (hp : psC Ω = (sk T L p, 0, f)) (hk : gt Ω 10 5 = sg T L p) (K : ∀ (t : Bool) (Ω1 : Mem), t = (pO T L x y p f).1 → psC Ω1 = (pO T L x y p f).2 → gt Ω1 10 5 = sg T L p → pok T L Ω1 → frO Ω0 Ω1 → Post (some (.int (zI (bI t)))) Ω1) (hkk : sg T L p = 115) : X E Ω 138 [some (.ref (wa w 10)), some (.int (zI x)), some (.int (zI y))] [] := by
  obtain ⟨hvA, hfA, hpA⟩ := step1 hv (frS.refl Ω) hp (sg_in (by omega))
  refine z_aload_n (pc := 138) hC (i := 0) dX3_readOrder_138 rfl rfl ?_
  refine z_dup (pc := 139) hC dX3_readOrder_139 rfl ?_
  refine z_getI (C := RX3) (T := TX3) (N := 7) (ci := 3) (pc := 140) hC _ 3 in_X3_readOrder_X3 rfl (by decide) (fun _ => rfl) (by decide) fl_X3_readOrder_22 (fun _ => rfl) dX3_readOrder_140 ?_
  refine z_iconst (pc := 143) hC dX3_readOrder_143 ?_
  refine z_iadd (pc := 144) hC dX3_readOrder_144 ?_
  refine z_putI (C := RX3) (T := TX3) (N := 7) (ci := 3) (pc := 145) hC _ 3 in_X3_readOrder_X3 rfl (by decide) (fun _ => rfl) (by decide) fl_X3_readOrder_22 tyX3_ok nmX3 rfl (by decide +kernel) (fun _ => Nat.le_of_ble_eq_true rfl) (fun _ _ => rfl) dX3_readOrder_145 ?_
  refine z_aload_n (pc := 148) hC (i := 0) dX3_readOrder_148 rfl rfl ?_
  refine z_iload_n (pc := 149) hC (i := 1) dX3_readOrder_149 rfl rfl ?_
  refine z_iload_n (pc := 150) hC (i := 2) dX3_readOrder_150 rfl rfl ?_
  refine z_callV (n := 2) (T := TX3) (N := 7) (ci := 3) (pc := 151) hC (c_X3_readDot l w hw _ T L hvA _ _ hx hy (by rw [hpA]; exact Nat.zero_le _)) gX3_readOrder_X3_readDot rfl (by decide +kernel) (by decide) (by decide) rfl (by decide) (fun _ => rfl) rfl rfl (Nat.le_of_ble_eq_true rfl) dX3_readOrder_151 (zb_k fun r151 Ω151 h151 => ?_)
  obtain ⟨rfl, hp151, hv151, hf151⟩ := h151
  refine z_ifb_eq (pc := 154) hC 178 dX3_readOrder_154 rfl (fun h154 => ?_) (fun h154 => ?_)
  · refine z_iconst (pc := 178) hC dX3_readOrder_178 ?_
    exact z_zret (b := false) (pc := 179) hC rfl (K _ _ (by rw [pO_yes (by omega), rO_s hkk, ← hpA, seqB_f (by rw [seqB_f h154]; exact h154), seqB_f h154, h154]) (by rw [pO_yes (by omega), rO_s hkk, ← hpA, seqB_f (by rw [seqB_f h154]; exact h154), seqB_f h154]; exact hp151) (hf151.2.2.2.trans (hfA.2.2.2.trans hk)) hv151 (hf151.o (hfA.o hf))) dX3_readOrder_179
  · refine z_aload_n (pc := 157) hC (i := 0) dX3_readOrder_157 rfl rfl ?_
    refine z_iconst (pc := 158) hC dX3_readOrder_158 ?_
    refine z_bipush (pc := 159) hC dX3_readOrder_159 rfl ?_
    refine z_callV (n := 2) (T := TX3) (N := 7) (ci := 3) (pc := 161) hC (c_X3_readFigure l w hw _ T L hv151 _ _ (by omega) (by omega) (by omega) (by omega) (by rw [hp151]; have := rD_cnt T L x y (psC (ups Ω 10 3 (gt Ω 10 3 + 1))); rw [show (psC (ups Ω 10 3 (gt Ω 10 3 + 1))).2.1 = 0 by rw [hpA]] at this; omega)) gX3_readOrder_X3_readFigure rfl (by decide +kernel) (by decide) (by decide) rfl (by decide) (fun _ => rfl) rfl rfl (Nat.le_of_ble_eq_true rfl) dX3_readOrder_161 (zb_k fun r161 Ω161 h161 => ?_)
    obtain ⟨rfl, hp161, hv161, hf161⟩ := h161
    refine z_ifb_eq (pc := 164) hC 178 dX3_readOrder_164 rfl (fun h164 => ?_) (fun h164 => ?_)
    · refine z_iconst (pc := 178) hC dX3_readOrder_178 ?_
      exact z_zret (b := false) (pc := 179) hC rfl (K _ _ (by rw [pO_yes (by omega), rO_s hkk, ← hpA, seqB_t (x := rD T L x y _) h154, ← hp151, seqB_f h164, h164]) (by rw [pO_yes (by omega), rO_s hkk, ← hpA, seqB_t (x := rD T L x y _) h154, ← hp151, seqB_f h164]; exact hp161) (hf161.2.2.2.trans (hf151.2.2.2.trans (hfA.2.2.2.trans hk))) hv161 (hf161.o (hf151.o (hfA.o hf)))) dX3_readOrder_179
    · refine z_aload_n (pc := 167) hC (i := 0) dX3_readOrder_167 rfl rfl ?_
      refine z_callV (n := 0) (T := TX3) (N := 7) (ci := 3) (pc := 168) hC (c_X3_readEnd l w hw _ T L (by assumption)) gX3_readOrder_X3_readEnd rfl (by decide +kernel) (by decide) (by decide) rfl (by decide) (fun _ => rfl) rfl rfl (Nat.le_of_ble_eq_true rfl) dX3_readOrder_168 (zb_k fun r168 Ω168 h168 => ?_)
      obtain ⟨rfl, hp168, hv168, hf168⟩ := h168
      refine z_ifb_eq (pc := 171) hC 178 dX3_readOrder_171 rfl (fun h171 => ?_) (fun h171 => ?_)
      · refine z_iconst (pc := 178) hC dX3_readOrder_178 ?_
        exact z_zret (b := false) (pc := 179) hC rfl (K _ _ (by rw [pO_yes (by omega), rO_s hkk, ← hpA, seqB_t (x := rD T L x y _) h154, ← hp151, seqB_t h164, ← hp161, h171]) (by rw [pO_yes (by omega), rO_s hkk, ← hpA, seqB_t (x := rD T L x y _) h154, ← hp151, seqB_t h164, ← hp161]; exact hp168) (hf168.2.2.2.trans (hf161.2.2.2.trans (hf151.2.2.2.trans (hfA.2.2.2.trans hk)))) hv168 (hf168.o (hf161.o (hf151.o (hfA.o hf))))) dX3_readOrder_179
      · refine z_iconst (pc := 174) hC dX3_readOrder_174 ?_
        refine z_goto (pc := 175) hC 179 dX3_readOrder_175 rfl ?_
        exact z_zret (b := true) (pc := 179) hC rfl (K _ _ (by rw [pO_yes (by omega), rO_s hkk, ← hpA, seqB_t (x := rD T L x y _) h154, ← hp151, seqB_t h164, ← hp161, h171]) (by rw [pO_yes (by omega), rO_s hkk, ← hpA, seqB_t (x := rD T L x y _) h154, ← hp151, seqB_t h164, ← hp161]; exact hp168) (hf168.2.2.2.trans (hf161.2.2.2.trans (hf151.2.2.2.trans (hfA.2.2.2.trans hk)))) hv168 (hf168.o (hf161.o (hf151.o (hfA.o hf))))) dX3_readOrder_179
set_option maxHeartbeats 4000000 in
set_option maxRecDepth 100000 in
theorem S_X3_readOrder_180 {E : zE} {w : zP} {l : Launch} {Post : Option Value → Mem → Prop} (hw : zOK w) (hC : zC E w l RX3 wsX3_readOrder cX3_readOrder 3 3 67 (some .boolean) Post) {Ω : Mem} (Ω0 : Mem) (T : Nat → Int) (L : Nat) (x y : Int) (hx : 2 ≤ x ∧ x ≤ 6) (hy : 2 ≤ y ∧ y ≤ 6) (p : Nat) (f : Nat → Int) (hv : pok T L Ω) (hf : frO Ω0 Ω) (hp : psC Ω = (sk T L p, 0, f)) (hk : gt Ω 10 5 = sg T L p) (K : ∀ (t : Bool) (Ω1 : Mem), t = (pO T L x y p f).1 → psC Ω1 = (pO T L x y p f).2 → gt Ω1 10 5 = sg T L p → pok T L Ω1 → frO Ω0 Ω1 → Post (some (.int (zI (bI t)))) Ω1) (hkk : sg T L p = 108) : X E Ω 180 [some (.ref (wa w 10)), some (.int (zI x)), some (.int (zI y))] [] := by
  obtain ⟨hvA, hfA, hpA⟩ := step1 hv (frS.refl Ω) hp (sg_in (by omega))
  refine z_aload_n (pc := 180) hC (i := 0) dX3_readOrder_180 rfl rfl ?_
  refine z_dup (pc := 181) hC dX3_readOrder_181 rfl ?_
  refine z_getI (C := RX3) (T := TX3) (N := 7) (ci := 3) (pc := 182) hC _ 3 in_X3_readOrder_X3 rfl (by decide) (fun _ => rfl) (by decide) fl_X3_readOrder_22 (fun _ => rfl) dX3_readOrder_182 ?_
  refine z_iconst (pc := 185) hC dX3_readOrder_185 ?_
  refine z_iadd (pc := 186) hC dX3_readOrder_186 ?_
  refine z_putI (C := RX3) (T := TX3) (N := 7) (ci := 3) (pc := 187) hC _ 3 in_X3_readOrder_X3 rfl (by decide) (fun _ => rfl) (by decide) fl_X3_readOrder_22 tyX3_ok nmX3 rfl (by decide +kernel) (fun _ => Nat.le_of_ble_eq_true rfl) (fun _ _ => rfl) dX3_readOrder_187 ?_
  refine z_aload_n (pc := 190) hC (i := 0) dX3_readOrder_190 rfl rfl ?_
  refine z_iconst (pc := 191) hC dX3_readOrder_191 ?_
  refine z_bipush (pc := 192) hC dX3_readOrder_192 rfl ?_
  refine z_callV (n := 2) (T := TX3) (N := 7) (ci := 3) (pc := 194) hC (c_X3_readFigure l w hw _ T L hvA _ _ (by omega) (by omega) (by omega) (by omega) (by rw [hpA]; exact Nat.zero_le _)) gX3_readOrder_X3_readFigure rfl (by decide +kernel) (by decide) (by decide) rfl (by decide) (fun _ => rfl) rfl rfl (Nat.le_of_ble_eq_true rfl) dX3_readOrder_194 (zb_k fun r194 Ω194 h194 => ?_)
  obtain ⟨rfl, hp194, hv194, hf194⟩ := h194
  refine z_ifb_eq (pc := 197) hC 211 dX3_readOrder_197 rfl (fun h197 => ?_) (fun h197 => ?_)
  · refine z_iconst (pc := 211) hC dX3_readOrder_211 ?_
    exact z_zret (b := false) (pc := 212) hC rfl (K _ _ (by rw [pO_yes (by omega), rO_l hkk, ← hpA, seqB_f h197, h197]) (by rw [pO_yes (by omega), rO_l hkk, ← hpA, seqB_f h197]; exact hp194) (hf194.2.2.2.trans (hfA.2.2.2.trans hk)) hv194 (hf194.o (hfA.o hf))) dX3_readOrder_212
  · refine z_aload_n (pc := 200) hC (i := 0) dX3_readOrder_200 rfl rfl ?_
    refine z_callV (n := 0) (T := TX3) (N := 7) (ci := 3) (pc := 201) hC (c_X3_readEnd l w hw _ T L (by assumption)) gX3_readOrder_X3_readEnd rfl (by decide +kernel) (by decide) (by decide) rfl (by decide) (fun _ => rfl) rfl rfl (Nat.le_of_ble_eq_true rfl) dX3_readOrder_201 (zb_k fun r201 Ω201 h201 => ?_)
    obtain ⟨rfl, hp201, hv201, hf201⟩ := h201
    refine z_ifb_eq (pc := 204) hC 211 dX3_readOrder_204 rfl (fun h204 => ?_) (fun h204 => ?_)
    · refine z_iconst (pc := 211) hC dX3_readOrder_211 ?_
      exact z_zret (b := false) (pc := 212) hC rfl (K _ _ (by rw [pO_yes (by omega), rO_l hkk, ← hpA, seqB_t h197, ← hp194, h204]) (by rw [pO_yes (by omega), rO_l hkk, ← hpA, seqB_t h197, ← hp194]; exact hp201) (hf201.2.2.2.trans (hf194.2.2.2.trans (hfA.2.2.2.trans hk))) hv201 (hf201.o (hf194.o (hfA.o hf)))) dX3_readOrder_212
    · refine z_iconst (pc := 207) hC dX3_readOrder_207 ?_
      refine z_goto (pc := 208) hC 212 dX3_readOrder_208 rfl ?_
      exact z_zret (b := true) (pc := 212) hC rfl (K _ _ (by rw [pO_yes (by omega), rO_l hkk, ← hpA, seqB_t h197, ← hp194, h204]) (by rw [pO_yes (by omega), rO_l hkk, ← hpA, seqB_t h197, ← hp194]; exact hp201) (hf201.2.2.2.trans (hf194.2.2.2.trans (hfA.2.2.2.trans hk))) hv201 (hf201.o (hf194.o (hfA.o hf)))) dX3_readOrder_212
theorem fl_X3_readOrder_25 : Cond.fieldLink RX3 25 "StrokeCuts$Script" "numberCount" "I" ∈ wsX3_readOrder := by decide +kernel
theorem fl_X3_readOrder_42 : Cond.fieldLink RX3 42 "StrokeCuts$Script" "kind" "I" ∈ wsX3_readOrder := by decide +kernel
set_option maxHeartbeats 4000000 in
set_option maxRecDepth 100000 in
theorem c_X3_readOrder (l : Launch) (w : zP) (hw : zOK w) (Ω : Mem) (T : Nat → Int) (L : Nat) (hv : pok T L Ω) (x y : Int) (hx : 2 ≤ x ∧ x ≤ 6) (hy : 2 ≤ y ∧ y ≤ 6) : zM l w yX3_readOrder wsX3_readOrder 3 67 [.ref (wa w 10), .int (zI x), .int (zI y)] Ω (zbo (fun t Ω1 => t = (pO T L x y (psC Ω).1 (psC Ω).2.2).1 ∧ psC Ω1 = (pO T L x y (psC Ω).1 (psC Ω).2.2).2 ∧ gt Ω1 10 5 = sg T L (psC Ω).1 ∧ pok T L Ω1 ∧ frO Ω Ω1)) := by
  refine zM_of cX3_readOrder 3 (some .boolean) RX3 [some (.ref (wa w 10)), some (.int (zI x)), some (.int (zI y))] hw (by decide +kernel) rfl rfl (Nat.le_of_ble_eq_true rfl) rfl (fun E hC => ?_)
  refine z_aload_n (pc := 0) hC (i := 0) dX3_readOrder_0 rfl rfl ?_
  refine z_iconst (pc := 1) hC dX3_readOrder_1 ?_
  refine z_putI (C := RX3) (T := TX3) (N := 7) (ci := 3) (pc := 2) hC _ 6 in_X3_readOrder_X3 rfl (by decide) (fun _ => rfl) (by decide) fl_X3_readOrder_25 tyX3_ok nmX3 rfl (by decide +kernel) (fun _ => Nat.le_of_ble_eq_true rfl) (fun _ _ => rfl) dX3_readOrder_2 ?_
  obtain ⟨hvB, hpB, hfB⟩ := ord0 hv
  refine z_aload_n (pc := 5) hC (i := 0) dX3_readOrder_5 rfl rfl ?_
  refine z_aload_n (pc := 6) hC (i := 0) dX3_readOrder_6 rfl rfl ?_
  refine z_callV (n := 0) (T := TX3) (N := 7) (ci := 3) (pc := 7) hC (c_X3_peekSign l w hw _ hvB.tok) gX3_readOrder_X3_peekSign rfl (by decide +kernel) (by decide) (by decide) rfl (by decide) (fun _ => rfl) rfl rfl (Nat.le_of_ble_eq_true rfl) dX3_readOrder_7 (zi_k fun r7 Ω7 h7 => ?_)
  obtain ⟨hr7, hm7⟩ := h7
  obtain ⟨hq7, hv7, hf7, hp7, hb7⟩ := pk_facts hvB hr7 hm7
  rw [hpB] at hq7 hp7
  obtain ⟨hvC, hpC, hfC⟩ := ord1 (k := r7) hv7 (hf7.o hfB)
  rw [hp7] at hpC
  refine z_putI (C := RX3) (T := TX3) (N := 7) (ci := 3) (pc := 10) hC _ 5 in_X3_readOrder_X3 rfl (by decide) (fun _ => rfl) (by decide) fl_X3_readOrder_42 tyX3_ok nmX3 rfl (by decide +kernel) (fun _ => Nat.le_of_ble_eq_true rfl) (fun _ _ => rfl) dX3_readOrder_10 ?_
  refine z_aload_n (pc := 13) hC (i := 0) dX3_readOrder_13 rfl rfl ?_
  refine z_getI (C := RX3) (T := TX3) (N := 7) (ci := 3) (pc := 14) hC _ 5 in_X3_readOrder_X3 rfl (by decide) (fun _ => rfl) (by decide) fl_X3_readOrder_42 (fun _ => rfl) dX3_readOrder_14 ?_
  rw [gt_s _ _ _ ⟨by omega, by omega⟩]
  refine z_ts (pc := 17) hC ⟨by omega, by omega⟩ dX3_readOrder_17 (by decide) (by decide) (by intro i hi; show i < 14; omega) (fun tgt ht => ?_)
  rcases ts17 ht with ⟨rfl, hk⟩ | ⟨rfl, hk⟩ | ⟨rfl, hk⟩ | ⟨rfl, hk⟩
  · exact S_X3_readOrder_88 hw hC Ω T L x y hx hy (psC Ω).1 (psC Ω).2.2 hvC hfC hpC (by rw [gt_s _ _ _ ⟨by omega, by omega⟩]; exact hq7) (fun t Ω1 a1 a2 a3 a4 a5 => ⟨t, rfl, a1, a2, a3, a4, a5⟩) (by rw [← hq7]; exact hk)
  · exact S_X3_readOrder_138 hw hC Ω T L x y hx hy (psC Ω).1 (psC Ω).2.2 hvC hfC hpC (by rw [gt_s _ _ _ ⟨by omega, by omega⟩]; exact hq7) (fun t Ω1 a1 a2 a3 a4 a5 => ⟨t, rfl, a1, a2, a3, a4, a5⟩) (by rw [← hq7]; exact hk)
  · exact S_X3_readOrder_180 hw hC Ω T L x y hx hy (psC Ω).1 (psC Ω).2.2 hvC hfC hpC (by rw [gt_s _ _ _ ⟨by omega, by omega⟩]; exact hq7) (fun t Ω1 a1 a2 a3 a4 a5 => ⟨t, rfl, a1, a2, a3, a4, a5⟩) (by rw [← hq7]; exact hk)
  · refine z_iconst (pc := 213) hC dX3_readOrder_213 ?_
    exact z_zret (b := false) (pc := 214) hC rfl ⟨false, rfl, by rw [pO_no (by rw [← hq7]; exact hk)], by rw [pO_no (by rw [← hq7]; exact hk)]; exact hpC, by rw [gt_s _ _ _ ⟨by omega, by omega⟩]; exact hq7, hvC, hfC⟩ dX3_readOrder_214
