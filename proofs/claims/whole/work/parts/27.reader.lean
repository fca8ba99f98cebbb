/-! switches: which target -/
theorem z_ts {E : zE} {w : zP} {l : Launch} {own : String} {ws : List Cond} {cc : ByteArray} {nL fr lo : Nat} {ret : Option FieldType} {Post : Option Value → Mem → Prop} {Ω : Mem} {pc : Nat} {lv : List (Option Value)} {st : List Value} (hC : zC E w l own ws cc nL fr lo ret Post) {a dflt lo1 hi : Int} {offs : Array Int} {len : Nat} (ha : zb a) (hdg : decode cc pc = .ok (.tableswitch dflt lo1 hi offs, len)) (hok : ∀ o, o ∈ offs.toList → 0 ≤ (pc : Int) + o) (hd : 0 ≤ (pc : Int) + dflt) (hsz : ∀ i : Nat, (i : Int) ≤ hi - lo1 → i < offs.size) (k : ∀ tgt : Nat, (lo1 ≤ a ∧ a ≤ hi ∧ offs[(a - lo1).toNat]? = some ((tgt : Int) - pc)) ∨ ((a < lo1 ∨ hi < a) ∧ (tgt : Int) = pc + dflt) → X E Ω tgt lv st) : X E Ω pc lv (.int (zI a) :: st) := by
  by_cases h : a < lo1 ∨ hi < a
  · obtain ⟨t, ht⟩ := nat_of hd
    exact z_tsOut hC t ha h hdg ht (k t (Or.inr ⟨h, ht.symm⟩))
  · have hlt := hsz (a - lo1).toNat (by omega)
    have hg : offs[(a - lo1).toNat]? = some offs[(a - lo1).toNat] := Array.getElem?_eq_getElem hlt
    obtain ⟨t, ht⟩ := nat_of (hok offs[(a - lo1).toNat] (by simp))
    exact z_tsIn hC t ha (by omega) (by omega) hdg hg ht (k t (Or.inl ⟨by omega, by omega, by rw [hg]; congr 1; omega⟩))
theorem z_ls {E : zE} {w : zP} {l : Launch} {own : String} {ws : List Cond} {cc : ByteArray} {nL fr lo : Nat} {ret : Option FieldType} {Post : Option Value → Mem → Prop} {Ω : Mem} {pc : Nat} {lv : List (Option Value)} {st : List Value} (hC : zC E w l own ws cc nL fr lo ret Post) {a dflt : Int} {ps : Array (Int × Int)} {len : Nat} (ha : zb a) (hdg : decode cc pc = .ok (.lookupswitch dflt ps, len)) (hp : (ps.toList.zip (ps.toList.drop 1)).all (fun (a, next) => a.1 < next.1) = true) (h0 : 0 ≤ (pc : Int) + Op.lookupswitch.offset ps.toList dflt a) (k : ∀ tgt : Nat, (tgt : Int) = pc + Op.lookupswitch.offset ps.toList dflt a → X E Ω tgt lv st) : X E Ω pc lv (.int (zI a) :: st) := by
  obtain ⟨t, ht⟩ := nat_of h0
  exact z_lsw hC t ha hdg hp rfl ht (k t ht.symm)
def pok (T : Nat → Int) (L : Nat) (Ω : Mem) : Prop := gt Ω 11 = T ∧ gt Ω 10 2 = (L : Int) ∧ L ≤ 100 ∧ (∀ k, k < L → 0 ≤ T k ∧ T k ≤ 127) ∧ (0 ≤ gt Ω 10 3 ∧ gt Ω 10 3 ≤ L) ∧ 0 ≤ gt Ω 10 6 ∧ gt Ω 10 6 ≤ 4
theorem pok.tok {T : Nat → Int} {L : Nat} {Ω : Mem} (h : pok T L Ω) : tok Ω := by
  obtain ⟨-, h2, h3, -, h5, -⟩ := h
  exact ⟨by omega, by omega, by omega, by omega⟩
theorem sg_b {T : Nat → Int} {L p : Nat} (h : ∀ k, k < L → 0 ≤ T k ∧ T k ≤ 127) : -1 ≤ sg T L p ∧ sg T L p ≤ 127 := by
  unfold sg
  by_cases c : sk T L p < L
  · rw [if_pos c]; have := h _ c; omega
  · rw [if_neg c]; omega
theorem sg_in {T : Nat → Int} {L p : Nat} (h : 0 ≤ sg T L p) : sk T L p < L := by
  unfold sg at h
  by_cases c : sk T L p < L
  · exact c
  · rw [if_neg c] at h; omega
/-- behind peekSign -/
theorem pk_facts {T : Nat → Int} {L : Nat} {Ω Ω1 : Mem} {r : Int} (hv : pok T L Ω) (hr : r = sg (gt Ω 11) (gt Ω 10 2).toNat (gt Ω 10 3).toNat) (h : Ω1 = ups Ω 10 3 (sk (gt Ω 11) (gt Ω 10 2).toNat (gt Ω 10 3).toNat)) : r = sg T L (psC Ω).1 ∧ pok T L Ω1 ∧ frS Ω Ω1 ∧ psC Ω1 = (sk T L (psC Ω).1, (psC Ω).2) ∧ (-1 ≤ r ∧ r ≤ 127) := by
  obtain ⟨h1, h2, h3, h4, h5, h6⟩ := hv
  rw [h1, h2, Int.toNat_natCast] at hr h
  obtain ⟨p, hp⟩ := nat_of h5.1
  rw [hp, Int.toNat_natCast] at hr h
  have hle := sk_le T (L := L) (p := p) (by omega)
  have e3 : gt Ω1 10 3 = (sk T L p : Int) := by rw [h]; exact gt_s _ _ _ ⟨by omega, by omega⟩
  have en : ∀ k, k ≠ 3 → gt Ω1 10 k = gt Ω 10 k := fun k hk => by rw [h]; exact gt_sn _ _ _ hk
  have eq : ∀ q, q ≠ 10 → Ω1 q = Ω q := fun q hq => by rw [h]; exact ups_n _ _ _ hq
  have hpp : (psC Ω).1 = p := by unfold psC; rw [hp]; rfl
  rw [hpp]
  have hb := sg_b (p := p) h4
  refine ⟨hr, ⟨?_, ?_, h3, h4, ?_, ?_⟩, ⟨fun q a _ => eq q a, en 2 (by decide), en 4 (by decide), en 5 (by decide)⟩, ?_, by omega⟩
  · rw [← h1]; unfold gt; rw [eq 11 (by decide)]
  · rw [en 2 (by decide)]; exact h2
  · rw [e3]; omega
  · rw [en 6 (by decide)]; exact h6
  · unfold psC
    rw [e3, en 6 (by decide), Int.toNat_natCast, show gt Ω1 12 = gt Ω 12 by unfold gt; rw [eq 12 (by decide)]]

theorem fl_X3_takeByte_18 : Cond.fieldLink RX3 18 "StrokeCuts$Script" "length" "I" ∈ wsX3_takeByte := by decide +kernel
theorem in_X3_takeByte_X3 : ∀ x ∈ u_ws RX3 TX3 7, x ∈ wsX3_takeByte := by decide +kernel
theorem fl_X3_takeByte_11 : Cond.fieldLink RX3 11 "StrokeCuts$Script" "bytes" "[I" ∈ wsX3_takeByte := by decide +kernel
set_option maxHeartbeats 4000000 in
set_option maxRecDepth 100000 in
theorem c_X3_takeByte (l : Launch) (w : zP) (hw : zOK w) (Ω : Mem) (c : Int) (h0 : 0 ≤ gt Ω 10 2) : zM l w yX3_takeByte wsX3_takeByte 0 0 [.ref (wa w 10), .int (zI c)] Ω (zbo (fun b Ω1 => b = decide (gt Ω 10 2 < 100) ∧ (gt Ω 10 2 < 100 → Ω1 = ups (ups Ω 11 (gt Ω 10 2).toNat c) 10 2 (gt Ω 10 2 + 1)) ∧ (¬ gt Ω 10 2 < 100 → Ω1 = Ω))) := by
  refine zM_of cX3_takeByte 2 (some .boolean) RX3 [some (.ref (wa w 10)), some (.int (zI c))] hw (by decide +kernel) rfl rfl (Nat.le_of_ble_eq_true rfl) rfl (fun E hC => ?_)
  obtain ⟨L, hL⟩ := nat_of h0
  have hLb := zb_gt Ω 10 2
  rw [hL] at hLb
  refine z_aload_n (pc := 0) hC (i := 0) dX3_takeByte_0 rfl rfl ?_
  refine z_getI (C := RX3) (T := TX3) (N := 7) (ci := 3) (pc := 1) hC _ 2 in_X3_takeByte_X3 rfl (by decide) (fun _ => rfl) (by decide) fl_X3_takeByte_18 (fun _ => rfl) dX3_takeByte_1 ?_
  refine z_bipush (pc := 4) hC dX3_takeByte_4 rfl ?_
  rw [hL]
  refine z_icmp_lt (pc := 6) hC 11 (by first | assumption | exact zb_gt _ _ _ | exact zcmp_zb _ _ | exact bI_zb _ | exact ⟨by omega, by omega⟩) (by first | assumption | exact zb_gt _ _ _ | exact zcmp_zb _ _ | exact bI_zb _ | exact ⟨by omega, by omega⟩) dX3_takeByte_6 rfl (fun h6 => ?_) (fun h6 => ?_)
  · refine z_aload_n (pc := 11) hC (i := 0) dX3_takeByte_11 rfl rfl ?_
    refine z_getR (C := RX3) (T := TX3) (N := 7) (ci := 3) (pc := 12) hC _ _ 0 in_X3_takeByte_X3 rfl (by decide) (fun _ => rfl) (by decide) fl_X3_takeByte_11 (fun _ => rfl) dX3_takeByte_12 ?_
    refine z_aload_n (pc := 15) hC (i := 0) dX3_takeByte_15 rfl rfl ?_
    refine z_getI (C := RX3) (T := TX3) (N := 7) (ci := 3) (pc := 16) hC _ 2 in_X3_takeByte_X3 rfl (by decide) (fun _ => rfl) (by decide) fl_X3_takeByte_18 (fun _ => rfl) dX3_takeByte_16 ?_
    rw [hL]
    refine z_iload_n (pc := 19) hC (i := 1) dX3_takeByte_19 rfl rfl ?_
    refine z_iask (pc := 20) hC _ _ (by decide) (fun _ => rfl) rfl (by omega) (by decide) dX3_takeByte_20 ?_
    refine z_aload_n (pc := 21) hC (i := 0) dX3_takeByte_21 rfl rfl ?_
    refine z_dup (pc := 22) hC dX3_takeByte_22 rfl ?_
    have e2 := gt_n Ω (q := 11) (r := 10) L 2 c (by decide)
    refine z_getI (C := RX3) (T := TX3) (N := 7) (ci := 3) (pc := 23) hC _ 2 in_X3_takeByte_X3 rfl (by decide) (fun _ => rfl) (by decide) fl_X3_takeByte_18 (fun _ => rfl) dX3_takeByte_23 ?_
    rw [e2, hL]
    refine z_iconst (pc := 26) hC dX3_takeByte_26 ?_
    refine z_iadd (pc := 27) hC dX3_takeByte_27 ?_
    refine z_putI (C := RX3) (T := TX3) (N := 7) (ci := 3) (pc := 28) hC _ 2 in_X3_takeByte_X3 rfl (by decide) (fun _ => rfl) (by decide) fl_X3_takeByte_18 tyX3_ok nmX3 rfl (by decide +kernel) (fun _ => Nat.le_of_ble_eq_true rfl) (fun _ _ => rfl) dX3_takeByte_28 ?_
    refine z_iconst (pc := 31) hC dX3_takeByte_31 ?_
    exact z_zret (b := true) (pc := 32) hC rfl ⟨true, rfl, ⟨(decide_eq_true (by omega)).symm, fun _ => by rw [hL, Int.toNat_natCast], fun h => absurd h (by omega)⟩⟩ dX3_takeByte_32
  · refine z_iconst (pc := 9) hC dX3_takeByte_9 ?_
    exact z_zret (b := false) (pc := 10) hC rfl ⟨false, rfl, ⟨(decide_eq_false (by omega)).symm, fun h => absurd h (by omega), fun _ => rfl⟩⟩ dX3_takeByte_10
theorem fl_X3_rewind_22 : Cond.fieldLink RX3 22 "StrokeCuts$Script" "place" "I" ∈ wsX3_rewind := by decide +kernel
theorem in_X3_rewind_X3 : ∀ x ∈ u_ws RX3 TX3 7, x ∈ wsX3_rewind := by decide +kernel
set_option maxHeartbeats 4000000 in
set_option maxRecDepth 100000 in
theorem c_X3_rewind (l : Launch) (w : zP) (hw : zOK w) (Ω : Mem) : zM l w yX3_rewind wsX3_rewind 0 0 [.ref (wa w 10)] Ω (zvo (fun Ω1 => Ω1 = ups Ω 10 3 0)) := by
  refine zM_of cX3_rewind 1 none RX3 [some (.ref (wa w 10))] hw (by decide +kernel) rfl rfl (Nat.le_of_ble_eq_true rfl) rfl (fun E hC => ?_)
  refine z_aload_n (pc := 0) hC (i := 0) dX3_rewind_0 rfl rfl ?_
  refine z_iconst (pc := 1) hC dX3_rewind_1 ?_
  refine z_putI (C := RX3) (T := TX3) (N := 7) (ci := 3) (pc := 2) hC _ 3 in_X3_rewind_X3 rfl (by decide) (fun _ => rfl) (by decide) fl_X3_rewind_22 tyX3_ok nmX3 rfl (by decide +kernel) (fun _ => Nat.le_of_ble_eq_true rfl) (fun _ _ => rfl) dX3_rewind_2 ?_
  exact z_vret (pc := 5) hC rfl ⟨rfl, rfl⟩ dX3_rewind_5
theorem fl_X3_number_25 : Cond.fieldLink RX3 25 "StrokeCuts$Script" "numberCount" "I" ∈ wsX3_number := by decide +kernel
theorem in_X3_number_X3 : ∀ x ∈ u_ws RX3 TX3 7, x ∈ wsX3_number := by decide +kernel
theorem fl_X3_number_15 : Cond.fieldLink RX3 15 "StrokeCuts$Script" "numbers" "[I" ∈ wsX3_number := by decide +kernel
set_option maxHeartbeats 4000000 in
set_option maxRecDepth 100000 in
theorem c_X3_number (l : Launch) (w : zP) (hw : zOK w) (Ω : Mem) (i : Nat) (hi : i < 4) (h4 : gt Ω 10 6 ≤ 4) : zM l w yX3_number wsX3_number 0 0 [.ref (wa w 10), .int (zI (i : Int))] Ω (zi (fun r Ω1 => r = (if (i : Int) < gt Ω 10 6 then gt Ω 12 i else 0) ∧ Ω1 = Ω)) := by
  refine zM_of cX3_number 2 (some .int) RX3 [some (.ref (wa w 10)), some (.int (zI (i : Int)))] hw (by decide +kernel) rfl rfl (Nat.le_of_ble_eq_true rfl) rfl (fun E hC => ?_)
  refine z_iload_n (pc := 0) hC (i := 1) dX3_number_0 rfl rfl ?_
  refine z_if_lt (pc := 1) hC 21 (by first | assumption | exact zb_gt _ _ _ | exact zcmp_zb _ _ | exact bI_zb _ | exact ⟨by omega, by omega⟩) dX3_number_1 rfl (fun h1 => ?_) (fun h1 => ?_)
  · exact absurd h1 (by omega)
  · refine z_iload_n (pc := 4) hC (i := 1) dX3_number_4 rfl rfl ?_
    refine z_aload_n (pc := 5) hC (i := 0) dX3_number_5 rfl rfl ?_
    refine z_getI (C := RX3) (T := TX3) (N := 7) (ci := 3) (pc := 6) hC _ 6 in_X3_number_X3 rfl (by decide) (fun _ => rfl) (by decide) fl_X3_number_25 (fun _ => rfl) dX3_number_6 ?_
    refine z_icmp_ge (pc := 9) hC 21 (by first | assumption | exact zb_gt _ _ _ | exact zcmp_zb _ _ | exact bI_zb _ | exact ⟨by omega, by omega⟩) (by first | assumption | exact zb_gt _ _ _ | exact zcmp_zb _ _ | exact bI_zb _ | exact ⟨by omega, by omega⟩) dX3_number_9 rfl (fun h9 => ?_) (fun h9 => ?_)
    · refine z_iconst (pc := 21) hC dX3_number_21 ?_
      exact z_iret (pc := 22) hC rfl ⟨_, rfl, ⟨(if_neg (by omega)).symm, rfl⟩⟩ dX3_number_22
    · refine z_aload_n (pc := 12) hC (i := 0) dX3_number_12 rfl rfl ?_
      refine z_getR (C := RX3) (T := TX3) (N := 7) (ci := 3) (pc := 13) hC _ _ 1 in_X3_number_X3 rfl (by decide) (fun _ => rfl) (by decide) fl_X3_number_15 (fun _ => rfl) dX3_number_13 ?_
      refine z_iload_n (pc := 16) hC (i := 1) dX3_number_16 rfl rfl ?_
      refine z_ialk (pc := 17) hC _ i (by decide) (fun _ => rfl) rfl (by omega) (by decide) dX3_number_17 ?_
      refine z_goto (pc := 18) hC 22 dX3_number_18 rfl ?_
      exact z_iret (pc := 22) hC rfl ⟨_, rfl, ⟨(if_pos (by omega)).symm, rfl⟩⟩ dX3_number_22
theorem rF_yes {T : Nat → Int} {L : Nat} {a b : Int} {s : Ps} (h : a ≤ sg T L s.1 - 48 ∧ sg T L s.1 - 48 ≤ b) : rF T L a b s = (true, (sk T L s.1 + 1, s.2.1 + 1, fup s.2.2 s.2.1 (sg T L s.1 - 48))) := if_pos h
theorem rF_no {T : Nat → Int} {L : Nat} {a b : Int} {s : Ps} (h : ¬ (a ≤ sg T L s.1 - 48 ∧ sg T L s.1 - 48 ≤ b)) : rF T L a b s = (false, (sk T L s.1, s.2)) := if_neg h
/-- a figure is taken -/
theorem rF_take {T : Nat → Int} {L : Nat} {Ω Ω1 : Mem} {c : Nat} {v : Int} (hv : pok T L Ω1) (hf : frS Ω Ω1) (hp : psC Ω1 = (sk T L (psC Ω).1, (psC Ω).2)) (hc : gt Ω1 10 6 = (c : Int)) (hc4 : c < 4) (hsk : sk T L (psC Ω).1 < L) (hvb : zb v) : pok T L (ups (ups (ups Ω1 12 c v) 10 6 ((c : Int) + 1)) 10 3 ((gt Ω1 10 3) + 1)) ∧ frS Ω (ups (ups (ups Ω1 12 c v) 10 6 ((c : Int) + 1)) 10 3 ((gt Ω1 10 3) + 1)) ∧ psC (ups (ups (ups Ω1 12 c v) 10 6 ((c : Int) + 1)) 10 3 ((gt Ω1 10 3) + 1)) = (sk T L (psC Ω).1 + 1, (psC Ω).2.1 + 1, fup (psC Ω).2.2 (psC Ω).2.1 v) := by
  obtain ⟨h1, h2, h3, h4, h5, h6⟩ := hv
  have hp1 : (gt Ω1 10 3).toNat = sk T L (psC Ω).1 := congrArg Prod.fst hp
  have hp2 : (gt Ω1 10 6).toNat = (psC Ω).2.1 := congrArg (fun x => x.2.1) hp
  have hp3 : gt Ω1 12 = (psC Ω).2.2 := congrArg (fun x => x.2.2) hp
  have hcc : (psC Ω).2.1 = c := by rw [← hp2, hc]; rfl
  generalize hM : ups (ups (ups Ω1 12 c v) 10 6 ((c : Int) + 1)) 10 3 ((gt Ω1 10 3) + 1) = M
  have a3 : gt M 10 3 = gt Ω1 10 3 + 1 := by rw [← hM]; exact gt_s _ _ _ ⟨by omega, by omega⟩
  have a6 : gt M 10 6 = (c : Int) + 1 := by rw [← hM, gt_sn _ _ _ (by decide)]; exact gt_s _ _ _ ⟨by omega, by omega⟩
  have ak : ∀ k, k ≠ 3 → k ≠ 6 → gt M 10 k = gt Ω1 10 k := fun k x y => by rw [← hM, gt_sn _ _ _ x, gt_sn _ _ _ y, gt_n _ _ _ _ (by decide)]
  have aq : ∀ q, q ≠ 10 → q ≠ 12 → M q = Ω1 q := fun q x y => by rw [← hM, ups_n _ _ _ x, ups_n _ _ _ x, ups_n _ _ _ y]
  have a12 : gt M 12 = fup (gt Ω1 12) c v := by
    rw [← gt_fup _ _ _ hvb, ← hM]
    funext k
    rw [gt_n _ _ _ _ (by decide : 12 ≠ 10), gt_n _ _ _ _ (by decide : 12 ≠ 10)]
  refine ⟨⟨?_, ?_, h3, h4, ?_, ?_⟩, ⟨fun q x y => (aq q x y).trans (hf.1 q x y), ?_, ?_, ?_⟩, ?_⟩
  · rw [← h1]; unfold gt; rw [aq 11 (by decide) (by decide)]
  · rw [ak 2 (by decide) (by decide)]; exact h2
  · rw [a3]; omega
  · rw [a6]; omega
  · rw [ak 2 (by decide) (by decide)]; exact hf.2.1
  · rw [ak 4 (by decide) (by decide)]; exact hf.2.2.1
  · rw [ak 5 (by decide) (by decide)]; exact hf.2.2.2
  · unfold psC at hcc ⊢
    rw [a3, a6, a12]
    have : (gt Ω1 10 3 + 1).toNat = (gt Ω1 10 3).toNat + 1 := by omega
    rw [this, hp1, hp3]
    unfold psC
    rw [hcc]
    rfl

theorem ms_X3_readFigure_X4_isWithin : Cond.static yX4_isWithin ∈ wsX3_readFigure := by decide +kernel
theorem mi_X3_readFigure_X4_isWithin : Cond.initialized yX4_isWithin.cls ∈ wsX3_readFigure := by decide +kernel
theorem fl_X3_readFigure_25 : Cond.fieldLink RX3 25 "StrokeCuts$Script" "numberCount" "I" ∈ wsX3_readFigure := by decide +kernel
theorem in_X3_readFigure_X3 : ∀ x ∈ u_ws RX3 TX3 7, x ∈ wsX3_readFigure := by decide +kernel
theorem fl_X3_readFigure_15 : Cond.fieldLink RX3 15 "StrokeCuts$Script" "numbers" "[I" ∈ wsX3_readFigure := by decide +kernel
theorem fl_X3_readFigure_22 : Cond.fieldLink RX3 22 "StrokeCuts$Script" "place" "I" ∈ wsX3_readFigure := by decide +kernel
set_option maxHeartbeats 4000000 in
set_option maxRecDepth 100000 in
theorem c_X3_readFigure (l : Launch) (w : zP) (hw : zOK w) (Ω : Mem) (T : Nat → Int) (L : Nat) (hv : pok T L Ω) (a b : Int) (ha : 0 ≤ a) (hb : b ≤ 9) (hab : -100 ≤ b) (ha2 : a ≤ 9) (hc3 : (psC Ω).2.1 ≤ 3) : zM l w yX3_readFigure wsX3_readFigure 1 22 [.ref (wa w 10), .int (zI a), .int (zI b)] Ω (zbo (fun t Ω1 => t = (rF T L a b (psC Ω)).1 ∧ psC Ω1 = (rF T L a b (psC Ω)).2 ∧ pok T L Ω1 ∧ frS Ω Ω1)) := by
  refine zM_of cX3_readFigure 4 (some .boolean) RX3 [some (.ref (wa w 10)), some (.int (zI a)), some (.int (zI b)), none] hw (by decide +kernel) rfl rfl (Nat.le_of_ble_eq_true rfl) rfl (fun E hC => ?_)
  refine z_aload_n (pc := 0) hC (i := 0) dX3_readFigure_0 rfl rfl ?_
  refine z_callV (n := 0) (T := TX3) (N := 7) (ci := 3) (pc := 1) hC (c_X3_peekSign l w hw _ hv.tok) gX3_readFigure_X3_peekSign rfl (by decide +kernel) (by decide) (by decide) rfl (by decide) (fun _ => rfl) rfl rfl (Nat.le_of_ble_eq_true rfl) dX3_readFigure_1 (zi_k fun r1 Ω1 h1 => ?_)
  obtain ⟨hr1, hm1⟩ := h1
  obtain ⟨hq1, hv1, hf1, hp1, hb1⟩ := pk_facts hv hr1 hm1
  refine z_bipush (pc := 4) hC dX3_readFigure_4 rfl ?_
  refine z_isub (pc := 6) hC dX3_readFigure_6 ?_
  refine z_istore_n (pc := 7) hC (i := 3) dX3_readFigure_7 rfl (by decide) rfl (zS_s (zS_s (zS_s zS_0))) ?_
  refine z_iload_n (pc := 8) hC (i := 3) dX3_readFigure_8 rfl rfl ?_
  refine z_iload_n (pc := 9) hC (i := 1) dX3_readFigure_9 rfl rfl ?_
  refine z_iload_n (pc := 10) hC (i := 2) dX3_readFigure_10 rfl rfl ?_
  refine z_callSN (n := 3) (pc := 11) hC (c_X4_isWithin l w hw _ _ _ _ (by first | assumption | exact zb_gt _ _ _ | exact zcmp_zb _ _ | exact bI_zb _ | exact ⟨by omega, by omega⟩) (by first | assumption | exact zb_gt _ _ _ | exact zcmp_zb _ _ | exact bI_zb _ | exact ⟨by omega, by omega⟩) (by first | assumption | exact zb_gt _ _ _ | exact zcmp_zb _ _ | exact bI_zb _ | exact ⟨by omega, by omega⟩)) (fun h => h.2.1.2.2) gX3_readFigure_X4_isWithin_n55 ms_X3_readFigure_X4_isWithin mi_X3_readFigure_X4_isWithin rfl (by decide +kernel) (by decide) (by decide) rfl rfl (Nat.le_of_ble_eq_true rfl) dX3_readFigure_11 (zb_k fun r11 Ω11 h11 => ?_)
  obtain ⟨rfl, hM11⟩ := h11
  obtain rfl := hM11.symm
  refine z_ifd_eq (pc := 14) hC 25 dX3_readFigure_14 rfl (fun h14 => ?_) (fun h14 => ?_)
  · rw [hq1] at h14
    refine z_iconst (pc := 25) hC dX3_readFigure_25 ?_
    exact z_zret (b := false) (pc := 26) hC rfl ⟨false, rfl, ⟨by rw [rF_no h14], by rw [rF_no h14]; exact hp1, hv1, hf1⟩⟩ dX3_readFigure_26
  · rw [hq1] at h14
    obtain ⟨c, hc⟩ := nat_of hv1.2.2.2.2.2.1
    have hcp : (psC Ω).2.1 = c := by
      have := congrArg (fun x => x.2.1) hp1
      simp only [psC, hc] at this
      exact this.symm
    refine z_aload_n (pc := 17) hC (i := 0) dX3_readFigure_17 rfl rfl ?_
    refine z_getI (C := RX3) (T := TX3) (N := 7) (ci := 3) (pc := 18) hC _ 6 in_X3_readFigure_X3 rfl (by decide) (fun _ => rfl) (by decide) fl_X3_readFigure_25 (fun _ => rfl) dX3_readFigure_18 ?_
    rw [hc]
    refine z_iconst (pc := 21) hC dX3_readFigure_21 ?_
    refine z_icmp_lt (pc := 22) hC 27 (by first | assumption | exact zb_gt _ _ _ | exact zcmp_zb _ _ | exact bI_zb _ | exact ⟨by omega, by omega⟩) (by first | assumption | exact zb_gt _ _ _ | exact zcmp_zb _ _ | exact bI_zb _ | exact ⟨by omega, by omega⟩) dX3_readFigure_22 rfl (fun h22 => ?_) (fun h22 => ?_)
    · refine z_aload_n (pc := 27) hC (i := 0) dX3_readFigure_27 rfl rfl ?_
      refine z_getR (C := RX3) (T := TX3) (N := 7) (ci := 3) (pc := 28) hC _ _ 1 in_X3_readFigure_X3 rfl (by decide) (fun _ => rfl) (by decide) fl_X3_readFigure_15 (fun _ => rfl) dX3_readFigure_28 ?_
      refine z_aload_n (pc := 31) hC (i := 0) dX3_readFigure_31 rfl rfl ?_
      skip
      refine z_getI (C := RX3) (T := TX3) (N := 7) (ci := 3) (pc := 32) hC _ 6 in_X3_readFigure_X3 rfl (by decide) (fun _ => rfl) (by decide) fl_X3_readFigure_25 (fun _ => rfl) dX3_readFigure_32 ?_
      rw [hc]
      refine z_iload_n (pc := 35) hC (i := 3) dX3_readFigure_35 rfl rfl ?_
      refine z_iask (pc := 36) hC _ _ (by decide) (fun _ => rfl) rfl (by omega) (by decide) dX3_readFigure_36 ?_
      refine z_aload_n (pc := 37) hC (i := 0) dX3_readFigure_37 rfl rfl ?_
      refine z_dup (pc := 38) hC dX3_readFigure_38 rfl ?_
      have e6 := gt_n Ω1 (q := 12) (r := 10) c 6 (r1 - 48) (by decide)
      refine z_getI (C := RX3) (T := TX3) (N := 7) (ci := 3) (pc := 39) hC _ 6 in_X3_readFigure_X3 rfl (by decide) (fun _ => rfl) (by decide) fl_X3_readFigure_25 (fun _ => rfl) dX3_readFigure_39 ?_
      rw [e6, hc]
      refine z_iconst (pc := 42) hC dX3_readFigure_42 ?_
      refine z_iadd (pc := 43) hC dX3_readFigure_43 ?_
      refine z_putI (C := RX3) (T := TX3) (N := 7) (ci := 3) (pc := 44) hC _ 6 in_X3_readFigure_X3 rfl (by decide) (fun _ => rfl) (by decide) fl_X3_readFigure_25 tyX3_ok nmX3 rfl (by decide +kernel) (fun _ => Nat.le_of_ble_eq_true rfl) (fun _ _ => rfl) dX3_readFigure_44 ?_
      refine z_aload_n (pc := 47) hC (i := 0) dX3_readFigure_47 rfl rfl ?_
      refine z_dup (pc := 48) hC dX3_readFigure_48 rfl ?_
      have e3 : gt (ups (ups Ω1 12 c (r1 - 48)) 10 6 ((c : Int) + 1)) 10 3 = gt Ω1 10 3 := by rw [gt_sn _ _ _ (by decide : (3 : Nat) ≠ 6), gt_n _ _ _ _ (by decide : 10 ≠ 12)]
      refine z_getI (C := RX3) (T := TX3) (N := 7) (ci := 3) (pc := 49) hC _ 3 in_X3_readFigure_X3 rfl (by decide) (fun _ => rfl) (by decide) fl_X3_readFigure_22 (fun _ => rfl) dX3_readFigure_49 ?_
      rw [e3]
      refine z_iconst (pc := 52) hC dX3_readFigure_52 ?_
      refine z_iadd (pc := 53) hC dX3_readFigure_53 ?_
      refine z_putI (C := RX3) (T := TX3) (N := 7) (ci := 3) (pc := 54) hC _ 3 in_X3_readFigure_X3 rfl (by decide) (fun _ => rfl) (by decide) fl_X3_readFigure_22 tyX3_ok nmX3 rfl (by decide +kernel) (fun _ => Nat.le_of_ble_eq_true rfl) (fun _ _ => rfl) dX3_readFigure_54 ?_
      refine z_iconst (pc := 57) hC dX3_readFigure_57 ?_
      exact z_zret (b := true) (pc := 58) hC rfl ⟨true, rfl, ⟨by rw [rF_yes h14], by rw [rF_yes h14, hq1]; exact (rF_take hv1 hf1 hp1 hc (by omega) (sg_in (by omega)) ⟨by omega, by omega⟩).2.2, (rF_take hv1 hf1 hp1 hc (by omega) (sg_in (by omega)) ⟨by omega, by omega⟩).1, (rF_take hv1 hf1 hp1 hc (by omega) (sg_in (by omega)) ⟨by omega, by omega⟩).2.1⟩⟩ dX3_readFigure_58
    · refine z_iconst (pc := 25) hC dX3_readFigure_25 ?_
      exact z_zret (b := false) (pc := 26) hC rfl ⟨false, rfl, absurd hcp (by omega)⟩ dX3_readFigure_26
