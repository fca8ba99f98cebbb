/-! ===== the reader of THE TEXT ===== -/
def fup (f : Nat → Int) (k : Nat) (v : Int) : Nat → Int := fun j => if j = k then v else f j
theorem gt_fup (Ω : Mem) (q k : Nat) {v : Int} (h : zb v) : gt (ups Ω q k v) q = fup (gt Ω q) k v := by
  funext j
  unfold fup
  rw [gt_if Ω q k h]
  by_cases e : j = k <;> simp [e]
theorem ups_self (Ω : Mem) (q k : Nat) : ups Ω q k (gt Ω q k) = Ω := by
  funext r j
  unfold ups upc upd
  by_cases h : r = q
  · subst h
    by_cases h2 : j = k
    · subst h2; simp [zI_gt]
    · simp [h2]
  · simp [h]
theorem ups_ups (Ω : Mem) (q k : Nat) (a b : Int) : ups (ups Ω q k a) q k b = ups Ω q k b := by
  funext r j
  unfold ups upc upd
  by_cases h : r = q
  · subst h
    by_cases h2 : j = k <;> simp [h2]
  · simp [h]
def skf (T : Nat → Int) (L : Nat) : Nat → Nat → Nat
  | 0, p => p
  | n + 1, p => if p < L ∧ T p = 32 then skf T L n (p + 1) else p
def sk (T : Nat → Int) (L p : Nat) : Nat := skf T L (L - p) p
theorem sk_step {T : Nat → Int} {L p : Nat} (h : p < L) (h2 : T p = 32) : sk T L p = sk T L (p + 1) := by
  unfold sk
  obtain ⟨n, hn⟩ : ∃ n, L - p = n + 1 := ⟨L - p - 1, by omega⟩
  rw [hn, skf, if_pos ⟨h, h2⟩, show L - (p + 1) = n by omega]
theorem sk_stop {T : Nat → Int} {L p : Nat} (h : ¬ (p < L ∧ T p = 32)) : sk T L p = p := by
  unfold sk
  cases hn : L - p with
  | zero => rfl
  | succ n => rw [skf, if_neg h]
theorem skf_le (T : Nat → Int) (L : Nat) : ∀ n p, p ≤ skf T L n p ∧ skf T L n p ≤ p + n
  | 0, p => ⟨Nat.le_refl _, Nat.le_refl _⟩
  | n + 1, p => by
    rw [skf]
    have := skf_le T L n (p + 1)
    split <;> omega
theorem sk_le (T : Nat → Int) {L p : Nat} (h : p ≤ L) : p ≤ sk T L p ∧ sk T L p ≤ L := by
  have := skf_le T L (L - p) p
  unfold sk
  omega
theorem skf_at (T : Nat → Int) (L : Nat) : ∀ n p, L ≤ p + n → ¬ (skf T L n p < L ∧ T (skf T L n p) = 32)
  | 0, p, h => by rw [skf]; omega
  | n + 1, p, h => by
    rw [skf]
    by_cases c : p < L ∧ T p = 32
    · rw [if_pos c]; exact skf_at T L n (p + 1) (by omega)
    · rw [if_neg c]; exact c
theorem sk_at (T : Nat → Int) (L p : Nat) : ¬ (sk T L p < L ∧ T (sk T L p) = 32) := skf_at T L (L - p) p (by omega)
theorem sk_sk (T : Nat → Int) (L p : Nat) : sk T L (sk T L p) = sk T L p := sk_stop (sk_at T L p)
def sg (T : Nat → Int) (L p : Nat) : Int := if sk T L p < L then T (sk T L p) else -1
theorem sg_sk (T : Nat → Int) (L p : Nat) : sg T L (sk T L p) = sg T L p := by unfold sg; rw [sk_sk]
abbrev Ps : Type := Nat × Nat × (Nat → Int)
def rF (T : Nat → Int) (L : Nat) (a b : Int) (s : Ps) : Bool × Ps := if a ≤ sg T L s.1 - 48 ∧ sg T L s.1 - 48 ≤ b then (true, (sk T L s.1 + 1, s.2.1 + 1, fup s.2.2 s.2.1 (sg T L s.1 - 48))) else (false, (sk T L s.1, s.2))
def seqB (x : Bool × Ps) (g : Ps → Bool × Ps) : Bool × Ps := if x.1 = true then g x.2 else x
def rD (T : Nat → Int) (L : Nat) (x y : Int) (s : Ps) : Bool × Ps := seqB (rF T L 0 (x - 1) s) (rF T L 0 (y - 1))
def rE (T : Nat → Int) (L : Nat) (s : Ps) : Bool × Ps := if sg T L s.1 = 59 then (true, (sk T L s.1 + 1, s.2)) else (false, (sk T L s.1, s.2))
def rM (T : Nat → Int) (L : Nat) (x y : Int) (s : Ps) : Bool × Ps := if sg T L s.1 = 59 then (true, (sk T L s.1, s.2)) else rD T L x y (sk T L s.1, s.2)
/-- one order, behind its letter -/
def rO (T : Nat → Int) (L : Nat) (x y : Int) (k : Int) (s : Ps) : Bool × Ps :=
  if k = 102 ∨ k = 103 ∨ k = 110 then seqB (seqB (rD T L x y s) (rM T L x y)) (rE T L)
  else if k = 115 then seqB (seqB (rD T L x y s) (rF T L 0 9)) (rE T L)
  else if k = 108 then seqB (rF T L 1 9 s) (rE T L)
  else (false, s)
def isO (k : Int) : Prop := k = 102 ∨ k = 103 ∨ k = 110 ∨ k = 115 ∨ k = 108
/-- an order from place p on: whether it stands, and where the reader is then -/
def pO (T : Nat → Int) (L : Nat) (x y : Int) (p : Nat) (f : Nat → Int) : Bool × Ps := if sg T L p = 102 ∨ sg T L p = 103 ∨ sg T L p = 110 ∨ sg T L p = 115 ∨ sg T L p = 108 then rO T L x y (sg T L p) (sk T L p + 1, 0, f) else (false, (sk T L p, 0, f))
def psC (Ω : Mem) : Ps := ((gt Ω 10 3).toNat, (gt Ω 10 6).toNat, gt Ω 12)
/-- what the reader doesn't touch -/
def frS (Ω Ω1 : Mem) : Prop := (∀ q, q ≠ 10 → q ≠ 12 → Ω1 q = Ω q) ∧ gt Ω1 10 2 = gt Ω 10 2 ∧ gt Ω1 10 4 = gt Ω 10 4 ∧ gt Ω1 10 5 = gt Ω 10 5
theorem frS.trans {A B C : Mem} (h : frS A B) (h2 : frS B C) : frS A C := ⟨fun q a b => (h2.1 q a b).trans (h.1 q a b), h2.2.1.trans h.2.1, h2.2.2.1.trans h.2.2.1, h2.2.2.2.trans h.2.2.2⟩
theorem frS.refl (A : Mem) : frS A A := ⟨fun _ _ _ => rfl, rfl, rfl, rfl⟩
/-- the text and the reader's numbers are as they should be -/
def tok (Ω : Mem) : Prop := 0 ≤ gt Ω 10 2 ∧ gt Ω 10 2 ≤ 100 ∧ 0 ≤ gt Ω 10 3 ∧ gt Ω 10 3 ≤ gt Ω 10 2

theorem fl_X3_peekSign_22 : Cond.fieldLink RX3 22 "StrokeCuts$Script" "place" "I" ∈ wsX3_peekSign := by decide +kernel
theorem in_X3_peekSign_X3 : ∀ x ∈ u_ws RX3 TX3 7, x ∈ wsX3_peekSign := by decide +kernel
theorem fl_X3_peekSign_18 : Cond.fieldLink RX3 18 "StrokeCuts$Script" "length" "I" ∈ wsX3_peekSign := by decide +kernel
theorem fl_X3_peekSign_11 : Cond.fieldLink RX3 11 "StrokeCuts$Script" "bytes" "[I" ∈ wsX3_peekSign := by decide +kernel
set_option maxHeartbeats 4000000 in
set_option maxRecDepth 100000 in
theorem L_X3_peekSign_0 {E : zE} {w : zP} {l : Launch} {Post : Option Value → Mem → Prop} (hw : zOK w) (hC : zC E w l RX3 wsX3_peekSign cX3_peekSign 1 0 0 (some .int) Post) (Ω0 : Mem) (L e : Nat) (hL : gt Ω0 10 2 = L) (hL1 : L ≤ 100) (K : X E (ups Ω0 10 3 (e : Int)) 38 [some (.ref (wa w 10))] []) : ∀ (n : Nat) (p : Nat), L < p + n → (p ≤ L) → (sk (gt Ω0 11) L p = e) → X E (ups Ω0 10 3 (p : Int)) 0 [some (.ref (wa w 10))] [] := by
  intro n
  induction n with
  | zero =>
    intro p hfu hp hs
    exact absurd hfu (by omega)
  | succ n ih =>
    intro p hfu hp hs
    have e2 : gt (ups Ω0 10 3 (p : Int)) 10 2 = L := by rw [gt_sn _ _ _ (by decide : (2 : Nat) ≠ 3)]; exact hL
    have e3 : gt (ups Ω0 10 3 (p : Int)) 10 3 = p := gt_s _ _ _ ⟨by omega, by omega⟩
    have e1 : ∀ k, gt (ups Ω0 10 3 (p : Int)) 11 k = gt Ω0 11 k := fun k => gt_n _ _ _ _ (by decide)
    refine z_aload_n (pc := 0) hC (i := 0) dX3_peekSign_0 rfl rfl ?_
    refine z_getI (C := RX3) (T := TX3) (N := 7) (ci := 3) (pc := 1) hC _ 3 in_X3_peekSign_X3 rfl (by decide) (fun _ => rfl) (by decide) fl_X3_peekSign_22 (fun _ => rfl) dX3_peekSign_1 ?_
    refine z_aload_n (pc := 4) hC (i := 0) dX3_peekSign_4 rfl rfl ?_
    refine z_getI (C := RX3) (T := TX3) (N := 7) (ci := 3) (pc := 5) hC _ 2 in_X3_peekSign_X3 rfl (by decide) (fun _ => rfl) (by decide) fl_X3_peekSign_18 (fun _ => rfl) dX3_peekSign_5 ?_
    rw [e2, e3]
    refine z_icmp_ge (pc := 8) hC 38 (by first | assumption | exact zb_gt _ _ _ | exact zcmp_zb _ _ | exact bI_zb _ | exact ⟨by omega, by omega⟩) (by first | assumption | exact zb_gt _ _ _ | exact zcmp_zb _ _ | exact bI_zb _ | exact ⟨by omega, by omega⟩) dX3_peekSign_8 rfl (fun h8 => ?_) (fun h8 => ?_)
    · obtain rfl : p = e := by rw [← hs]; exact (sk_stop (fun q => by omega)).symm
      exact K
    · refine z_aload_n (pc := 11) hC (i := 0) dX3_peekSign_11 rfl rfl ?_
      refine z_getR (C := RX3) (T := TX3) (N := 7) (ci := 3) (pc := 12) hC _ _ 0 in_X3_peekSign_X3 rfl (by decide) (fun _ => rfl) (by decide) fl_X3_peekSign_11 (fun _ => rfl) dX3_peekSign_12 ?_
      refine z_aload_n (pc := 15) hC (i := 0) dX3_peekSign_15 rfl rfl ?_
      refine z_getI (C := RX3) (T := TX3) (N := 7) (ci := 3) (pc := 16) hC _ 3 in_X3_peekSign_X3 rfl (by decide) (fun _ => rfl) (by decide) fl_X3_peekSign_22 (fun _ => rfl) dX3_peekSign_16 ?_
      rw [e3]
      refine z_ialk (pc := 19) hC _ _ (by decide) (fun _ => rfl) rfl (by omega) (by decide) dX3_peekSign_19 ?_
      rw [e1]
      refine z_bipush (pc := 20) hC dX3_peekSign_20 rfl ?_
      refine z_icmp_ne (pc := 22) hC 38 (by first | assumption | exact zb_gt _ _ _ | exact zcmp_zb _ _ | exact bI_zb _ | exact ⟨by omega, by omega⟩) (by first | assumption | exact zb_gt _ _ _ | exact zcmp_zb _ _ | exact bI_zb _ | exact ⟨by omega, by omega⟩) dX3_peekSign_22 rfl (fun h22 => ?_) (fun h22 => ?_)
      · obtain rfl : p = e := by rw [← hs]; exact (sk_stop (fun q => h22 q.2)).symm
        exact K
      · refine z_aload_n (pc := 25) hC (i := 0) dX3_peekSign_25 rfl rfl ?_
        refine z_dup (pc := 26) hC dX3_peekSign_26 rfl ?_
        refine z_getI (C := RX3) (T := TX3) (N := 7) (ci := 3) (pc := 27) hC _ 3 in_X3_peekSign_X3 rfl (by decide) (fun _ => rfl) (by decide) fl_X3_peekSign_22 (fun _ => rfl) dX3_peekSign_27 ?_
        rw [e3]
        refine z_iconst (pc := 30) hC dX3_peekSign_30 ?_
        refine z_iadd (pc := 31) hC dX3_peekSign_31 ?_
        refine z_putI (C := RX3) (T := TX3) (N := 7) (ci := 3) (pc := 32) hC _ 3 in_X3_peekSign_X3 rfl (by decide) (fun _ => rfl) (by decide) fl_X3_peekSign_22 tyX3_ok nmX3 rfl (by decide +kernel) (fun _ => Nat.le_of_ble_eq_true rfl) (fun _ _ => rfl) dX3_peekSign_32 ?_
        refine z_goto (pc := 35) hC 0 dX3_peekSign_35 rfl ?_
        rw [ups_ups]
        exact ih (p + 1) (by omega) (by omega) (by rw [← hs]; exact (sk_step (by omega) h22).symm)
set_option maxHeartbeats 4000000 in
set_option maxRecDepth 100000 in
theorem c_X3_peekSign (l : Launch) (w : zP) (hw : zOK w) (Ω : Mem) (hv : tok Ω) : zM l w yX3_peekSign wsX3_peekSign 0 0 [.ref (wa w 10)] Ω (zi (fun r Ω1 => r = sg (gt Ω 11) (gt Ω 10 2).toNat (gt Ω 10 3).toNat ∧ Ω1 = ups Ω 10 3 (sk (gt Ω 11) (gt Ω 10 2).toNat (gt Ω 10 3).toNat))) := by
  refine zM_of cX3_peekSign 1 (some .int) RX3 [some (.ref (wa w 10))] hw (by decide +kernel) rfl rfl (Nat.le_of_ble_eq_true rfl) rfl (fun E hC => ?_)
  obtain ⟨h1, h2, h3, h4⟩ := hv
  obtain ⟨L, hL⟩ := nat_of h1
  obtain ⟨p, hp⟩ := nat_of h3
  obtain ⟨e, he⟩ : ∃ e, sk (gt Ω 11) L p = e := ⟨_, rfl⟩
  have hle := sk_le (gt Ω 11) (L := L) (p := p) (by omega)
  rw [← ups_self Ω 10 3, hp]
  refine L_X3_peekSign_0 hw hC Ω L e hL (by omega) ?_ (L + 1) p (by omega) (by omega) he
  have e2 : gt (ups Ω 10 3 (e : Int)) 10 2 = L := by rw [gt_sn _ _ _ (by decide : (2 : Nat) ≠ 3)]; exact hL
  have e3 : gt (ups Ω 10 3 (e : Int)) 10 3 = e := gt_s _ _ _ ⟨by omega, by omega⟩
  have e1 : ∀ k, gt (ups Ω 10 3 (e : Int)) 11 k = gt Ω 11 k := fun k => gt_n _ _ _ _ (by decide)
  refine z_aload_n (pc := 38) hC (i := 0) dX3_peekSign_38 rfl rfl ?_
  refine z_getI (C := RX3) (T := TX3) (N := 7) (ci := 3) (pc := 39) hC _ 3 in_X3_peekSign_X3 rfl (by decide) (fun _ => rfl) (by decide) fl_X3_peekSign_22 (fun _ => rfl) dX3_peekSign_39 ?_
  refine z_aload_n (pc := 42) hC (i := 0) dX3_peekSign_42 rfl rfl ?_
  refine z_getI (C := RX3) (T := TX3) (N := 7) (ci := 3) (pc := 43) hC _ 2 in_X3_peekSign_X3 rfl (by decide) (fun _ => rfl) (by decide) fl_X3_peekSign_18 (fun _ => rfl) dX3_peekSign_43 ?_
  rw [e2, e3]
  refine z_icmp_ge (pc := 46) hC 61 (by first | assumption | exact zb_gt _ _ _ | exact zcmp_zb _ _ | exact bI_zb _ | exact ⟨by omega, by omega⟩) (by first | assumption | exact zb_gt _ _ _ | exact zcmp_zb _ _ | exact bI_zb _ | exact ⟨by omega, by omega⟩) dX3_peekSign_46 rfl (fun h46 => ?_) (fun h46 => ?_)
  · refine z_iconst (pc := 61) hC dX3_peekSign_61 ?_
    exact z_iret (pc := 62) hC rfl ⟨_, rfl, ⟨by rw [hL, Int.toNat_natCast, hp, Int.toNat_natCast]; unfold sg; rw [he, if_neg (by omega)], by rw [hL, Int.toNat_natCast, hp, Int.toNat_natCast, he]⟩⟩ dX3_peekSign_62
  · refine z_aload_n (pc := 49) hC (i := 0) dX3_peekSign_49 rfl rfl ?_
    refine z_getR (C := RX3) (T := TX3) (N := 7) (ci := 3) (pc := 50) hC _ _ 0 in_X3_peekSign_X3 rfl (by decide) (fun _ => rfl) (by decide) fl_X3_peekSign_11 (fun _ => rfl) dX3_peekSign_50 ?_
    refine z_aload_n (pc := 53) hC (i := 0) dX3_peekSign_53 rfl rfl ?_
    refine z_getI (C := RX3) (T := TX3) (N := 7) (ci := 3) (pc := 54) hC _ 3 in_X3_peekSign_X3 rfl (by decide) (fun _ => rfl) (by decide) fl_X3_peekSign_22 (fun _ => rfl) dX3_peekSign_54 ?_
    rw [e3]
    refine z_ialk (pc := 57) hC _ _ (by decide) (fun _ => rfl) rfl (by omega) (by decide) dX3_peekSign_57 ?_
    rw [e1]
    refine z_goto (pc := 58) hC 62 dX3_peekSign_58 rfl ?_
    exact z_iret (pc := 62) hC rfl ⟨_, rfl, ⟨by rw [hL, Int.toNat_natCast, hp, Int.toNat_natCast]; unfold sg; rw [he, if_pos (by omega)], by rw [hL, Int.toNat_natCast, hp, Int.toNat_natCast, he]⟩⟩ dX3_peekSign_62
