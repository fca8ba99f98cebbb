theorem zM_ofF {l : Launch} {w : zP} {y : MethodName} {ws ws' : List Cond} {fr lo : Nat} {Av : List Value} {Ω : Mem} {Post : Option Value → Mem → Prop} (cc : ByteArray) (nL : Nat) (ret : Option FieldType) (own : String) (lv : List (Option Value)) (hw : zOK w) (hy : plainFor y = true) (hws : ws = Cond.code y cc nL ret :: ws') (hcls : y.cls = own) (hlen : (lg_sl Av).length ≤ nL) (hlv : zen Av ++ List.replicate (nL - (zen Av).length) none = lv)
    (body : ∀ E : zE, zC E w l own ws cc nL fr lo ret Post → X E Ω 0 lv []) : zM l w y ws fr lo Av Ω Post := by
  refine va_MetF (cc := cc) (maxL := nL) (ret := ret) hy hws ?_
  intro p e s m args below meth c s₁ B hml hv
  obtain ⟨rfl, hP, hK, hSt⟩ := hv
  have hk := body (p, l, e, _, s, m, Av.toArray, below, meth, c, w, nL, MQ below (zQ w Post) Av.toArray s 0 0 (zA w)) ⟨B.exec, B.bytes, hml, by rw [← hcls]; exact findClass_of_methodNamed B.named, atoms_spec (ws := ws) B.pre, hK, B.notSynchronized, hw, hSt, rfl, B.returns, rfl, rfl, rfl, rfl⟩
  rw [lg_entry_eq]
  rw [← hlv] at hk
  exact hk s.heap [] _ hP va_S.rf (zL.entry Av hlen)
def sfH (σ : Sg) (p : Nat → Bool) (v : Int) (n : Nat) : Sg := fun i => if 8 ≤ i ∧ i < 8 + n ∧ p (i - 8) = true then v else σ i
theorem sfH_0 (σ : Sg) (p : Nat → Bool) (v : Int) : sfH σ p v 0 = σ := by
  funext i; unfold sfH; rw [if_neg (by omega)]
theorem sfH_s (σ : Sg) (p : Nat → Bool) (v : Int) (n : Nat) (h : p n = true) : sup (sfH σ p v n) (8 + n) v = sfH σ p v (n + 1) := by
  funext i
  unfold sup sfH
  by_cases e : i = 8 + n
  · subst e; rw [if_pos rfl, if_pos ⟨by omega, by omega, by rw [Nat.add_sub_cancel_left]; exact h⟩]
  · rw [if_neg e]
    by_cases c : 8 ≤ i ∧ i < 8 + n ∧ p (i - 8) = true
    · rw [if_pos c, if_pos ⟨c.1, by omega, c.2.2⟩]
    · rw [if_neg c, if_neg (fun q => c ⟨q.1, by omega, q.2.2⟩)]
theorem sfH_n (σ : Sg) (p : Nat → Bool) (v : Int) (n : Nat) (h : ¬ p n = true) : sfH σ p v n = sfH σ p v (n + 1) := by
  funext i
  unfold sfH
  by_cases c : 8 ≤ i ∧ i < 8 + n ∧ p (i - 8) = true
  · rw [if_pos c, if_pos ⟨c.1, by omega, c.2.2⟩]
  · rw [if_neg c]
    by_cases c2 : 8 ≤ i ∧ i < 8 + (n + 1) ∧ p (i - 8) = true
    · have e : i = 8 + n := by
        by_cases q : i < 8 + n
        · exact absurd ⟨c2.1, q, c2.2.2⟩ c
        · omega
      subst e
      rw [Nat.add_sub_cancel_left] at c2
      exact absurd c2.2.2 h
    · rw [if_neg c2]
def nearB (σ : Sg) (x y r : Int) (u : Nat) : Bool := decide (zabs (((u % sw σ : Nat) : Int) - x) + zabs (((u / sw σ : Nat) : Int) - y) ≤ r)
def nearC (σ : Sg) (x y r : Int) : Nat → Int := sm (fun u => if nearB σ x y r u = true then 1 else 0)

theorem fl_X2_shadeAround_21 : Cond.fieldLink RX2 21 "StrokeCuts$Scene" "width" "I" ∈ wsX2_shadeAround := by decide +kernel
theorem in_X2_shadeAround_X2 : ∀ x ∈ u_ws RX2 TX2 5, x ∈ wsX2_shadeAround := by decide +kernel
theorem ml_X2_shadeAround_52 : Cond.methodLink RX2 52 Lib.Math.abs.name ∈ wsX2_shadeAround := by decide +kernel
theorem ms_X2_shadeAround_abs : Cond.static Lib.Math.abs.name ∈ wsX2_shadeAround := by decide +kernel
theorem mi_X2_shadeAround_Math : Cond.initialized "java/lang/Math" ∈ wsX2_shadeAround := by decide +kernel
theorem mc_X2_shadeAround_abs : Cond.code Lib.Math.abs.name Lib.Math.abs.code 1 (some .int) ∈ wsX2_shadeAround := by decide +kernel
theorem fl_X2_shadeAround_15 : Cond.fieldLink RX2 15 "StrokeCuts$Scene" "shades" "[I" ∈ wsX2_shadeAround := by decide +kernel
set_option maxHeartbeats 4000000 in
set_option maxRecDepth 100000 in
theorem L_X2_shadeAround_18 {E : zE} {w : zP} {l : Launch} {Post : Option Value → Mem → Prop} (hw : zOK w) (hC : zC E w l RX2 wsX2_shadeAround cX2_shadeAround 8 1 22 (some .int) Post) (Ω0 : Mem) (x y r v : Int) (hv : scok (scC Ω0)) (hx : 0 ≤ x ∧ x ≤ 6) (hy : 0 ≤ y ∧ y ≤ 6) (hr : 0 ≤ r ∧ r ≤ 10) (hvv : 0 ≤ v ∧ v ≤ 9) (B : Nat) (hY : B < sh (scC Ω0)) (K : ∀ Ω : Mem, scC Ω = sfH (scC Ω0) (nearB (scC Ω0) x y r) v (sw (scC Ω0) * B + sw (scC Ω0)) → (∀ q, q ≠ 15 → Ω q = Ω0 q) → X E Ω 70 [some (.ref (wa w 13)), some (.int (zI x)), some (.int (zI y)), some (.int (zI r)), some (.int (zI v)), some (.int (zI (nearC (scC Ω0) x y r (sw (scC Ω0) * B + sw (scC Ω0))))), some (.int (zI (B : Int))), some (.int (zI ((sw (scC Ω0) : Nat) : Int)))] []) : ∀ (n : Nat) (A : Nat) (Ω : Mem), sw (scC Ω0) < A + n → (A ≤ sw (scC Ω0)) → (scC Ω = sfH (scC Ω0) (nearB (scC Ω0) x y r) v (sw (scC Ω0) * B + A)) → (∀ q, q ≠ 15 → Ω q = Ω0 q) → X E Ω 18 [some (.ref (wa w 13)), some (.int (zI x)), some (.int (zI y)), some (.int (zI r)), some (.int (zI v)), some (.int (zI (nearC (scC Ω0) x y r (sw (scC Ω0) * B + A)))), some (.int (zI (B : Int))), some (.int (zI (A : Int)))] [] := by
  intro n
  induction n with
  | zero =>
    intro A Ω hfu hX hs hF
    exact absurd hfu (by omega)
  | succ n ih =>
    intro A Ω hfu hX hs hF
    have hW := sw_eq hv
    have hH := sh_eq hv
    rw [scC_0] at hW
    rw [scC_1] at hH
    have hD := sdots_le hv
    have e0 := gt_fr (hF 13 (by decide)) 0
    have e1 := gt_fr (hF 13 (by decide)) 1
    refine z_iload (pc := 18) hC (i := 7) dX2_shadeAround_18 rfl ?_
    refine z_aload_n (pc := 20) hC (i := 0) dX2_shadeAround_20 rfl rfl ?_
    refine z_getI (C := RX2) (T := TX2) (N := 5) (ci := 2) (pc := 21) hC _ 0 in_X2_shadeAround_X2 rfl (by decide) (fun _ => rfl) (by decide) fl_X2_shadeAround_21 (fun _ => rfl) dX2_shadeAround_21 ?_
    rw [e0]
    refine z_icmp_ge (pc := 24) hC 70 (by first | assumption | exact zb_gt _ _ _ | exact zcmp_zb _ _ | exact bI_zb _ | exact ⟨by omega, by omega⟩) (by first | assumption | exact zb_gt _ _ _ | exact zcmp_zb _ _ | exact bI_zb _ | exact ⟨by omega, by omega⟩) dX2_shadeAround_24 rfl (fun h24 => ?_) (fun h24 => ?_)
    · obtain rfl : A = sw (scC Ω0) := by omega
      exact K _ hs hF
    · refine z_iload (pc := 27) hC (i := 7) dX2_shadeAround_27 rfl ?_
      refine z_iload_n (pc := 29) hC (i := 1) dX2_shadeAround_29 rfl rfl ?_
      refine z_isub (pc := 30) hC dX2_shadeAround_30 ?_
      refine z_mabs (pc := 31) hC (by first | assumption | exact zb_gt _ _ _ | exact zcmp_zb _ _ | exact bI_zb _ | exact ⟨by omega, by omega⟩) ml_X2_shadeAround_52 ms_X2_shadeAround_abs mi_X2_shadeAround_Math mc_X2_shadeAround_abs (by decide) (Nat.le_of_ble_eq_true rfl) dX2_shadeAround_31 ?_
      refine z_iload (pc := 34) hC (i := 6) dX2_shadeAround_34 rfl ?_
      refine z_iload_n (pc := 36) hC (i := 2) dX2_shadeAround_36 rfl rfl ?_
      refine z_isub (pc := 37) hC dX2_shadeAround_37 ?_
      refine z_mabs (pc := 38) hC (by first | assumption | exact zb_gt _ _ _ | exact zcmp_zb _ _ | exact bI_zb _ | exact ⟨by omega, by omega⟩) ml_X2_shadeAround_52 ms_X2_shadeAround_abs mi_X2_shadeAround_Math mc_X2_shadeAround_abs (by decide) (Nat.le_of_ble_eq_true rfl) dX2_shadeAround_38 ?_
      have hzx := zabs_le (a := (A : Int) - x) (b := 6) (by omega) (by omega)
      have hzy := zabs_le (a := (B : Int) - y) (b := 6) (by omega) (by omega)
      have hlt := sw_lt hv (x := A) (y := B) (by omega) hY
      have hmod := sw_mod (σ := scC Ω0) (x := A) (y := B) (by omega)
      refine z_iadd (pc := 41) hC dX2_shadeAround_41 ?_
      refine z_iload_n (pc := 42) hC (i := 3) dX2_shadeAround_42 rfl rfl ?_
      refine z_icmp_gt (pc := 43) hC 64 (by first | assumption | exact zb_gt _ _ _ | exact zcmp_zb _ _ | exact bI_zb _ | exact ⟨by omega, by omega⟩) (by first | assumption | exact zb_gt _ _ _ | exact zcmp_zb _ _ | exact bI_zb _ | exact ⟨by omega, by omega⟩) dX2_shadeAround_43 rfl (fun h43 => ?_) (fun h43 => ?_)
      · refine z_iinc (pc := 64) hC (i := 7) dX2_shadeAround_64 rfl (by decide) rfl (zS_s (zS_s (zS_s (zS_s (zS_s (zS_s (zS_s zS_0))))))) ?_
        refine z_goto (pc := 67) hC 18 dX2_shadeAround_67 rfl ?_
        have hn : ¬ nearB (scC Ω0) x y r (sw (scC Ω0) * B + A) = true := by
          unfold nearB
          rw [hmod.1, hmod.2]
          simpa using h43
        have hc : nearC (scC Ω0) x y r (sw (scC Ω0) * B + (A + 1)) = nearC (scC Ω0) x y r (sw (scC Ω0) * B + A) := by
          unfold nearC
          rw [← Nat.add_assoc, sm_s, if_neg hn]; omega
        have hh := ih (A + 1) _ (by omega) (by omega) (by rw [hs]; exact sfH_n _ _ _ _ hn) (hF)
        rw [hc] at hh
        exact hh
      · refine z_aload_n (pc := 46) hC (i := 0) dX2_shadeAround_46 rfl rfl ?_
        refine z_getR (C := RX2) (T := TX2) (N := 5) (ci := 2) (pc := 47) hC (.ref (wa w 15)) _ 3 in_X2_shadeAround_X2 rfl (by decide) (fun _ => rfl) (by decide) fl_X2_shadeAround_15 (fun _ => rfl) dX2_shadeAround_47 ?_
        refine z_aload_n (pc := 50) hC (i := 0) dX2_shadeAround_50 rfl rfl ?_
        refine z_iload (pc := 51) hC (i := 7) dX2_shadeAround_51 rfl ?_
        refine z_iload (pc := 53) hC (i := 6) dX2_shadeAround_53 rfl ?_
        refine z_callV (n := 2) (T := TX2) (N := 5) (ci := 2) (pc := 55) hC (c_X2_numberOf l w hw _ _ _) gX2_shadeAround_X2_numberOf rfl (by decide +kernel) (by decide) (by decide) rfl (by decide) (fun _ => rfl) rfl rfl (Nat.le_of_ble_eq_true rfl) dX2_shadeAround_55 (zi_k fun r55 Ω55 h55 => ?_)
        obtain ⟨rfl, hM55⟩ := h55
        obtain rfl := hM55.symm
        rw [e0, show gt Ω0 13 0 * (B : Int) + (A : Int) = ((sw (scC Ω0) * B + A : Nat) : Int) from sw_num hv A B]
        refine z_iload (pc := 58) hC (i := 4) dX2_shadeAround_58 rfl ?_
        refine z_iask (pc := 60) hC _ (sw (scC Ω0) * B + A) (by decide) (fun _ => rfl) rfl (by omega) (by decide) dX2_shadeAround_60 ?_
        refine z_iinc (pc := 61) hC (i := 5) dX2_shadeAround_61 rfl (by decide) rfl (zS_s (zS_s (zS_s (zS_s (zS_s zS_0))))) ?_
        refine z_iinc (pc := 64) hC (i := 7) dX2_shadeAround_64 rfl (by decide) rfl (zS_s (zS_s (zS_s (zS_s (zS_s (zS_s (zS_s zS_0))))))) ?_
        refine z_goto (pc := 67) hC 18 dX2_shadeAround_67 rfl ?_
        have hn : nearB (scC Ω0) x y r (sw (scC Ω0) * B + A) = true := by
          unfold nearB
          rw [hmod.1, hmod.2]
          exact decide_eq_true h43
        have hc : nearC (scC Ω0) x y r (sw (scC Ω0) * B + (A + 1)) = nearC (scC Ω0) x y r (sw (scC Ω0) * B + A) + 1 := by
          unfold nearC
          rw [← Nat.add_assoc, sm_s, if_pos hn]
        have hh := ih (A + 1) _ (by omega) (by omega) (by rw [scC_upsh _ (k := sw (scC Ω0) * B + A) (v := v) (by omega) ⟨by omega, by omega⟩, hs, sfH_s _ _ _ _ hn]; rfl) (fun q h1 => by rw [ups_n _ _ _ h1]; exact hF q h1)
        rw [hc] at hh
        exact hh
theorem fl_X2_shadeAround_25 : Cond.fieldLink RX2 25 "StrokeCuts$Scene" "height" "I" ∈ wsX2_shadeAround := by decide +kernel
set_option maxHeartbeats 4000000 in
set_option maxRecDepth 100000 in
theorem L_X2_shadeAround_6 {E : zE} {w : zP} {l : Launch} {Post : Option Value → Mem → Prop} (hw : zOK w) (hC : zC E w l RX2 wsX2_shadeAround cX2_shadeAround 8 1 22 (some .int) Post) (Ω0 : Mem) (x y r v : Int) (hv : scok (scC Ω0)) (hx : 0 ≤ x ∧ x ≤ 6) (hy : 0 ≤ y ∧ y ≤ 6) (hr : 0 ≤ r ∧ r ≤ 10) (hvv : 0 ≤ v ∧ v ≤ 9) (K : ∀ (Ω : Mem) (o7 : Option Value), scC Ω = sfH (scC Ω0) (nearB (scC Ω0) x y r) v (sw (scC Ω0) * sh (scC Ω0)) → (∀ q, q ≠ 15 → Ω q = Ω0 q) → X E Ω 76 [some (.ref (wa w 13)), some (.int (zI x)), some (.int (zI y)), some (.int (zI r)), some (.int (zI v)), some (.int (zI (nearC (scC Ω0) x y r (sw (scC Ω0) * sh (scC Ω0))))), some (.int (zI ((sh (scC Ω0) : Nat) : Int))), o7] []) : ∀ (n : Nat) (B : Nat) (Ω : Mem) (o7 : Option Value), sh (scC Ω0) < B + n → (B ≤ sh (scC Ω0)) → (scC Ω = sfH (scC Ω0) (nearB (scC Ω0) x y r) v (sw (scC Ω0) * B)) → (∀ q, q ≠ 15 → Ω q = Ω0 q) → X E Ω 6 [some (.ref (wa w 13)), some (.int (zI x)), some (.int (zI y)), some (.int (zI r)), some (.int (zI v)), some (.int (zI (nearC (scC Ω0) x y r (sw (scC Ω0) * B)))), some (.int (zI (B : Int))), o7] [] := by
  intro n
  induction n with
  | zero =>
    intro B Ω o7 hfu hY hs hF
    exact absurd hfu (by omega)
  | succ n ih =>
    intro B Ω o7 hfu hY hs hF
    have hW := sw_eq hv
    have hH := sh_eq hv
    rw [scC_0] at hW
    rw [scC_1] at hH
    have e1 := gt_fr (hF 13 (by decide)) 1
    refine z_iload (pc := 6) hC (i := 6) dX2_shadeAround_6 rfl ?_
    refine z_aload_n (pc := 8) hC (i := 0) dX2_shadeAround_8 rfl rfl ?_
    refine z_getI (C := RX2) (T := TX2) (N := 5) (ci := 2) (pc := 9) hC _ 1 in_X2_shadeAround_X2 rfl (by decide) (fun _ => rfl) (by decide) fl_X2_shadeAround_25 (fun _ => rfl) dX2_shadeAround_9 ?_
    rw [e1]
    refine z_icmp_ge (pc := 12) hC 76 (by first | assumption | exact zb_gt _ _ _ | exact zcmp_zb _ _ | exact bI_zb _ | exact ⟨by omega, by omega⟩) (by first | assumption | exact zb_gt _ _ _ | exact zcmp_zb _ _ | exact bI_zb _ | exact ⟨by omega, by omega⟩) dX2_shadeAround_12 rfl (fun h12 => ?_) (fun h12 => ?_)
    · obtain rfl : B = sh (scC Ω0) := by omega
      exact K _ _ hs hF
    · refine z_iconst (pc := 15) hC dX2_shadeAround_15 ?_
      refine z_istore (pc := 16) hC (i := 7) dX2_shadeAround_16 (by decide) rfl (zS_s (zS_s (zS_s (zS_s (zS_s (zS_s (zS_s zS_0))))))) ?_
      refine L_X2_shadeAround_18 hw hC Ω0 x y r v hv hx hy hr hvv B (by omega) (fun Ω1 hs1 hF1 => ?_) (sw (scC Ω0) + 1) 0 Ω (by omega) (by omega) hs hF
      refine z_iinc (pc := 70) hC (i := 6) dX2_shadeAround_70 rfl (by decide) rfl (zS_s (zS_s (zS_s (zS_s (zS_s (zS_s zS_0)))))) ?_
      refine z_goto (pc := 73) hC 6 dX2_shadeAround_73 rfl ?_
      have hh := ih (B + 1) Ω1 (some (.int (zI ((sw (scC Ω0) : Nat) : Int)))) (by omega) (by omega) (by rw [Nat.mul_add, Nat.mul_one]; exact hs1) hF1
      rw [Nat.mul_add, Nat.mul_one] at hh
      exact hh
set_option maxHeartbeats 4000000 in
set_option maxRecDepth 100000 in
theorem c_X2_shadeAround (l : Launch) (w : zP) (hw : zOK w) (Ω : Mem) (x y r v : Int) (hv : scok (scC Ω)) (hx : 0 ≤ x ∧ x ≤ 6) (hy : 0 ≤ y ∧ y ≤ 6) (hr : 0 ≤ r ∧ r ≤ 10) (hvv : 0 ≤ v ∧ v ≤ 9) : zM l w yX2_shadeAround wsX2_shadeAround 1 22 [.ref (wa w 13), .int (zI x), .int (zI y), .int (zI r), .int (zI v)] Ω (zi (fun t Ω1 => t = nearC (scC Ω) x y r (sdots (scC Ω)) ∧ scC Ω1 = sfH (scC Ω) (nearB (scC Ω) x y r) v (sdots (scC Ω)) ∧ ∀ q, q ≠ 15 → Ω1 q = Ω q)) := by
  refine zM_of cX2_shadeAround 8 (some .int) RX2 [some (.ref (wa w 13)), some (.int (zI x)), some (.int (zI y)), some (.int (zI r)), some (.int (zI v)), none, none, none] hw (by decide +kernel) rfl rfl (Nat.le_of_ble_eq_true rfl) rfl (fun E hC => ?_)
  refine z_iconst (pc := 0) hC dX2_shadeAround_0 ?_
  refine z_istore (pc := 1) hC (i := 5) dX2_shadeAround_1 (by decide) rfl (zS_s (zS_s (zS_s (zS_s (zS_s zS_0))))) ?_
  refine z_iconst (pc := 3) hC dX2_shadeAround_3 ?_
  refine z_istore (pc := 4) hC (i := 6) dX2_shadeAround_4 (by decide) rfl (zS_s (zS_s (zS_s (zS_s (zS_s (zS_s zS_0)))))) ?_
  refine L_X2_shadeAround_6 hw hC Ω x y r v hv hx hy hr hvv (fun Ω1 o7 hs hF => ?_) (sh (scC Ω) + 1) 0 Ω none (by omega) (by omega) (sfH_0 _ _ _).symm (fun _ _ => rfl)
  refine z_iload (pc := 76) hC (i := 5) dX2_shadeAround_76 rfl ?_
  exact z_iret (pc := 78) hC rfl ⟨_, rfl, ⟨by rw [sdots_mul hv], by rw [sdots_mul hv]; exact hs, hF⟩⟩ dX2_shadeAround_78
theorem xor_sign {a b : Int} (ha : zb a) (hb : zb b) (h : 0 < b) : 0 ≤ (zI a ^^^ zI b).toInt ↔ 0 ≤ a := by
  have m1 : ∀ x : Int32, x.toBitVec.msb = decide (x.toInt < 0) := fun x => BitVec.msb_eq_toInt
  have e := m1 (zI a ^^^ zI b)
  rw [Int32.toBitVec_xor, BitVec.msb_xor, m1, m1, zI_toInt ha, zI_toInt hb, decide_eq_false (show ¬ b < 0 by omega)] at e
  have e2 : decide (a < 0) = decide ((zI a ^^^ zI b).toInt < 0) := by simpa using e
  constructor
  · intro q
    have : decide ((zI a ^^^ zI b).toInt < 0) = false := decide_eq_false (by omega)
    rw [this] at e2
    have := of_decide_eq_false e2
    omega
  · intro q
    have : decide (a < 0) = false := decide_eq_false (by omega)
    rw [this] at e2
    have := of_decide_eq_false e2.symm
    omega
theorem tdiv_mul_b {a b : Int} (ha : -1000000 ≤ a ∧ a ≤ 1000000) : zb (Int.tdiv a b * b) := by
  have h1 : (Int.tdiv a b * b).natAbs ≤ a.natAbs := by
    rw [Int.natAbs_mul, Int.natAbs_tdiv]
    exact Nat.div_mul_le_self _ _
  exact ⟨by omega, by omega⟩
theorem fdiv_case1 {a b : Int} (h : 0 ≤ a ∨ Int.tdiv a b * b = a) : Int.tdiv a b = a / b := by
  rw [Int.tdiv_eq_ediv, if_pos]
  · omega
  · rcases h with h | h
    · exact Or.inl h
    · exact Or.inr ⟨Int.tdiv a b, by rw [Int.mul_comm]; exact h.symm⟩
theorem fdiv_case2 {a b : Int} (hb : 0 < b) (h : a < 0) (h2 : Int.tdiv a b * b ≠ a) : Int.tdiv a b - 1 = a / b := by
  rw [Int.tdiv_eq_ediv, if_neg, Int.sign_eq_one_of_pos hb]
  · omega
  · rintro (q | q)
    · omega
    · exact h2 (Int.tdiv_mul_cancel q)

set_option maxHeartbeats 4000000 in
set_option maxRecDepth 100000 in
theorem c_J9_floorDiv_7cf53 (l : Launch) (w : zP) (hw : zOK w) (Ω : Mem) (a b : Int) (ha : -1000000 ≤ a ∧ a ≤ 1000000) (hb : 0 < b) (hb2 : b ≤ 1000000) : zM l w yJ9_floorDiv_7cf53 wsJ9_floorDiv_7cf53 0 0 [.int (zI a), .int (zI b)] Ω (zi (fun r Ω1 => r = a / b ∧ Ω1 = Ω)) := by
  refine zM_ofF cJ9_floorDiv_7cf53 3 (some .int) RJ9 [some (.int (zI a)), some (.int (zI b)), none] hw (by decide +kernel) rfl rfl (Nat.le_of_ble_eq_true rfl) rfl (fun E hC => ?_)
  refine z_iload_n (pc := 0) hC (i := 0) dJ9_floorDiv_7cf53_0 rfl rfl ?_
  refine z_iload_n (pc := 1) hC (i := 1) dJ9_floorDiv_7cf53_1 rfl rfl ?_
  refine z_idiv (pc := 2) hC ⟨by omega, by omega⟩ ⟨by omega, by omega⟩ hb dJ9_floorDiv_7cf53_2 ?_
  refine z_istore_n (pc := 3) hC (i := 2) dJ9_floorDiv_7cf53_3 rfl (by decide) rfl (zS_s (zS_s zS_0)) ?_
  refine z_iload_n (pc := 4) hC (i := 0) dJ9_floorDiv_7cf53_4 rfl rfl ?_
  refine z_iload_n (pc := 5) hC (i := 1) dJ9_floorDiv_7cf53_5 rfl rfl ?_
  refine z_ixor (pc := 6) hC ((zI a ^^^ zI b).toInt) (zI_of _).symm dJ9_floorDiv_7cf53_6 ?_
  refine z_if_ge (pc := 7) hC 21 (zb_toInt _) dJ9_floorDiv_7cf53_7 rfl (fun h7 => ?_) (fun h7 => ?_)
  · refine z_iload_n (pc := 21) hC (i := 2) dJ9_floorDiv_7cf53_21 rfl rfl ?_
    exact z_iret (pc := 22) hC rfl ⟨_, rfl, ⟨fdiv_case1 (Or.inl ((xor_sign ⟨by omega, by omega⟩ ⟨by omega, by omega⟩ hb).mp h7)), rfl⟩⟩ dJ9_floorDiv_7cf53_22
  · refine z_iload_n (pc := 10) hC (i := 2) dJ9_floorDiv_7cf53_10 rfl rfl ?_
    refine z_iload_n (pc := 11) hC (i := 1) dJ9_floorDiv_7cf53_11 rfl rfl ?_
    refine z_imul (pc := 12) hC dJ9_floorDiv_7cf53_12 ?_
    refine z_iload_n (pc := 13) hC (i := 0) dJ9_floorDiv_7cf53_13 rfl rfl ?_
    refine z_icmp_eq (pc := 14) hC 21 (tdiv_mul_b ha) ⟨by omega, by omega⟩ dJ9_floorDiv_7cf53_14 rfl (fun h14 => ?_) (fun h14 => ?_)
    · refine z_iload_n (pc := 21) hC (i := 2) dJ9_floorDiv_7cf53_21 rfl rfl ?_
      exact z_iret (pc := 22) hC rfl ⟨_, rfl, ⟨fdiv_case1 (Or.inr h14), rfl⟩⟩ dJ9_floorDiv_7cf53_22
    · refine z_iload_n (pc := 17) hC (i := 2) dJ9_floorDiv_7cf53_17 rfl rfl ?_
      refine z_iconst (pc := 18) hC dJ9_floorDiv_7cf53_18 ?_
      refine z_isub (pc := 19) hC dJ9_floorDiv_7cf53_19 ?_
      exact z_iret (pc := 20) hC rfl ⟨_, rfl, ⟨fdiv_case2 hb (by have := mt (xor_sign ⟨by omega, by omega⟩ ⟨by omega, by omega⟩ hb).mpr (by omega : ¬ 0 ≤ (zI a ^^^ zI b).toInt); omega) h14, rfl⟩⟩ dJ9_floorDiv_7cf53_20
