section ZCALL
variable {E : zE} {w : zP} {l : Launch} {own : String} {ws : List Cond} {cc : ByteArray} {nL fr lo : Nat} {ret : Option FieldType} {Post : Option Value → Mem → Prop} {Ω : Mem} {pc : Nat} {lv lv' : List (Option Value)} {st st0 rest : List Value}
theorem z_run {PostY : Option Value → Mem → Prop} {a : Array Value} (hr : ∀ (H : Heap) (locs : List Loc) (ls : Array Slot), va_P (e_w E).1 vwCl (zW (e_w E) Ω) H → va_S (zA (e_w E)) (e_s E).heap H locs → zL ls (e_n E) lv → va_Run (e_p E) (e_l E) (e_e E) (e_R E) (e_s E) (e_m E) (e_a E) (e_b E) (e_me E) (e_c E) H locs 0 0 0 0 (F0 (e_m E) pc ls st0) rest (zQ (e_w E) PostY a) (zA (e_w E)))
    (kk : ∀ (v : Option Value) (Ω1 : Mem), PostY v Ω1 → X E Ω1 (pc + 3) lv (v.toList ++ rest)) : X E Ω pc lv st0 := by
  intro H locs ls hP hS hl T hT XX
  obtain ⟨v, st₀, t, T', L, h0, X', hL, e1, e2, ⟨⟨v', Ω', hv, hp, hPt⟩, hz, hk⟩, hst⟩ := hr H locs ls hP hS hl T hT XX
  cases hv
  rw [h0] at hz hk
  obtain ⟨t2, a1, b1⟩ := kk v Ω' hp T'.heap (locs ++ L) ls (by rw [e1]; exact hPt)
    ⟨Nat.le_trans hS.1 (by rw [e1]; exact hz), fun q h1 h2 => by rw [e1, hk q (Nat.lt_of_lt_of_le h1 hS.1) h2]; exact hS.2.1 q h1 h2, fun q hq => by
      rcases List.mem_append.mp hq with h | h
      · exact hS.2.2 q h
      · exact hL q h⟩ hl T' rfl X'
  exact ⟨t2, hst t2 a1, b1⟩
theorem z_blind {w : zP} {Ω : Mem} {Av : List Value} : FrameBlind (va_Pc Av (fun U => va_P w.1 vwCl (zW w Ω) U.heap ∧ va_K w.1 vwCl (zT w) U ∧ zSt w U U.heap)) := by
  intro a U g mk q
  obtain ⟨q0, qP, qK, qS⟩ := q
  exact ⟨q0, qP, va_K.moved (u := U) (U := U.calling g mk a) (Vm.Alike.refl U.vm) qK, zSt.calling g mk a qS⟩
theorem z_pre {w : zP} {s U : State} {H : Heap} {locs : List Loc} {Av : List Value} (hP : va_P w.1 vwCl (zW w Ω) H) (hS : va_S (zA w) s.heap H locs) (hK : va_K w.1 vwCl (zT w) s) (hsta : zSt w s s.heap) (hU : U.heap = H) (hW : s.WarmedH U.vm) : va_Pc Av (fun U => va_P w.1 vwCl (zW w Ω) U.heap ∧ va_K w.1 vwCl (zT w) U ∧ zSt w U U.heap) Av.toArray U :=
  ⟨rfl, by rw [hU]; exact hP, va_K.moved hW.alike hK, by rw [hU]; exact zSt.warm hW hS.2.1 hsta⟩
theorem z_callV (hC : zC E w l own ws cc nL fr lo ret Post) {y : MethodName} {wy wy' : List Cond} {ccy : ByteArray} {nLy fr' lo' : Nat} {rety : Option FieldType} {C : String} {idx n ci N q : Nat} {T : u_T} {fsf : (Nat → Int32) → List Value} {As : List Value} {PostY : Option Value → Mem → Prop}
    (hM : zM l w y wy fr' lo' (.ref (wa w q) :: As) Ω PostY) (hg : GoodIn ws (wsV own idx C y wy)) (hwy : wy = Cond.code y ccy nLy rety :: wy') (hd : y.cls = C ∧ y.cls ≠ "java/lang/invoke/MethodHandle" ∧ y.cls ≠ "java/lang/invoke/VarHandle" ∧ (parseMethodDescriptor y.desc).map (fun d => d.parameters.length) = some n)
    (hR1 : fr' + 1 ≤ fr) (hR2 : 8 + (nLy + 11) + lo' ≤ lo) (hc : vwCl[ci]? = some (C, T, N)) (hq : q < 59) (hz : ∀ f, zs w f q = .inr (ci, fsf f)) (hn : As.length = n) (hst0 : st0 = As.reverse ++ .ref (wa w q) :: rest) (hroom : (rest.map fun v => v.category).sum ≤ 8) (hdg : decode cc pc = .ok (.invokevirtual idx, 3))
    (kk : ∀ (v : Option Value) (Ω1 : Mem), PostY v Ω1 → X E Ω1 (pc + 3) lv (v.toList ++ rest)) : X E Ω pc lv st0 := by
  obtain ⟨hx, hb, hml, hown, hts, hK, hlk, hok, hsta, hR, hret, hQ, rfl, rfl, rfl⟩ := hC
  refine z_run (a := (Value.ref (wa (e_w E) q) :: As).toArray) (fun H locs ls hP hS hl => ?_) kk
  exact va_runV (As := As) (rest := rest) ⟨hx, hb, hml, hown, hts⟩ hM (cwV n hts hg hwy rfl rfl hd ⟨by rw [hR]; exact hR1, by rw [hR]; exact hR2⟩) ⟨z_blind, va_recv hK hP hc (q0 := q) (by rw [zW_at _ Ω hq, hz]), fun U hU hW => z_pre hP hS hK hsta hU hW⟩ rfl hn hl.1 hst0 (lv_room hroom) hdg ⟨Nat.zero_le _, Nat.zero_le _⟩
theorem z_callS (hC : zC E w l own ws cc nL fr lo ret Post) {y : MethodName} {wy wy' : List Cond} {ccy : ByteArray} {nLy fr' lo' : Nat} {rety : Option FieldType} {idx n : Nat} {As : List Value} {PostY : Option Value → Mem → Prop}
    (hM : zM l w y wy fr' lo' As Ω PostY) (hg : GoodIn ws (va_wsS own idx y wy)) (hwy : wy = Cond.code y ccy nLy rety :: wy') (hd : y.cls ≠ "java/lang/invoke/MethodHandle" ∧ y.cls ≠ "java/lang/invoke/VarHandle" ∧ (parseMethodDescriptor y.desc).map (fun d => d.parameters.length) = some n)
    (hR1 : fr' + 1 ≤ fr) (hR2 : 8 + (nLy + 11) + lo' ≤ lo) (hn : As.length = n) (hst0 : st0 = As.reverse ++ rest) (hroom : (rest.map fun v => v.category).sum ≤ 8) (hdg : decode cc pc = .ok (.invokestatic idx, 3))
    (kk : ∀ (v : Option Value) (Ω1 : Mem), PostY v Ω1 → X E Ω1 (pc + 3) lv (v.toList ++ rest)) : X E Ω pc lv st0 := by
  obtain ⟨hx, hb, hml, hown, hts, hK, hlk, hok, hsta, hR, hret, hQ, rfl, rfl, rfl⟩ := hC
  refine z_run (a := As.toArray) (fun H locs ls hP hS hl => ?_) kk
  exact va_runS (As := As) (rest := rest) ⟨hx, hb, hml, hown, hts⟩ hM (va_cwS n hts hg hwy rfl rfl hd ⟨by rw [hR]; exact hR1, by rw [hR]; exact hR2⟩) ⟨z_blind, fun U hU hW => z_pre hP hS hK hsta hU hW⟩ rfl hn hl.1 hst0 (lv_room hroom) hdg ⟨Nat.zero_le _, Nat.zero_le _⟩
theorem z_callSN (hC : zC E w l own ws cc nL fr lo ret Post) {y : MethodName} {wy wy' : List Cond} {ccy : ByteArray} {nLy fr' lo' : Nat} {rety : Option FieldType} {idx n : Nat} {host : String} {As : List Value} {PostY : Option Value → Mem → Prop}
    (hM : zM l w y wy fr' lo' As Ω PostY) (hN : zSt w (e_s E) (e_s E).heap → va_Nw (.methodLinkNest own idx y host) (e_s E)) (hg : GoodIn ws wy) (hm1 : Cond.static y ∈ ws) (hm2 : Cond.initialized y.cls ∈ ws) (hwy : wy = Cond.code y ccy nLy rety :: wy') (hd : y.cls ≠ "java/lang/invoke/MethodHandle" ∧ y.cls ≠ "java/lang/invoke/VarHandle" ∧ (parseMethodDescriptor y.desc).map (fun d => d.parameters.length) = some n)
    (hR1 : fr' + 1 ≤ fr) (hR2 : 8 + (nLy + 11) + lo' ≤ lo) (hn : As.length = n) (hst0 : st0 = As.reverse ++ rest) (hroom : (rest.map fun v => v.category).sum ≤ 8) (hdg : decode cc pc = .ok (.invokestatic idx, 3))
    (kk : ∀ (v : Option Value) (Ω1 : Mem), PostY v Ω1 → X E Ω1 (pc + 3) lv (v.toList ++ rest)) : X E Ω pc lv st0 := by
  obtain ⟨hx, hb, hml, hown, hts, hK, hlk, hok, hsta, hR, hret, hQ, rfl, rfl, rfl⟩ := hC
  refine z_run (a := As.toArray) (fun H locs ls hP hS hl => ?_) kk
  exact va_runSN (As := As) (rest := rest) ⟨hx, hb, hml, hown, hts⟩ hM ⟨va_cnB n hts hg hwy rfl rfl (hN hsta) (hts _ hm2) hd ⟨by rw [hR]; exact hR1, by rw [hR]; exact hR2⟩, hts _ hm1, trivial⟩ ⟨z_blind, fun U hU hW => z_pre hP hS hK hsta hU hW⟩ rfl hn hl.1 hst0 (lv_room hroom) hdg ⟨Nat.zero_le _, Nat.zero_le _⟩
theorem zI_max {a b : Int} (ha : zb a) (hb : zb b) : (if zI a < zI b then zI b else zI a) = zI (max a b) := by
  by_cases h : a < b
  · rw [if_pos ((zI_lt ha hb).mpr h), Int.max_eq_right (by omega)]
  · rw [if_neg (fun e => h ((zI_lt ha hb).mp e)), Int.max_eq_left (by omega)]
theorem zI_min {a b : Int} (ha : zb a) (hb : zb b) : (if zI b < zI a then zI b else zI a) = zI (min a b) := by
  by_cases h : b < a
  · rw [if_pos ((zI_lt hb ha).mpr h), Int.min_eq_right (by omega)]
  · rw [if_neg (fun e => h ((zI_lt hb ha).mp e)), Int.min_eq_left (by omega)]
def zabs (a : Int) : Int := if 0 ≤ a then a else -a
theorem zI_abs {a : Int} (ha : zb a) : (if 0 ≤ zI a then zI a else 0 - zI a) = zI (zabs a) := by
  unfold zabs
  by_cases h : 0 ≤ a
  · rw [if_pos h, if_pos (by rw [← zI_0]; exact (zI_le zb_0 ha).mpr h)]
  · rw [if_neg h, if_neg (fun e => h (by rw [← zI_0] at e; exact (zI_le zb_0 ha).mp e)), ← zI_0, zI_sub]
    congr 1
    omega
theorem z_mmax (hC : zC E w l own ws cc nL fr lo ret Post) {a b : Int} {idx : Nat} (ha : zb a) (hb0 : zb b) (h1 : Cond.methodLink own idx Lib.Math.max.name ∈ ws) (h2 : Cond.static Lib.Math.max.name ∈ ws) (h3 : Cond.initialized "java/lang/Math" ∈ ws) (h4 : Cond.code Lib.Math.max.name Lib.Math.max.code 2 (some .int) ∈ ws) (hR1 : 1 ≤ fr) (hR2 : (st.map fun v => v.category).sum + 13 ≤ lo) (hdg : decode cc pc = .ok (.invokestatic idx, 3)) (k : X E Ω (pc + 3) lv (.int (zI (max a b)) :: st)) : X E Ω pc lv (.int (zI b) :: .int (zI a) :: st) := by
  obtain ⟨hx, hb, hml, hown, hts, hK, hlk, hok, hsta, hR, hret, hQ, rfl, rfl, rfl⟩ := hC
  intro H locs ls hP hS hl
  have k := k H locs ls hP hS hl
  rw [← zI_max ha hb0] at k
  exact va_mmax hx hb (hml.trans hl.1.symm) hown (hts _ h1) (hts _ h2) (hts _ h3) (hts _ h4) (by rw [hR]; exact hR1) (by rw [hR]; exact hR2) (Nat.zero_le _) (Nat.zero_le _) hdg k
theorem z_mmin (hC : zC E w l own ws cc nL fr lo ret Post) {a b : Int} {idx : Nat} (ha : zb a) (hb0 : zb b) (h1 : Cond.methodLink own idx Lib.Math.min.name ∈ ws) (h2 : Cond.static Lib.Math.min.name ∈ ws) (h3 : Cond.initialized "java/lang/Math" ∈ ws) (h4 : Cond.code Lib.Math.min.name Lib.Math.min.code 2 (some .int) ∈ ws) (hR1 : 1 ≤ fr) (hR2 : (st.map fun v => v.category).sum + 13 ≤ lo) (hdg : decode cc pc = .ok (.invokestatic idx, 3)) (k : X E Ω (pc + 3) lv (.int (zI (min a b)) :: st)) : X E Ω pc lv (.int (zI b) :: .int (zI a) :: st) := by
  obtain ⟨hx, hb, hml, hown, hts, hK, hlk, hok, hsta, hR, hret, hQ, rfl, rfl, rfl⟩ := hC
  intro H locs ls hP hS hl
  have k := k H locs ls hP hS hl
  rw [← zI_min ha hb0] at k
  exact va_mmin hx hb (hml.trans hl.1.symm) hown (hts _ h1) (hts _ h2) (hts _ h3) (hts _ h4) (by rw [hR]; exact hR1) (by rw [hR]; exact hR2) (Nat.zero_le _) (Nat.zero_le _) hdg k
theorem z_mabs (hC : zC E w l own ws cc nL fr lo ret Post) {a : Int} {idx : Nat} (ha : zb a) (h1 : Cond.methodLink own idx Lib.Math.abs.name ∈ ws) (h2 : Cond.static Lib.Math.abs.name ∈ ws) (h3 : Cond.initialized "java/lang/Math" ∈ ws) (h4 : Cond.code Lib.Math.abs.name Lib.Math.abs.code 1 (some .int) ∈ ws) (hR1 : 1 ≤ fr) (hR2 : (st.map fun v => v.category).sum + 13 ≤ lo) (hdg : decode cc pc = .ok (.invokestatic idx, 3)) (k : X E Ω (pc + 3) lv (.int (zI (zabs a)) :: st)) : X E Ω pc lv (.int (zI a) :: st) := by
  obtain ⟨hx, hb, hml, hown, hts, hK, hlk, hok, hsta, hR, hret, hQ, rfl, rfl, rfl⟩ := hC
  intro H locs ls hP hS hl
  have k := k H locs ls hP hS hl
  rw [← zI_abs ha] at k
  exact va_mabs hx hb (hml.trans hl.1.symm) hown (hts _ h1) (hts _ h2) (hts _ h3) (hts _ h4) (by rw [hR]; exact hR1) (by rw [hR]; exact hR2) (Nat.zero_le _) (Nat.zero_le _) hdg k
theorem z_copy (hC : zC E w l own ws cc nL fr lo ret Post) (q0 q1 : Nat) {n0 n1 : Nat} {sp dp n : Int} {idx : Nat} (hq0 : q0 < 59) (hq1 : q1 < 59) (hz0 : ∀ f, zs w f q0 = zar w n0 f) (hz1 : ∀ f, zs w f q1 = zar w n1 f) (hs0 : 0 ≤ sp) (hd0 : 0 ≤ dp) (hn0 : 0 ≤ n) (h4 : sp + n ≤ n0) (h5 : dp + n ≤ n1) (hn1 : n0 ≤ 1000000) (hn2 : n1 ≤ 1000000)
    (h1 : Cond.methodLink own idx arraycopyName ∈ ws) (h2 : Cond.native arraycopyName ∈ ws) (h3 : Cond.static arraycopyName ∈ ws) (h6 : Cond.initialized "java/lang/System" ∈ ws) (hR1 : 1 ≤ fr) (hR2 : (st.map fun v => v.category).sum + (nativeFrameWords "java/lang/System" "arraycopy" 5 + 11) ≤ lo) (hdg : decode cc pc = .ok (.invokestatic idx, 3)) (k : X E (upc Ω q1 (va_cpy (Ω q0) (Ω q1) sp.toNat dp.toNat n.toNat)) (pc + 3) lv st) : X E Ω pc lv (.int (zI n) :: .int (zI dp) :: .ref (wa w q1) :: .int (zI sp) :: .ref (wa w q0) :: st) := by
  obtain ⟨hx, hb, hml, hown, hts, hK, hlk, hok, hsta, hR, hret, hQ, rfl, rfl, rfl⟩ := hC
  intro H locs ls hP hS hl
  have e1 := zI_cl hs0 (by omega : sp ≤ 2147483647)
  have e2 := zI_cl hd0 (by omega : dp ≤ 2147483647)
  have e3 := zI_cl hn0 (by omega : n ≤ 2147483647)
  have nn : ∀ z : Int, 0 ≤ z → z ≤ 1000000 → ¬ zI z < 0 := fun z h1 h2 e => by
    rw [← zI_0, zI_lt ⟨by omega, by omega⟩ zb_0] at e
    omega
  refine va_copyi hx hb (hml.trans hl.1.symm) hown (hts _ h1) (hts _ h2) (hts _ h3) (hts _ h6) hK hP (zD hok Ω) hS q0 q1 0 0 (c0 := wI (e_w E)) (c1 := wI (e_w E)) (n0 := n0) (n1 := n1) (f := Ω q0) (g := Ω q1) (ty := .int) (by rw [zW_at _ Ω hq0, hz0]; rfl) (by rw [zW_at _ Ω hq1, hz1]; rfl) rfl rfl rfl (nn sp hs0 (by omega)) (nn dp hd0 (by omega)) (nn n hn0 (by omega)) (by rw [e1, e3]; omega) (by rw [e2, e3]; omega) (fun _ _ => rfl) (by rw [hR]; exact hR1) (by rw [hR]; exact hR2) hdg (fun H1 locs1 hP1 hD1 hS1 => k H1 locs1 ls ?_ hS1 hl)
  rw [e1, e2, e3] at hP1
  have e : (.inl (wI (e_w E), n1, .inl (va_cpy (Ω q0) (Ω q1) sp.toNat dp.toNat n.toNat)) : va_E) = zs (e_w E) (va_cpy (Ω q0) (Ω q1) sp.toNat dp.toNat n.toNat) q1 := by rw [hz1]; rfl
  rw [e, zW_set] at hP1
  exact hP1
theorem z_ifd_eq (hC : zC E w l own ws cc nL fr lo ret Post) {P : Prop} [Decidable P] {off : Int} (tgt : Nat) (hdg : decode cc pc = .ok (.ifCond .eq off, 3)) (ht : (pc : Int) + off = (tgt : Int)) (kt : ¬ P → X E Ω tgt lv st) (kf : P → X E Ω (pc + 3) lv st) : X E Ω pc lv (.int (zI (bI (decide P))) :: st) :=
  z_ifb_eq hC tgt hdg ht (fun h => kt (of_decide_eq_false h)) (fun h => kf (of_decide_eq_true h))
theorem z_ifd_ne (hC : zC E w l own ws cc nL fr lo ret Post) {P : Prop} [Decidable P] {off : Int} (tgt : Nat) (hdg : decode cc pc = .ok (.ifCond .ne off, 3)) (ht : (pc : Int) + off = (tgt : Int)) (kt : P → X E Ω tgt lv st) (kf : ¬ P → X E Ω (pc + 3) lv st) : X E Ω pc lv (.int (zI (bI (decide P))) :: st) :=
  z_ifb_ne hC tgt hdg ht (fun h => kt (of_decide_eq_true h)) (fun h => kf (of_decide_eq_false h))
end ZCALL
