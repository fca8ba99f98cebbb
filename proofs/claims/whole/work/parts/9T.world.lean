abbrev wWL (cI cR : ClassId) (q0 qm : Nat) (u v : Nat → Nat) : va_W := [(q0, .inr (4, [.ref (u 12), .ref (u 0), .ref (u 2), .ref (u 9), .int 0, .int 0, .int 0])), ((u 0), .inr (0, [.ref (u 1), .int 0, .int 0])), ((u 1), .inl (cR, 8, .inr (.inr (.inr (.inr (va_up (va_up (va_up (va_up (va_up (va_up (va_up (va_up (fun _ => none) 0 (some (u 16))) 1 (some (u 20))) 2 (some (u 24))) 3 (some (u 28))) 4 (some (u 32))) 5 (some (u 36))) 6 (some (u 40))) 7 (some (u 44)))))))), ((u 2), .inr (1, [.int 0, .ref (u 3), .ref (u 4), .ref (u 5), .ref (u 6), .ref (u 7), .ref (u 8), .int 0])), ((u 3), .inl (cI, 36, .inl (fun _ => 0))), ((u 4), .inl (cI, 36, .inl (fun _ => 0))), ((u 5), .inl (cI, 288, .inl (fun _ => 0))), ((u 6), .inl (cI, 288, .inl (fun _ => 0))), ((u 7), .inl (cI, 36, .inl (fun _ => 0))), ((u 8), .inl (cI, 36, .inl (fun _ => 0))), ((u 9), .inr (3, [.ref (u 10), .ref (u 11), .int 0, .int 0, .int 0, .int 0, .int 0])), ((u 10), .inl (cI, 100, .inl (fun _ => 0))), ((u 11), .inl (cI, 4, .inl (fun _ => 0))), ((u 12), .inr (2, [.int 4, .int 4, .ref (u 13), .ref (u 14), .ref (u 15)])), ((u 13), .inl (cI, 6, .inl (upd (upd (upd (upd (upd (upd (fun _ => 0) 0 10) 1 2) 2 1) 3 0) 4 9) 5 4))), ((u 14), .inl (cI, 36, .inl (fun _ => 0))), ((u 15), .inl (cI, 36, .inl (fun _ => 0))), ((u 16), .inr (2, [.int 4, .int 4, .ref (u 17), .ref (u 18), .ref (u 19)])), ((u 17), .inl (cI, 6, .inl (upd (upd (upd (upd (upd (upd (fun _ => 0) 0 10) 1 2) 2 1) 3 0) 4 9) 5 4))), ((u 18), .inl (cI, 36, .inl (fun _ => 0))), ((u 19), .inl (cI, 36, .inl (fun _ => 0))), ((u 20), .inr (2, [.int 4, .int 4, .ref (u 21), .ref (u 22), .ref (u 23)])), ((u 21), .inl (cI, 6, .inl (upd (upd (upd (upd (upd (upd (fun _ => 0) 0 10) 1 2) 2 1) 3 0) 4 9) 5 4))), ((u 22), .inl (cI, 36, .inl (fun _ => 0))), ((u 23), .inl (cI, 36, .inl (fun _ => 0))), ((u 24), .inr (2, [.int 4, .int 4, .ref (u 25), .ref (u 26), .ref (u 27)])), ((u 25), .inl (cI, 6, .inl (upd (upd (upd (upd (upd (upd (fun _ => 0) 0 10) 1 2) 2 1) 3 0) 4 9) 5 4))), ((u 26), .inl (cI, 36, .inl (fun _ => 0))), ((u 27), .inl (cI, 36, .inl (fun _ => 0))), ((u 28), .inr (2, [.int 4, .int 4, .ref (u 29), .ref (u 30), .ref (u 31)])), ((u 29), .inl (cI, 6, .inl (upd (upd (upd (upd (upd (upd (fun _ => 0) 0 10) 1 2) 2 1) 3 0) 4 9) 5 4))), ((u 30), .inl (cI, 36, .inl (fun _ => 0))), ((u 31), .inl (cI, 36, .inl (fun _ => 0))), ((u 32), .inr (2, [.int 4, .int 4, .ref (u 33), .ref (u 34), .ref (u 35)])), ((u 33), .inl (cI, 6, .inl (upd (upd (upd (upd (upd (upd (fun _ => 0) 0 10) 1 2) 2 1) 3 0) 4 9) 5 4))), ((u 34), .inl (cI, 36, .inl (fun _ => 0))), ((u 35), .inl (cI, 36, .inl (fun _ => 0))), ((u 36), .inr (2, [.int 4, .int 4, .ref (u 37), .ref (u 38), .ref (u 39)])), ((u 37), .inl (cI, 6, .inl (upd (upd (upd (upd (upd (upd (fun _ => 0) 0 10) 1 2) 2 1) 3 0) 4 9) 5 4))), ((u 38), .inl (cI, 36, .inl (fun _ => 0))), ((u 39), .inl (cI, 36, .inl (fun _ => 0))), ((u 40), .inr (2, [.int 4, .int 4, .ref (u 41), .ref (u 42), .ref (u 43)])), ((u 41), .inl (cI, 6, .inl (upd (upd (upd (upd (upd (upd (fun _ => 0) 0 10) 1 2) 2 1) 3 0) 4 9) 5 4))), ((u 42), .inl (cI, 36, .inl (fun _ => 0))), ((u 43), .inl (cI, 36, .inl (fun _ => 0))), ((u 44), .inr (2, [.int 4, .int 4, .ref (u 45), .ref (u 46), .ref (u 47)])), ((u 45), .inl (cI, 6, .inl (upd (upd (upd (upd (upd (upd (fun _ => 0) 0 10) 1 2) 2 1) 3 0) 4 9) 5 4))), ((u 46), .inl (cI, 36, .inl (fun _ => 0))), ((u 47), .inl (cI, 36, .inl (fun _ => 0))), (qm, .inr (5, [.ref (v 0), .ref (v 1), .int 0, .ref (v 2), .ref (v 3), .int 0, .int (-1), .int 0, .ref (v 4), .ref (v 5), .ref (v 6), .ref (v 7), .int 0, .ref (v 8), .int 0])), ((v 0), .inl (cI, 80, .inl (upd (upd (upd (upd (upd (upd (upd (fun _ => 0) 0 4) 1 4) 2 10) 3 2) 4 1) 6 9) 7 4))), ((v 1), .inl (cI, 640, .inl (fun _ => 0))), ((v 2), .inl (cI, 3, .inl (fun _ => 0))), ((v 3), .inl (cI, 100, .inl (fun _ => 0))), ((v 4), .inl (cI, 36, .inl (fun _ => 0))), ((v 5), .inl (cI, 128, .inl (fun _ => 0))), ((v 6), .inl (cI, 128, .inl (fun _ => 0))), ((v 7), .inl (cI, 36, .inl (fun _ => 0))), ((v 8), .inl (cI, 4, .inl (fun _ => 0)))]
def wAd (q0 qm : Nat) (u v : Nat → Nat) : Nat → Nat := fun i => ([q0, u 0, u 1, u 2, u 3, u 4, u 5, u 6, u 7, u 8, u 9, u 10, u 11, u 12, u 13, u 14, u 15, u 16, u 17, u 18, u 19, u 20, u 21, u 22, u 23, u 24, u 25, u 26, u 27, u 28, u 29, u 30, u 31, u 32, u 33, u 34, u 35, u 36, u 37, u 38, u 39, u 40, u 41, u 42, u 43, u 44, u 45, u 46, u 47, qm, v 0, v 1, v 2, v 3, v 4, v 5, v 6, v 7, v 8] : List Nat).getD i 0
theorem wWL_fst (cI cR : ClassId) (q0 qm : Nat) (u v : Nat → Nat) : (wWL cI cR q0 qm u v).map Prod.fst = (List.range 59).map (wAd q0 qm u v) := rfl
theorem wWL_at (cI cR : ClassId) (q0 qm : Nat) (u v : Nat → Nat) {i : Nat} (h : i < 59) : ∃ e, (wWL cI cR q0 qm u v)[i]? = some (wAd q0 qm u v i, e) := by
  have h1 : ((wWL cI cR q0 qm u v).map Prod.fst)[i]? = some (wAd q0 qm u v i) := by
    rw [wWL_fst]
    simp [h]
  rw [List.getElem?_map] at h1
  cases hh : (wWL cI cR q0 qm u v)[i]? with
  | none => rw [hh] at h1; cases h1
  | some x =>
    rw [hh] at h1
    have h2 : x.1 = wAd q0 qm u v i := Option.some.inj h1
    exact ⟨x.2, by rw [← h2]⟩
set_option maxHeartbeats 4000000 in
set_option maxRecDepth 100000 in
theorem wWL_zW (D : va_G) (cI cR : ClassId) (q0 qm : Nat) (u v tt : Nat → Nat) {H : Heap} (hP : va_P D vwCl (wWL cI cR q0 qm u v) H) : va_P D vwCl (zW (D, wAd q0 qm u v, cI, cR, tt) O0) H := by
  intro k q hk
  obtain ⟨hk59, rfl⟩ := zW_inv hk
  rcases (show k = 0 ∨ k = 1 ∨ k = 2 ∨ k = 3 ∨ k = 4 ∨ k = 5 ∨ k = 6 ∨ k = 7 ∨ k = 8 ∨ k = 9 ∨ k = 10 ∨ k = 11 ∨ k = 12 ∨ k = 13 ∨ k = 14 ∨ k = 15 ∨ k = 16 ∨ k = 17 ∨ k = 18 ∨ k = 19 ∨ k = 20 ∨ k = 21 ∨ k = 22 ∨ k = 23 ∨ k = 24 ∨ k = 25 ∨ k = 26 ∨ k = 27 ∨ k = 28 ∨ k = 29 ∨ k = 30 ∨ k = 31 ∨ k = 32 ∨ k = 33 ∨ k = 34 ∨ k = 35 ∨ k = 36 ∨ k = 37 ∨ k = 38 ∨ k = 39 ∨ k = 40 ∨ k = 41 ∨ k = 42 ∨ k = 43 ∨ k = 44 ∨ k = 45 ∨ k = 46 ∨ k = 47 ∨ k = 48 ∨ k = 49 ∨ k = 50 ∨ k = 51 ∨ k = 52 ∨ k = 53 ∨ k = 54 ∨ k = 55 ∨ k = 56 ∨ k = 57 ∨ k = 58 by omega) with rfl | rfl | rfl | rfl | rfl | rfl | rfl | rfl | rfl | rfl | rfl | rfl | rfl | rfl | rfl | rfl | rfl | rfl | rfl | rfl | rfl | rfl | rfl | rfl | rfl | rfl | rfl | rfl | rfl | rfl | rfl | rfl | rfl | rfl | rfl | rfl | rfl | rfl | rfl | rfl | rfl | rfl | rfl | rfl | rfl | rfl | rfl | rfl | rfl | rfl | rfl | rfl | rfl | rfl | rfl | rfl | rfl | rfl | rfl
  · exact hP 0 _ rfl
  · exact hP 1 _ rfl
  · have h2 : H[u 1]? = some (vp_cell cR (8, _)) := hP 2 _ rfl
    show H[u 1]? = some (vp_cell cR (8, .inr (.inr (.inr (.inr (fun j => some (wAd q0 qm u v (17 + 4 * j))))))))
    rw [h2]
    exact congrArg some (arrV_cong (fun j hj => by rcases (show j = 0 ∨ j = 1 ∨ j = 2 ∨ j = 3 ∨ j = 4 ∨ j = 5 ∨ j = 6 ∨ j = 7 by omega) with rfl | rfl | rfl | rfl | rfl | rfl | rfl | rfl <;> rfl))
  · exact hP 3 _ rfl
  · exact hP 4 _ rfl
  · exact hP 5 _ rfl
  · exact hP 6 _ rfl
  · exact hP 7 _ rfl
  · exact hP 8 _ rfl
  · exact hP 9 _ rfl
  · exact hP 10 _ rfl
  · exact hP 11 _ rfl
  · exact hP 12 _ rfl
  · exact hP 13 _ rfl
  · exact hP 14 _ rfl
  · exact hP 15 _ rfl
  · exact hP 16 _ rfl
  · exact hP 17 _ rfl
  · exact hP 18 _ rfl
  · exact hP 19 _ rfl
  · exact hP 20 _ rfl
  · exact hP 21 _ rfl
  · exact hP 22 _ rfl
  · exact hP 23 _ rfl
  · exact hP 24 _ rfl
  · exact hP 25 _ rfl
  · exact hP 26 _ rfl
  · exact hP 27 _ rfl
  · exact hP 28 _ rfl
  · exact hP 29 _ rfl
  · exact hP 30 _ rfl
  · exact hP 31 _ rfl
  · exact hP 32 _ rfl
  · exact hP 33 _ rfl
  · exact hP 34 _ rfl
  · exact hP 35 _ rfl
  · exact hP 36 _ rfl
  · exact hP 37 _ rfl
  · exact hP 38 _ rfl
  · exact hP 39 _ rfl
  · exact hP 40 _ rfl
  · exact hP 41 _ rfl
  · exact hP 42 _ rfl
  · exact hP 43 _ rfl
  · exact hP 44 _ rfl
  · exact hP 45 _ rfl
  · exact hP 46 _ rfl
  · exact hP 47 _ rfl
  · exact hP 48 _ rfl
  · exact hP 49 _ rfl
  · exact hP 50 _ rfl
  · exact hP 51 _ rfl
  · exact hP 52 _ rfl
  · exact hP 53 _ rfl
  · exact hP 54 _ rfl
  · exact hP 55 _ rfl
  · exact hP 56 _ rfl
  · exact hP 57 _ rfl
  · exact hP 58 _ rfl
set_option maxHeartbeats 4000000 in
set_option maxRecDepth 100000 in
theorem wSt {p : Program} {s : State} {m : MethodId} {meth : Method} {c : Code} {b L : Nat} {xs : Nat → Int32} (C0 : lw_At p s m meth c b L xs) (D : va_G) (wf : Nat → Nat) (cI cR : ClassId) (hfr : ∀ i, i < 59 → s.heap.size ≤ wf i) : ∃ tt : Nat → Nat, zSt (D, wf, cI, cR, tt) s s.heap := by
  obtain ⟨hx, hb, hr, hml, hown0, hts, hX, hbl, hlocks, hgv⟩ := C0
  have hs := flat_of_before _ hgv
  have hA0 : ∀ a : Nat, a < s.heap.size → ¬ (fun q : Nat => s.heap.size ≤ q) a := fun a h => Nat.not_le.mpr h
  obtain ⟨t0, ev0, hT0⟩ := va_Tof (A := (fun q : Nat => s.heap.size ≤ q)) (tm := .static "StrokeCuts" "LEAST_SETTING" "[I") (ty := .int) (N := 6) (f := fun k => .int (zI (zTv 0 k))) (by decide) (hs _ (by decide +kernel)) (va_eqt (z := Int32.ofNat 6) (hs _ (by decide +kernel))) (fun j hj => by rcases (show j = 0 ∨ j = 1 ∨ j = 2 ∨ j = 3 ∨ j = 4 ∨ j = 5 by omega) with rfl | rfl | rfl | rfl | rfl | rfl <;> exact va_eqt (hs _ (by decide +kernel))) hA0
  have hZ0 : va_Z "StrokeCuts" "LEAST_SETTING" "[I" (.ref t0) (fun q : Nat => s.heap.size ≤ q) s s.heap := va_Zref (hts (Cond.laysStatic "StrokeCuts" "LEAST_SETTING" "[I") (List.mem_of_getElem? (i := 314) (by decide +kernel))) (hts (Cond.initialized "StrokeCuts") (List.mem_of_getElem? (i := 61) (by decide +kernel))) ev0 hA0
  obtain ⟨t1, ev1, hT1⟩ := va_Tof (A := (fun q : Nat => s.heap.size ≤ q)) (tm := .static "StrokeCuts" "GREATEST_SETTING" "[I") (ty := .int) (N := 6) (f := fun k => .int (zI (zTv 1 k))) (by decide) (hs _ (by decide +kernel)) (va_eqt (z := Int32.ofNat 6) (hs _ (by decide +kernel))) (fun j hj => by rcases (show j = 0 ∨ j = 1 ∨ j = 2 ∨ j = 3 ∨ j = 4 ∨ j = 5 by omega) with rfl | rfl | rfl | rfl | rfl | rfl <;> exact va_eqt (hs _ (by decide +kernel))) hA0
  have hZ1 : va_Z "StrokeCuts" "GREATEST_SETTING" "[I" (.ref t1) (fun q : Nat => s.heap.size ≤ q) s s.heap := va_Zref (hts (Cond.laysStatic "StrokeCuts" "GREATEST_SETTING" "[I") (List.mem_of_getElem? (i := 316) (by decide +kernel))) (hts (Cond.initialized "StrokeCuts") (List.mem_of_getElem? (i := 61) (by decide +kernel))) ev1 hA0
  obtain ⟨t2, ev2, hT2⟩ := va_Tof (A := (fun q : Nat => s.heap.size ≤ q)) (tm := .static "StrokeCuts" "LINK_X" "[I") (ty := .int) (N := 4) (f := fun k => .int (zI (zTv 2 k))) (by decide) (hs _ (by decide +kernel)) (va_eqt (z := Int32.ofNat 4) (hs _ (by decide +kernel))) (fun j hj => by rcases (show j = 0 ∨ j = 1 ∨ j = 2 ∨ j = 3 by omega) with rfl | rfl | rfl | rfl <;> exact va_eqt (hs _ (by decide +kernel))) hA0
  have hZ2 : va_Z "StrokeCuts" "LINK_X" "[I" (.ref t2) (fun q : Nat => s.heap.size ≤ q) s s.heap := va_Zref (hts (Cond.laysStatic "StrokeCuts" "LINK_X" "[I") (List.mem_of_getElem? (i := 338) (by decide +kernel))) (hts (Cond.initialized "StrokeCuts") (List.mem_of_getElem? (i := 61) (by decide +kernel))) ev2 hA0
  obtain ⟨t3, ev3, hT3⟩ := va_Tof (A := (fun q : Nat => s.heap.size ≤ q)) (tm := .static "StrokeCuts" "LINK_Y" "[I") (ty := .int) (N := 4) (f := fun k => .int (zI (zTv 3 k))) (by decide) (hs _ (by decide +kernel)) (va_eqt (z := Int32.ofNat 4) (hs _ (by decide +kernel))) (fun j hj => by rcases (show j = 0 ∨ j = 1 ∨ j = 2 ∨ j = 3 by omega) with rfl | rfl | rfl | rfl <;> exact va_eqt (hs _ (by decide +kernel))) hA0
  have hZ3 : va_Z "StrokeCuts" "LINK_Y" "[I" (.ref t3) (fun q : Nat => s.heap.size ≤ q) s s.heap := va_Zref (hts (Cond.laysStatic "StrokeCuts" "LINK_Y" "[I") (List.mem_of_getElem? (i := 340) (by decide +kernel))) (hts (Cond.initialized "StrokeCuts") (List.mem_of_getElem? (i := 61) (by decide +kernel))) ev3 hA0
  refine ⟨fun j => ([t0, t1, t2, t3] : List Nat).getD j 0, fun j hj => ?_, ⟨?_, ?_, ?_⟩, ?_, ?_⟩
  · have hAB : ∀ q, zA (D, wf, cI, cR, fun j => ([t0, t1, t2, t3] : List Nat).getD j 0) q → (fun q : Nat => s.heap.size ≤ q) q := fun q ⟨i, h1, h2⟩ => by
      show s.heap.size ≤ q
      rw [h2]
      exact hfr i h1
    rcases (show j = 0 ∨ j = 1 ∨ j = 2 ∨ j = 3 by omega) with rfl | rfl | rfl | rfl
    · exact ⟨hZ0.narrow hAB, hT0.narrow hAB⟩
    · exact ⟨hZ1.narrow hAB, hT1.narrow hAB⟩
    · exact ⟨hZ2.narrow hAB, hT2.narrow hAB⟩
    · exact ⟨hZ3.narrow hAB, hT3.narrow hAB⟩
  · exact va_tabs rfl rfl (hts (Cond.methodLinkNest RX1 109 yX4_has RX4) (List.mem_of_getElem? (i := 407) (by decide +kernel)))
  · exact va_tabs rfl rfl (hts (Cond.methodLinkNest RX2 64 yX4_has RX4) (List.mem_of_getElem? (i := 303) (by decide +kernel)))
  · exact va_tabs rfl rfl (hts (Cond.methodLinkNest RX3 55 yX4_isWithin RX4) (List.mem_of_getElem? (i := 600) (by decide +kernel)))
  · exact va_tabs rfl rfl (hts (Cond.fieldLinkNest RX2 38 RX4 "LINK_X" "[I" RX4) (List.mem_of_getElem? (i := 337) (by decide +kernel)))
  · exact va_tabs rfl rfl (hts (Cond.fieldLinkNest RX2 41 RX4 "LINK_Y" "[I" RX4) (List.mem_of_getElem? (i := 339) (by decide +kernel)))
set_option maxHeartbeats 4000000 in
set_option maxRecDepth 100000 in
theorem law_go {p : Program} {l : Launch} {e : Env} {s : State} {m : MethodId} {below : List Frame} {meth : Method} {c : Code} {b L : Nat} {xs : Nat → Int32} (hL : L ≤ 3072) (C0 : lw_At p s m meth c b L xs) (D : va_G) (cI cR : ClassId) (hK : va_K D vwCl [(cI, .int), (cR, .object "StrokeCuts$Scene")] s) (q0 qm : Nat) (u v : Nat → Nat) {H : Heap} {locs : List Loc} (hP : va_P D vwCl (wWL cI cR q0 qm u v) H) (hD : va_D (fun q : Nat => s.heap.size ≤ q) (wWL cI cR q0 qm u v)) (hS : va_S (fun q : Nat => s.heap.size ≤ q) s.heap H locs) {ls : Array Slot} (hl : lv_has ls 4 [(3, .int 0), (2, .ref qm), (1, .ref q0), (0, .ref b)]) : W p l e room_1 s m #[Value.ref b] below meth c H locs 59 2774 (lw_Z below #[Value.ref b] s) (F0 m 18 ls []) := by
  have hfr : ∀ i, i < 59 → s.heap.size ≤ wAd q0 qm u v i := fun i hi => by
    obtain ⟨e, he⟩ := wWL_at cI cR q0 qm u v hi
    exact hD.2 i _ he
  obtain ⟨tt, hst⟩ := wSt C0 D (wAd q0 qm u v) cI cR hfr
  obtain ⟨hx, hb, hr, hml, hown0, hts, hX, hbl, hlocks, hgv⟩ := C0
  have hok : zOK (D, wAd q0 qm u v, cI, cR, tt) := fun i j hi hj e => by
    obtain ⟨e1, h1⟩ := wWL_at cI cR q0 qm u v hi
    obtain ⟨e2, h2⟩ := wWL_at cI cR q0 qm u v hj
    exact hD.1 i j _ _ h1 h2 e
  have hC : yC (p, l, e, room_1, s, m, #[Value.ref b], below, meth, c, (D, wAd q0 qm u v, cI, cR, tt), 4, lw_Z below #[Value.ref b] s) (D, wAd q0 qm u v, cI, cR, tt) l b L xs :=
    ⟨hx, hb, hml, hown0, fun w h => hts w (wsL_law_in w h), hK, hlocks, hok, hst, rfl, hr, ⟨hX, hbl, fun q ⟨i, h1, h2⟩ => by rw [h2]; exact hfr i h1, rfl, rfl⟩, rfl, rfl, rfl⟩
  have hl4 : zL ls 4 [some (.ref b), some (.ref q0), some (.ref qm), some (.int (zI ((0 : Nat) : Int)))] := ⟨hl.1, hl.2.1, fun i x hx => by
    match i, hx with
    | 0, hx => cases hx; exact hl.2.2 (0, .ref b) (by simp)
    | 1, hx => cases hx; exact hl.2.2 (1, .ref q0) (by simp)
    | 2, hx => cases hx; exact hl.2.2 (2, .ref qm) (by simp)
    | 3, hx => cases hx; exact hl.2.2 (3, .int 0) (by simp)
    | i + 4, hx => simp at hx⟩
  exact law_loop hok hC hL (L + 6) 0 O0 A0 (by omega) (Nat.zero_le _) O0_RC O0_RM H locs ls (wWL_zW D cI cR q0 qm u v tt hP) hS hl4
