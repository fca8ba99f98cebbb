/-! ===== the law's own walk: the world stands, nothing new is made ===== -/
def Y (E : zE) (Ω : Mem) (pc : Nat) (lv : List (Option Value)) (st : List Value) : Prop :=
  ∀ (H : Heap) (locs : List Loc) (ls : Array Slot), va_P (e_w E).1 vwCl (zW (e_w E) Ω) H → va_S (fun q : Nat => (e_s E).heap.size ≤ q) (e_s E).heap H locs → zL ls (e_n E) lv → W (e_p E) (e_l E) (e_e E) (e_R E) (e_s E) (e_m E) (e_a E) (e_b E) (e_me E) (e_c E) H locs 59 2774 (e_Q E) (F0 (e_m E) pc ls st)
def yC (E : zE) (w : zP) (l : Launch) (b L : Nat) (xs : Nat → Int32) : Prop :=
  (e_p E).tables.exec = Jvm.exec ∧ (e_c E).code = cL_law ∧ (e_c E).maxLocals = e_n E ∧ (e_s E).vm.findClass RL = some (e_m E).cls ∧ (∀ x ∈ wsL_law, x.before (e_a E) (e_s E) = true) ∧ va_K w.1 vwCl (zT w) (e_s E) ∧ (e_me E).locks = false ∧ zOK w ∧ zSt w (e_s E) (e_s E).heap ∧ e_R E = room_1 ∧ (e_me E).sig.returnType = ret ∧ (va_X b L xs (e_s E) (e_s E).heap ∧ b < (e_s E).heap.size ∧ (∀ q, zA w q → (e_s E).heap.size ≤ q) ∧ e_Q E = lw_Z (e_b E) #[Value.ref b] (e_s E) ∧ e_a E = #[Value.ref b]) ∧ e_w E = w ∧ e_l E = l ∧ e_n E = 4
section YLAW
variable {E : zE} {w : zP} {l : Launch} {b0 L : Nat} {xs : Nat → Int32} {Ω : Mem} {pc : Nat} {lv lv' : List (Option Value)} {st st0 rest : List Value}
theorem y_iload_n (hC : yC E w l b0 L xs) {i : Nat} {j : Fin 4} {x : Int32} (hdg : decode cL_law pc = .ok (.iload_n j, 1)) (hi : (j : Nat) = i) (hl0 : lv[i]? = some (some (.int x))) (k : Y E Ω (pc + 1) lv (.int x :: st)) : Y E Ω pc lv st := by
  obtain ⟨hx, hb, hml, hown, hts, hK, hlk, hok, hsta, hR, hret, hQ, rfl, rfl, hn4⟩ := hC
  intro H locs ls hP hS hl
  exact lv_iload_n hx hb hdg hi (hl.2.2 i _ hl0) (k H locs ls hP hS hl)
theorem y_aload_n (hC : yC E w l b0 L xs) {i : Nat} {j : Fin 4} {x : Nat} (hdg : decode cL_law pc = .ok (.aload_n j, 1)) (hi : (j : Nat) = i) (hl0 : lv[i]? = some (some (.ref x))) (k : Y E Ω (pc + 1) lv (.ref x :: st)) : Y E Ω pc lv st := by
  obtain ⟨hx, hb, hml, hown, hts, hK, hlk, hok, hsta, hR, hret, hQ, rfl, rfl, hn4⟩ := hC
  intro H locs ls hP hS hl
  exact lv_aload_n hx hb hdg hi (hl.2.2 i _ hl0) (k H locs ls hP hS hl)
theorem y_iconst (hC : yC E w l b0 L xs) {n : Int} (hdg : decode cL_law pc = .ok (.iconst n, 1)) (k : Y E Ω (pc + 1) lv (.int (zI n) :: st)) : Y E Ω pc lv st := by
  obtain ⟨hx, hb, hml, hown, hts, hK, hlk, hok, hsta, hR, hret, hQ, rfl, rfl, hn4⟩ := hC
  intro H locs ls hP hS hl
  exact lv_iconst hx hb hdg rfl (k H locs ls hP hS hl)
theorem y_bipush (hC : yC E w l b0 L xs) {n : Int} (hdg : decode cL_law pc = .ok (.bipush n, 2)) (hv : (Int8.ofInt n).toInt32 = zI n) (k : Y E Ω (pc + 2) lv (.int (zI n) :: st)) : Y E Ω pc lv st := by
  obtain ⟨hx, hb, hml, hown, hts, hK, hlk, hok, hsta, hR, hret, hQ, rfl, rfl, hn4⟩ := hC
  intro H locs ls hP hS hl
  exact lv_bipush hx hb hdg hv (k H locs ls hP hS hl)
theorem y_iadd (hC : yC E w l b0 L xs) {a b : Int} (hdg : decode cL_law pc = .ok (.iadd, 1)) (k : Y E Ω (pc + 1) lv (.int (zI (a + b)) :: st)) : Y E Ω pc lv (.int (zI b) :: .int (zI a) :: st) := by
  obtain ⟨hx, hb, hml, hown, hts, hK, hlk, hok, hsta, hR, hret, hQ, rfl, rfl, hn4⟩ := hC
  intro H locs ls hP hS hl
  have k := k H locs ls hP hS hl
  rw [← zI_add] at k
  exact lv_iadd hx hb hdg k
theorem y_isub (hC : yC E w l b0 L xs) {a b : Int} (hdg : decode cL_law pc = .ok (.isub, 1)) (k : Y E Ω (pc + 1) lv (.int (zI (a - b)) :: st)) : Y E Ω pc lv (.int (zI b) :: .int (zI a) :: st) := by
  obtain ⟨hx, hb, hml, hown, hts, hK, hlk, hok, hsta, hR, hret, hQ, rfl, rfl, hn4⟩ := hC
  intro H locs ls hP hS hl
  have k := k H locs ls hP hS hl
  rw [← zI_sub] at k
  exact lv_isub hx hb hdg k
theorem y_iand (hC : yC E w l b0 L xs) {a b : Int32} (r : Int) (hr : a &&& b = zI r) (hdg : decode cL_law pc = .ok (.iand, 1)) (k : Y E Ω (pc + 1) lv (.int (zI r) :: st)) : Y E Ω pc lv (.int b :: .int a :: st) := by
  obtain ⟨hx, hb, hml, hown, hts, hK, hlk, hok, hsta, hR, hret, hQ, rfl, rfl, hn4⟩ := hC
  intro H locs ls hP hS hl
  have k := k H locs ls hP hS hl
  rw [← hr] at k
  exact lv_iand hx hb hdg k
theorem y_icmp_gt (hC : yC E w l b0 L xs) {a b : Int} {off : Int} (tgt : Nat) (ha : zb a) (hb1 : zb b) (hdg : decode cL_law pc = .ok (.if_icmp .gt off, 3)) (ht : (pc : Int) + off = (tgt : Int)) (kt : b < a → Y E Ω tgt lv st) (kf : a ≤ b → Y E Ω (pc + 3) lv st) : Y E Ω pc lv (.int (zI b) :: .int (zI a) :: st) := by
  obtain ⟨hx, hb, hml, hown, hts, hK, hlk, hok, hsta, hR, hret, hQ, rfl, rfl, hn4⟩ := hC
  intro H locs ls hP hS hl
  refine lv_icmp_gt (tgt := tgt) hx hb hdg ht (fun h => kt ?_ H locs ls hP hS hl) (fun h => kf ?_ H locs ls hP hS hl)
  · exact zc_gt ha hb1 h
  · exact zn_gt ha hb1 h
theorem y_lcmp (hC : yC E w l b0 L xs) {x y : Int64} (hdg : decode cL_law pc = .ok (.lcmp, 1)) (k : Y E Ω (pc + 1) lv (.int (zI (zcmp x y)) :: st)) : Y E Ω pc lv (.long y :: .long x :: st) := by
  obtain ⟨hx, hb, hml, hown, hts, hK, hlk, hok, hsta, hR, hret, hQ, rfl, rfl, hn4⟩ := hC
  intro H locs ls hP hS hl
  have k := k H locs ls hP hS hl
  rw [← zcmp_eq] at k
  exact W.lcmp hx hb hdg k
theorem y_if_eq (hC : yC E w l b0 L xs) {a : Int} {off : Int} (tgt : Nat) (ha : zb a) (hdg : decode cL_law pc = .ok (.ifCond .eq off, 3)) (ht : (pc : Int) + off = (tgt : Int)) (kt : a = 0 → Y E Ω tgt lv st) (kf : a ≠ 0 → Y E Ω (pc + 3) lv st) : Y E Ω pc lv (.int (zI a) :: st) := by
  obtain ⟨hx, hb, hml, hown, hts, hK, hlk, hok, hsta, hR, hret, hQ, rfl, rfl, hn4⟩ := hC
  intro H locs ls hP hS hl
  refine lv_if_eq (tgt := tgt) hx hb hdg ht (fun h => kt ?_ H locs ls hP hS hl) (fun h => kf ?_ H locs ls hP hS hl)
  · exact zc_eq (b := 0) ha zb_0 h
  · exact zn_eq (b := 0) ha zb_0 h
theorem y_i2l (hC : yC E w l b0 L xs) {x : Int32} {v : Int64} (hv : x.toInt64 = v) (hdg : decode cL_law pc = .ok (.i2l, 1)) (k : Y E Ω (pc + 1) lv (.long v :: st)) : Y E Ω pc lv (.int x :: st) := by
  obtain ⟨hx, hb, hml, hown, hts, hK, hlk, hok, hsta, hR, hret, hQ, rfl, rfl, hn4⟩ := hC
  intro H locs ls hP hS hl
  exact lv_i2l hx hb hdg hv (k H locs ls hP hS hl)
theorem y_lshl (hC : yC E w l b0 L xs) {x v : Int64} {y : Int32} (hv : x <<< (y.toInt64 &&& 63) = v) (hdg : decode cL_law pc = .ok (.lshl, 1)) (k : Y E Ω (pc + 1) lv (.long v :: st)) : Y E Ω pc lv (.int y :: .long x :: st) := by
  obtain ⟨hx, hb, hml, hown, hts, hK, hlk, hok, hsta, hR, hret, hQ, rfl, rfl, hn4⟩ := hC
  intro H locs ls hP hS hl
  exact lv_lshl hx hb hdg hv (k H locs ls hP hS hl)
theorem y_ldc2 (hC : yC E w l b0 L xs) {idx : Nat} {v : Int64} (hm : Cond.constantLong RL idx v ∈ wsL_law) (hdg : decode cL_law pc = .ok (.ldc2_w idx, 3)) (k : Y E Ω (pc + 3) lv (.long v :: st)) : Y E Ω pc lv st := by
  obtain ⟨hx, hb, hml, hown, hts, hK, hlk, hok, hsta, hR, hret, hQ, rfl, rfl, hn4⟩ := hC
  intro H locs ls hP hS hl
  exact lv_ldc2 hx hb hown (hts _ hm) hdg (k H locs ls hP hS hl)
theorem y_land (hC : yC E w l b0 L xs) {x y : Int64} (hdg : decode cL_law pc = .ok (.land, 1)) (k : Y E Ω (pc + 1) lv (.long (x &&& y) :: st)) : Y E Ω pc lv (.long y :: .long x :: st) := by
  obtain ⟨hx, hb, hml, hown, hts, hK, hlk, hok, hsta, hR, hret, hQ, rfl, rfl, hn4⟩ := hC
  intro H locs ls hP hS hl
  exact lv_land hx hb hdg (k H locs ls hP hS hl)
theorem y_lor (hC : yC E w l b0 L xs) {x y : Int64} (hdg : decode cL_law pc = .ok (.lor, 1)) (k : Y E Ω (pc + 1) lv (.long (x ||| y) :: st)) : Y E Ω pc lv (.long y :: .long x :: st) := by
  obtain ⟨hx, hb, hml, hown, hts, hK, hlk, hok, hsta, hR, hret, hQ, rfl, rfl, hn4⟩ := hC
  intro H locs ls hP hS hl
  exact lv_lor hx hb hdg (k H locs ls hP hS hl)
theorem y_iinc (hC : yC E w l b0 L xs) {i : Nat} {z n : Int} (hdg : decode cL_law pc = .ok (.iinc i n, 3)) (hl0 : lv[i]? = some (some (.int (zI z)))) (hn : i < 4) (hk : zok lv i = true) (hs : zS lv i (.int (zI (z + n))) lv') (k : Y E Ω (pc + 3) lv' st) : Y E Ω pc lv st := by
  obtain ⟨hx, hb, hml, hown, hts, hK, hlk, hok, hsta, hR, hret, hQ, rfl, rfl, hn4⟩ := hC
  intro H locs ls hP hS hl
  obtain ⟨j, hj⟩ := List.getElem?_of_mem (zpl_mem hl0)
  exact lv_iinc (v := zI (z + n)) hx hb hdg hl.has hj (by rw [← zI_add]; rfl) (by omega) rfl (fun ls1 h1 => k H locs ls1 hP hS (zL.of1 h1 hk hs))
theorem y_goto (hC : yC E w l b0 L xs) {off : Int} (tgt : Nat) (hdg : decode cL_law pc = .ok (.goto off, 3)) (ht : (pc : Int) + off = (tgt : Int)) (k : Y E Ω tgt lv st) : Y E Ω pc lv st := by
  obtain ⟨hx, hb, hml, hown, hts, hK, hlk, hok, hsta, hR, hret, hQ, rfl, rfl, hn4⟩ := hC
  intro H locs ls hP hS hl
  exact lv_goto (tgt := tgt) hx hb hdg ht (k H locs ls hP hS hl)
theorem y_tsIn (hC : yC E w l b0 L xs) {a dflt lo1 hi off : Int} {offs : Array Int} {len : Nat} (tgt : Nat) (ha : zb a) (h1 : lo1 ≤ a) (h2 : a ≤ hi) (hdg : decode cL_law pc = .ok (.tableswitch dflt lo1 hi offs, len)) (ho : offs[(a - lo1).toNat]? = some off) (ht : (pc : Int) + off = (tgt : Int)) (k : Y E Ω tgt lv st) : Y E Ω pc lv (.int (zI a) :: st) := by
  obtain ⟨hx, hb, hml, hown, hts, hK, hlk, hok, hsta, hR, hret, hQ, rfl, rfl, hn4⟩ := hC
  intro H locs ls hP hS hl
  exact lv_tableIn (tgt := tgt) (off := off) hx hb hdg (by rw [zI_toInt ha]; omega) (by rw [zI_toInt ha]; omega) (by rw [zI_toInt ha]; exact ho) ht (k H locs ls hP hS hl)
theorem y_tsOut (hC : yC E w l b0 L xs) {a dflt lo1 hi : Int} {offs : Array Int} {len : Nat} (tgt : Nat) (ha : zb a) (h1 : a < lo1 ∨ hi < a) (hdg : decode cL_law pc = .ok (.tableswitch dflt lo1 hi offs, len)) (ht : (pc : Int) + dflt = (tgt : Int)) (k : Y E Ω tgt lv st) : Y E Ω pc lv (.int (zI a) :: st) := by
  obtain ⟨hx, hb, hml, hown, hts, hK, hlk, hok, hsta, hR, hret, hQ, rfl, rfl, hn4⟩ := hC
  intro H locs ls hP hS hl
  exact lv_tableOut (tgt := tgt) hx hb hdg (by rw [zI_toInt ha]; exact h1) ht (k H locs ls hP hS hl)
theorem y_slen (hC : yC E w l b0 L xs) (hdg : decode cL_law pc = .ok (.arraylength, 1)) (k : Y E Ω (pc + 1) lv (.int (zI (L : Int)) :: st)) : Y E Ω pc lv (.ref b0 :: st) := by
  obtain ⟨hx, hb, hml, hown, hts, hK, hlk, hok, hsta, hR, hret, ⟨hX, hbl, hfr, hQ, ha⟩, rfl, rfl, hn4⟩ := hC
  intro H locs ls hP hS hl
  have k := k H locs ls hP hS hl
  rw [← zI_n] at k
  exact va_slen hx hb hX hbl (Nat.not_le.mpr hbl) hS hdg k
theorem y_sld (hC : yC E w l b0 L xs) (j : Nat) {z : Int} (hz : z = (j : Int)) (hj : j < L) (hL : L ≤ 3072) (hdg : decode cL_law pc = .ok (.iaload, 1)) (k : Y E Ω (pc + 1) lv (.int (zI (xs j).toInt) :: st)) : Y E Ω pc lv (.int (zI z) :: .ref b0 :: st) := by
  obtain ⟨hx, hb, hml, hown, hts, hK, hlk, hok, hsta, hR, hret, ⟨hX, hbl, hfr, hQ, ha⟩, rfl, rfl, hn4⟩ := hC
  subst hz
  intro H locs ls hP hS hl
  have k := k H locs ls hP hS hl
  rw [zI_of] at k
  have e : (zI (j : Int)).toNatClampNeg = j := by rw [zI_cl (by omega) (by omega)]; rfl
  have hin : vp_in (zI (j : Int)) L := zI_in (by omega) (by omega) (by omega)
  refine va_sld hx hb hX hbl (Nat.not_le.mpr hbl) hS hin hdg ?_
  rw [e]
  exact k
theorem y_same (hC : yC E w l b0 L xs) {x : Int32} {off : Int} (tgt : Nat) (hdg : decode cL_law pc = .ok (.if_icmp .eq off, 3)) (ht : (pc : Int) + off = (tgt : Int)) (kt : Y E Ω tgt lv st) : Y E Ω pc lv (.int x :: .int x :: st) := by
  obtain ⟨hx, hb, hml, hown, hts, hK, hlk, hok, hsta, hR, hret, hQ, rfl, rfl, hn4⟩ := hC
  intro H locs ls hP hS hl
  exact lv_icmp_eq (tgt := tgt) hx hb hdg ht (fun _ => kt H locs ls hP hS hl) (fun h => absurd rfl h)
theorem y_end (hC : yC E w l b0 L xs) (h1 : decode cL_law pc = .ok (.iconst 1, 1)) (h2 : decode cL_law (pc + 1) = .ok (.ireturn, 1)) : Y E Ω pc lv [] := by
  obtain ⟨hx, hb, hml, hown, hts, hK, hlk, hok, hsta, hR, hret, ⟨hX, hbl, hfr, hQ, ha⟩, rfl, rfl, hn4⟩ := hC
  intro H locs ls hP hS hl
  refine lv_iconst (v := 1) hx hb h1 (by decide) ?_
  refine va_forget (fun q hq => hS.2.2 q hq) ?_
  refine W.widen (k := 600000) (n := 7302250) (Nat.le_of_ble_eq_true rfl) (Nat.le_of_ble_eq_true rfl) ?_
  rw [hR, hQ, ha]
  exact lw_ret hx hb hret hlk h2
theorem y_run (hC : yC E w l b0 L xs) {PostY : Option Value → Mem → Prop} {a : Array Value} (hr : ∀ (H : Heap) (locs : List Loc) (ls : Array Slot), va_P (e_w E).1 vwCl (zW (e_w E) Ω) H → va_S (fun q : Nat => (e_s E).heap.size ≤ q) (e_s E).heap H locs → zL ls (e_n E) lv → va_Run (e_p E) (e_l E) (e_e E) (e_R E) (e_s E) (e_m E) (e_a E) (e_b E) (e_me E) (e_c E) H locs 59 2774 0 0 (F0 (e_m E) pc ls st0) rest (zQ (e_w E) PostY a) (zA (e_w E)))
    (kk : ∀ (v : Option Value) (Ω1 : Mem), PostY v Ω1 → Y E Ω1 (pc + 3) lv (v.toList ++ rest)) : Y E Ω pc lv st0 := by
  obtain ⟨hx, hb, hml, hown, hts, hK, hlk, hok, hsta, hR, hret, ⟨hX, hbl, hfr, hQ, ha⟩, rfl, rfl, hn4⟩ := hC
  intro H locs ls hP hS hl T hT XX
  obtain ⟨v, st₀, t, T', L1, h0, X', hL, e1, e2, ⟨⟨v', Ω', hv, hp, hPt⟩, hz, hk⟩, hst⟩ := hr H locs ls hP hS hl T hT XX
  cases hv
  rw [h0] at hz hk
  obtain ⟨t2, a1, b1⟩ := kk v Ω' hp T'.heap (locs ++ L1) ls (by rw [e1]; exact hPt)
    ⟨Nat.le_trans hS.1 (by rw [e1]; exact hz), fun q h1 h2 => by rw [e1, hk q (Nat.lt_of_lt_of_le h1 hS.1) (fun z => h2 (hfr q z))]; exact hS.2.1 q h1 h2, fun q hq => by
      rcases List.mem_append.mp hq with h | h
      · exact hS.2.2 q h
      · exact hfr _ (hL q h)⟩ hl T' rfl X'
  exact ⟨t2, hst t2 a1, b1⟩
theorem y_callV (hC : yC E w l b0 L xs) {y : MethodName} {wy wy' : List Cond} {ccy : ByteArray} {nLy fr' lo' : Nat} {rety : Option FieldType} {C : String} {idx n ci N q : Nat} {T : u_T} {fsf : (Nat → Int32) → List Value} {As : List Value} {PostY : Option Value → Mem → Prop}
    (hM : zM l w y wy fr' lo' (.ref (wa w q) :: As) Ω PostY) (hg : GoodIn wsL_law (wsV RL idx C y wy)) (hwy : wy = Cond.code y ccy nLy rety :: wy') (hd : y.cls = C ∧ y.cls ≠ "java/lang/invoke/MethodHandle" ∧ y.cls ≠ "java/lang/invoke/VarHandle" ∧ (parseMethodDescriptor y.desc).map (fun d => d.parameters.length) = some n)
    (hR1 : fr' + 1 ≤ 2048) (hR2 : 8 + (nLy + 11) + lo' ≤ 84000) (hc : vwCl[ci]? = some (C, T, N)) (hq : q < 59) (hz : ∀ f, zs w f q = .inr (ci, fsf f)) (hn : As.length = n) (hst0 : st0 = As.reverse ++ .ref (wa w q) :: rest) (hroom : (rest.map fun v => v.category).sum ≤ 8) (hdg : decode cL_law pc = .ok (.invokevirtual idx, 3))
    (kk : ∀ (v : Option Value) (Ω1 : Mem), PostY v Ω1 → Y E Ω1 (pc + 3) lv (v.toList ++ rest)) : Y E Ω pc lv st0 := by
  have hC0 := hC
  obtain ⟨hx, hb, hml, hown, hts, hK, hlk, hok, hsta, hR, hret, hQ, rfl, rfl, hn4⟩ := hC
  refine y_run hC0 (a := (Value.ref (wa (e_w E) q) :: As).toArray) (fun H locs ls hP hS hl => ?_) kk
  have hS1 : va_S (zA (e_w E)) (e_s E).heap H [] := ⟨hS.1, fun q h1 _ => hS.2.1 q h1 (Nat.not_le.mpr h1), fun _ h => absurd h List.not_mem_nil⟩
  exact va_runV (As := As) (rest := rest) ⟨hx, hb, hml, hown, hts⟩ hM (cwV n hts hg hwy rfl rfl hd ⟨by rw [hR]; exact hR1, by rw [hR]; exact hR2⟩) ⟨z_blind, va_recv hK hP hc (q0 := q) (by rw [zW_at _ Ω hq, hz]), fun U hU hW => z_pre hP hS1 hK hsta hU hW⟩ rfl hn hl.1 hst0 (lv_room hroom) hdg ⟨by rw [hR]; exact Nat.le_of_ble_eq_true rfl, by rw [hR]; exact Nat.le_of_ble_eq_true rfl⟩
theorem yi_k {P : Int → Mem → Prop} (k : ∀ (r : Int) (Ω1 : Mem), P r Ω1 → Y E Ω1 pc lv (.int (zI r) :: rest)) : ∀ (v : Option Value) (Ω1 : Mem), zi P v Ω1 → Y E Ω1 pc lv (v.toList ++ rest) := by
  rintro v Ω1 ⟨r, rfl, h⟩
  exact k r Ω1 h
theorem yl_k {P : Int64 → Mem → Prop} (k : ∀ (r : Int64) (Ω1 : Mem), P r Ω1 → Y E Ω1 pc lv (.long r :: rest)) : ∀ (v : Option Value) (Ω1 : Mem), zlo P v Ω1 → Y E Ω1 pc lv (v.toList ++ rest) := by
  rintro v Ω1 ⟨r, rfl, h⟩
  exact k r Ω1 h
end YLAW
theorem RM.frC {Ω Ω1 : Mem} {a : As} (h : RM Ω a) (g : frC Ω Ω1) : RM Ω1 a := h.same (fun k _ => gt_fr (g 49 (by decide)) k) (fun q u _ => g q (by omega))
theorem RC.frG {Ω Ω1 : Mem} {a : As} (h : RC Ω a) (g : frG Ω Ω1) : RC Ω1 a := by
  obtain ⟨⟨h1, h1'⟩, ⟨h2, h3, h4, h5⟩, h6, h7, h8, h9, h10, h11⟩ := h
  have e1 : ∀ k, gt Ω1 1 k = gt Ω 1 k := fun k => gt_fr (g 1 (by omega)) k
  have e10 : ∀ k, gt Ω1 10 k = gt Ω 10 k := fun k => gt_fr (g 10 (by omega)) k
  refine ⟨⟨(scC_cong (g 13 (by omega)) (g 14 (by omega)) (g 15 (by omega)) (g 16 (by omega))).trans h1, h1'⟩, ⟨by rw [e1]; exact h2, h3, by rw [e1]; exact h4, fun i hi => ?_⟩, fun i hi => ?_, ?_, h8, ?_, h10, ?_⟩
  · rw [e1, scT_same (Ω := Ω) (fun q a b => g q (by omega))]; exact h5 i hi
  · rw [g 0 (by omega)]; exact h6 i hi
  · rw [e10]; exact h7
  · exact Eq.trans (funext fun k => gt_fr (g 11 (by omega)) k) h9
  · rw [e10]; exact h11
theorem zcmp_self (x : Int64) : zcmp x x = 0 := zcmp_0.mpr rfl
