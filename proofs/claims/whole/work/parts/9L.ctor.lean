/-! ===== the constructors ===== -/
section CTOR
variable {p : Program} {l : Launch} {e : Env} {R : Room} {s : State} {m : MethodId} {args : Array Value} {below : List Frame} {meth : Method} {c : Code} {H : Heap} {locs : List Loc} {cells slots : Nat} {Q : State → Prop}
variable {cc : ByteArray} {pc : Nat} {ls : Array Slot} {rest : List Value} {D : va_G} {cl : List vw_C} {A : Nat → Prop} {tys : List (ClassId × FieldType)} {ws : va_W} {H0 : Heap}
/-- a new row of ints, its class the one that is known -/
theorem va_newI (hexec : p.tables.exec = Jvm.exec) (hb : c.code = cc) (harr : (Cond.arrayClass .int).before args s = true) (hK : va_K D cl tys s) {t0 : Nat} {cI : ClassId} (ht : tys[t0]? = some (cI, .int)) (hP : va_P D cl ws H) (hD : va_D A ws) (hS : va_S A H0 H locs) (hA : ∀ q, H0.size ≤ q → A q)
    {n : Int32} {N' : Nat} (hn : ¬ n < 0) (hN : n.toNatClampNeg = N') (hbytes : N' * componentBytes .int ≤ 536870912) (hcells : cells + 1 ≤ R.cells) (hslots : slots + N' ≤ R.slots) (hdg : decode cc pc = .ok (.newarray .int, 2))
    (kk : ∀ (q : Nat) (H1 : Heap), va_P D cl (ws ++ [(q, .inl (cI, N', .inl (fun _ => 0)))]) H1 → va_D A (ws ++ [(q, .inl (cI, N', .inl (fun _ => 0)))]) → va_S A H0 H1 locs →
      W p l e R s m args below meth c H1 locs (cells + 1) (slots + N') Q (F0 m (pc + 2) ls (.ref q :: rest))) : W p l e R s m args below meth c H locs cells slots Q (F0 m pc ls (.int n :: rest)) := by
  refine va_newa (atype := .int) (ty := .int) (a0 := (N', .inl (fun _ => 0))) hexec hb harr rfl hK hP hD hS hA (fun _ => rfl) hn hN hbytes hcells hslots hdg (fun q cA H1 hK1 hP1 hD1 hS1 => ?_)
  have h1 : s.vm.findClass ("[" ++ FieldType.int.toString) = some cA := (hK1.2 tys.length (cA, .int) (by simp)).2
  have h2 : s.vm.findClass ("[" ++ FieldType.int.toString) = some cI := (hK.2 t0 (cI, .int) ht).2
  rw [h1] at h2
  have h3 : cA = cI := Option.some.inj h2
  subst h3
  exact kk q H1 hP1 hD1 hS1
/-- a new row of references, its class the one that is known -/
theorem va_newQ (hexec : p.tables.exec = Jvm.exec) (hb : c.code = cc) {own C : String} {index : Nat} (hown : s.vm.findClass own = some m.cls) (hclink : (Cond.classLink own index C).before args s = true) (hover : va_AO C s) (hK : va_K D cl tys s) {t0 : Nat} {cR : ClassId} (ht : tys[t0]? = some (cR, .object C)) (hP : va_P D cl ws H) (hD : va_D A ws) (hS : va_S A H0 H locs) (hA : ∀ q, H0.size ≤ q → A q)
    {n : Int32} {N' : Nat} (hn : ¬ n < 0) (hN : n.toNatClampNeg = N') (hbytes : N' * 4 ≤ 536870912) (hcells : cells + 1 ≤ R.cells) (hslots : slots + N' ≤ R.slots) (hdg : decode cc pc = .ok (.anewarray index, 3))
    (kk : ∀ (q : Nat) (H1 : Heap), va_P D cl (ws ++ [(q, .inl (cR, N', .inr (.inr (.inr (.inr (fun _ => none))))))]) H1 → va_D A (ws ++ [(q, .inl (cR, N', .inr (.inr (.inr (.inr (fun _ => none))))))]) → va_S A H0 H1 locs →
      W p l e R s m args below meth c H1 locs (cells + 1) (slots + N') Q (F0 m (pc + 3) ls (.ref q :: rest))) : W p l e R s m args below meth c H locs cells slots Q (F0 m pc ls (.int n :: rest)) := by
  refine va_newq hexec hb hown hclink hover hK hP hD hS hA hn hN hbytes hcells hslots hdg (fun q cA H1 hK1 hP1 hD1 hS1 => ?_)
  obtain ⟨_, _, -, -, -, h1⟩ := (hK1.2 tys.length (cA, .object C) (by simp)).2
  obtain ⟨_, _, -, -, -, h2⟩ := (hK.2 t0 (cR, .object C) ht).2
  rw [h1] at h2
  have h3 : cA = cR := Option.some.inj h2
  subst h3
  exact kk q H1 hP1 hD1 hS1
end CTOR
def sF : Nat → Int32 := upd (upd (upd (upd (upd (upd (fun _ => 0) 0 10) 1 2) 2 1) 3 0) 4 9) 5 4
def mF : Nat → Int32 := upd (upd (upd (upd (upd (upd (upd (fun _ => 0) 0 4) 1 4) 2 10) 3 2) 4 1) 6 9) 7 4
set_option maxHeartbeats 4000000 in
set_option maxRecDepth 100000 in
theorem c_X2_init (l : Launch) (D : va_G) (cI cR : ClassId) (h0 sz : Nat) : Met l yX2_init wsX2_init ({ frames := 1, cells := 3, slots := 78, locals := 100 }) (va_Pc [.ref h0] (fun U => U.heap.size = sz ∧ va_P D vwCl [(h0, .inr (2, [.int 0, .int 0, .null, .null, .null]))] U.heap ∧ va_K D vwCl [(cI, .int), (cR, .object "StrokeCuts$Scene")] U ∧ va_D (fun _ => True) [(h0, .inr (2, [.int 0, .int 0, .null, .null, .null]))] ∧ True)) (va_Qv (fun _ : Nat → Nat => True) (fun u t => va_P D vwCl [(h0, .inr (2, [.int 4, .int 4, .ref (u 0), .ref (u 1), .ref (u 2)])), ((u 0), .inl (cI, 6, .inl (upd (upd (upd (upd (upd (upd (fun _ => 0) 0 10) 1 2) 2 1) 3 0) 4 9) 5 4))), ((u 1), .inl (cI, 36, .inl (fun _ => 0))), ((u 2), .inl (cI, 36, .inl (fun _ => 0)))] t.heap ∧ va_K D vwCl [(cI, .int), (cR, .object "StrokeCuts$Scene")] t ∧ va_D (va_A [(h0, .inr (2, [.int 0, .int 0, .null, .null, .null]))] sz) [(h0, .inr (2, [.int 4, .int 4, .ref (u 0), .ref (u 1), .ref (u 2)])), ((u 0), .inl (cI, 6, .inl (upd (upd (upd (upd (upd (upd (fun _ => 0) 0 10) 1 2) 2 1) 3 0) 4 9) 5 4))), ((u 1), .inl (cI, 36, .inl (fun _ => 0))), ((u 2), .inl (cI, 36, .inl (fun _ => 0)))]) (va_A [(h0, .inr (2, [.int 0, .int 0, .null, .null, .null]))] sz)) 3 78 (va_A [(h0, .inr (2, [.int 0, .int 0, .null, .null, .null]))] sz) := by
  refine Met.ofW (cc := cX2_init) (maxL := 1) (ret := none) (by decide +kernel) rfl ?_
  intro p e s m args below meth c s₁ B hml hv
  obtain ⟨rfl, hsz, hP, hK, hD0, hE⟩ := hv
  have hx := B.exec
  have hb := B.bytes
  have hr := B.returns
  have hts := atoms_spec (ws := wsX2_init) B.pre
  have hown : s.vm.findClass RX2 = some m.cls := findClass_of_methodNamed B.named
  have hlocks := B.notSynchronized
  have hin : meth.name = "<init>" := (name_of_methodNamed B.named B.method).1
  subst hsz
  have hD := hD0.self (sz := s.heap.size)
  generalize hAe : va_A [(h0, .inr (2, [.int 0, .int 0, .null, .null, .null]))] s.heap.size = A at hD ⊢
  have hA : ∀ q : Nat, s.heap.size ≤ q → A q := fun q h => by rw [← hAe]; exact Or.inr h
  have hS : va_S A s.heap s.heap [] := va_S.rf
  have hP : va_P D vwCl [(h0, .inr (2, [.int 0, .int 0, .null, .null, .null]))] s.heap := hP
  have hl := lv_entry ([.ref h0]) (n := 1) (Nat.le_of_ble_eq_true rfl)
  rw [lg_entry_eq]
  generalize (lg_sl ([.ref h0]) ++ List.replicate (1 - (lg_sl ([.ref h0])).length) Slot.unset).toArray = ls at hl ⊢
  have hl : lv_has ls 1 [(0, .ref h0)] := hl
  refine lv_aload_n hx hb dX2_init_0 rfl (lv_at hl 0 rfl) ?_
  refine W.objInit hx hb hown (hts (.methodLink RX2 3 objectInit) (by decide +kernel)) (hts (.instanceMethod objectInit) (by decide +kernel)) (hts (.code objectInit ⟨#[0xb1]⟩ 1 none) (by decide +kernel)) rfl (by rw [hml]; exact hl.1) rfl dX2_init_1 (Nat.le_of_ble_eq_true rfl) (Nat.le_of_ble_eq_true rfl) ?_
  refine W.eq (g2 := F0 m 4 ls []) rfl ?_
  refine lv_aload_n hx hb dX2_init_4 rfl (lv_at hl 0 rfl) ?_
  refine lv_bipush (v := 6) hx hb dX2_init_5 (by decide) ?_
  refine va_newI (t0 := 0) (N' := 6) hx hb (hts (.arrayClass .int) (by decide +kernel)) hK rfl hP hD hS hA (by decide) (by decide) (Nat.le_of_ble_eq_true rfl) (Nat.le_of_ble_eq_true rfl) (Nat.le_of_ble_eq_true rfl) dX2_init_7 (fun q7 H hP hD hS => ?_)
  have hP : va_P D vwCl [(h0, .inr (2, [.int 0, .int 0, .null, .null, .null])), (q7, .inl (cI, 6, .inl (fun _ => 0)))] H := hP
  have hD : va_D A [(h0, .inr (2, [.int 0, .int 0, .null, .null, .null])), (q7, .inl (cI, 6, .inl (fun _ => 0)))] := hD
  refine lv_dup hx hb dX2_init_9 rfl ?_
  refine lv_iconst (v := 0) hx hb dX2_init_10 (by decide) ?_
  refine lv_bipush (v := 10) hx hb dX2_init_11 (by decide) ?_
  refine va_iast hx hb hK hP hD hS 1 0 rfl rfl (by unfold vp_in; decide) dX2_init_13 (fun H locs hP hD hS => ?_)
  have hP : va_P D vwCl [(h0, .inr (2, [.int 0, .int 0, .null, .null, .null])), (q7, .inl (cI, 6, .inl (upd (fun _ => 0) 0 10)))] H := hP
  have hD : va_D A [(h0, .inr (2, [.int 0, .int 0, .null, .null, .null])), (q7, .inl (cI, 6, .inl (upd (fun _ => 0) 0 10)))] := hD
  refine lv_dup hx hb dX2_init_14 rfl ?_
  refine lv_iconst (v := 1) hx hb dX2_init_15 (by decide) ?_
  refine lv_iconst (v := 2) hx hb dX2_init_16 (by decide) ?_
  refine va_iast hx hb hK hP hD hS 1 0 rfl rfl (by unfold vp_in; decide) dX2_init_17 (fun H locs hP hD hS => ?_)
  have hP : va_P D vwCl [(h0, .inr (2, [.int 0, .int 0, .null, .null, .null])), (q7, .inl (cI, 6, .inl (upd (upd (fun _ => 0) 0 10) 1 2)))] H := hP
  have hD : va_D A [(h0, .inr (2, [.int 0, .int 0, .null, .null, .null])), (q7, .inl (cI, 6, .inl (upd (upd (fun _ => 0) 0 10) 1 2)))] := hD
  refine lv_dup hx hb dX2_init_18 rfl ?_
  refine lv_iconst (v := 2) hx hb dX2_init_19 (by decide) ?_
  refine lv_iconst (v := 1) hx hb dX2_init_20 (by decide) ?_
  refine va_iast hx hb hK hP hD hS 1 0 rfl rfl (by unfold vp_in; decide) dX2_init_21 (fun H locs hP hD hS => ?_)
  have hP : va_P D vwCl [(h0, .inr (2, [.int 0, .int 0, .null, .null, .null])), (q7, .inl (cI, 6, .inl (upd (upd (upd (fun _ => 0) 0 10) 1 2) 2 1)))] H := hP
  have hD : va_D A [(h0, .inr (2, [.int 0, .int 0, .null, .null, .null])), (q7, .inl (cI, 6, .inl (upd (upd (upd (fun _ => 0) 0 10) 1 2) 2 1)))] := hD
  refine lv_dup hx hb dX2_init_22 rfl ?_
  refine lv_iconst (v := 3) hx hb dX2_init_23 (by decide) ?_
  refine lv_iconst (v := 0) hx hb dX2_init_24 (by decide) ?_
  refine va_iast hx hb hK hP hD hS 1 0 rfl rfl (by unfold vp_in; decide) dX2_init_25 (fun H locs hP hD hS => ?_)
  have hP : va_P D vwCl [(h0, .inr (2, [.int 0, .int 0, .null, .null, .null])), (q7, .inl (cI, 6, .inl (upd (upd (upd (upd (fun _ => 0) 0 10) 1 2) 2 1) 3 0)))] H := hP
  have hD : va_D A [(h0, .inr (2, [.int 0, .int 0, .null, .null, .null])), (q7, .inl (cI, 6, .inl (upd (upd (upd (upd (fun _ => 0) 0 10) 1 2) 2 1) 3 0)))] := hD
  refine lv_dup hx hb dX2_init_26 rfl ?_
  refine lv_iconst (v := 4) hx hb dX2_init_27 (by decide) ?_
  refine lv_bipush (v := 9) hx hb dX2_init_28 (by decide) ?_
  refine va_iast hx hb hK hP hD hS 1 0 rfl rfl (by unfold vp_in; decide) dX2_init_30 (fun H locs hP hD hS => ?_)
  have hP : va_P D vwCl [(h0, .inr (2, [.int 0, .int 0, .null, .null, .null])), (q7, .inl (cI, 6, .inl (upd (upd (upd (upd (upd (fun _ => 0) 0 10) 1 2) 2 1) 3 0) 4 9)))] H := hP
  have hD : va_D A [(h0, .inr (2, [.int 0, .int 0, .null, .null, .null])), (q7, .inl (cI, 6, .inl (upd (upd (upd (upd (upd (fun _ => 0) 0 10) 1 2) 2 1) 3 0) 4 9)))] := hD
  refine lv_dup hx hb dX2_init_31 rfl ?_
  refine lv_iconst (v := 5) hx hb dX2_init_32 (by decide) ?_
  refine lv_iconst (v := 4) hx hb dX2_init_33 (by decide) ?_
  refine va_iast hx hb hK hP hD hS 1 0 rfl rfl (by unfold vp_in; decide) dX2_init_34 (fun H locs hP hD hS => ?_)
  have hP : va_P D vwCl [(h0, .inr (2, [.int 0, .int 0, .null, .null, .null])), (q7, .inl (cI, 6, .inl (upd (upd (upd (upd (upd (upd (fun _ => 0) 0 10) 1 2) 2 1) 3 0) 4 9) 5 4)))] H := hP
  have hD : va_D A [(h0, .inr (2, [.int 0, .int 0, .null, .null, .null])), (q7, .inl (cI, 6, .inl (upd (upd (upd (upd (upd (upd (fun _ => 0) 0 10) 1 2) 2 1) 3 0) 4 9) 5 4)))] := hD
  refine va_putF (D := D) (ci := 2) (v := .ref q7) (ty := .array .int) (C := RX2) (T := TX2) (N := 5) hx hb hts (by decide +kernel) tyX2 tyX2_ok nmX2 hown hK hP hD hS 0 rfl rfl 2 (by decide) (hts (.fieldLink RX2 9 "StrokeCuts$Scene" "settings" "[I") (by decide +kernel)) (fun _ h9 => h9) rfl hin rfl (by decide +kernel) rfl rfl (Nat.le_of_ble_eq_true rfl) dX2_init_35 (fun H locs hP hD hS => ?_)
  have hP : va_P D vwCl [(h0, .inr (2, [.int 0, .int 0, .ref q7, .null, .null])), (q7, .inl (cI, 6, .inl (upd (upd (upd (upd (upd (upd (fun _ => 0) 0 10) 1 2) 2 1) 3 0) 4 9) 5 4)))] H := hP
  have hD : va_D A [(h0, .inr (2, [.int 0, .int 0, .ref q7, .null, .null])), (q7, .inl (cI, 6, .inl (upd (upd (upd (upd (upd (upd (fun _ => 0) 0 10) 1 2) 2 1) 3 0) 4 9) 5 4)))] := hD
  refine lv_aload_n hx hb dX2_init_38 rfl (lv_at hl 0 rfl) ?_
  refine lv_bipush (v := 36) hx hb dX2_init_39 (by decide) ?_
  refine va_newI (t0 := 0) (N' := 36) hx hb (hts (.arrayClass .int) (by decide +kernel)) hK rfl hP hD hS hA (by decide) (by decide) (Nat.le_of_ble_eq_true rfl) (Nat.le_of_ble_eq_true rfl) (Nat.le_of_ble_eq_true rfl) dX2_init_41 (fun q41 H hP hD hS => ?_)
  have hP : va_P D vwCl [(h0, .inr (2, [.int 0, .int 0, .ref q7, .null, .null])), (q7, .inl (cI, 6, .inl (upd (upd (upd (upd (upd (upd (fun _ => 0) 0 10) 1 2) 2 1) 3 0) 4 9) 5 4))), (q41, .inl (cI, 36, .inl (fun _ => 0)))] H := hP
  have hD : va_D A [(h0, .inr (2, [.int 0, .int 0, .ref q7, .null, .null])), (q7, .inl (cI, 6, .inl (upd (upd (upd (upd (upd (upd (fun _ => 0) 0 10) 1 2) 2 1) 3 0) 4 9) 5 4))), (q41, .inl (cI, 36, .inl (fun _ => 0)))] := hD
  refine va_putF (D := D) (ci := 2) (v := .ref q41) (ty := .array .int) (C := RX2) (T := TX2) (N := 5) hx hb hts (by decide +kernel) tyX2 tyX2_ok nmX2 hown hK hP hD hS 0 rfl rfl 3 (by decide) (hts (.fieldLink RX2 15 "StrokeCuts$Scene" "shades" "[I") (by decide +kernel)) (fun _ h9 => h9) rfl hin rfl (by decide +kernel) rfl rfl (Nat.le_of_ble_eq_true rfl) dX2_init_43 (fun H locs hP hD hS => ?_)
  have hP : va_P D vwCl [(h0, .inr (2, [.int 0, .int 0, .ref q7, .ref q41, .null])), (q7, .inl (cI, 6, .inl (upd (upd (upd (upd (upd (upd (fun _ => 0) 0 10) 1 2) 2 1) 3 0) 4 9) 5 4))), (q41, .inl (cI, 36, .inl (fun _ => 0)))] H := hP
  have hD : va_D A [(h0, .inr (2, [.int 0, .int 0, .ref q7, .ref q41, .null])), (q7, .inl (cI, 6, .inl (upd (upd (upd (upd (upd (upd (fun _ => 0) 0 10) 1 2) 2 1) 3 0) 4 9) 5 4))), (q41, .inl (cI, 36, .inl (fun _ => 0)))] := hD
  refine lv_aload_n hx hb dX2_init_46 rfl (lv_at hl 0 rfl) ?_
  refine lv_bipush (v := 36) hx hb dX2_init_47 (by decide) ?_
  refine va_newI (t0 := 0) (N' := 36) hx hb (hts (.arrayClass .int) (by decide +kernel)) hK rfl hP hD hS hA (by decide) (by decide) (Nat.le_of_ble_eq_true rfl) (Nat.le_of_ble_eq_true rfl) (Nat.le_of_ble_eq_true rfl) dX2_init_49 (fun q49 H hP hD hS => ?_)
  have hP : va_P D vwCl [(h0, .inr (2, [.int 0, .int 0, .ref q7, .ref q41, .null])), (q7, .inl (cI, 6, .inl (upd (upd (upd (upd (upd (upd (fun _ => 0) 0 10) 1 2) 2 1) 3 0) 4 9) 5 4))), (q41, .inl (cI, 36, .inl (fun _ => 0))), (q49, .inl (cI, 36, .inl (fun _ => 0)))] H := hP
  have hD : va_D A [(h0, .inr (2, [.int 0, .int 0, .ref q7, .ref q41, .null])), (q7, .inl (cI, 6, .inl (upd (upd (upd (upd (upd (upd (fun _ => 0) 0 10) 1 2) 2 1) 3 0) 4 9) 5 4))), (q41, .inl (cI, 36, .inl (fun _ => 0))), (q49, .inl (cI, 36, .inl (fun _ => 0)))] := hD
  refine va_putF (D := D) (ci := 2) (v := .ref q49) (ty := .array .int) (C := RX2) (T := TX2) (N := 5) hx hb hts (by decide +kernel) tyX2 tyX2_ok nmX2 hown hK hP hD hS 0 rfl rfl 4 (by decide) (hts (.fieldLink RX2 18 "StrokeCuts$Scene" "marks" "[I") (by decide +kernel)) (fun _ h9 => h9) rfl hin rfl (by decide +kernel) rfl rfl (Nat.le_of_ble_eq_true rfl) dX2_init_51 (fun H locs hP hD hS => ?_)
  have hP : va_P D vwCl [(h0, .inr (2, [.int 0, .int 0, .ref q7, .ref q41, .ref q49])), (q7, .inl (cI, 6, .inl (upd (upd (upd (upd (upd (upd (fun _ => 0) 0 10) 1 2) 2 1) 3 0) 4 9) 5 4))), (q41, .inl (cI, 36, .inl (fun _ => 0))), (q49, .inl (cI, 36, .inl (fun _ => 0)))] H := hP
  have hD : va_D A [(h0, .inr (2, [.int 0, .int 0, .ref q7, .ref q41, .ref q49])), (q7, .inl (cI, 6, .inl (upd (upd (upd (upd (upd (upd (fun _ => 0) 0 10) 1 2) 2 1) 3 0) 4 9) 5 4))), (q41, .inl (cI, 36, .inl (fun _ => 0))), (q49, .inl (cI, 36, .inl (fun _ => 0)))] := hD
  refine lv_aload_n hx hb dX2_init_54 rfl (lv_at hl 0 rfl) ?_
  refine lv_iconst (v := 4) hx hb dX2_init_55 (by decide) ?_
  refine va_put (D := D) (ci := 2) (v := .int 4) (ty := .int) (C := RX2) (T := TX2) (N := 5) hx hb hts (by decide +kernel) tyX2 tyX2_ok nmX2 hown hK hP hD hS 0 rfl rfl 0 (by decide) (hts (.fieldLink RX2 21 "StrokeCuts$Scene" "width" "I") (by decide +kernel)) (fun _ h9 => h9) rfl (by decide +kernel) rfl rfl (Nat.le_of_ble_eq_true rfl) dX2_init_56 (fun H locs hP hD hS => ?_)
  have hP : va_P D vwCl [(h0, .inr (2, [.int 4, .int 0, .ref q7, .ref q41, .ref q49])), (q7, .inl (cI, 6, .inl (upd (upd (upd (upd (upd (upd (fun _ => 0) 0 10) 1 2) 2 1) 3 0) 4 9) 5 4))), (q41, .inl (cI, 36, .inl (fun _ => 0))), (q49, .inl (cI, 36, .inl (fun _ => 0)))] H := hP
  have hD : va_D A [(h0, .inr (2, [.int 4, .int 0, .ref q7, .ref q41, .ref q49])), (q7, .inl (cI, 6, .inl (upd (upd (upd (upd (upd (upd (fun _ => 0) 0 10) 1 2) 2 1) 3 0) 4 9) 5 4))), (q41, .inl (cI, 36, .inl (fun _ => 0))), (q49, .inl (cI, 36, .inl (fun _ => 0)))] := hD
  refine lv_aload_n hx hb dX2_init_59 rfl (lv_at hl 0 rfl) ?_
  refine lv_iconst (v := 4) hx hb dX2_init_60 (by decide) ?_
  refine va_put (D := D) (ci := 2) (v := .int 4) (ty := .int) (C := RX2) (T := TX2) (N := 5) hx hb hts (by decide +kernel) tyX2 tyX2_ok nmX2 hown hK hP hD hS 0 rfl rfl 1 (by decide) (hts (.fieldLink RX2 25 "StrokeCuts$Scene" "height" "I") (by decide +kernel)) (fun _ h9 => h9) rfl (by decide +kernel) rfl rfl (Nat.le_of_ble_eq_true rfl) dX2_init_61 (fun H locs hP hD hS => ?_)
  have hP : va_P D vwCl [(h0, .inr (2, [.int 4, .int 4, .ref q7, .ref q41, .ref q49])), (q7, .inl (cI, 6, .inl (upd (upd (upd (upd (upd (upd (fun _ => 0) 0 10) 1 2) 2 1) 3 0) 4 9) 5 4))), (q41, .inl (cI, 36, .inl (fun _ => 0))), (q49, .inl (cI, 36, .inl (fun _ => 0)))] H := hP
  have hD : va_D A [(h0, .inr (2, [.int 4, .int 4, .ref q7, .ref q41, .ref q49])), (q7, .inl (cI, 6, .inl (upd (upd (upd (upd (upd (upd (fun _ => 0) 0 10) 1 2) 2 1) 3 0) 4 9) 5 4))), (q41, .inl (cI, 36, .inl (fun _ => 0))), (q49, .inl (cI, 36, .inl (fun _ => 0)))] := hD
  have hP9 := hP.sub (ws' := [(h0, .inr (2, [.int 4, .int 4, .ref q7, .ref q41, .ref q49])), (q7, .inl (cI, 6, .inl (upd (upd (upd (upd (upd (upd (fun _ => 0) 0 10) 1 2) 2 1) 3 0) 4 9) 5 4))), (q41, .inl (cI, 36, .inl (fun _ => 0))), (q49, .inl (cI, 36, .inl (fun _ => 0)))]) [0, 1, 2, 3] rfl
  have hD9 := hD.sub (ws' := [(h0, .inr (2, [.int 4, .int 4, .ref q7, .ref q41, .ref q49])), (q7, .inl (cI, 6, .inl (upd (upd (upd (upd (upd (upd (fun _ => 0) 0 10) 1 2) 2 1) 3 0) 4 9) 5 4))), (q41, .inl (cI, 36, .inl (fun _ => 0))), (q49, .inl (cI, 36, .inl (fun _ => 0)))]) [0, 1, 2, 3] (by decide) rfl
  have hK9 := hK.sub (tys' := [(cI, .int), (cR, .object "StrokeCuts$Scene")]) [0, 1] rfl
  refine W.widen (k := 3) (n := 78) (Nat.le_of_ble_eq_true rfl) (Nat.le_of_ble_eq_true rfl) ?_
  exact W.vret hx hb hr (fun t ht hW => ⟨⟨fun i => ([q7, q41, q49] : List Nat).getD i 0, rfl, trivial, by rw [ht]; exact hP9, va_K.moved hW.alike hK9, hD9⟩, hS.F ht⟩) hS.2.2 dX2_init_64
set_option maxHeartbeats 4000000 in
set_option maxRecDepth 100000 in
theorem c_X1_init (l : Launch) (D : va_G) (cI cR : ClassId) (h0 sz : Nat) : Met l yX1_init wsX1_init ({ frames := 1, cells := 6, slots := 720, locals := 100 }) (va_Pc [.ref h0] (fun U => U.heap.size = sz ∧ va_P D vwCl [(h0, .inr (1, [.int 0, .null, .null, .null, .null, .null, .null, .int 0]))] U.heap ∧ va_K D vwCl [(cI, .int), (cR, .object "StrokeCuts$Scene")] U ∧ va_D (fun _ => True) [(h0, .inr (1, [.int 0, .null, .null, .null, .null, .null, .null, .int 0]))] ∧ True)) (va_Qv (fun _ : Nat → Nat => True) (fun u t => va_P D vwCl [(h0, .inr (1, [.int 0, .ref (u 0), .ref (u 1), .ref (u 2), .ref (u 3), .ref (u 4), .ref (u 5), .int 0])), ((u 0), .inl (cI, 36, .inl (fun _ => 0))), ((u 1), .inl (cI, 36, .inl (fun _ => 0))), ((u 2), .inl (cI, 288, .inl (fun _ => 0))), ((u 3), .inl (cI, 288, .inl (fun _ => 0))), ((u 4), .inl (cI, 36, .inl (fun _ => 0))), ((u 5), .inl (cI, 36, .inl (fun _ => 0)))] t.heap ∧ va_K D vwCl [(cI, .int), (cR, .object "StrokeCuts$Scene")] t ∧ va_D (va_A [(h0, .inr (1, [.int 0, .null, .null, .null, .null, .null, .null, .int 0]))] sz) [(h0, .inr (1, [.int 0, .ref (u 0), .ref (u 1), .ref (u 2), .ref (u 3), .ref (u 4), .ref (u 5), .int 0])), ((u 0), .inl (cI, 36, .inl (fun _ => 0))), ((u 1), .inl (cI, 36, .inl (fun _ => 0))), ((u 2), .inl (cI, 288, .inl (fun _ => 0))), ((u 3), .inl (cI, 288, .inl (fun _ => 0))), ((u 4), .inl (cI, 36, .inl (fun _ => 0))), ((u 5), .inl (cI, 36, .inl (fun _ => 0)))]) (va_A [(h0, .inr (1, [.int 0, .null, .null, .null, .null, .null, .null, .int 0]))] sz)) 6 720 (va_A [(h0, .inr (1, [.int 0, .null, .null, .null, .null, .null, .null, .int 0]))] sz) := by
  refine Met.ofW (cc := cX1_init) (maxL := 1) (ret := none) (by decide +kernel) rfl ?_
  intro p e s m args below meth c s₁ B hml hv
  obtain ⟨rfl, hsz, hP, hK, hD0, hE⟩ := hv
  have hx := B.exec
  have hb := B.bytes
  have hr := B.returns
  have hts := atoms_spec (ws := wsX1_init) B.pre
  have hown : s.vm.findClass RX1 = some m.cls := findClass_of_methodNamed B.named
  have hlocks := B.notSynchronized
  have hin : meth.name = "<init>" := (name_of_methodNamed B.named B.method).1
  subst hsz
  have hD := hD0.self (sz := s.heap.size)
  generalize hAe : va_A [(h0, .inr (1, [.int 0, .null, .null, .null, .null, .null, .null, .int 0]))] s.heap.size = A at hD ⊢
  have hA : ∀ q : Nat, s.heap.size ≤ q → A q := fun q h => by rw [← hAe]; exact Or.inr h
  have hS : va_S A s.heap s.heap [] := va_S.rf
  have hP : va_P D vwCl [(h0, .inr (1, [.int 0, .null, .null, .null, .null, .null, .null, .int 0]))] s.heap := hP
  have hl := lv_entry ([.ref h0]) (n := 1) (Nat.le_of_ble_eq_true rfl)
  rw [lg_entry_eq]
  generalize (lg_sl ([.ref h0]) ++ List.replicate (1 - (lg_sl ([.ref h0])).length) Slot.unset).toArray = ls at hl ⊢
  have hl : lv_has ls 1 [(0, .ref h0)] := hl
  refine lv_aload_n hx hb dX1_init_0 rfl (lv_at hl 0 rfl) ?_
  refine W.objInit hx hb hown (hts (.methodLink RX1 3 objectInit) (by decide +kernel)) (hts (.instanceMethod objectInit) (by decide +kernel)) (hts (.code objectInit ⟨#[0xb1]⟩ 1 none) (by decide +kernel)) rfl (by rw [hml]; exact hl.1) rfl dX1_init_1 (Nat.le_of_ble_eq_true rfl) (Nat.le_of_ble_eq_true rfl) ?_
  refine W.eq (g2 := F0 m 4 ls []) rfl ?_
  refine lv_aload_n hx hb dX1_init_4 rfl (lv_at hl 0 rfl) ?_
  refine lv_bipush (v := 36) hx hb dX1_init_5 (by decide) ?_
  refine va_newI (t0 := 0) (N' := 36) hx hb (hts (.arrayClass .int) (by decide +kernel)) hK rfl hP hD hS hA (by decide) (by decide) (Nat.le_of_ble_eq_true rfl) (Nat.le_of_ble_eq_true rfl) (Nat.le_of_ble_eq_true rfl) dX1_init_7 (fun q7 H hP hD hS => ?_)
  have hP : va_P D vwCl [(h0, .inr (1, [.int 0, .null, .null, .null, .null, .null, .null, .int 0])), (q7, .inl (cI, 36, .inl (fun _ => 0)))] H := hP
  have hD : va_D A [(h0, .inr (1, [.int 0, .null, .null, .null, .null, .null, .null, .int 0])), (q7, .inl (cI, 36, .inl (fun _ => 0)))] := hD
  refine va_putF (D := D) (ci := 1) (v := .ref q7) (ty := .array .int) (C := RX1) (T := TX1) (N := 8) hx hb hts (by decide +kernel) tyX1 tyX1_ok nmX1 hown hK hP hD hS 0 rfl rfl 1 (by decide) (hts (.fieldLink RX1 9 "StrokeCuts$Network" "fromFigure" "[I") (by decide +kernel)) (fun _ h9 => h9) rfl hin rfl (by decide +kernel) rfl rfl (Nat.le_of_ble_eq_true rfl) dX1_init_9 (fun H locs hP hD hS => ?_)
  have hP : va_P D vwCl [(h0, .inr (1, [.int 0, .ref q7, .null, .null, .null, .null, .null, .int 0])), (q7, .inl (cI, 36, .inl (fun _ => 0)))] H := hP
  have hD : va_D A [(h0, .inr (1, [.int 0, .ref q7, .null, .null, .null, .null, .null, .int 0])), (q7, .inl (cI, 36, .inl (fun _ => 0)))] := hD
  refine lv_aload_n hx hb dX1_init_12 rfl (lv_at hl 0 rfl) ?_
  refine lv_bipush (v := 36) hx hb dX1_init_13 (by decide) ?_
  refine va_newI (t0 := 0) (N' := 36) hx hb (hts (.arrayClass .int) (by decide +kernel)) hK rfl hP hD hS hA (by decide) (by decide) (Nat.le_of_ble_eq_true rfl) (Nat.le_of_ble_eq_true rfl) (Nat.le_of_ble_eq_true rfl) dX1_init_15 (fun q15 H hP hD hS => ?_)
  have hP : va_P D vwCl [(h0, .inr (1, [.int 0, .ref q7, .null, .null, .null, .null, .null, .int 0])), (q7, .inl (cI, 36, .inl (fun _ => 0))), (q15, .inl (cI, 36, .inl (fun _ => 0)))] H := hP
  have hD : va_D A [(h0, .inr (1, [.int 0, .ref q7, .null, .null, .null, .null, .null, .int 0])), (q7, .inl (cI, 36, .inl (fun _ => 0))), (q15, .inl (cI, 36, .inl (fun _ => 0)))] := hD
  refine va_putF (D := D) (ci := 1) (v := .ref q15) (ty := .array .int) (C := RX1) (T := TX1) (N := 8) hx hb hts (by decide +kernel) tyX1 tyX1_ok nmX1 hown hK hP hD hS 0 rfl rfl 2 (by decide) (hts (.fieldLink RX1 15 "StrokeCuts$Network" "toGround" "[I") (by decide +kernel)) (fun _ h9 => h9) rfl hin rfl (by decide +kernel) rfl rfl (Nat.le_of_ble_eq_true rfl) dX1_init_17 (fun H locs hP hD hS => ?_)
  have hP : va_P D vwCl [(h0, .inr (1, [.int 0, .ref q7, .ref q15, .null, .null, .null, .null, .int 0])), (q7, .inl (cI, 36, .inl (fun _ => 0))), (q15, .inl (cI, 36, .inl (fun _ => 0)))] H := hP
  have hD : va_D A [(h0, .inr (1, [.int 0, .ref q7, .ref q15, .null, .null, .null, .null, .int 0])), (q7, .inl (cI, 36, .inl (fun _ => 0))), (q15, .inl (cI, 36, .inl (fun _ => 0)))] := hD
  refine lv_aload_n hx hb dX1_init_20 rfl (lv_at hl 0 rfl) ?_
  refine lv_sipush (v := 288) hx hb dX1_init_21 (by decide) ?_
  refine va_newI (t0 := 0) (N' := 288) hx hb (hts (.arrayClass .int) (by decide +kernel)) hK rfl hP hD hS hA (by decide) (by decide) (Nat.le_of_ble_eq_true rfl) (Nat.le_of_ble_eq_true rfl) (Nat.le_of_ble_eq_true rfl) dX1_init_24 (fun q24 H hP hD hS => ?_)
  have hP : va_P D vwCl [(h0, .inr (1, [.int 0, .ref q7, .ref q15, .null, .null, .null, .null, .int 0])), (q7, .inl (cI, 36, .inl (fun _ => 0))), (q15, .inl (cI, 36, .inl (fun _ => 0))), (q24, .inl (cI, 288, .inl (fun _ => 0)))] H := hP
  have hD : va_D A [(h0, .inr (1, [.int 0, .ref q7, .ref q15, .null, .null, .null, .null, .int 0])), (q7, .inl (cI, 36, .inl (fun _ => 0))), (q15, .inl (cI, 36, .inl (fun _ => 0))), (q24, .inl (cI, 288, .inl (fun _ => 0)))] := hD
  refine va_putF (D := D) (ci := 1) (v := .ref q24) (ty := .array .int) (C := RX1) (T := TX1) (N := 8) hx hb hts (by decide +kernel) tyX1 tyX1_ok nmX1 hown hK hP hD hS 0 rfl rfl 3 (by decide) (hts (.fieldLink RX1 18 "StrokeCuts$Network" "neighbour" "[I") (by decide +kernel)) (fun _ h9 => h9) rfl hin rfl (by decide +kernel) rfl rfl (Nat.le_of_ble_eq_true rfl) dX1_init_26 (fun H locs hP hD hS => ?_)
  have hP : va_P D vwCl [(h0, .inr (1, [.int 0, .ref q7, .ref q15, .ref q24, .null, .null, .null, .int 0])), (q7, .inl (cI, 36, .inl (fun _ => 0))), (q15, .inl (cI, 36, .inl (fun _ => 0))), (q24, .inl (cI, 288, .inl (fun _ => 0)))] H := hP
  have hD : va_D A [(h0, .inr (1, [.int 0, .ref q7, .ref q15, .ref q24, .null, .null, .null, .int 0])), (q7, .inl (cI, 36, .inl (fun _ => 0))), (q15, .inl (cI, 36, .inl (fun _ => 0))), (q24, .inl (cI, 288, .inl (fun _ => 0)))] := hD
  refine lv_aload_n hx hb dX1_init_29 rfl (lv_at hl 0 rfl) ?_
  refine lv_sipush (v := 288) hx hb dX1_init_30 (by decide) ?_
  refine va_newI (t0 := 0) (N' := 288) hx hb (hts (.arrayClass .int) (by decide +kernel)) hK rfl hP hD hS hA (by decide) (by decide) (Nat.le_of_ble_eq_true rfl) (Nat.le_of_ble_eq_true rfl) (Nat.le_of_ble_eq_true rfl) dX1_init_33 (fun q33 H hP hD hS => ?_)
  have hP : va_P D vwCl [(h0, .inr (1, [.int 0, .ref q7, .ref q15, .ref q24, .null, .null, .null, .int 0])), (q7, .inl (cI, 36, .inl (fun _ => 0))), (q15, .inl (cI, 36, .inl (fun _ => 0))), (q24, .inl (cI, 288, .inl (fun _ => 0))), (q33, .inl (cI, 288, .inl (fun _ => 0)))] H := hP
  have hD : va_D A [(h0, .inr (1, [.int 0, .ref q7, .ref q15, .ref q24, .null, .null, .null, .int 0])), (q7, .inl (cI, 36, .inl (fun _ => 0))), (q15, .inl (cI, 36, .inl (fun _ => 0))), (q24, .inl (cI, 288, .inl (fun _ => 0))), (q33, .inl (cI, 288, .inl (fun _ => 0)))] := hD
  refine va_putF (D := D) (ci := 1) (v := .ref q33) (ty := .array .int) (C := RX1) (T := TX1) (N := 8) hx hb hts (by decide +kernel) tyX1 tyX1_ok nmX1 hown hK hP hD hS 0 rfl rfl 4 (by decide) (hts (.fieldLink RX1 21 "StrokeCuts$Network" "room" "[I") (by decide +kernel)) (fun _ h9 => h9) rfl hin rfl (by decide +kernel) rfl rfl (Nat.le_of_ble_eq_true rfl) dX1_init_35 (fun H locs hP hD hS => ?_)
  have hP : va_P D vwCl [(h0, .inr (1, [.int 0, .ref q7, .ref q15, .ref q24, .ref q33, .null, .null, .int 0])), (q7, .inl (cI, 36, .inl (fun _ => 0))), (q15, .inl (cI, 36, .inl (fun _ => 0))), (q24, .inl (cI, 288, .inl (fun _ => 0))), (q33, .inl (cI, 288, .inl (fun _ => 0)))] H := hP
  have hD : va_D A [(h0, .inr (1, [.int 0, .ref q7, .ref q15, .ref q24, .ref q33, .null, .null, .int 0])), (q7, .inl (cI, 36, .inl (fun _ => 0))), (q15, .inl (cI, 36, .inl (fun _ => 0))), (q24, .inl (cI, 288, .inl (fun _ => 0))), (q33, .inl (cI, 288, .inl (fun _ => 0)))] := hD
  refine lv_aload_n hx hb dX1_init_38 rfl (lv_at hl 0 rfl) ?_
  refine lv_bipush (v := 36) hx hb dX1_init_39 (by decide) ?_
  refine va_newI (t0 := 0) (N' := 36) hx hb (hts (.arrayClass .int) (by decide +kernel)) hK rfl hP hD hS hA (by decide) (by decide) (Nat.le_of_ble_eq_true rfl) (Nat.le_of_ble_eq_true rfl) (Nat.le_of_ble_eq_true rfl) dX1_init_41 (fun q41 H hP hD hS => ?_)
  have hP : va_P D vwCl [(h0, .inr (1, [.int 0, .ref q7, .ref q15, .ref q24, .ref q33, .null, .null, .int 0])), (q7, .inl (cI, 36, .inl (fun _ => 0))), (q15, .inl (cI, 36, .inl (fun _ => 0))), (q24, .inl (cI, 288, .inl (fun _ => 0))), (q33, .inl (cI, 288, .inl (fun _ => 0))), (q41, .inl (cI, 36, .inl (fun _ => 0)))] H := hP
  have hD : va_D A [(h0, .inr (1, [.int 0, .ref q7, .ref q15, .ref q24, .ref q33, .null, .null, .int 0])), (q7, .inl (cI, 36, .inl (fun _ => 0))), (q15, .inl (cI, 36, .inl (fun _ => 0))), (q24, .inl (cI, 288, .inl (fun _ => 0))), (q33, .inl (cI, 288, .inl (fun _ => 0))), (q41, .inl (cI, 36, .inl (fun _ => 0)))] := hD
  refine va_putF (D := D) (ci := 1) (v := .ref q41) (ty := .array .int) (C := RX1) (T := TX1) (N := 8) hx hb hts (by decide +kernel) tyX1 tyX1_ok nmX1 hown hK hP hD hS 0 rfl rfl 5 (by decide) (hts (.fieldLink RX1 24 "StrokeCuts$Network" "distance" "[I") (by decide +kernel)) (fun _ h9 => h9) rfl hin rfl (by decide +kernel) rfl rfl (Nat.le_of_ble_eq_true rfl) dX1_init_43 (fun H locs hP hD hS => ?_)
  have hP : va_P D vwCl [(h0, .inr (1, [.int 0, .ref q7, .ref q15, .ref q24, .ref q33, .ref q41, .null, .int 0])), (q7, .inl (cI, 36, .inl (fun _ => 0))), (q15, .inl (cI, 36, .inl (fun _ => 0))), (q24, .inl (cI, 288, .inl (fun _ => 0))), (q33, .inl (cI, 288, .inl (fun _ => 0))), (q41, .inl (cI, 36, .inl (fun _ => 0)))] H := hP
  have hD : va_D A [(h0, .inr (1, [.int 0, .ref q7, .ref q15, .ref q24, .ref q33, .ref q41, .null, .int 0])), (q7, .inl (cI, 36, .inl (fun _ => 0))), (q15, .inl (cI, 36, .inl (fun _ => 0))), (q24, .inl (cI, 288, .inl (fun _ => 0))), (q33, .inl (cI, 288, .inl (fun _ => 0))), (q41, .inl (cI, 36, .inl (fun _ => 0)))] := hD
  refine lv_aload_n hx hb dX1_init_46 rfl (lv_at hl 0 rfl) ?_
  refine lv_bipush (v := 36) hx hb dX1_init_47 (by decide) ?_
  refine va_newI (t0 := 0) (N' := 36) hx hb (hts (.arrayClass .int) (by decide +kernel)) hK rfl hP hD hS hA (by decide) (by decide) (Nat.le_of_ble_eq_true rfl) (Nat.le_of_ble_eq_true rfl) (Nat.le_of_ble_eq_true rfl) dX1_init_49 (fun q49 H hP hD hS => ?_)
  have hP : va_P D vwCl [(h0, .inr (1, [.int 0, .ref q7, .ref q15, .ref q24, .ref q33, .ref q41, .null, .int 0])), (q7, .inl (cI, 36, .inl (fun _ => 0))), (q15, .inl (cI, 36, .inl (fun _ => 0))), (q24, .inl (cI, 288, .inl (fun _ => 0))), (q33, .inl (cI, 288, .inl (fun _ => 0))), (q41, .inl (cI, 36, .inl (fun _ => 0))), (q49, .inl (cI, 36, .inl (fun _ => 0)))] H := hP
  have hD : va_D A [(h0, .inr (1, [.int 0, .ref q7, .ref q15, .ref q24, .ref q33, .ref q41, .null, .int 0])), (q7, .inl (cI, 36, .inl (fun _ => 0))), (q15, .inl (cI, 36, .inl (fun _ => 0))), (q24, .inl (cI, 288, .inl (fun _ => 0))), (q33, .inl (cI, 288, .inl (fun _ => 0))), (q41, .inl (cI, 36, .inl (fun _ => 0))), (q49, .inl (cI, 36, .inl (fun _ => 0)))] := hD
  refine va_putF (D := D) (ci := 1) (v := .ref q49) (ty := .array .int) (C := RX1) (T := TX1) (N := 8) hx hb hts (by decide +kernel) tyX1 tyX1_ok nmX1 hown hK hP hD hS 0 rfl rfl 6 (by decide) (hts (.fieldLink RX1 27 "StrokeCuts$Network" "queue" "[I") (by decide +kernel)) (fun _ h9 => h9) rfl hin rfl (by decide +kernel) rfl rfl (Nat.le_of_ble_eq_true rfl) dX1_init_51 (fun H locs hP hD hS => ?_)
  have hP : va_P D vwCl [(h0, .inr (1, [.int 0, .ref q7, .ref q15, .ref q24, .ref q33, .ref q41, .ref q49, .int 0])), (q7, .inl (cI, 36, .inl (fun _ => 0))), (q15, .inl (cI, 36, .inl (fun _ => 0))), (q24, .inl (cI, 288, .inl (fun _ => 0))), (q33, .inl (cI, 288, .inl (fun _ => 0))), (q41, .inl (cI, 36, .inl (fun _ => 0))), (q49, .inl (cI, 36, .inl (fun _ => 0)))] H := hP
  have hD : va_D A [(h0, .inr (1, [.int 0, .ref q7, .ref q15, .ref q24, .ref q33, .ref q41, .ref q49, .int 0])), (q7, .inl (cI, 36, .inl (fun _ => 0))), (q15, .inl (cI, 36, .inl (fun _ => 0))), (q24, .inl (cI, 288, .inl (fun _ => 0))), (q33, .inl (cI, 288, .inl (fun _ => 0))), (q41, .inl (cI, 36, .inl (fun _ => 0))), (q49, .inl (cI, 36, .inl (fun _ => 0)))] := hD
  have hP9 := hP.sub (ws' := [(h0, .inr (1, [.int 0, .ref q7, .ref q15, .ref q24, .ref q33, .ref q41, .ref q49, .int 0])), (q7, .inl (cI, 36, .inl (fun _ => 0))), (q15, .inl (cI, 36, .inl (fun _ => 0))), (q24, .inl (cI, 288, .inl (fun _ => 0))), (q33, .inl (cI, 288, .inl (fun _ => 0))), (q41, .inl (cI, 36, .inl (fun _ => 0))), (q49, .inl (cI, 36, .inl (fun _ => 0)))]) [0, 1, 2, 3, 4, 5, 6] rfl
  have hD9 := hD.sub (ws' := [(h0, .inr (1, [.int 0, .ref q7, .ref q15, .ref q24, .ref q33, .ref q41, .ref q49, .int 0])), (q7, .inl (cI, 36, .inl (fun _ => 0))), (q15, .inl (cI, 36, .inl (fun _ => 0))), (q24, .inl (cI, 288, .inl (fun _ => 0))), (q33, .inl (cI, 288, .inl (fun _ => 0))), (q41, .inl (cI, 36, .inl (fun _ => 0))), (q49, .inl (cI, 36, .inl (fun _ => 0)))]) [0, 1, 2, 3, 4, 5, 6] (by decide) rfl
  have hK9 := hK.sub (tys' := [(cI, .int), (cR, .object "StrokeCuts$Scene")]) [0, 1] rfl
  refine W.widen (k := 6) (n := 720) (Nat.le_of_ble_eq_true rfl) (Nat.le_of_ble_eq_true rfl) ?_
  exact W.vret hx hb hr (fun t ht hW => ⟨⟨fun i => ([q7, q15, q24, q33, q41, q49] : List Nat).getD i 0, rfl, trivial, by rw [ht]; exact hP9, va_K.moved hW.alike hK9, hD9⟩, hS.F ht⟩) hS.2.2 dX1_init_54
set_option maxHeartbeats 4000000 in
set_option maxRecDepth 100000 in
theorem c_X3_init (l : Launch) (D : va_G) (cI cR : ClassId) (h0 sz : Nat) : Met l yX3_init wsX3_init ({ frames := 1, cells := 2, slots := 104, locals := 100 }) (va_Pc [.ref h0] (fun U => U.heap.size = sz ∧ va_P D vwCl [(h0, .inr (3, [.null, .null, .int 0, .int 0, .int 0, .int 0, .int 0]))] U.heap ∧ va_K D vwCl [(cI, .int), (cR, .object "StrokeCuts$Scene")] U ∧ va_D (fun _ => True) [(h0, .inr (3, [.null, .null, .int 0, .int 0, .int 0, .int 0, .int 0]))] ∧ True)) (va_Qv (fun _ : Nat → Nat => True) (fun u t => va_P D vwCl [(h0, .inr (3, [.ref (u 0), .ref (u 1), .int 0, .int 0, .int 0, .int 0, .int 0])), ((u 0), .inl (cI, 100, .inl (fun _ => 0))), ((u 1), .inl (cI, 4, .inl (fun _ => 0)))] t.heap ∧ va_K D vwCl [(cI, .int), (cR, .object "StrokeCuts$Scene")] t ∧ va_D (va_A [(h0, .inr (3, [.null, .null, .int 0, .int 0, .int 0, .int 0, .int 0]))] sz) [(h0, .inr (3, [.ref (u 0), .ref (u 1), .int 0, .int 0, .int 0, .int 0, .int 0])), ((u 0), .inl (cI, 100, .inl (fun _ => 0))), ((u 1), .inl (cI, 4, .inl (fun _ => 0)))]) (va_A [(h0, .inr (3, [.null, .null, .int 0, .int 0, .int 0, .int 0, .int 0]))] sz)) 2 104 (va_A [(h0, .inr (3, [.null, .null, .int 0, .int 0, .int 0, .int 0, .int 0]))] sz) := by
  refine Met.ofW (cc := cX3_init) (maxL := 1) (ret := none) (by decide +kernel) rfl ?_
  intro p e s m args below meth c s₁ B hml hv
  obtain ⟨rfl, hsz, hP, hK, hD0, hE⟩ := hv
  have hx := B.exec
  have hb := B.bytes
  have hr := B.returns
  have hts := atoms_spec (ws := wsX3_init) B.pre
  have hown : s.vm.findClass RX3 = some m.cls := findClass_of_methodNamed B.named
  have hlocks := B.notSynchronized
  have hin : meth.name = "<init>" := (name_of_methodNamed B.named B.method).1
  subst hsz
  have hD := hD0.self (sz := s.heap.size)
  generalize hAe : va_A [(h0, .inr (3, [.null, .null, .int 0, .int 0, .int 0, .int 0, .int 0]))] s.heap.size = A at hD ⊢
  have hA : ∀ q : Nat, s.heap.size ≤ q → A q := fun q h => by rw [← hAe]; exact Or.inr h
  have hS : va_S A s.heap s.heap [] := va_S.rf
  have hP : va_P D vwCl [(h0, .inr (3, [.null, .null, .int 0, .int 0, .int 0, .int 0, .int 0]))] s.heap := hP
  have hl := lv_entry ([.ref h0]) (n := 1) (Nat.le_of_ble_eq_true rfl)
  rw [lg_entry_eq]
  generalize (lg_sl ([.ref h0]) ++ List.replicate (1 - (lg_sl ([.ref h0])).length) Slot.unset).toArray = ls at hl ⊢
  have hl : lv_has ls 1 [(0, .ref h0)] := hl
  refine lv_aload_n hx hb dX3_init_0 rfl (lv_at hl 0 rfl) ?_
  refine W.objInit hx hb hown (hts (.methodLink RX3 3 objectInit) (by decide +kernel)) (hts (.instanceMethod objectInit) (by decide +kernel)) (hts (.code objectInit ⟨#[0xb1]⟩ 1 none) (by decide +kernel)) rfl (by rw [hml]; exact hl.1) rfl dX3_init_1 (Nat.le_of_ble_eq_true rfl) (Nat.le_of_ble_eq_true rfl) ?_
  refine W.eq (g2 := F0 m 4 ls []) rfl ?_
  refine lv_aload_n hx hb dX3_init_4 rfl (lv_at hl 0 rfl) ?_
  refine lv_bipush (v := 100) hx hb dX3_init_5 (by decide) ?_
  refine va_newI (t0 := 0) (N' := 100) hx hb (hts (.arrayClass .int) (by decide +kernel)) hK rfl hP hD hS hA (by decide) (by decide) (Nat.le_of_ble_eq_true rfl) (Nat.le_of_ble_eq_true rfl) (Nat.le_of_ble_eq_true rfl) dX3_init_7 (fun q7 H hP hD hS => ?_)
  have hP : va_P D vwCl [(h0, .inr (3, [.null, .null, .int 0, .int 0, .int 0, .int 0, .int 0])), (q7, .inl (cI, 100, .inl (fun _ => 0)))] H := hP
  have hD : va_D A [(h0, .inr (3, [.null, .null, .int 0, .int 0, .int 0, .int 0, .int 0])), (q7, .inl (cI, 100, .inl (fun _ => 0)))] := hD
  refine va_putF (D := D) (ci := 3) (v := .ref q7) (ty := .array .int) (C := RX3) (T := TX3) (N := 7) hx hb hts (by decide +kernel) tyX3 tyX3_ok nmX3 hown hK hP hD hS 0 rfl rfl 0 (by decide) (hts (.fieldLink RX3 11 "StrokeCuts$Script" "bytes" "[I") (by decide +kernel)) (fun _ h9 => h9) rfl hin rfl (by decide +kernel) rfl rfl (Nat.le_of_ble_eq_true rfl) dX3_init_9 (fun H locs hP hD hS => ?_)
  have hP : va_P D vwCl [(h0, .inr (3, [.ref q7, .null, .int 0, .int 0, .int 0, .int 0, .int 0])), (q7, .inl (cI, 100, .inl (fun _ => 0)))] H := hP
  have hD : va_D A [(h0, .inr (3, [.ref q7, .null, .int 0, .int 0, .int 0, .int 0, .int 0])), (q7, .inl (cI, 100, .inl (fun _ => 0)))] := hD
  refine lv_aload_n hx hb dX3_init_12 rfl (lv_at hl 0 rfl) ?_
  refine lv_iconst (v := 4) hx hb dX3_init_13 (by decide) ?_
  refine va_newI (t0 := 0) (N' := 4) hx hb (hts (.arrayClass .int) (by decide +kernel)) hK rfl hP hD hS hA (by decide) (by decide) (Nat.le_of_ble_eq_true rfl) (Nat.le_of_ble_eq_true rfl) (Nat.le_of_ble_eq_true rfl) dX3_init_14 (fun q14 H hP hD hS => ?_)
  have hP : va_P D vwCl [(h0, .inr (3, [.ref q7, .null, .int 0, .int 0, .int 0, .int 0, .int 0])), (q7, .inl (cI, 100, .inl (fun _ => 0))), (q14, .inl (cI, 4, .inl (fun _ => 0)))] H := hP
  have hD : va_D A [(h0, .inr (3, [.ref q7, .null, .int 0, .int 0, .int 0, .int 0, .int 0])), (q7, .inl (cI, 100, .inl (fun _ => 0))), (q14, .inl (cI, 4, .inl (fun _ => 0)))] := hD
  refine va_putF (D := D) (ci := 3) (v := .ref q14) (ty := .array .int) (C := RX3) (T := TX3) (N := 7) hx hb hts (by decide +kernel) tyX3 tyX3_ok nmX3 hown hK hP hD hS 0 rfl rfl 1 (by decide) (hts (.fieldLink RX3 15 "StrokeCuts$Script" "numbers" "[I") (by decide +kernel)) (fun _ h9 => h9) rfl hin rfl (by decide +kernel) rfl rfl (Nat.le_of_ble_eq_true rfl) dX3_init_16 (fun H locs hP hD hS => ?_)
  have hP : va_P D vwCl [(h0, .inr (3, [.ref q7, .ref q14, .int 0, .int 0, .int 0, .int 0, .int 0])), (q7, .inl (cI, 100, .inl (fun _ => 0))), (q14, .inl (cI, 4, .inl (fun _ => 0)))] H := hP
  have hD : va_D A [(h0, .inr (3, [.ref q7, .ref q14, .int 0, .int 0, .int 0, .int 0, .int 0])), (q7, .inl (cI, 100, .inl (fun _ => 0))), (q14, .inl (cI, 4, .inl (fun _ => 0)))] := hD
  have hP9 := hP.sub (ws' := [(h0, .inr (3, [.ref q7, .ref q14, .int 0, .int 0, .int 0, .int 0, .int 0])), (q7, .inl (cI, 100, .inl (fun _ => 0))), (q14, .inl (cI, 4, .inl (fun _ => 0)))]) [0, 1, 2] rfl
  have hD9 := hD.sub (ws' := [(h0, .inr (3, [.ref q7, .ref q14, .int 0, .int 0, .int 0, .int 0, .int 0])), (q7, .inl (cI, 100, .inl (fun _ => 0))), (q14, .inl (cI, 4, .inl (fun _ => 0)))]) [0, 1, 2] (by decide) rfl
  have hK9 := hK.sub (tys' := [(cI, .int), (cR, .object "StrokeCuts$Scene")]) [0, 1] rfl
  refine W.widen (k := 2) (n := 104) (Nat.le_of_ble_eq_true rfl) (Nat.le_of_ble_eq_true rfl) ?_
  exact W.vret hx hb hr (fun t ht hW => ⟨⟨fun i => ([q7, q14] : List Nat).getD i 0, rfl, trivial, by rw [ht]; exact hP9, va_K.moved hW.alike hK9, hD9⟩, hS.F ht⟩) hS.2.2 dX3_init_19
set_option maxHeartbeats 4000000 in
set_option maxRecDepth 100000 in
theorem c_X5_init (l : Launch) (D : va_G) (cI cR : ClassId) (h0 sz : Nat) : Met l yX5_init wsX5_init ({ frames := 1, cells := 9, slots := 1155, locals := 100 }) (va_Pc [.ref h0] (fun U => U.heap.size = sz ∧ va_P D vwCl [(h0, .inr (5, [.null, .null, .int 0, .null, .null, .int 0, .int 0, .int 0, .null, .null, .null, .null, .int 0, .null, .int 0]))] U.heap ∧ va_K D vwCl [(cI, .int), (cR, .object "StrokeCuts$Scene")] U ∧ va_D (fun _ => True) [(h0, .inr (5, [.null, .null, .int 0, .null, .null, .int 0, .int 0, .int 0, .null, .null, .null, .null, .int 0, .null, .int 0]))] ∧ True)) (va_Qv (fun _ : Nat → Nat => True) (fun u t => va_P D vwCl [(h0, .inr (5, [.ref (u 0), .ref (u 1), .int 0, .ref (u 2), .ref (u 3), .int 0, .int (-1), .int 0, .ref (u 4), .ref (u 5), .ref (u 6), .ref (u 7), .int 0, .ref (u 8), .int 0])), ((u 0), .inl (cI, 80, .inl (upd (upd (upd (upd (upd (upd (upd (fun _ => 0) 0 4) 1 4) 2 10) 3 2) 4 1) 6 9) 7 4))), ((u 1), .inl (cI, 640, .inl (fun _ => 0))), ((u 2), .inl (cI, 3, .inl (fun _ => 0))), ((u 3), .inl (cI, 100, .inl (fun _ => 0))), ((u 4), .inl (cI, 36, .inl (fun _ => 0))), ((u 5), .inl (cI, 128, .inl (fun _ => 0))), ((u 6), .inl (cI, 128, .inl (fun _ => 0))), ((u 7), .inl (cI, 36, .inl (fun _ => 0))), ((u 8), .inl (cI, 4, .inl (fun _ => 0)))] t.heap ∧ va_K D vwCl [(cI, .int), (cR, .object "StrokeCuts$Scene")] t ∧ va_D (va_A [(h0, .inr (5, [.null, .null, .int 0, .null, .null, .int 0, .int 0, .int 0, .null, .null, .null, .null, .int 0, .null, .int 0]))] sz) [(h0, .inr (5, [.ref (u 0), .ref (u 1), .int 0, .ref (u 2), .ref (u 3), .int 0, .int (-1), .int 0, .ref (u 4), .ref (u 5), .ref (u 6), .ref (u 7), .int 0, .ref (u 8), .int 0])), ((u 0), .inl (cI, 80, .inl (upd (upd (upd (upd (upd (upd (upd (fun _ => 0) 0 4) 1 4) 2 10) 3 2) 4 1) 6 9) 7 4))), ((u 1), .inl (cI, 640, .inl (fun _ => 0))), ((u 2), .inl (cI, 3, .inl (fun _ => 0))), ((u 3), .inl (cI, 100, .inl (fun _ => 0))), ((u 4), .inl (cI, 36, .inl (fun _ => 0))), ((u 5), .inl (cI, 128, .inl (fun _ => 0))), ((u 6), .inl (cI, 128, .inl (fun _ => 0))), ((u 7), .inl (cI, 36, .inl (fun _ => 0))), ((u 8), .inl (cI, 4, .inl (fun _ => 0)))]) (va_A [(h0, .inr (5, [.null, .null, .int 0, .null, .null, .int 0, .int 0, .int 0, .null, .null, .null, .null, .int 0, .null, .int 0]))] sz)) 9 1155 (va_A [(h0, .inr (5, [.null, .null, .int 0, .null, .null, .int 0, .int 0, .int 0, .null, .null, .null, .null, .int 0, .null, .int 0]))] sz) := by
  refine Met.ofW (cc := cX5_init) (maxL := 1) (ret := none) (by decide +kernel) rfl ?_
  intro p e s m args below meth c s₁ B hml hv
  obtain ⟨rfl, hsz, hP, hK, hD0, hE⟩ := hv
  have hx := B.exec
  have hb := B.bytes
  have hr := B.returns
  have hts := atoms_spec (ws := wsX5_init) B.pre
  have hown : s.vm.findClass RX5 = some m.cls := findClass_of_methodNamed B.named
  have hlocks := B.notSynchronized
  have hin : meth.name = "<init>" := (name_of_methodNamed B.named B.method).1
  subst hsz
  have hD := hD0.self (sz := s.heap.size)
  generalize hAe : va_A [(h0, .inr (5, [.null, .null, .int 0, .null, .null, .int 0, .int 0, .int 0, .null, .null, .null, .null, .int 0, .null, .int 0]))] s.heap.size = A at hD ⊢
  have hA : ∀ q : Nat, s.heap.size ≤ q → A q := fun q h => by rw [← hAe]; exact Or.inr h
  have hS : va_S A s.heap s.heap [] := va_S.rf
  have hP : va_P D vwCl [(h0, .inr (5, [.null, .null, .int 0, .null, .null, .int 0, .int 0, .int 0, .null, .null, .null, .null, .int 0, .null, .int 0]))] s.heap := hP
  have hl := lv_entry ([.ref h0]) (n := 1) (Nat.le_of_ble_eq_true rfl)
  rw [lg_entry_eq]
  generalize (lg_sl ([.ref h0]) ++ List.replicate (1 - (lg_sl ([.ref h0])).length) Slot.unset).toArray = ls at hl ⊢
  have hl : lv_has ls 1 [(0, .ref h0)] := hl
  refine lv_aload_n hx hb dX5_init_0 rfl (lv_at hl 0 rfl) ?_
  refine W.objInit hx hb hown (hts (.methodLink RX5 1 objectInit) (by decide +kernel)) (hts (.instanceMethod objectInit) (by decide +kernel)) (hts (.code objectInit ⟨#[0xb1]⟩ 1 none) (by decide +kernel)) rfl (by rw [hml]; exact hl.1) rfl dX5_init_1 (Nat.le_of_ble_eq_true rfl) (Nat.le_of_ble_eq_true rfl) ?_
  refine W.eq (g2 := F0 m 4 ls []) rfl ?_
  refine lv_aload_n hx hb dX5_init_4 rfl (lv_at hl 0 rfl) ?_
  refine lv_bipush (v := 80) hx hb dX5_init_5 (by decide) ?_
  refine va_newI (t0 := 0) (N' := 80) hx hb (hts (.arrayClass .int) (by decide +kernel)) hK rfl hP hD hS hA (by decide) (by decide) (Nat.le_of_ble_eq_true rfl) (Nat.le_of_ble_eq_true rfl) (Nat.le_of_ble_eq_true rfl) dX5_init_7 (fun q7 H hP hD hS => ?_)
  have hP : va_P D vwCl [(h0, .inr (5, [.null, .null, .int 0, .null, .null, .int 0, .int 0, .int 0, .null, .null, .null, .null, .int 0, .null, .int 0])), (q7, .inl (cI, 80, .inl (fun _ => 0)))] H := hP
  have hD : va_D A [(h0, .inr (5, [.null, .null, .int 0, .null, .null, .int 0, .int 0, .int 0, .null, .null, .null, .null, .int 0, .null, .int 0])), (q7, .inl (cI, 80, .inl (fun _ => 0)))] := hD
  refine va_putF (D := D) (ci := 5) (v := .ref q7) (ty := .array .int) (C := RX5) (T := TX5) (N := 15) hx hb hts (by decide +kernel) tyX5 tyX5_ok nmX5 hown hK hP hD hS 0 rfl rfl 0 (by decide) (hts (.fieldLink RX5 7 "StrokeCutsModel" "st" "[I") (by decide +kernel)) (fun _ h9 => h9) rfl hin rfl (by decide +kernel) rfl rfl (Nat.le_of_ble_eq_true rfl) dX5_init_9 (fun H locs hP hD hS => ?_)
  have hP : va_P D vwCl [(h0, .inr (5, [.ref q7, .null, .int 0, .null, .null, .int 0, .int 0, .int 0, .null, .null, .null, .null, .int 0, .null, .int 0])), (q7, .inl (cI, 80, .inl (fun _ => 0)))] H := hP
  have hD : va_D A [(h0, .inr (5, [.ref q7, .null, .int 0, .null, .null, .int 0, .int 0, .int 0, .null, .null, .null, .null, .int 0, .null, .int 0])), (q7, .inl (cI, 80, .inl (fun _ => 0)))] := hD
  refine lv_aload_n hx hb dX5_init_12 rfl (lv_at hl 0 rfl) ?_
  refine lv_sipush (v := 640) hx hb dX5_init_13 (by decide) ?_
  refine va_newI (t0 := 0) (N' := 640) hx hb (hts (.arrayClass .int) (by decide +kernel)) hK rfl hP hD hS hA (by decide) (by decide) (Nat.le_of_ble_eq_true rfl) (Nat.le_of_ble_eq_true rfl) (Nat.le_of_ble_eq_true rfl) dX5_init_16 (fun q16 H hP hD hS => ?_)
  have hP : va_P D vwCl [(h0, .inr (5, [.ref q7, .null, .int 0, .null, .null, .int 0, .int 0, .int 0, .null, .null, .null, .null, .int 0, .null, .int 0])), (q7, .inl (cI, 80, .inl (fun _ => 0))), (q16, .inl (cI, 640, .inl (fun _ => 0)))] H := hP
  have hD : va_D A [(h0, .inr (5, [.ref q7, .null, .int 0, .null, .null, .int 0, .int 0, .int 0, .null, .null, .null, .null, .int 0, .null, .int 0])), (q7, .inl (cI, 80, .inl (fun _ => 0))), (q16, .inl (cI, 640, .inl (fun _ => 0)))] := hD
  refine va_putF (D := D) (ci := 5) (v := .ref q16) (ty := .array .int) (C := RX5) (T := TX5) (N := 15) hx hb hts (by decide +kernel) tyX5 tyX5_ok nmX5 hown hK hP hD hS 0 rfl rfl 1 (by decide) (hts (.fieldLink RX5 13 "StrokeCutsModel" "past" "[I") (by decide +kernel)) (fun _ h9 => h9) rfl hin rfl (by decide +kernel) rfl rfl (Nat.le_of_ble_eq_true rfl) dX5_init_18 (fun H locs hP hD hS => ?_)
  have hP : va_P D vwCl [(h0, .inr (5, [.ref q7, .ref q16, .int 0, .null, .null, .int 0, .int 0, .int 0, .null, .null, .null, .null, .int 0, .null, .int 0])), (q7, .inl (cI, 80, .inl (fun _ => 0))), (q16, .inl (cI, 640, .inl (fun _ => 0)))] H := hP
  have hD : va_D A [(h0, .inr (5, [.ref q7, .ref q16, .int 0, .null, .null, .int 0, .int 0, .int 0, .null, .null, .null, .null, .int 0, .null, .int 0])), (q7, .inl (cI, 80, .inl (fun _ => 0))), (q16, .inl (cI, 640, .inl (fun _ => 0)))] := hD
  refine lv_aload_n hx hb dX5_init_21 rfl (lv_at hl 0 rfl) ?_
  refine lv_iconst (v := 3) hx hb dX5_init_22 (by decide) ?_
  refine va_newI (t0 := 0) (N' := 3) hx hb (hts (.arrayClass .int) (by decide +kernel)) hK rfl hP hD hS hA (by decide) (by decide) (Nat.le_of_ble_eq_true rfl) (Nat.le_of_ble_eq_true rfl) (Nat.le_of_ble_eq_true rfl) dX5_init_23 (fun q23 H hP hD hS => ?_)
  have hP : va_P D vwCl [(h0, .inr (5, [.ref q7, .ref q16, .int 0, .null, .null, .int 0, .int 0, .int 0, .null, .null, .null, .null, .int 0, .null, .int 0])), (q7, .inl (cI, 80, .inl (fun _ => 0))), (q16, .inl (cI, 640, .inl (fun _ => 0))), (q23, .inl (cI, 3, .inl (fun _ => 0)))] H := hP
  have hD : va_D A [(h0, .inr (5, [.ref q7, .ref q16, .int 0, .null, .null, .int 0, .int 0, .int 0, .null, .null, .null, .null, .int 0, .null, .int 0])), (q7, .inl (cI, 80, .inl (fun _ => 0))), (q16, .inl (cI, 640, .inl (fun _ => 0))), (q23, .inl (cI, 3, .inl (fun _ => 0)))] := hD
  refine va_putF (D := D) (ci := 5) (v := .ref q23) (ty := .array .int) (C := RX5) (T := TX5) (N := 15) hx hb hts (by decide +kernel) tyX5 tyX5_ok nmX5 hown hK hP hD hS 0 rfl rfl 3 (by decide) (hts (.fieldLink RX5 16 "StrokeCutsModel" "refused" "[I") (by decide +kernel)) (fun _ h9 => h9) rfl hin rfl (by decide +kernel) rfl rfl (Nat.le_of_ble_eq_true rfl) dX5_init_25 (fun H locs hP hD hS => ?_)
  have hP : va_P D vwCl [(h0, .inr (5, [.ref q7, .ref q16, .int 0, .ref q23, .null, .int 0, .int 0, .int 0, .null, .null, .null, .null, .int 0, .null, .int 0])), (q7, .inl (cI, 80, .inl (fun _ => 0))), (q16, .inl (cI, 640, .inl (fun _ => 0))), (q23, .inl (cI, 3, .inl (fun _ => 0)))] H := hP
  have hD : va_D A [(h0, .inr (5, [.ref q7, .ref q16, .int 0, .ref q23, .null, .int 0, .int 0, .int 0, .null, .null, .null, .null, .int 0, .null, .int 0])), (q7, .inl (cI, 80, .inl (fun _ => 0))), (q16, .inl (cI, 640, .inl (fun _ => 0))), (q23, .inl (cI, 3, .inl (fun _ => 0)))] := hD
  refine lv_aload_n hx hb dX5_init_28 rfl (lv_at hl 0 rfl) ?_
  refine lv_bipush (v := 100) hx hb dX5_init_29 (by decide) ?_
  refine va_newI (t0 := 0) (N' := 100) hx hb (hts (.arrayClass .int) (by decide +kernel)) hK rfl hP hD hS hA (by decide) (by decide) (Nat.le_of_ble_eq_true rfl) (Nat.le_of_ble_eq_true rfl) (Nat.le_of_ble_eq_true rfl) dX5_init_31 (fun q31 H hP hD hS => ?_)
  have hP : va_P D vwCl [(h0, .inr (5, [.ref q7, .ref q16, .int 0, .ref q23, .null, .int 0, .int 0, .int 0, .null, .null, .null, .null, .int 0, .null, .int 0])), (q7, .inl (cI, 80, .inl (fun _ => 0))), (q16, .inl (cI, 640, .inl (fun _ => 0))), (q23, .inl (cI, 3, .inl (fun _ => 0))), (q31, .inl (cI, 100, .inl (fun _ => 0)))] H := hP
  have hD : va_D A [(h0, .inr (5, [.ref q7, .ref q16, .int 0, .ref q23, .null, .int 0, .int 0, .int 0, .null, .null, .null, .null, .int 0, .null, .int 0])), (q7, .inl (cI, 80, .inl (fun _ => 0))), (q16, .inl (cI, 640, .inl (fun _ => 0))), (q23, .inl (cI, 3, .inl (fun _ => 0))), (q31, .inl (cI, 100, .inl (fun _ => 0)))] := hD
  refine va_putF (D := D) (ci := 5) (v := .ref q31) (ty := .array .int) (C := RX5) (T := TX5) (N := 15) hx hb hts (by decide +kernel) tyX5 tyX5_ok nmX5 hown hK hP hD hS 0 rfl rfl 4 (by decide) (hts (.fieldLink RX5 19 "StrokeCutsModel" "text" "[I") (by decide +kernel)) (fun _ h9 => h9) rfl hin rfl (by decide +kernel) rfl rfl (Nat.le_of_ble_eq_true rfl) dX5_init_33 (fun H locs hP hD hS => ?_)
  have hP : va_P D vwCl [(h0, .inr (5, [.ref q7, .ref q16, .int 0, .ref q23, .ref q31, .int 0, .int 0, .int 0, .null, .null, .null, .null, .int 0, .null, .int 0])), (q7, .inl (cI, 80, .inl (fun _ => 0))), (q16, .inl (cI, 640, .inl (fun _ => 0))), (q23, .inl (cI, 3, .inl (fun _ => 0))), (q31, .inl (cI, 100, .inl (fun _ => 0)))] H := hP
  have hD : va_D A [(h0, .inr (5, [.ref q7, .ref q16, .int 0, .ref q23, .ref q31, .int 0, .int 0, .int 0, .null, .null, .null, .null, .int 0, .null, .int 0])), (q7, .inl (cI, 80, .inl (fun _ => 0))), (q16, .inl (cI, 640, .inl (fun _ => 0))), (q23, .inl (cI, 3, .inl (fun _ => 0))), (q31, .inl (cI, 100, .inl (fun _ => 0)))] := hD
  refine lv_aload_n hx hb dX5_init_36 rfl (lv_at hl 0 rfl) ?_
  refine lv_iconst (v := (-1)) hx hb dX5_init_37 (by decide) ?_
  refine va_put (D := D) (ci := 5) (v := .int (-1)) (ty := .int) (C := RX5) (T := TX5) (N := 15) hx hb hts (by decide +kernel) tyX5 tyX5_ok nmX5 hown hK hP hD hS 0 rfl rfl 6 (by decide) (hts (.fieldLink RX5 22 "StrokeCutsModel" "strained" "I") (by decide +kernel)) (fun _ h9 => h9) rfl (by decide +kernel) rfl rfl (Nat.le_of_ble_eq_true rfl) dX5_init_38 (fun H locs hP hD hS => ?_)
  have hP : va_P D vwCl [(h0, .inr (5, [.ref q7, .ref q16, .int 0, .ref q23, .ref q31, .int 0, .int (-1), .int 0, .null, .null, .null, .null, .int 0, .null, .int 0])), (q7, .inl (cI, 80, .inl (fun _ => 0))), (q16, .inl (cI, 640, .inl (fun _ => 0))), (q23, .inl (cI, 3, .inl (fun _ => 0))), (q31, .inl (cI, 100, .inl (fun _ => 0)))] H := hP
  have hD : va_D A [(h0, .inr (5, [.ref q7, .ref q16, .int 0, .ref q23, .ref q31, .int 0, .int (-1), .int 0, .null, .null, .null, .null, .int 0, .null, .int 0])), (q7, .inl (cI, 80, .inl (fun _ => 0))), (q16, .inl (cI, 640, .inl (fun _ => 0))), (q23, .inl (cI, 3, .inl (fun _ => 0))), (q31, .inl (cI, 100, .inl (fun _ => 0)))] := hD
  refine lv_aload_n hx hb dX5_init_41 rfl (lv_at hl 0 rfl) ?_
  refine lv_bipush (v := 36) hx hb dX5_init_42 (by decide) ?_
  refine va_newI (t0 := 0) (N' := 36) hx hb (hts (.arrayClass .int) (by decide +kernel)) hK rfl hP hD hS hA (by decide) (by decide) (Nat.le_of_ble_eq_true rfl) (Nat.le_of_ble_eq_true rfl) (Nat.le_of_ble_eq_true rfl) dX5_init_44 (fun q44 H hP hD hS => ?_)
  have hP : va_P D vwCl [(h0, .inr (5, [.ref q7, .ref q16, .int 0, .ref q23, .ref q31, .int 0, .int (-1), .int 0, .null, .null, .null, .null, .int 0, .null, .int 0])), (q7, .inl (cI, 80, .inl (fun _ => 0))), (q16, .inl (cI, 640, .inl (fun _ => 0))), (q23, .inl (cI, 3, .inl (fun _ => 0))), (q31, .inl (cI, 100, .inl (fun _ => 0))), (q44, .inl (cI, 36, .inl (fun _ => 0)))] H := hP
  have hD : va_D A [(h0, .inr (5, [.ref q7, .ref q16, .int 0, .ref q23, .ref q31, .int 0, .int (-1), .int 0, .null, .null, .null, .null, .int 0, .null, .int 0])), (q7, .inl (cI, 80, .inl (fun _ => 0))), (q16, .inl (cI, 640, .inl (fun _ => 0))), (q23, .inl (cI, 3, .inl (fun _ => 0))), (q31, .inl (cI, 100, .inl (fun _ => 0))), (q44, .inl (cI, 36, .inl (fun _ => 0)))] := hD
  refine va_putF (D := D) (ci := 5) (v := .ref q44) (ty := .array .int) (C := RX5) (T := TX5) (N := 15) hx hb hts (by decide +kernel) tyX5 tyX5_ok nmX5 hown hK hP hD hS 0 rfl rfl 8 (by decide) (hts (.fieldLink RX5 26 "StrokeCutsModel" "held" "[I") (by decide +kernel)) (fun _ h9 => h9) rfl hin rfl (by decide +kernel) rfl rfl (Nat.le_of_ble_eq_true rfl) dX5_init_46 (fun H locs hP hD hS => ?_)
  have hP : va_P D vwCl [(h0, .inr (5, [.ref q7, .ref q16, .int 0, .ref q23, .ref q31, .int 0, .int (-1), .int 0, .ref q44, .null, .null, .null, .int 0, .null, .int 0])), (q7, .inl (cI, 80, .inl (fun _ => 0))), (q16, .inl (cI, 640, .inl (fun _ => 0))), (q23, .inl (cI, 3, .inl (fun _ => 0))), (q31, .inl (cI, 100, .inl (fun _ => 0))), (q44, .inl (cI, 36, .inl (fun _ => 0)))] H := hP
  have hD : va_D A [(h0, .inr (5, [.ref q7, .ref q16, .int 0, .ref q23, .ref q31, .int 0, .int (-1), .int 0, .ref q44, .null, .null, .null, .int 0, .null, .int 0])), (q7, .inl (cI, 80, .inl (fun _ => 0))), (q16, .inl (cI, 640, .inl (fun _ => 0))), (q23, .inl (cI, 3, .inl (fun _ => 0))), (q31, .inl (cI, 100, .inl (fun _ => 0))), (q44, .inl (cI, 36, .inl (fun _ => 0)))] := hD
  refine lv_aload_n hx hb dX5_init_49 rfl (lv_at hl 0 rfl) ?_
  refine lv_sipush (v := 128) hx hb dX5_init_50 (by decide) ?_
  refine va_newI (t0 := 0) (N' := 128) hx hb (hts (.arrayClass .int) (by decide +kernel)) hK rfl hP hD hS hA (by decide) (by decide) (Nat.le_of_ble_eq_true rfl) (Nat.le_of_ble_eq_true rfl) (Nat.le_of_ble_eq_true rfl) dX5_init_53 (fun q53 H hP hD hS => ?_)
  have hP : va_P D vwCl [(h0, .inr (5, [.ref q7, .ref q16, .int 0, .ref q23, .ref q31, .int 0, .int (-1), .int 0, .ref q44, .null, .null, .null, .int 0, .null, .int 0])), (q7, .inl (cI, 80, .inl (fun _ => 0))), (q16, .inl (cI, 640, .inl (fun _ => 0))), (q23, .inl (cI, 3, .inl (fun _ => 0))), (q31, .inl (cI, 100, .inl (fun _ => 0))), (q44, .inl (cI, 36, .inl (fun _ => 0))), (q53, .inl (cI, 128, .inl (fun _ => 0)))] H := hP
  have hD : va_D A [(h0, .inr (5, [.ref q7, .ref q16, .int 0, .ref q23, .ref q31, .int 0, .int (-1), .int 0, .ref q44, .null, .null, .null, .int 0, .null, .int 0])), (q7, .inl (cI, 80, .inl (fun _ => 0))), (q16, .inl (cI, 640, .inl (fun _ => 0))), (q23, .inl (cI, 3, .inl (fun _ => 0))), (q31, .inl (cI, 100, .inl (fun _ => 0))), (q44, .inl (cI, 36, .inl (fun _ => 0))), (q53, .inl (cI, 128, .inl (fun _ => 0)))] := hD
  refine va_putF (D := D) (ci := 5) (v := .ref q53) (ty := .array .int) (C := RX5) (T := TX5) (N := 15) hx hb hts (by decide +kernel) tyX5 tyX5_ok nmX5 hown hK hP hD hS 0 rfl rfl 9 (by decide) (hts (.fieldLink RX5 29 "StrokeCutsModel" "least" "[I") (by decide +kernel)) (fun _ h9 => h9) rfl hin rfl (by decide +kernel) rfl rfl (Nat.le_of_ble_eq_true rfl) dX5_init_55 (fun H locs hP hD hS => ?_)
  have hP : va_P D vwCl [(h0, .inr (5, [.ref q7, .ref q16, .int 0, .ref q23, .ref q31, .int 0, .int (-1), .int 0, .ref q44, .ref q53, .null, .null, .int 0, .null, .int 0])), (q7, .inl (cI, 80, .inl (fun _ => 0))), (q16, .inl (cI, 640, .inl (fun _ => 0))), (q23, .inl (cI, 3, .inl (fun _ => 0))), (q31, .inl (cI, 100, .inl (fun _ => 0))), (q44, .inl (cI, 36, .inl (fun _ => 0))), (q53, .inl (cI, 128, .inl (fun _ => 0)))] H := hP
  have hD : va_D A [(h0, .inr (5, [.ref q7, .ref q16, .int 0, .ref q23, .ref q31, .int 0, .int (-1), .int 0, .ref q44, .ref q53, .null, .null, .int 0, .null, .int 0])), (q7, .inl (cI, 80, .inl (fun _ => 0))), (q16, .inl (cI, 640, .inl (fun _ => 0))), (q23, .inl (cI, 3, .inl (fun _ => 0))), (q31, .inl (cI, 100, .inl (fun _ => 0))), (q44, .inl (cI, 36, .inl (fun _ => 0))), (q53, .inl (cI, 128, .inl (fun _ => 0)))] := hD
  refine lv_aload_n hx hb dX5_init_58 rfl (lv_at hl 0 rfl) ?_
  refine lv_sipush (v := 128) hx hb dX5_init_59 (by decide) ?_
  refine va_newI (t0 := 0) (N' := 128) hx hb (hts (.arrayClass .int) (by decide +kernel)) hK rfl hP hD hS hA (by decide) (by decide) (Nat.le_of_ble_eq_true rfl) (Nat.le_of_ble_eq_true rfl) (Nat.le_of_ble_eq_true rfl) dX5_init_62 (fun q62 H hP hD hS => ?_)
  have hP : va_P D vwCl [(h0, .inr (5, [.ref q7, .ref q16, .int 0, .ref q23, .ref q31, .int 0, .int (-1), .int 0, .ref q44, .ref q53, .null, .null, .int 0, .null, .int 0])), (q7, .inl (cI, 80, .inl (fun _ => 0))), (q16, .inl (cI, 640, .inl (fun _ => 0))), (q23, .inl (cI, 3, .inl (fun _ => 0))), (q31, .inl (cI, 100, .inl (fun _ => 0))), (q44, .inl (cI, 36, .inl (fun _ => 0))), (q53, .inl (cI, 128, .inl (fun _ => 0))), (q62, .inl (cI, 128, .inl (fun _ => 0)))] H := hP
  have hD : va_D A [(h0, .inr (5, [.ref q7, .ref q16, .int 0, .ref q23, .ref q31, .int 0, .int (-1), .int 0, .ref q44, .ref q53, .null, .null, .int 0, .null, .int 0])), (q7, .inl (cI, 80, .inl (fun _ => 0))), (q16, .inl (cI, 640, .inl (fun _ => 0))), (q23, .inl (cI, 3, .inl (fun _ => 0))), (q31, .inl (cI, 100, .inl (fun _ => 0))), (q44, .inl (cI, 36, .inl (fun _ => 0))), (q53, .inl (cI, 128, .inl (fun _ => 0))), (q62, .inl (cI, 128, .inl (fun _ => 0)))] := hD
  refine va_putF (D := D) (ci := 5) (v := .ref q62) (ty := .array .int) (C := RX5) (T := TX5) (N := 15) hx hb hts (by decide +kernel) tyX5 tyX5_ok nmX5 hown hK hP hD hS 0 rfl rfl 10 (by decide) (hts (.fieldLink RX5 32 "StrokeCutsModel" "next" "[I") (by decide +kernel)) (fun _ h9 => h9) rfl hin rfl (by decide +kernel) rfl rfl (Nat.le_of_ble_eq_true rfl) dX5_init_64 (fun H locs hP hD hS => ?_)
  have hP : va_P D vwCl [(h0, .inr (5, [.ref q7, .ref q16, .int 0, .ref q23, .ref q31, .int 0, .int (-1), .int 0, .ref q44, .ref q53, .ref q62, .null, .int 0, .null, .int 0])), (q7, .inl (cI, 80, .inl (fun _ => 0))), (q16, .inl (cI, 640, .inl (fun _ => 0))), (q23, .inl (cI, 3, .inl (fun _ => 0))), (q31, .inl (cI, 100, .inl (fun _ => 0))), (q44, .inl (cI, 36, .inl (fun _ => 0))), (q53, .inl (cI, 128, .inl (fun _ => 0))), (q62, .inl (cI, 128, .inl (fun _ => 0)))] H := hP
  have hD : va_D A [(h0, .inr (5, [.ref q7, .ref q16, .int 0, .ref q23, .ref q31, .int 0, .int (-1), .int 0, .ref q44, .ref q53, .ref q62, .null, .int 0, .null, .int 0])), (q7, .inl (cI, 80, .inl (fun _ => 0))), (q16, .inl (cI, 640, .inl (fun _ => 0))), (q23, .inl (cI, 3, .inl (fun _ => 0))), (q31, .inl (cI, 100, .inl (fun _ => 0))), (q44, .inl (cI, 36, .inl (fun _ => 0))), (q53, .inl (cI, 128, .inl (fun _ => 0))), (q62, .inl (cI, 128, .inl (fun _ => 0)))] := hD
  refine lv_aload_n hx hb dX5_init_67 rfl (lv_at hl 0 rfl) ?_
  refine lv_bipush (v := 36) hx hb dX5_init_68 (by decide) ?_
  refine va_newI (t0 := 0) (N' := 36) hx hb (hts (.arrayClass .int) (by decide +kernel)) hK rfl hP hD hS hA (by decide) (by decide) (Nat.le_of_ble_eq_true rfl) (Nat.le_of_ble_eq_true rfl) (Nat.le_of_ble_eq_true rfl) dX5_init_70 (fun q70 H hP hD hS => ?_)
  have hP : va_P D vwCl [(h0, .inr (5, [.ref q7, .ref q16, .int 0, .ref q23, .ref q31, .int 0, .int (-1), .int 0, .ref q44, .ref q53, .ref q62, .null, .int 0, .null, .int 0])), (q7, .inl (cI, 80, .inl (fun _ => 0))), (q16, .inl (cI, 640, .inl (fun _ => 0))), (q23, .inl (cI, 3, .inl (fun _ => 0))), (q31, .inl (cI, 100, .inl (fun _ => 0))), (q44, .inl (cI, 36, .inl (fun _ => 0))), (q53, .inl (cI, 128, .inl (fun _ => 0))), (q62, .inl (cI, 128, .inl (fun _ => 0))), (q70, .inl (cI, 36, .inl (fun _ => 0)))] H := hP
  have hD : va_D A [(h0, .inr (5, [.ref q7, .ref q16, .int 0, .ref q23, .ref q31, .int 0, .int (-1), .int 0, .ref q44, .ref q53, .ref q62, .null, .int 0, .null, .int 0])), (q7, .inl (cI, 80, .inl (fun _ => 0))), (q16, .inl (cI, 640, .inl (fun _ => 0))), (q23, .inl (cI, 3, .inl (fun _ => 0))), (q31, .inl (cI, 100, .inl (fun _ => 0))), (q44, .inl (cI, 36, .inl (fun _ => 0))), (q53, .inl (cI, 128, .inl (fun _ => 0))), (q62, .inl (cI, 128, .inl (fun _ => 0))), (q70, .inl (cI, 36, .inl (fun _ => 0)))] := hD
  refine va_putF (D := D) (ci := 5) (v := .ref q70) (ty := .array .int) (C := RX5) (T := TX5) (N := 15) hx hb hts (by decide +kernel) tyX5 tyX5_ok nmX5 hown hK hP hD hS 0 rfl rfl 11 (by decide) (hts (.fieldLink RX5 35 "StrokeCutsModel" "piece" "[I") (by decide +kernel)) (fun _ h9 => h9) rfl hin rfl (by decide +kernel) rfl rfl (Nat.le_of_ble_eq_true rfl) dX5_init_72 (fun H locs hP hD hS => ?_)
  have hP : va_P D vwCl [(h0, .inr (5, [.ref q7, .ref q16, .int 0, .ref q23, .ref q31, .int 0, .int (-1), .int 0, .ref q44, .ref q53, .ref q62, .ref q70, .int 0, .null, .int 0])), (q7, .inl (cI, 80, .inl (fun _ => 0))), (q16, .inl (cI, 640, .inl (fun _ => 0))), (q23, .inl (cI, 3, .inl (fun _ => 0))), (q31, .inl (cI, 100, .inl (fun _ => 0))), (q44, .inl (cI, 36, .inl (fun _ => 0))), (q53, .inl (cI, 128, .inl (fun _ => 0))), (q62, .inl (cI, 128, .inl (fun _ => 0))), (q70, .inl (cI, 36, .inl (fun _ => 0)))] H := hP
  have hD : va_D A [(h0, .inr (5, [.ref q7, .ref q16, .int 0, .ref q23, .ref q31, .int 0, .int (-1), .int 0, .ref q44, .ref q53, .ref q62, .ref q70, .int 0, .null, .int 0])), (q7, .inl (cI, 80, .inl (fun _ => 0))), (q16, .inl (cI, 640, .inl (fun _ => 0))), (q23, .inl (cI, 3, .inl (fun _ => 0))), (q31, .inl (cI, 100, .inl (fun _ => 0))), (q44, .inl (cI, 36, .inl (fun _ => 0))), (q53, .inl (cI, 128, .inl (fun _ => 0))), (q62, .inl (cI, 128, .inl (fun _ => 0))), (q70, .inl (cI, 36, .inl (fun _ => 0)))] := hD
  refine lv_aload_n hx hb dX5_init_75 rfl (lv_at hl 0 rfl) ?_
  refine lv_iconst (v := 4) hx hb dX5_init_76 (by decide) ?_
  refine va_newI (t0 := 0) (N' := 4) hx hb (hts (.arrayClass .int) (by decide +kernel)) hK rfl hP hD hS hA (by decide) (by decide) (Nat.le_of_ble_eq_true rfl) (Nat.le_of_ble_eq_true rfl) (Nat.le_of_ble_eq_true rfl) dX5_init_77 (fun q77 H hP hD hS => ?_)
  have hP : va_P D vwCl [(h0, .inr (5, [.ref q7, .ref q16, .int 0, .ref q23, .ref q31, .int 0, .int (-1), .int 0, .ref q44, .ref q53, .ref q62, .ref q70, .int 0, .null, .int 0])), (q7, .inl (cI, 80, .inl (fun _ => 0))), (q16, .inl (cI, 640, .inl (fun _ => 0))), (q23, .inl (cI, 3, .inl (fun _ => 0))), (q31, .inl (cI, 100, .inl (fun _ => 0))), (q44, .inl (cI, 36, .inl (fun _ => 0))), (q53, .inl (cI, 128, .inl (fun _ => 0))), (q62, .inl (cI, 128, .inl (fun _ => 0))), (q70, .inl (cI, 36, .inl (fun _ => 0))), (q77, .inl (cI, 4, .inl (fun _ => 0)))] H := hP
  have hD : va_D A [(h0, .inr (5, [.ref q7, .ref q16, .int 0, .ref q23, .ref q31, .int 0, .int (-1), .int 0, .ref q44, .ref q53, .ref q62, .ref q70, .int 0, .null, .int 0])), (q7, .inl (cI, 80, .inl (fun _ => 0))), (q16, .inl (cI, 640, .inl (fun _ => 0))), (q23, .inl (cI, 3, .inl (fun _ => 0))), (q31, .inl (cI, 100, .inl (fun _ => 0))), (q44, .inl (cI, 36, .inl (fun _ => 0))), (q53, .inl (cI, 128, .inl (fun _ => 0))), (q62, .inl (cI, 128, .inl (fun _ => 0))), (q70, .inl (cI, 36, .inl (fun _ => 0))), (q77, .inl (cI, 4, .inl (fun _ => 0)))] := hD
  refine va_putF (D := D) (ci := 5) (v := .ref q77) (ty := .array .int) (C := RX5) (T := TX5) (N := 15) hx hb hts (by decide +kernel) tyX5 tyX5_ok nmX5 hown hK hP hD hS 0 rfl rfl 13 (by decide) (hts (.fieldLink RX5 38 "StrokeCutsModel" "figures" "[I") (by decide +kernel)) (fun _ h9 => h9) rfl hin rfl (by decide +kernel) rfl rfl (Nat.le_of_ble_eq_true rfl) dX5_init_79 (fun H locs hP hD hS => ?_)
  have hP : va_P D vwCl [(h0, .inr (5, [.ref q7, .ref q16, .int 0, .ref q23, .ref q31, .int 0, .int (-1), .int 0, .ref q44, .ref q53, .ref q62, .ref q70, .int 0, .ref q77, .int 0])), (q7, .inl (cI, 80, .inl (fun _ => 0))), (q16, .inl (cI, 640, .inl (fun _ => 0))), (q23, .inl (cI, 3, .inl (fun _ => 0))), (q31, .inl (cI, 100, .inl (fun _ => 0))), (q44, .inl (cI, 36, .inl (fun _ => 0))), (q53, .inl (cI, 128, .inl (fun _ => 0))), (q62, .inl (cI, 128, .inl (fun _ => 0))), (q70, .inl (cI, 36, .inl (fun _ => 0))), (q77, .inl (cI, 4, .inl (fun _ => 0)))] H := hP
  have hD : va_D A [(h0, .inr (5, [.ref q7, .ref q16, .int 0, .ref q23, .ref q31, .int 0, .int (-1), .int 0, .ref q44, .ref q53, .ref q62, .ref q70, .int 0, .ref q77, .int 0])), (q7, .inl (cI, 80, .inl (fun _ => 0))), (q16, .inl (cI, 640, .inl (fun _ => 0))), (q23, .inl (cI, 3, .inl (fun _ => 0))), (q31, .inl (cI, 100, .inl (fun _ => 0))), (q44, .inl (cI, 36, .inl (fun _ => 0))), (q53, .inl (cI, 128, .inl (fun _ => 0))), (q62, .inl (cI, 128, .inl (fun _ => 0))), (q70, .inl (cI, 36, .inl (fun _ => 0))), (q77, .inl (cI, 4, .inl (fun _ => 0)))] := hD
  refine lv_aload_n hx hb dX5_init_82 rfl (lv_at hl 0 rfl) ?_
  refine va_get (D := D) (ci := 5) (v := .ref q7) (C := RX5) (T := TX5) (N := 15) hx hb hts (by decide +kernel) hown hK hP 0 rfl rfl 0 (by decide) (hts (.fieldLink RX5 7 "StrokeCutsModel" "st" "[I") (by decide +kernel)) (fun _ h9 => h9) rfl dX5_init_83 ?_
  refine lv_iconst (v := 0) hx hb dX5_init_86 (by decide) ?_
  refine lv_iconst (v := 4) hx hb dX5_init_87 (by decide) ?_
  refine va_iast hx hb hK hP hD hS 1 0 rfl rfl (by unfold vp_in; decide) dX5_init_88 (fun H locs hP hD hS => ?_)
  have hP : va_P D vwCl [(h0, .inr (5, [.ref q7, .ref q16, .int 0, .ref q23, .ref q31, .int 0, .int (-1), .int 0, .ref q44, .ref q53, .ref q62, .ref q70, .int 0, .ref q77, .int 0])), (q7, .inl (cI, 80, .inl (upd (fun _ => 0) 0 4))), (q16, .inl (cI, 640, .inl (fun _ => 0))), (q23, .inl (cI, 3, .inl (fun _ => 0))), (q31, .inl (cI, 100, .inl (fun _ => 0))), (q44, .inl (cI, 36, .inl (fun _ => 0))), (q53, .inl (cI, 128, .inl (fun _ => 0))), (q62, .inl (cI, 128, .inl (fun _ => 0))), (q70, .inl (cI, 36, .inl (fun _ => 0))), (q77, .inl (cI, 4, .inl (fun _ => 0)))] H := hP
  have hD : va_D A [(h0, .inr (5, [.ref q7, .ref q16, .int 0, .ref q23, .ref q31, .int 0, .int (-1), .int 0, .ref q44, .ref q53, .ref q62, .ref q70, .int 0, .ref q77, .int 0])), (q7, .inl (cI, 80, .inl (upd (fun _ => 0) 0 4))), (q16, .inl (cI, 640, .inl (fun _ => 0))), (q23, .inl (cI, 3, .inl (fun _ => 0))), (q31, .inl (cI, 100, .inl (fun _ => 0))), (q44, .inl (cI, 36, .inl (fun _ => 0))), (q53, .inl (cI, 128, .inl (fun _ => 0))), (q62, .inl (cI, 128, .inl (fun _ => 0))), (q70, .inl (cI, 36, .inl (fun _ => 0))), (q77, .inl (cI, 4, .inl (fun _ => 0)))] := hD
  refine lv_aload_n hx hb dX5_init_89 rfl (lv_at hl 0 rfl) ?_
  refine va_get (D := D) (ci := 5) (v := .ref q7) (C := RX5) (T := TX5) (N := 15) hx hb hts (by decide +kernel) hown hK hP 0 rfl rfl 0 (by decide) (hts (.fieldLink RX5 7 "StrokeCutsModel" "st" "[I") (by decide +kernel)) (fun _ h9 => h9) rfl dX5_init_90 ?_
  refine lv_iconst (v := 1) hx hb dX5_init_93 (by decide) ?_
  refine lv_iconst (v := 4) hx hb dX5_init_94 (by decide) ?_
  refine va_iast hx hb hK hP hD hS 1 0 rfl rfl (by unfold vp_in; decide) dX5_init_95 (fun H locs hP hD hS => ?_)
  have hP : va_P D vwCl [(h0, .inr (5, [.ref q7, .ref q16, .int 0, .ref q23, .ref q31, .int 0, .int (-1), .int 0, .ref q44, .ref q53, .ref q62, .ref q70, .int 0, .ref q77, .int 0])), (q7, .inl (cI, 80, .inl (upd (upd (fun _ => 0) 0 4) 1 4))), (q16, .inl (cI, 640, .inl (fun _ => 0))), (q23, .inl (cI, 3, .inl (fun _ => 0))), (q31, .inl (cI, 100, .inl (fun _ => 0))), (q44, .inl (cI, 36, .inl (fun _ => 0))), (q53, .inl (cI, 128, .inl (fun _ => 0))), (q62, .inl (cI, 128, .inl (fun _ => 0))), (q70, .inl (cI, 36, .inl (fun _ => 0))), (q77, .inl (cI, 4, .inl (fun _ => 0)))] H := hP
  have hD : va_D A [(h0, .inr (5, [.ref q7, .ref q16, .int 0, .ref q23, .ref q31, .int 0, .int (-1), .int 0, .ref q44, .ref q53, .ref q62, .ref q70, .int 0, .ref q77, .int 0])), (q7, .inl (cI, 80, .inl (upd (upd (fun _ => 0) 0 4) 1 4))), (q16, .inl (cI, 640, .inl (fun _ => 0))), (q23, .inl (cI, 3, .inl (fun _ => 0))), (q31, .inl (cI, 100, .inl (fun _ => 0))), (q44, .inl (cI, 36, .inl (fun _ => 0))), (q53, .inl (cI, 128, .inl (fun _ => 0))), (q62, .inl (cI, 128, .inl (fun _ => 0))), (q70, .inl (cI, 36, .inl (fun _ => 0))), (q77, .inl (cI, 4, .inl (fun _ => 0)))] := hD
  refine lv_aload_n hx hb dX5_init_96 rfl (lv_at hl 0 rfl) ?_
  refine va_get (D := D) (ci := 5) (v := .ref q7) (C := RX5) (T := TX5) (N := 15) hx hb hts (by decide +kernel) hown hK hP 0 rfl rfl 0 (by decide) (hts (.fieldLink RX5 7 "StrokeCutsModel" "st" "[I") (by decide +kernel)) (fun _ h9 => h9) rfl dX5_init_97 ?_
  refine lv_iconst (v := 2) hx hb dX5_init_100 (by decide) ?_
  refine lv_bipush (v := 10) hx hb dX5_init_101 (by decide) ?_
  refine va_iast hx hb hK hP hD hS 1 0 rfl rfl (by unfold vp_in; decide) dX5_init_103 (fun H locs hP hD hS => ?_)
  have hP : va_P D vwCl [(h0, .inr (5, [.ref q7, .ref q16, .int 0, .ref q23, .ref q31, .int 0, .int (-1), .int 0, .ref q44, .ref q53, .ref q62, .ref q70, .int 0, .ref q77, .int 0])), (q7, .inl (cI, 80, .inl (upd (upd (upd (fun _ => 0) 0 4) 1 4) 2 10))), (q16, .inl (cI, 640, .inl (fun _ => 0))), (q23, .inl (cI, 3, .inl (fun _ => 0))), (q31, .inl (cI, 100, .inl (fun _ => 0))), (q44, .inl (cI, 36, .inl (fun _ => 0))), (q53, .inl (cI, 128, .inl (fun _ => 0))), (q62, .inl (cI, 128, .inl (fun _ => 0))), (q70, .inl (cI, 36, .inl (fun _ => 0))), (q77, .inl (cI, 4, .inl (fun _ => 0)))] H := hP
  have hD : va_D A [(h0, .inr (5, [.ref q7, .ref q16, .int 0, .ref q23, .ref q31, .int 0, .int (-1), .int 0, .ref q44, .ref q53, .ref q62, .ref q70, .int 0, .ref q77, .int 0])), (q7, .inl (cI, 80, .inl (upd (upd (upd (fun _ => 0) 0 4) 1 4) 2 10))), (q16, .inl (cI, 640, .inl (fun _ => 0))), (q23, .inl (cI, 3, .inl (fun _ => 0))), (q31, .inl (cI, 100, .inl (fun _ => 0))), (q44, .inl (cI, 36, .inl (fun _ => 0))), (q53, .inl (cI, 128, .inl (fun _ => 0))), (q62, .inl (cI, 128, .inl (fun _ => 0))), (q70, .inl (cI, 36, .inl (fun _ => 0))), (q77, .inl (cI, 4, .inl (fun _ => 0)))] := hD
  refine lv_aload_n hx hb dX5_init_104 rfl (lv_at hl 0 rfl) ?_
  refine va_get (D := D) (ci := 5) (v := .ref q7) (C := RX5) (T := TX5) (N := 15) hx hb hts (by decide +kernel) hown hK hP 0 rfl rfl 0 (by decide) (hts (.fieldLink RX5 7 "StrokeCutsModel" "st" "[I") (by decide +kernel)) (fun _ h9 => h9) rfl dX5_init_105 ?_
  refine lv_iconst (v := 3) hx hb dX5_init_108 (by decide) ?_
  refine lv_iconst (v := 2) hx hb dX5_init_109 (by decide) ?_
  refine va_iast hx hb hK hP hD hS 1 0 rfl rfl (by unfold vp_in; decide) dX5_init_110 (fun H locs hP hD hS => ?_)
  have hP : va_P D vwCl [(h0, .inr (5, [.ref q7, .ref q16, .int 0, .ref q23, .ref q31, .int 0, .int (-1), .int 0, .ref q44, .ref q53, .ref q62, .ref q70, .int 0, .ref q77, .int 0])), (q7, .inl (cI, 80, .inl (upd (upd (upd (upd (fun _ => 0) 0 4) 1 4) 2 10) 3 2))), (q16, .inl (cI, 640, .inl (fun _ => 0))), (q23, .inl (cI, 3, .inl (fun _ => 0))), (q31, .inl (cI, 100, .inl (fun _ => 0))), (q44, .inl (cI, 36, .inl (fun _ => 0))), (q53, .inl (cI, 128, .inl (fun _ => 0))), (q62, .inl (cI, 128, .inl (fun _ => 0))), (q70, .inl (cI, 36, .inl (fun _ => 0))), (q77, .inl (cI, 4, .inl (fun _ => 0)))] H := hP
  have hD : va_D A [(h0, .inr (5, [.ref q7, .ref q16, .int 0, .ref q23, .ref q31, .int 0, .int (-1), .int 0, .ref q44, .ref q53, .ref q62, .ref q70, .int 0, .ref q77, .int 0])), (q7, .inl (cI, 80, .inl (upd (upd (upd (upd (fun _ => 0) 0 4) 1 4) 2 10) 3 2))), (q16, .inl (cI, 640, .inl (fun _ => 0))), (q23, .inl (cI, 3, .inl (fun _ => 0))), (q31, .inl (cI, 100, .inl (fun _ => 0))), (q44, .inl (cI, 36, .inl (fun _ => 0))), (q53, .inl (cI, 128, .inl (fun _ => 0))), (q62, .inl (cI, 128, .inl (fun _ => 0))), (q70, .inl (cI, 36, .inl (fun _ => 0))), (q77, .inl (cI, 4, .inl (fun _ => 0)))] := hD
  refine lv_aload_n hx hb dX5_init_111 rfl (lv_at hl 0 rfl) ?_
  refine va_get (D := D) (ci := 5) (v := .ref q7) (C := RX5) (T := TX5) (N := 15) hx hb hts (by decide +kernel) hown hK hP 0 rfl rfl 0 (by decide) (hts (.fieldLink RX5 7 "StrokeCutsModel" "st" "[I") (by decide +kernel)) (fun _ h9 => h9) rfl dX5_init_112 ?_
  refine lv_iconst (v := 4) hx hb dX5_init_115 (by decide) ?_
  refine lv_iconst (v := 1) hx hb dX5_init_116 (by decide) ?_
  refine va_iast hx hb hK hP hD hS 1 0 rfl rfl (by unfold vp_in; decide) dX5_init_117 (fun H locs hP hD hS => ?_)
  have hP : va_P D vwCl [(h0, .inr (5, [.ref q7, .ref q16, .int 0, .ref q23, .ref q31, .int 0, .int (-1), .int 0, .ref q44, .ref q53, .ref q62, .ref q70, .int 0, .ref q77, .int 0])), (q7, .inl (cI, 80, .inl (upd (upd (upd (upd (upd (fun _ => 0) 0 4) 1 4) 2 10) 3 2) 4 1))), (q16, .inl (cI, 640, .inl (fun _ => 0))), (q23, .inl (cI, 3, .inl (fun _ => 0))), (q31, .inl (cI, 100, .inl (fun _ => 0))), (q44, .inl (cI, 36, .inl (fun _ => 0))), (q53, .inl (cI, 128, .inl (fun _ => 0))), (q62, .inl (cI, 128, .inl (fun _ => 0))), (q70, .inl (cI, 36, .inl (fun _ => 0))), (q77, .inl (cI, 4, .inl (fun _ => 0)))] H := hP
  have hD : va_D A [(h0, .inr (5, [.ref q7, .ref q16, .int 0, .ref q23, .ref q31, .int 0, .int (-1), .int 0, .ref q44, .ref q53, .ref q62, .ref q70, .int 0, .ref q77, .int 0])), (q7, .inl (cI, 80, .inl (upd (upd (upd (upd (upd (fun _ => 0) 0 4) 1 4) 2 10) 3 2) 4 1))), (q16, .inl (cI, 640, .inl (fun _ => 0))), (q23, .inl (cI, 3, .inl (fun _ => 0))), (q31, .inl (cI, 100, .inl (fun _ => 0))), (q44, .inl (cI, 36, .inl (fun _ => 0))), (q53, .inl (cI, 128, .inl (fun _ => 0))), (q62, .inl (cI, 128, .inl (fun _ => 0))), (q70, .inl (cI, 36, .inl (fun _ => 0))), (q77, .inl (cI, 4, .inl (fun _ => 0)))] := hD
  refine lv_aload_n hx hb dX5_init_118 rfl (lv_at hl 0 rfl) ?_
  refine va_get (D := D) (ci := 5) (v := .ref q7) (C := RX5) (T := TX5) (N := 15) hx hb hts (by decide +kernel) hown hK hP 0 rfl rfl 0 (by decide) (hts (.fieldLink RX5 7 "StrokeCutsModel" "st" "[I") (by decide +kernel)) (fun _ h9 => h9) rfl dX5_init_119 ?_
  refine lv_bipush (v := 6) hx hb dX5_init_122 (by decide) ?_
  refine lv_bipush (v := 9) hx hb dX5_init_124 (by decide) ?_
  refine va_iast hx hb hK hP hD hS 1 0 rfl rfl (by unfold vp_in; decide) dX5_init_126 (fun H locs hP hD hS => ?_)
  have hP : va_P D vwCl [(h0, .inr (5, [.ref q7, .ref q16, .int 0, .ref q23, .ref q31, .int 0, .int (-1), .int 0, .ref q44, .ref q53, .ref q62, .ref q70, .int 0, .ref q77, .int 0])), (q7, .inl (cI, 80, .inl (upd (upd (upd (upd (upd (upd (fun _ => 0) 0 4) 1 4) 2 10) 3 2) 4 1) 6 9))), (q16, .inl (cI, 640, .inl (fun _ => 0))), (q23, .inl (cI, 3, .inl (fun _ => 0))), (q31, .inl (cI, 100, .inl (fun _ => 0))), (q44, .inl (cI, 36, .inl (fun _ => 0))), (q53, .inl (cI, 128, .inl (fun _ => 0))), (q62, .inl (cI, 128, .inl (fun _ => 0))), (q70, .inl (cI, 36, .inl (fun _ => 0))), (q77, .inl (cI, 4, .inl (fun _ => 0)))] H := hP
  have hD : va_D A [(h0, .inr (5, [.ref q7, .ref q16, .int 0, .ref q23, .ref q31, .int 0, .int (-1), .int 0, .ref q44, .ref q53, .ref q62, .ref q70, .int 0, .ref q77, .int 0])), (q7, .inl (cI, 80, .inl (upd (upd (upd (upd (upd (upd (fun _ => 0) 0 4) 1 4) 2 10) 3 2) 4 1) 6 9))), (q16, .inl (cI, 640, .inl (fun _ => 0))), (q23, .inl (cI, 3, .inl (fun _ => 0))), (q31, .inl (cI, 100, .inl (fun _ => 0))), (q44, .inl (cI, 36, .inl (fun _ => 0))), (q53, .inl (cI, 128, .inl (fun _ => 0))), (q62, .inl (cI, 128, .inl (fun _ => 0))), (q70, .inl (cI, 36, .inl (fun _ => 0))), (q77, .inl (cI, 4, .inl (fun _ => 0)))] := hD
  refine lv_aload_n hx hb dX5_init_127 rfl (lv_at hl 0 rfl) ?_
  refine va_get (D := D) (ci := 5) (v := .ref q7) (C := RX5) (T := TX5) (N := 15) hx hb hts (by decide +kernel) hown hK hP 0 rfl rfl 0 (by decide) (hts (.fieldLink RX5 7 "StrokeCutsModel" "st" "[I") (by decide +kernel)) (fun _ h9 => h9) rfl dX5_init_128 ?_
  refine lv_bipush (v := 7) hx hb dX5_init_131 (by decide) ?_
  refine lv_iconst (v := 4) hx hb dX5_init_133 (by decide) ?_
  refine va_iast hx hb hK hP hD hS 1 0 rfl rfl (by unfold vp_in; decide) dX5_init_134 (fun H locs hP hD hS => ?_)
  have hP : va_P D vwCl [(h0, .inr (5, [.ref q7, .ref q16, .int 0, .ref q23, .ref q31, .int 0, .int (-1), .int 0, .ref q44, .ref q53, .ref q62, .ref q70, .int 0, .ref q77, .int 0])), (q7, .inl (cI, 80, .inl (upd (upd (upd (upd (upd (upd (upd (fun _ => 0) 0 4) 1 4) 2 10) 3 2) 4 1) 6 9) 7 4))), (q16, .inl (cI, 640, .inl (fun _ => 0))), (q23, .inl (cI, 3, .inl (fun _ => 0))), (q31, .inl (cI, 100, .inl (fun _ => 0))), (q44, .inl (cI, 36, .inl (fun _ => 0))), (q53, .inl (cI, 128, .inl (fun _ => 0))), (q62, .inl (cI, 128, .inl (fun _ => 0))), (q70, .inl (cI, 36, .inl (fun _ => 0))), (q77, .inl (cI, 4, .inl (fun _ => 0)))] H := hP
  have hD : va_D A [(h0, .inr (5, [.ref q7, .ref q16, .int 0, .ref q23, .ref q31, .int 0, .int (-1), .int 0, .ref q44, .ref q53, .ref q62, .ref q70, .int 0, .ref q77, .int 0])), (q7, .inl (cI, 80, .inl (upd (upd (upd (upd (upd (upd (upd (fun _ => 0) 0 4) 1 4) 2 10) 3 2) 4 1) 6 9) 7 4))), (q16, .inl (cI, 640, .inl (fun _ => 0))), (q23, .inl (cI, 3, .inl (fun _ => 0))), (q31, .inl (cI, 100, .inl (fun _ => 0))), (q44, .inl (cI, 36, .inl (fun _ => 0))), (q53, .inl (cI, 128, .inl (fun _ => 0))), (q62, .inl (cI, 128, .inl (fun _ => 0))), (q70, .inl (cI, 36, .inl (fun _ => 0))), (q77, .inl (cI, 4, .inl (fun _ => 0)))] := hD
  have hP9 := hP.sub (ws' := [(h0, .inr (5, [.ref q7, .ref q16, .int 0, .ref q23, .ref q31, .int 0, .int (-1), .int 0, .ref q44, .ref q53, .ref q62, .ref q70, .int 0, .ref q77, .int 0])), (q7, .inl (cI, 80, .inl (upd (upd (upd (upd (upd (upd (upd (fun _ => 0) 0 4) 1 4) 2 10) 3 2) 4 1) 6 9) 7 4))), (q16, .inl (cI, 640, .inl (fun _ => 0))), (q23, .inl (cI, 3, .inl (fun _ => 0))), (q31, .inl (cI, 100, .inl (fun _ => 0))), (q44, .inl (cI, 36, .inl (fun _ => 0))), (q53, .inl (cI, 128, .inl (fun _ => 0))), (q62, .inl (cI, 128, .inl (fun _ => 0))), (q70, .inl (cI, 36, .inl (fun _ => 0))), (q77, .inl (cI, 4, .inl (fun _ => 0)))]) [0, 1, 2, 3, 4, 5, 6, 7, 8, 9] rfl
  have hD9 := hD.sub (ws' := [(h0, .inr (5, [.ref q7, .ref q16, .int 0, .ref q23, .ref q31, .int 0, .int (-1), .int 0, .ref q44, .ref q53, .ref q62, .ref q70, .int 0, .ref q77, .int 0])), (q7, .inl (cI, 80, .inl (upd (upd (upd (upd (upd (upd (upd (fun _ => 0) 0 4) 1 4) 2 10) 3 2) 4 1) 6 9) 7 4))), (q16, .inl (cI, 640, .inl (fun _ => 0))), (q23, .inl (cI, 3, .inl (fun _ => 0))), (q31, .inl (cI, 100, .inl (fun _ => 0))), (q44, .inl (cI, 36, .inl (fun _ => 0))), (q53, .inl (cI, 128, .inl (fun _ => 0))), (q62, .inl (cI, 128, .inl (fun _ => 0))), (q70, .inl (cI, 36, .inl (fun _ => 0))), (q77, .inl (cI, 4, .inl (fun _ => 0)))]) [0, 1, 2, 3, 4, 5, 6, 7, 8, 9] (by decide) rfl
  have hK9 := hK.sub (tys' := [(cI, .int), (cR, .object "StrokeCuts$Scene")]) [0, 1] rfl
  refine W.widen (k := 9) (n := 1155) (Nat.le_of_ble_eq_true rfl) (Nat.le_of_ble_eq_true rfl) ?_
  exact W.vret hx hb hr (fun t ht hW => ⟨⟨fun i => ([q7, q16, q23, q31, q44, q53, q62, q70, q77] : List Nat).getD i 0, rfl, trivial, by rw [ht]; exact hP9, va_K.moved hW.alike hK9, hD9⟩, hS.F ht⟩) hS.2.2 dX5_init_135
