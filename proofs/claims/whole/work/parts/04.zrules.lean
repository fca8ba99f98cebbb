/-! ===== contracts, the state of a walk ===== -/
def zQ (w : zP) (Post : Option Value → Mem → Prop) : Array Value → State → Outcome → State → Prop := fun _ st oc t => (∃ (v : Option Value) (Ω' : Mem), oc = .returned v ∧ Post v Ω' ∧ va_P w.1 vwCl (zW w Ω') t.heap) ∧ va_F (zA w) st t
def zM (l : Launch) (w : zP) (y : MethodName) (ws : List Cond) (fr lo : Nat) (Av : List Value) (Ω : Mem) (Post : Option Value → Mem → Prop) : Prop :=
  Met l y ws ({ frames := fr, cells := 0, slots := 0, locals := lo }) (va_Pc Av (fun U => va_P w.1 vwCl (zW w Ω) U.heap ∧ va_K w.1 vwCl (zT w) U ∧ zSt w U U.heap)) (zQ w Post) 0 0 (zA w)
def zi (P : Int → Mem → Prop) : Option Value → Mem → Prop := fun v Ω => ∃ r : Int, v = some (.int (zI r)) ∧ P r Ω
def zlo (P : Int64 → Mem → Prop) : Option Value → Mem → Prop := fun v Ω => ∃ r : Int64, v = some (.long r) ∧ P r Ω
def zvo (P : Mem → Prop) : Option Value → Mem → Prop := fun v Ω => v = none ∧ P Ω
def bI (b : Bool) : Int := if b then 1 else 0
def zbo (P : Bool → Mem → Prop) : Option Value → Mem → Prop := fun v Ω => ∃ b : Bool, v = some (.int (zI (bI b))) ∧ P b Ω
/-- the locals, by their places -/
def zL (ls : Array Slot) (nL : Nat) (lv : List (Option Value)) : Prop := ls.size = nL ∧ lv_wf ls ∧ ∀ (i : Nat) (v : Value), lv[i]? = some (some v) → ls[i]? = some (.val v)
def zpl (lv : List (Option Value)) : List (Nat × Value) := (List.range lv.length).filterMap (fun i => (lv[i]?.join).map (fun v => (i, v)))
theorem zpl_mem {lv : List (Option Value)} {i : Nat} {v : Value} (h : lv[i]? = some (some v)) : (i, v) ∈ zpl lv := by
  refine List.mem_filterMap.mpr ⟨i, List.mem_range.mpr (List.getElem?_eq_some_iff.mp h).1, ?_⟩
  rw [h]; rfl
theorem zpl_inv {lv : List (Option Value)} {q : Nat × Value} (h : q ∈ zpl lv) : lv[q.1]? = some (some q.2) := by
  obtain ⟨i, -, hi⟩ := List.mem_filterMap.mp h
  cases hh : lv[i]? with
  | none => rw [hh] at hi; cases hi
  | some o =>
    cases o with
    | none => rw [hh] at hi; cases hi
    | some v => rw [hh] at hi; cases hi; exact hh
theorem zL.has {ls : Array Slot} {nL : Nat} {lv : List (Option Value)} (h : zL ls nL lv) : lv_has ls nL (zpl lv) := ⟨h.1, h.2.1, fun q hq => h.2.2 q.1 q.2 (zpl_inv hq)⟩
/-- storing: the list behind it -/
def zS (lv : List (Option Value)) (i : Nat) (v : Value) (lv' : List (Option Value)) : Prop := lv' = lv.set i (some v)
theorem zS_0 {a : Option Value} {r : List (Option Value)} {v : Value} : zS (a :: r) 0 v (some v :: r) := rfl
theorem zS_s {a : Option Value} {r r' : List (Option Value)} {i : Nat} {v : Value} (h : zS r i v r') : zS (a :: r) (i + 1) v (a :: r') := by
  rw [zS] at h ⊢; rw [h]; rfl
def zS2 (lv : List (Option Value)) (i : Nat) (v : Value) (lv' : List (Option Value)) : Prop := lv' = (lv.set i (some v)).set (i + 1) none
theorem zS2_0 {a b : Option Value} {r : List (Option Value)} {v : Value} : zS2 (a :: b :: r) 0 v (some v :: none :: r) := rfl
theorem zS2_s {a : Option Value} {r r' : List (Option Value)} {i : Nat} {v : Value} (h : zS2 r i v r') : zS2 (a :: r) (i + 1) v (a :: r') := by
  rw [zS2] at h ⊢; rw [h]; rfl
def zok (lv : List (Option Value)) (i : Nat) : Bool := match i with
  | 0 => true
  | j + 1 => match lv[j]? with
    | some (some x) => x.category == 1
    | _ => true
theorem zok_spec {lv : List (Option Value)} {i : Nat} (h : zok lv i = true) {j : Nat} {x : Value} (hj : lv[j]? = some (some x)) (e : j + 1 = i) : ¬ x.category = 2 := by
  subst e
  simp only [zok, hj, beq_iff_eq] at h
  omega
theorem zL.of1 {ls' : Array Slot} {nL : Nat} {lv lv' : List (Option Value)} {i : Nat} {v : Value} (h : lv_has ls' nL ((i, v) :: (zpl lv).filter (fun q => !(q.1 == i) && !(q.1 + 1 == i && q.2.category == 2)))) (hk : zok lv i = true) (hs : zS lv i v lv') : zL ls' nL lv' := by
  obtain ⟨h2, h3, h4⟩ := h
  refine ⟨h2, h3, fun j x hj => ?_⟩
  rw [hs] at hj
  by_cases e : j = i
  · subst e
    have hlt : j < lv.length := by
      have := (List.getElem?_eq_some_iff.mp hj).1
      rwa [List.length_set] at this
    rw [List.getElem?_set_self hlt] at hj
    cases hj
    exact h4 (j, v) List.mem_cons_self
  · rw [List.getElem?_set_ne (Ne.symm e)] at hj
    refine h4 (j, x) (List.mem_cons_of_mem _ (List.mem_filter.mpr ⟨zpl_mem hj, ?_⟩))
    have h5 : (j == i) = false := by simpa using e
    by_cases e2 : j + 1 = i
    · have h6 := zok_spec hk hj e2
      have h7 : (x.category == 2) = false := by simpa using h6
      simp [h5, h7]
    · have h6 : (j + 1 == i) = false := by simpa using e2
      simp [h5, h6]
theorem zL.of2 {ls' : Array Slot} {nL : Nat} {lv lv' : List (Option Value)} {i : Nat} {v : Value} (h : lv_has ls' nL ((i, v) :: (zpl lv).filter (fun q => !(q.1 == i) && (!(q.1 == i + 1) && !(q.1 + 1 == i && q.2.category == 2))))) (hk : zok lv i = true) (hs : zS2 lv i v lv') : zL ls' nL lv' := by
  obtain ⟨h2, h3, h4⟩ := h
  refine ⟨h2, h3, fun j x hj => ?_⟩
  rw [hs] at hj
  by_cases e1 : j = i + 1
  · subst e1
    have hlt : i + 1 < (lv.set i (some v)).length := by
      have := (List.getElem?_eq_some_iff.mp hj).1
      rwa [List.length_set] at this
    rw [List.getElem?_set_self hlt] at hj
    cases hj
  · rw [List.getElem?_set_ne (Ne.symm e1)] at hj
    by_cases e : j = i
    · subst e
      have hlt : j < lv.length := by
        have := (List.getElem?_eq_some_iff.mp hj).1
        rwa [List.length_set] at this
      rw [List.getElem?_set_self hlt] at hj
      cases hj
      exact h4 (j, v) List.mem_cons_self
    · rw [List.getElem?_set_ne (Ne.symm e)] at hj
      refine h4 (j, x) (List.mem_cons_of_mem _ (List.mem_filter.mpr ⟨zpl_mem hj, ?_⟩))
      have h5 : (j == i) = false := by simpa using e
      have h8 : (j == i + 1) = false := by simpa using e1
      by_cases e2 : j + 1 = i
      · have h6 := zok_spec hk hj e2
        have h7 : (x.category == 2) = false := by simpa using h6
        simp [h5, h7, h8]
      · have h6 : (j + 1 == i) = false := by simpa using e2
        simp [h5, h6, h8]
/-- fewer known locals -/
def zle : List (Option Value) → List (Option Value) → Prop
  | [], _ => True
  | none :: a, _ :: b => zle a b
  | some v :: a, x :: b => x = some v ∧ zle a b
  | none :: a, [] => zle a []
  | some _ :: _, [] => False
theorem zle_at : ∀ {a b : List (Option Value)}, zle a b → ∀ (i : Nat) (v : Value), a[i]? = some (some v) → b[i]? = some (some v)
  | [], _, _, i, v, h => by simp at h
  | none :: a, y :: b, hz, 0, v, h => by simp at h
  | none :: a, y :: b, hz, i + 1, v, h => by
    rw [List.getElem?_cons_succ] at h ⊢
    exact zle_at (show zle a b from hz) i v h
  | some x :: a, y :: b, hz, 0, v, h => by
    rw [List.getElem?_cons_zero] at h ⊢
    rw [hz.1]; exact h
  | some x :: a, y :: b, hz, i + 1, v, h => by
    rw [List.getElem?_cons_succ] at h ⊢
    exact zle_at hz.2 i v h
  | none :: a, [], hz, 0, v, h => by simp at h
  | none :: a, [], hz, i + 1, v, h => by
    rw [List.getElem?_cons_succ] at h
    have := zle_at (show zle a [] from hz) i v h
    simp at this
  | some x :: a, [], hz, i, v, h => hz.elim
theorem zL.le {ls : Array Slot} {nL : Nat} {lv lv' : List (Option Value)} (h : zL ls nL lv) (hz : zle lv' lv) : zL ls nL lv' := ⟨h.1, h.2.1, fun i v hv => h.2.2 i v (zle_at hz i v hv)⟩
/-- the locals at a method's entry -/
def zen : List Value → List (Option Value)
  | [] => []
  | v :: r => if v.category = 2 then some v :: none :: zen r else some v :: zen r
theorem zen_args : ∀ (vs : List Value) (b i : Nat) (v : Value), (zen vs)[i]? = some (some v) → (b + i, v) ∈ lv_args b vs
  | [], b, i, v, h => by simp [zen] at h
  | x :: vs, b, i, v, h => by
    by_cases hc : x.category = 2
    · simp only [zen, hc, if_true] at h
      simp only [lv_args, hc, if_true]
      match i, h with
      | 0, h => rw [List.getElem?_cons_zero] at h; cases h; exact List.mem_cons_self
      | 1, h => simp at h
      | i + 2, h =>
        have := zen_args vs (b + 2) i v (by simpa using h)
        rw [show b + (i + 2) = b + 2 + i by omega]
        exact List.mem_cons_of_mem _ this
    · simp only [zen, hc, if_false] at h
      simp only [lv_args, hc, if_false]
      match i, h with
      | 0, h => rw [List.getElem?_cons_zero] at h; cases h; exact List.mem_cons_self
      | i + 1, h =>
        have := zen_args vs (b + 1) i v (by simpa using h)
        rw [show b + (i + 1) = b + 1 + i by omega]
        exact List.mem_cons_of_mem _ this
theorem zL.entry (vs : List Value) {n : Nat} (h : (lg_sl vs).length ≤ n) : zL ((lg_sl vs ++ List.replicate (n - (lg_sl vs).length) Slot.unset).toArray) n (zen vs ++ List.replicate (n - (zen vs).length) none) := by
  obtain ⟨h1, h2, h3⟩ := lv_entry vs h
  refine ⟨h1, h2, fun i v hv => ?_⟩
  by_cases hi : i < (zen vs).length
  · rw [List.getElem?_append_left hi] at hv
    have := h3 _ (zen_args vs 0 i v hv)
    simpa using this
  · rw [List.getElem?_append_right (by omega)] at hv
    have := List.eq_of_mem_replicate (List.mem_of_getElem? hv)
    cases this
/-! the fixed things of a walk, in one -/
abbrev zE : Type := Program × Launch × Env × Room × State × MethodId × Array Value × List Frame × Method × Code × zP × Nat × (State → Prop)
def e_p (E : zE) : Program := E.1
def e_l (E : zE) : Launch := E.2.1
def e_e (E : zE) : Env := E.2.2.1
def e_R (E : zE) : Room := E.2.2.2.1
def e_s (E : zE) : State := E.2.2.2.2.1
def e_m (E : zE) : MethodId := E.2.2.2.2.2.1
def e_a (E : zE) : Array Value := E.2.2.2.2.2.2.1
def e_b (E : zE) : List Frame := E.2.2.2.2.2.2.2.1
def e_me (E : zE) : Method := E.2.2.2.2.2.2.2.2.1
def e_c (E : zE) : Code := E.2.2.2.2.2.2.2.2.2.1
def e_w (E : zE) : zP := E.2.2.2.2.2.2.2.2.2.2.1
def e_n (E : zE) : Nat := E.2.2.2.2.2.2.2.2.2.2.2.1
def e_Q (E : zE) : State → Prop := E.2.2.2.2.2.2.2.2.2.2.2.2
def zV (E : zE) (H : Heap) (locs : List Loc) (g : JFrame) : Prop := W (e_p E) (e_l E) (e_e E) (e_R E) (e_s E) (e_m E) (e_a E) (e_b E) (e_me E) (e_c E) H locs 0 0 (e_Q E) g
def X (E : zE) (Ω : Mem) (pc : Nat) (lv : List (Option Value)) (st : List Value) : Prop :=
  ∀ (H : Heap) (locs : List Loc) (ls : Array Slot), va_P (e_w E).1 vwCl (zW (e_w E) Ω) H → va_S (zA (e_w E)) (e_s E).heap H locs → zL ls (e_n E) lv → W (e_p E) (e_l E) (e_e E) (e_R E) (e_s E) (e_m E) (e_a E) (e_b E) (e_me E) (e_c E) H locs 0 0 (e_Q E) (F0 (e_m E) pc ls st)
def zC (E : zE) (w : zP) (l : Launch) (own : String) (ws : List Cond) (cc : ByteArray) (nL fr lo : Nat) (ret : Option FieldType) (Post : Option Value → Mem → Prop) : Prop :=
  (e_p E).tables.exec = Jvm.exec ∧ (e_c E).code = cc ∧ (e_c E).maxLocals = nL ∧ (e_s E).vm.findClass own = some (e_m E).cls ∧ (∀ x ∈ ws, x.before (e_a E) (e_s E) = true) ∧ va_K w.1 vwCl (zT w) (e_s E) ∧ (e_me E).locks = false ∧ zOK w ∧ zSt w (e_s E) (e_s E).heap ∧ e_R E = { frames := fr, cells := 0, slots := 0, locals := lo } ∧ (e_me E).sig.returnType = ret ∧ e_Q E = MQ (e_b E) (zQ w Post) (e_a E) (e_s E) 0 0 (zA w) ∧ e_w E = w ∧ e_l E = l ∧ e_n E = nL
theorem zM_of {l : Launch} {w : zP} {y : MethodName} {ws ws' : List Cond} {fr lo : Nat} {Av : List Value} {Ω : Mem} {Post : Option Value → Mem → Prop} (cc : ByteArray) (nL : Nat) (ret : Option FieldType) (own : String) (lv : List (Option Value)) (hw : zOK w) (hy : plainName y.cls = true) (hws : ws = Cond.code y cc nL ret :: ws') (hcls : y.cls = own) (hlen : (lg_sl Av).length ≤ nL) (hlv : zen Av ++ List.replicate (nL - (zen Av).length) none = lv)
    (body : ∀ E : zE, zC E w l own ws cc nL fr lo ret Post → X E Ω 0 lv []) : zM l w y ws fr lo Av Ω Post := by
  refine Met.ofW (cc := cc) (maxL := nL) (ret := ret) hy hws ?_
  intro p e s m args below meth c s₁ B hml hv
  obtain ⟨rfl, hP, hK, hSt⟩ := hv
  have hk := body (p, l, e, _, s, m, Av.toArray, below, meth, c, w, nL, MQ below (zQ w Post) Av.toArray s 0 0 (zA w)) ⟨B.exec, B.bytes, hml, by rw [← hcls]; exact findClass_of_methodNamed B.named, atoms_spec (ws := ws) B.pre, hK, B.notSynchronized, hw, hSt, rfl, B.returns, rfl, rfl, rfl, rfl⟩
  rw [lg_entry_eq]
  rw [← hlv] at hk
  exact hk s.heap [] _ hP va_S.rf (zL.entry Av hlen)
theorem z_le {E : zE} {Ω : Mem} {pc : Nat} {lv : List (Option Value)} {st : List Value} (lv' : List (Option Value)) (hz : zle lv' lv) (k : X E Ω pc lv' st) : X E Ω pc lv st := fun H locs ls hP hS hl => k H locs ls hP hS (hl.le hz)
theorem z_mem {E : zE} {Ω Ω' : Mem} {pc : Nat} {lv : List (Option Value)} {st : List Value} (h : Ω = Ω') (k : X E Ω' pc lv st) : X E Ω pc lv st := h ▸ k
theorem z_st {E : zE} {Ω : Mem} {pc : Nat} {lv : List (Option Value)} {st st' : List Value} (h : st = st') (k : X E Ω pc lv st') : X E Ω pc lv st := h ▸ k
theorem zi_k {E : zE} {P : Int → Mem → Prop} {pc : Nat} {lv : List (Option Value)} {rest : List Value} (k : ∀ (r : Int) (Ω1 : Mem), P r Ω1 → X E Ω1 pc lv (.int (zI r) :: rest)) : ∀ (v : Option Value) (Ω1 : Mem), zi P v Ω1 → X E Ω1 pc lv (v.toList ++ rest) := by
  rintro v Ω1 ⟨r, rfl, h⟩
  exact k r Ω1 h
theorem zl_k {E : zE} {P : Int64 → Mem → Prop} {pc : Nat} {lv : List (Option Value)} {rest : List Value} (k : ∀ (r : Int64) (Ω1 : Mem), P r Ω1 → X E Ω1 pc lv (.long r :: rest)) : ∀ (v : Option Value) (Ω1 : Mem), zlo P v Ω1 → X E Ω1 pc lv (v.toList ++ rest) := by
  rintro v Ω1 ⟨r, rfl, h⟩
  exact k r Ω1 h
theorem zv_k {E : zE} {P : Mem → Prop} {pc : Nat} {lv : List (Option Value)} {rest : List Value} (k : ∀ (Ω1 : Mem), P Ω1 → X E Ω1 pc lv rest) : ∀ (v : Option Value) (Ω1 : Mem), zvo P v Ω1 → X E Ω1 pc lv (v.toList ++ rest) := by
  rintro v Ω1 ⟨rfl, h⟩
  exact k Ω1 h
theorem zb_k {E : zE} {P : Bool → Mem → Prop} {pc : Nat} {lv : List (Option Value)} {rest : List Value} (k : ∀ (b : Bool) (Ω1 : Mem), P b Ω1 → X E Ω1 pc lv (.int (zI (bI b)) :: rest)) : ∀ (v : Option Value) (Ω1 : Mem), zbo P v Ω1 → X E Ω1 pc lv (v.toList ++ rest) := by
  rintro v Ω1 ⟨r, rfl, h⟩
  exact k r Ω1 h
