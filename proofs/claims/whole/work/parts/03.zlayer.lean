abbrev vwCl : List vw_C := [(RX0, TX0, 3), (RX1, TX1, 8), (RX2, TX2, 5), (RX3, TX3, 7), (RX4, TX4, 7), (RX5, TX5, 15)]
/-! ===== ints as integers ===== -/
def zI (z : Int) : Int32 := Int32.ofInt z
def zb (z : Int) : Prop := -2147483648 ≤ z ∧ z ≤ 2147483647
theorem zI_add (a b : Int) : zI a + zI b = zI (a + b) := (Int32.ofInt_add a b).symm
theorem zI_sub (a b : Int) : zI a - zI b = zI (a - b) := (Int32.ofInt_sub a b).symm
theorem zI_mul (a b : Int) : zI a * zI b = zI (a * b) := (Int32.ofInt_mul a b).symm
theorem zI_neg (a : Int) : -zI a = zI (-a) := (Int32.ofInt_neg a).symm
theorem zI_toInt {a : Int} (h : zb a) : (zI a).toInt = a := Int32.toInt_ofInt_of_le (by have := h.1; omega) (by have := h.2; omega)
theorem zI_of (x : Int32) : zI x.toInt = x := Int32.ofInt_toInt x
theorem zb_toInt (x : Int32) : zb x.toInt := ⟨by have := x.le_toInt; omega, by have := x.toInt_lt; omega⟩
theorem zI_lt {a b : Int} (ha : zb a) (hb : zb b) : zI a < zI b ↔ a < b := by rw [Int32.lt_iff_toInt_lt, zI_toInt ha, zI_toInt hb]
theorem zI_le {a b : Int} (ha : zb a) (hb : zb b) : zI a ≤ zI b ↔ a ≤ b := by rw [Int32.le_iff_toInt_le, zI_toInt ha, zI_toInt hb]
theorem zI_eq {a b : Int} (ha : zb a) (hb : zb b) : zI a = zI b ↔ a = b := by rw [← Int32.toInt_inj, zI_toInt ha, zI_toInt hb]
theorem zb_0 : zb 0 := ⟨by omega, by omega⟩
theorem zI_0 : zI 0 = 0 := rfl
theorem zI_cl {a : Int} (h0 : 0 ≤ a) (h1 : a ≤ 2147483647) : (zI a).toNatClampNeg = a.toNat := Int32.toNatClampNeg_ofInt_of_le (by omega) (by omega)
theorem zI_n (n : Nat) : nI n = zI n := Int32.ofInt_eq_ofNat.symm
theorem zI_in {a : Int} {n : Nat} (h0 : 0 ≤ a) (h1 : a < n) (hn : n ≤ 2147483647) : vp_in (zI a) n := by
  rw [vp_in_iff, zI_toInt ⟨by omega, by omega⟩]
  exact ⟨h0, h1⟩
/-! ===== memory ===== -/
abbrev Mem : Type := Nat → Nat → Int32
def gt (Ω : Mem) (q k : Nat) : Int := (Ω q k).toInt
def upc (Ω : Mem) (q : Nat) (f : Nat → Int32) : Mem := fun r => if r = q then f else Ω r
def ups (Ω : Mem) (q k : Nat) (v : Int) : Mem := upc Ω q (upd (Ω q) k (zI v))
theorem zb_gt (Ω : Mem) (q k : Nat) : zb (gt Ω q k) := zb_toInt _
theorem zI_gt (Ω : Mem) (q k : Nat) : zI (gt Ω q k) = Ω q k := zI_of _
theorem upc_s (Ω : Mem) (q : Nat) (f : Nat → Int32) : upc Ω q f q = f := by simp [upc]
theorem upc_n (Ω : Mem) {q r : Nat} (f : Nat → Int32) (h : r ≠ q) : upc Ω q f r = Ω r := by simp [upc, h]
theorem upc_upc (Ω : Mem) (q : Nat) (f g : Nat → Int32) : upc (upc Ω q f) q g = upc Ω q g := by
  funext r
  by_cases h : r = q <;> simp [upc, h]
theorem ups_n (Ω : Mem) {q r : Nat} (k : Nat) (v : Int) (h : r ≠ q) : ups Ω q k v r = Ω r := upc_n _ _ h
theorem ups_s (Ω : Mem) (q k : Nat) (v : Int) : ups Ω q k v q k = zI v := by simp [ups, upc, upd]
theorem ups_sn (Ω : Mem) (q : Nat) {k j : Nat} (v : Int) (h : j ≠ k) : ups Ω q k v q j = Ω q j := by simp [ups, upc, upd, h]
theorem gt_n (Ω : Mem) {q r : Nat} (k j : Nat) (v : Int) (h : r ≠ q) : gt (ups Ω q k v) r j = gt Ω r j := by rw [gt, ups_n Ω k v h]; rfl
theorem gt_s (Ω : Mem) (q k : Nat) {v : Int} (h : zb v) : gt (ups Ω q k v) q k = v := by rw [gt, ups_s, zI_toInt h]
theorem gt_sn (Ω : Mem) (q : Nat) {k j : Nat} (v : Int) (h : j ≠ k) : gt (ups Ω q k v) q j = gt Ω q j := by rw [gt, ups_sn Ω q v h]; rfl
theorem gt_if (Ω : Mem) (q k : Nat) {v : Int} (h : zb v) (r j : Nat) : gt (ups Ω q k v) r j = if r = q ∧ j = k then v else gt Ω r j := by
  by_cases h1 : r = q
  · subst h1
    by_cases h2 : j = k
    · subst h2; rw [gt_s Ω r j h]; simp
    · rw [gt_sn Ω r v h2]; simp [h2]
  · rw [gt_n Ω k j v h1]; simp [h1]
/-! ===== the world ===== -/
abbrev zP : Type := va_G × (Nat → Nat) × ClassId × ClassId × (Nat → Nat)
def wa (w : zP) (i : Nat) : Nat := w.2.1 i
def wI (w : zP) : ClassId := w.2.2.1
def wR (w : zP) : ClassId := w.2.2.2.1
def wt (w : zP) (i : Nat) : Nat := w.2.2.2.2 i
def zar (w : zP) (n : Nat) (f : Nat → Int32) : va_E := .inl (wI w, n, .inl f)
def zsc (w : zP) (q : Nat) (f : Nat → Int32) : va_E := .inr (2, [.int (f 0), .int (f 1), .ref (wa w (q + 1)), .ref (wa w (q + 2)), .ref (wa w (q + 3))])
def zl (w : zP) (f : Nat → Int32) : List va_E := [
  .inr (4, [.ref (wa w 13), .ref (wa w 1), .ref (wa w 3), .ref (wa w 10), .int (f 4), .int (f 5), .int (f 6)]),
  .inr (0, [.ref (wa w 2), .int (f 1), .int (f 2)]),
  .inl (wR w, 8, .inr (.inr (.inr (.inr (fun j => some (wa w (17 + 4 * j))))))),
  .inr (1, [.int (f 0), .ref (wa w 4), .ref (wa w 5), .ref (wa w 6), .ref (wa w 7), .ref (wa w 8), .ref (wa w 9), .int (f 7)]),
  zar w 36 f, zar w 36 f, zar w 288 f, zar w 288 f, zar w 36 f, zar w 36 f,
  .inr (3, [.ref (wa w 11), .ref (wa w 12), .int (f 2), .int (f 3), .int (f 4), .int (f 5), .int (f 6)]),
  zar w 100 f, zar w 4 f,
  zsc w 13 f, zar w 6 f, zar w 36 f, zar w 36 f,
  zsc w 17 f, zar w 6 f, zar w 36 f, zar w 36 f,
  zsc w 21 f, zar w 6 f, zar w 36 f, zar w 36 f,
  zsc w 25 f, zar w 6 f, zar w 36 f, zar w 36 f,
  zsc w 29 f, zar w 6 f, zar w 36 f, zar w 36 f,
  zsc w 33 f, zar w 6 f, zar w 36 f, zar w 36 f,
  zsc w 37 f, zar w 6 f, zar w 36 f, zar w 36 f,
  zsc w 41 f, zar w 6 f, zar w 36 f, zar w 36 f,
  zsc w 45 f, zar w 6 f, zar w 36 f, zar w 36 f,
  .inr (5, [.ref (wa w 50), .ref (wa w 51), .int (f 2), .ref (wa w 52), .ref (wa w 53), .int (f 5), .int (f 6), .int (f 7), .ref (wa w 54), .ref (wa w 55), .ref (wa w 56), .ref (wa w 57), .int (f 12), .ref (wa w 58), .int (f 14)]),
  zar w 80 f, zar w 640 f, zar w 3 f, zar w 100 f, zar w 36 f, zar w 128 f, zar w 128 f, zar w 36 f, zar w 4 f]
def zs (w : zP) (f : Nat → Int32) (i : Nat) : va_E := ((zl w f)[i]?).getD (zar w 0 f)
def zW (w : zP) (Ω : Mem) : va_W := (List.range 59).map (fun i => (wa w i, zs w (Ω i) i))
def zA (w : zP) : Nat → Prop := fun a => ∃ i, i < 59 ∧ a = wa w i
def zOK (w : zP) : Prop := ∀ i j, i < 59 → j < 59 → wa w i = wa w j → i = j
def zT (w : zP) : List (ClassId × FieldType) := [(wI w, .int), (wR w, .object "StrokeCuts$Scene")]
theorem zW_at (w : zP) (Ω : Mem) {q : Nat} (h : q < 59) : (zW w Ω)[q]? = some (wa w q, zs w (Ω q) q) := by
  simp [zW, h]
theorem zW_len (w : zP) (Ω : Mem) : (zW w Ω).length = 59 := by simp [zW]
theorem zW_inv {w : zP} {Ω : Mem} {k : Nat} {x : Nat × va_E} (h : (zW w Ω)[k]? = some x) : k < 59 ∧ x = (wa w k, zs w (Ω k) k) := by
  have hk : k < 59 := by
    have := (List.getElem?_eq_some_iff.mp h).1
    rwa [zW_len] at this
  rw [zW_at w Ω hk] at h
  exact ⟨hk, (Option.some.inj h).symm⟩
theorem zW_set (w : zP) (Ω : Mem) (q : Nat) (f : Nat → Int32) : (zW w Ω).set q (wa w q, zs w f q) = zW w (upc Ω q f) := by
  apply List.ext_getElem?
  intro i
  by_cases hi : i < 59
  · rw [zW_at w _ hi]
    by_cases hq : q = i
    · subst hq
      rw [List.getElem?_set_self (by rw [zW_len]; exact hi), upc_s]
    · rw [List.getElem?_set_ne hq, zW_at w Ω hi, upc_n _ _ (Ne.symm hq)]
  · rw [List.getElem?_eq_none (by rw [List.length_set, zW_len]; omega), List.getElem?_eq_none (by rw [zW_len]; omega)]
theorem zD {w : zP} (hw : zOK w) (Ω : Mem) : va_D (zA w) (zW w Ω) := by
  refine ⟨fun i j p q hp hq e => ?_, fun k q hk => ?_⟩
  · obtain ⟨h1, rfl⟩ := zW_inv hp
    obtain ⟨h2, rfl⟩ := zW_inv hq
    exact hw i j h1 h2 e
  · obtain ⟨h1, rfl⟩ := zW_inv hk
    exact ⟨k, h1, rfl⟩
/-! ===== what stays as it is: static arrays, nest mates ===== -/
def zTab (j : Nat) : String := match j with
  | 0 => "LEAST_SETTING"
  | 1 => "GREATEST_SETTING"
  | 2 => "LINK_X"
  | _ => "LINK_Y"
def zTl (j : Nat) : Nat := if j < 2 then 6 else 4
def zTv (j k : Nat) : Int := (([[1, 0, 0, 0, 0, 4], [50, 9, 9, 9, 9, 8], [1, 0, 1, -1], [0, 1, 1, 1]] : List (List Int)).getD j []).getD k 0
def zSt (w : zP) (U : State) (H : Heap) : Prop :=
  (∀ j, j < 4 → va_Z "StrokeCuts" (zTab j) "[I" (.ref (wt w j)) (zA w) U H ∧ va_T .int (wt w j) (zTl j) (fun k => .int (zI (zTv j k))) (zA w) U H) ∧
  (va_Nw (.methodLinkNest RX1 109 yX4_has RX4) U ∧ va_Nw (.methodLinkNest RX2 64 yX4_has RX4) U ∧ va_Nw (.methodLinkNest RX3 55 yX4_isWithin RX4) U) ∧
  va_Nw (.fieldLinkNest RX2 38 RX4 "LINK_X" "[I" RX4) U ∧ va_Nw (.fieldLinkNest RX2 41 RX4 "LINK_Y" "[I" RX4) U
theorem zSt.warm {w : zP} {s U : State} {H H1 : Heap} (hW : s.WarmedH U.vm) (hq : ∀ a : Nat, a < H.size → ¬ zA w a → H1[a]? = H[a]?) (h : zSt w s H) : zSt w U H1 := by
  obtain ⟨h1, ⟨h2, h3, h4⟩, h5, h6⟩ := h
  exact ⟨fun j hj => ⟨((h1 j hj).1.moved hW.alike).kept hq, ((h1 j hj).2.moved hW.alike).kept hq⟩, ⟨h2.warmM hW, h3.warmM hW, h4.warmM hW⟩, h5.warmF hW, h6.warmF hW⟩
theorem zSt.calling {w : zP} {U : State} (g : JFrame) (mk : MethodId) (a : Array Value) (h : zSt w U U.heap) : zSt w (U.calling g mk a) (U.calling g mk a).heap := by
  obtain ⟨h1, ⟨h2, h3, h4⟩, h5, h6⟩ := h
  exact ⟨fun j hj => ⟨(h1 j hj).1.moved (Vm.Alike.refl U.vm), (h1 j hj).2.moved (Vm.Alike.refl U.vm)⟩, ⟨h2.same rfl rfl, h3.same rfl rfl, h4.same rfl rfl⟩, h5.same rfl rfl, h6.same rfl rfl⟩
