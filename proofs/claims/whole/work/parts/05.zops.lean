theorem zI_ne0 {b : Int} (hb : zb b) (h : 0 < b) : ¬ zI b = 0 := fun e => by
  rw [← zI_0, zI_eq hb zb_0] at e
  omega
theorem zI_div {a b : Int} (ha : zb a) (hb : zb b) (h : 0 < b) : zI a / zI b = zI (Int.tdiv a b) := by
  have h1 : zI b ≠ -1 := fun e => by
    rw [show (-1 : Int32) = zI (-1) from rfl, zI_eq hb ⟨by omega, by omega⟩] at e
    omega
  rw [← Int32.toInt_inj, Int32.toInt_div_of_ne_right _ _ h1, zI_toInt ha, zI_toInt hb, zI_toInt]
  have h2 : (Int.tdiv a b).natAbs ≤ a.natAbs := by
    rw [Int.natAbs_tdiv]
    exact Nat.div_le_self _ _
  have h3 := ha.1
  have h4 := ha.2
  by_cases h5 : 0 ≤ a
  · have := Int.tdiv_nonneg h5 (by omega : 0 ≤ b)
    exact ⟨by omega, by omega⟩
  · exact ⟨by omega, by
      have h6 : Int.tdiv a b = -(Int.tdiv (-a) b) := by rw [Int.neg_tdiv]; omega
      have h7 := Int.tdiv_nonneg (by omega : 0 ≤ -a) (by omega : 0 ≤ b)
      omega⟩
theorem zI_rem {a b : Int} (ha : zb a) (hb : zb b) (h : 0 < b) : zI a - zI a / zI b * zI b = zI (Int.tmod a b) := by
  rw [zI_div ha hb h, zI_mul, zI_sub]
  congr 1
  have := Int.tmod_add_mul_tdiv a b
  rw [Int.mul_comm (Int.tdiv a b) b]
  omega
def zcmp (x y : Int64) : Int := if y < x then 1 else if x = y then 0 else -1
theorem zcmp_eq (x y : Int64) : lg_cmp x y = zI (zcmp x y) := by
  unfold lg_cmp zcmp
  by_cases h1 : y < x
  · rw [if_pos h1, if_pos (show x > y from h1)]; rfl
  · by_cases h2 : x = y
    · subst h2; rw [if_neg (show ¬ x > x from h1)]; simp; rfl
    · rw [if_neg (show ¬ x > y from h1), if_neg h2, if_neg h1, if_neg h2]; rfl
theorem zcmp_zb (x y : Int64) : zb (zcmp x y) := by
  unfold zcmp
  split
  · exact ⟨by omega, by omega⟩
  · split
    · exact ⟨by omega, by omega⟩
    · exact ⟨by omega, by omega⟩
theorem bI_zb (b : Bool) : zb (bI b) := by cases b <;> exact ⟨by decide, by decide⟩
theorem zc_eq {a b : Int} (ha : zb a) (hb : zb b) (h : zI a = zI b) : a = b := (zI_eq ha hb).mp h
theorem zn_eq {a b : Int} (ha : zb a) (hb : zb b) (h : ¬ zI a = zI b) : a ≠ b := fun e => h ((zI_eq ha hb).mpr e)
theorem zc_ne {a b : Int} (ha : zb a) (hb : zb b) (h : ¬ zI a = zI b) : a ≠ b := zn_eq ha hb h
theorem zn_ne {a b : Int} (ha : zb a) (hb : zb b) (h : zI a = zI b) : a = b := (zI_eq ha hb).mp h
theorem zc_lt {a b : Int} (ha : zb a) (hb : zb b) (h : zI a < zI b) : a < b := (zI_lt ha hb).mp h
theorem zn_lt {a b : Int} (ha : zb a) (hb : zb b) (h : ¬ zI a < zI b) : b ≤ a := Int.not_lt.mp fun e => h ((zI_lt ha hb).mpr e)
theorem zc_ge {a b : Int} (ha : zb a) (hb : zb b) (h : zI b ≤ zI a) : b ≤ a := (zI_le hb ha).mp h
theorem zn_ge {a b : Int} (ha : zb a) (hb : zb b) (h : ¬ zI b ≤ zI a) : a < b := Int.not_le.mp fun e => h ((zI_le hb ha).mpr e)
theorem zc_gt {a b : Int} (ha : zb a) (hb : zb b) (h : zI b < zI a) : b < a := (zI_lt hb ha).mp h
theorem zn_gt {a b : Int} (ha : zb a) (hb : zb b) (h : ¬ zI b < zI a) : a ≤ b := Int.not_lt.mp fun e => h ((zI_lt hb ha).mpr e)
theorem zc_le {a b : Int} (ha : zb a) (hb : zb b) (h : zI a ≤ zI b) : a ≤ b := (zI_le ha hb).mp h
theorem zn_le {a b : Int} (ha : zb a) (hb : zb b) (h : ¬ zI a ≤ zI b) : b < a := Int.not_le.mp fun e => h ((zI_le ha hb).mpr e)
section ZOPS
variable {E : zE} {w : zP} {l : Launch} {own : String} {ws : List Cond} {cc : ByteArray} {nL fr lo : Nat} {ret : Option FieldType} {Post : Option Value → Mem → Prop} {Ω : Mem} {pc : Nat} {lv lv' : List (Option Value)} {st : List Value}
theorem z_iconst (hC : zC E w l own ws cc nL fr lo ret Post) {n : Int} (hdg : decode cc pc = .ok (.iconst n, 1)) (k : X E Ω (pc + 1) lv (.int (zI n) :: st)) : X E Ω pc lv st := by
  obtain ⟨hx, hb, hml, hown, hts, hK, hlk, hok, hsta, hR, hret, hQ, rfl, rfl, rfl⟩ := hC
  intro H locs ls hP hS hl
  exact lv_iconst hx hb hdg rfl (k H locs ls hP hS hl)
theorem z_bipush (hC : zC E w l own ws cc nL fr lo ret Post) {n : Int} (hdg : decode cc pc = .ok (.bipush n, 2)) (hv : (Int8.ofInt n).toInt32 = zI n) (k : X E Ω (pc + 2) lv (.int (zI n) :: st)) : X E Ω pc lv st := by
  obtain ⟨hx, hb, hml, hown, hts, hK, hlk, hok, hsta, hR, hret, hQ, rfl, rfl, rfl⟩ := hC
  intro H locs ls hP hS hl
  exact lv_bipush hx hb hdg hv (k H locs ls hP hS hl)
theorem z_sipush (hC : zC E w l own ws cc nL fr lo ret Post) {n : Int} (hdg : decode cc pc = .ok (.sipush n, 3)) (hv : (Int16.ofInt n).toInt32 = zI n) (k : X E Ω (pc + 3) lv (.int (zI n) :: st)) : X E Ω pc lv st := by
  obtain ⟨hx, hb, hml, hown, hts, hK, hlk, hok, hsta, hR, hret, hQ, rfl, rfl, rfl⟩ := hC
  intro H locs ls hP hS hl
  exact lv_sipush hx hb hdg hv (k H locs ls hP hS hl)
theorem z_lconst (hC : zC E w l own ws cc nL fr lo ret Post) {n : Fin 2} {v : Int64} (hdg : decode cc pc = .ok (.lconst n, 1)) (hv : Int64.ofNat (n : Nat) = v) (k : X E Ω (pc + 1) lv (.long v :: st)) : X E Ω pc lv st := by
  obtain ⟨hx, hb, hml, hown, hts, hK, hlk, hok, hsta, hR, hret, hQ, rfl, rfl, rfl⟩ := hC
  intro H locs ls hP hS hl
  exact lv_lconst hx hb hdg hv (k H locs ls hP hS hl)
theorem z_ldc (hC : zC E w l own ws cc nL fr lo ret Post) {idx : Nat} {v : Int32} {n : Int} (hm : Cond.constant own idx v ∈ ws) (hv : v = zI n) (hdg : decode cc pc = .ok (.ldc idx, 2)) (k : X E Ω (pc + 2) lv (.int (zI n) :: st)) : X E Ω pc lv st := by
  obtain ⟨hx, hb, hml, hown, hts, hK, hlk, hok, hsta, hR, hret, hQ, rfl, rfl, rfl⟩ := hC
  intro H locs ls hP hS hl
  subst hv
  exact lv_ldc hx hb hown (hts _ hm) hdg (k H locs ls hP hS hl)
theorem z_ldc2 (hC : zC E w l own ws cc nL fr lo ret Post) {idx : Nat} {v : Int64} (hm : Cond.constantLong own idx v ∈ ws) (hdg : decode cc pc = .ok (.ldc2_w idx, 3)) (k : X E Ω (pc + 3) lv (.long v :: st)) : X E Ω pc lv st := by
  obtain ⟨hx, hb, hml, hown, hts, hK, hlk, hok, hsta, hR, hret, hQ, rfl, rfl, rfl⟩ := hC
  intro H locs ls hP hS hl
  exact lv_ldc2 hx hb hown (hts _ hm) hdg (k H locs ls hP hS hl)
theorem z_iload_n (hC : zC E w l own ws cc nL fr lo ret Post) {i : Nat} {j : Fin 4} {x : Int32} (hdg : decode cc pc = .ok (.iload_n j, 1)) (hi : (j : Nat) = i) (hl0 : lv[i]? = some (some (.int x))) (k : X E Ω (pc + 1) lv (.int x :: st)) : X E Ω pc lv st := by
  obtain ⟨hx, hb, hml, hown, hts, hK, hlk, hok, hsta, hR, hret, hQ, rfl, rfl, rfl⟩ := hC
  intro H locs ls hP hS hl
  exact lv_iload_n hx hb hdg hi (hl.2.2 i _ hl0) (k H locs ls hP hS hl)
theorem z_iload (hC : zC E w l own ws cc nL fr lo ret Post) {i : Nat} {x : Int32} (hdg : decode cc pc = .ok (.iload i, 2)) (hl0 : lv[i]? = some (some (.int x))) (k : X E Ω (pc + 2) lv (.int x :: st)) : X E Ω pc lv st := by
  obtain ⟨hx, hb, hml, hown, hts, hK, hlk, hok, hsta, hR, hret, hQ, rfl, rfl, rfl⟩ := hC
  intro H locs ls hP hS hl
  exact lv_iload hx hb hdg (hl.2.2 i _ hl0) (k H locs ls hP hS hl)
theorem z_lload_n (hC : zC E w l own ws cc nL fr lo ret Post) {i : Nat} {j : Fin 4} {x : Int64} (hdg : decode cc pc = .ok (.lload_n j, 1)) (hi : (j : Nat) = i) (hl0 : lv[i]? = some (some (.long x))) (k : X E Ω (pc + 1) lv (.long x :: st)) : X E Ω pc lv st := by
  obtain ⟨hx, hb, hml, hown, hts, hK, hlk, hok, hsta, hR, hret, hQ, rfl, rfl, rfl⟩ := hC
  intro H locs ls hP hS hl
  exact lv_lload_n hx hb hdg hi (hl.2.2 i _ hl0) (k H locs ls hP hS hl)
theorem z_lload (hC : zC E w l own ws cc nL fr lo ret Post) {i : Nat} {x : Int64} (hdg : decode cc pc = .ok (.lload i, 2)) (hl0 : lv[i]? = some (some (.long x))) (k : X E Ω (pc + 2) lv (.long x :: st)) : X E Ω pc lv st := by
  obtain ⟨hx, hb, hml, hown, hts, hK, hlk, hok, hsta, hR, hret, hQ, rfl, rfl, rfl⟩ := hC
  intro H locs ls hP hS hl
  exact lv_lload hx hb hdg (hl.2.2 i _ hl0) (k H locs ls hP hS hl)
theorem z_aload_n (hC : zC E w l own ws cc nL fr lo ret Post) {i : Nat} {j : Fin 4} {x : Nat} (hdg : decode cc pc = .ok (.aload_n j, 1)) (hi : (j : Nat) = i) (hl0 : lv[i]? = some (some (.ref x))) (k : X E Ω (pc + 1) lv (.ref x :: st)) : X E Ω pc lv st := by
  obtain ⟨hx, hb, hml, hown, hts, hK, hlk, hok, hsta, hR, hret, hQ, rfl, rfl, rfl⟩ := hC
  intro H locs ls hP hS hl
  exact lv_aload_n hx hb hdg hi (hl.2.2 i _ hl0) (k H locs ls hP hS hl)
theorem z_aload (hC : zC E w l own ws cc nL fr lo ret Post) {i : Nat} {x : Nat} (hdg : decode cc pc = .ok (.aload i, 2)) (hl0 : lv[i]? = some (some (.ref x))) (k : X E Ω (pc + 2) lv (.ref x :: st)) : X E Ω pc lv st := by
  obtain ⟨hx, hb, hml, hown, hts, hK, hlk, hok, hsta, hR, hret, hQ, rfl, rfl, rfl⟩ := hC
  intro H locs ls hP hS hl
  exact lv_aload hx hb hdg (hl.2.2 i _ hl0) (k H locs ls hP hS hl)
theorem z_istore_n (hC : zC E w l own ws cc nL fr lo ret Post) {i : Nat} {j : Fin 4} {x : Int32} (hdg : decode cc pc = .ok (.istore_n j, 1)) (hi : (j : Nat) = i) (hn : i < nL) (hk : zok lv i = true) (hs : zS lv i (.int x) lv') (k : X E Ω (pc + 1) lv' st) : X E Ω pc lv (.int x :: st) := by
  obtain ⟨hx, hb, hml, hown, hts, hK, hlk, hok, hsta, hR, hret, hQ, rfl, rfl, rfl⟩ := hC
  intro H locs ls hP hS hl
  exact lv_istore_n hx hb hdg hi hl.has hn rfl (fun ls1 h1 => k H locs ls1 hP hS (zL.of1 h1 hk hs))
theorem z_istore (hC : zC E w l own ws cc nL fr lo ret Post) {i : Nat} {x : Int32} (hdg : decode cc pc = .ok (.istore i, 2)) (hn : i < nL) (hk : zok lv i = true) (hs : zS lv i (.int x) lv') (k : X E Ω (pc + 2) lv' st) : X E Ω pc lv (.int x :: st) := by
  obtain ⟨hx, hb, hml, hown, hts, hK, hlk, hok, hsta, hR, hret, hQ, rfl, rfl, rfl⟩ := hC
  intro H locs ls hP hS hl
  exact lv_istore hx hb hdg hl.has hn rfl (fun ls1 h1 => k H locs ls1 hP hS (zL.of1 h1 hk hs))
theorem z_astore_n (hC : zC E w l own ws cc nL fr lo ret Post) {i : Nat} {j : Fin 4} {x : Nat} (hdg : decode cc pc = .ok (.astore_n j, 1)) (hi : (j : Nat) = i) (hn : i < nL) (hk : zok lv i = true) (hs : zS lv i (.ref x) lv') (k : X E Ω (pc + 1) lv' st) : X E Ω pc lv (.ref x :: st) := by
  obtain ⟨hx, hb, hml, hown, hts, hK, hlk, hok, hsta, hR, hret, hQ, rfl, rfl, rfl⟩ := hC
  intro H locs ls hP hS hl
  exact lv_astore_n hx hb hdg hi hl.has hn rfl (fun ls1 h1 => k H locs ls1 hP hS (zL.of1 h1 hk hs))
theorem z_astore (hC : zC E w l own ws cc nL fr lo ret Post) {i : Nat} {x : Nat} (hdg : decode cc pc = .ok (.astore i, 2)) (hn : i < nL) (hk : zok lv i = true) (hs : zS lv i (.ref x) lv') (k : X E Ω (pc + 2) lv' st) : X E Ω pc lv (.ref x :: st) := by
  obtain ⟨hx, hb, hml, hown, hts, hK, hlk, hok, hsta, hR, hret, hQ, rfl, rfl, rfl⟩ := hC
  intro H locs ls hP hS hl
  exact lv_astore hx hb hdg hl.has hn rfl (fun ls1 h1 => k H locs ls1 hP hS (zL.of1 h1 hk hs))
theorem z_lstore_n (hC : zC E w l own ws cc nL fr lo ret Post) {i : Nat} {j : Fin 4} {x : Int64} (hdg : decode cc pc = .ok (.lstore_n j, 1)) (hi : (j : Nat) = i) (hn : i + 1 < nL) (hk : zok lv i = true) (hs : zS2 lv i (.long x) lv') (k : X E Ω (pc + 1) lv' st) : X E Ω pc lv (.long x :: st) := by
  obtain ⟨hx, hb, hml, hown, hts, hK, hlk, hok, hsta, hR, hret, hQ, rfl, rfl, rfl⟩ := hC
  intro H locs ls hP hS hl
  exact lv_lstore_n hx hb hdg hi hl.has hn rfl (fun ls1 h1 => k H locs ls1 hP hS (zL.of2 h1 hk hs))
theorem z_lstore (hC : zC E w l own ws cc nL fr lo ret Post) {i : Nat} {x : Int64} (hdg : decode cc pc = .ok (.lstore i, 2)) (hn : i + 1 < nL) (hk : zok lv i = true) (hs : zS2 lv i (.long x) lv') (k : X E Ω (pc + 2) lv' st) : X E Ω pc lv (.long x :: st) := by
  obtain ⟨hx, hb, hml, hown, hts, hK, hlk, hok, hsta, hR, hret, hQ, rfl, rfl, rfl⟩ := hC
  intro H locs ls hP hS hl
  exact lv_lstore hx hb hdg hl.has hn rfl (fun ls1 h1 => k H locs ls1 hP hS (zL.of2 h1 hk hs))
theorem z_iinc (hC : zC E w l own ws cc nL fr lo ret Post) {i : Nat} {z n : Int} (hdg : decode cc pc = .ok (.iinc i n, 3)) (hl0 : lv[i]? = some (some (.int (zI z)))) (hn : i < nL) (hk : zok lv i = true) (hs : zS lv i (.int (zI (z + n))) lv') (k : X E Ω (pc + 3) lv' st) : X E Ω pc lv st := by
  obtain ⟨hx, hb, hml, hown, hts, hK, hlk, hok, hsta, hR, hret, hQ, rfl, rfl, rfl⟩ := hC
  intro H locs ls hP hS hl
  obtain ⟨j, hj⟩ := List.getElem?_of_mem (zpl_mem hl0)
  exact lv_iinc (v := zI (z + n)) hx hb hdg hl.has hj (by rw [← zI_add]; rfl) hn rfl (fun ls1 h1 => k H locs ls1 hP hS (zL.of1 h1 hk hs))
theorem z_iadd (hC : zC E w l own ws cc nL fr lo ret Post) {a b : Int} (hdg : decode cc pc = .ok (.iadd, 1)) (k : X E Ω (pc + 1) lv (.int (zI (a + b)) :: st)) : X E Ω pc lv (.int (zI b) :: .int (zI a) :: st) := by
  obtain ⟨hx, hb, hml, hown, hts, hK, hlk, hok, hsta, hR, hret, hQ, rfl, rfl, rfl⟩ := hC
  intro H locs ls hP hS hl
  have k := k H locs ls hP hS hl
  rw [← zI_add] at k
  exact lv_iadd hx hb hdg k
theorem z_isub (hC : zC E w l own ws cc nL fr lo ret Post) {a b : Int} (hdg : decode cc pc = .ok (.isub, 1)) (k : X E Ω (pc + 1) lv (.int (zI (a - b)) :: st)) : X E Ω pc lv (.int (zI b) :: .int (zI a) :: st) := by
  obtain ⟨hx, hb, hml, hown, hts, hK, hlk, hok, hsta, hR, hret, hQ, rfl, rfl, rfl⟩ := hC
  intro H locs ls hP hS hl
  have k := k H locs ls hP hS hl
  rw [← zI_sub] at k
  exact lv_isub hx hb hdg k
theorem z_imul (hC : zC E w l own ws cc nL fr lo ret Post) {a b : Int} (hdg : decode cc pc = .ok (.imul, 1)) (k : X E Ω (pc + 1) lv (.int (zI (a * b)) :: st)) : X E Ω pc lv (.int (zI b) :: .int (zI a) :: st) := by
  obtain ⟨hx, hb, hml, hown, hts, hK, hlk, hok, hsta, hR, hret, hQ, rfl, rfl, rfl⟩ := hC
  intro H locs ls hP hS hl
  have k := k H locs ls hP hS hl
  rw [← zI_mul] at k
  exact lv_imul hx hb hdg k
theorem z_ineg (hC : zC E w l own ws cc nL fr lo ret Post) {a : Int} (hdg : decode cc pc = .ok (.ineg, 1)) (k : X E Ω (pc + 1) lv (.int (zI (-a)) :: st)) : X E Ω pc lv (.int (zI a) :: st) := by
  obtain ⟨hx, hb, hml, hown, hts, hK, hlk, hok, hsta, hR, hret, hQ, rfl, rfl, rfl⟩ := hC
  intro H locs ls hP hS hl
  have k := k H locs ls hP hS hl
  rw [← zI_neg] at k
  exact lv_ineg hx hb hdg k
theorem z_iand (hC : zC E w l own ws cc nL fr lo ret Post) {a b : Int32} (r : Int) (hr : a &&& b = zI r) (hdg : decode cc pc = .ok (.iand, 1)) (k : X E Ω (pc + 1) lv (.int (zI r) :: st)) : X E Ω pc lv (.int b :: .int a :: st) := by
  obtain ⟨hx, hb, hml, hown, hts, hK, hlk, hok, hsta, hR, hret, hQ, rfl, rfl, rfl⟩ := hC
  intro H locs ls hP hS hl
  have k := k H locs ls hP hS hl
  rw [← hr] at k
  exact lv_iand hx hb hdg k
theorem z_ior (hC : zC E w l own ws cc nL fr lo ret Post) {a b : Int32} (r : Int) (hr : a ||| b = zI r) (hdg : decode cc pc = .ok (.ior, 1)) (k : X E Ω (pc + 1) lv (.int (zI r) :: st)) : X E Ω pc lv (.int b :: .int a :: st) := by
  obtain ⟨hx, hb, hml, hown, hts, hK, hlk, hok, hsta, hR, hret, hQ, rfl, rfl, rfl⟩ := hC
  intro H locs ls hP hS hl
  have k := k H locs ls hP hS hl
  rw [← hr] at k
  exact lv_ior hx hb hdg k
theorem z_ixor (hC : zC E w l own ws cc nL fr lo ret Post) {a b : Int32} (r : Int) (hr : a ^^^ b = zI r) (hdg : decode cc pc = .ok (.ixor, 1)) (k : X E Ω (pc + 1) lv (.int (zI r) :: st)) : X E Ω pc lv (.int b :: .int a :: st) := by
  obtain ⟨hx, hb, hml, hown, hts, hK, hlk, hok, hsta, hR, hret, hQ, rfl, rfl, rfl⟩ := hC
  intro H locs ls hP hS hl
  have k := k H locs ls hP hS hl
  rw [← hr] at k
  exact lv_ixor hx hb hdg k
theorem z_ishl (hC : zC E w l own ws cc nL fr lo ret Post) {a b : Int32} (r : Int) (hr : a <<< (b &&& 31) = zI r) (hdg : decode cc pc = .ok (.ishl, 1)) (k : X E Ω (pc + 1) lv (.int (zI r) :: st)) : X E Ω pc lv (.int b :: .int a :: st) := by
  obtain ⟨hx, hb, hml, hown, hts, hK, hlk, hok, hsta, hR, hret, hQ, rfl, rfl, rfl⟩ := hC
  intro H locs ls hP hS hl
  have k := k H locs ls hP hS hl
  rw [← hr] at k
  exact lv_ishl hx hb hdg k
theorem z_ishr (hC : zC E w l own ws cc nL fr lo ret Post) {a b : Int32} (r : Int) (hr : a >>> (b &&& 31) = zI r) (hdg : decode cc pc = .ok (.ishr, 1)) (k : X E Ω (pc + 1) lv (.int (zI r) :: st)) : X E Ω pc lv (.int b :: .int a :: st) := by
  obtain ⟨hx, hb, hml, hown, hts, hK, hlk, hok, hsta, hR, hret, hQ, rfl, rfl, rfl⟩ := hC
  intro H locs ls hP hS hl
  have k := k H locs ls hP hS hl
  rw [← hr] at k
  exact lv_ishr hx hb hdg k
theorem z_idiv (hC : zC E w l own ws cc nL fr lo ret Post) {a b : Int} (ha : zb a) (hb0 : zb b) (h0 : 0 < b) (hdg : decode cc pc = .ok (.idiv, 1)) (k : X E Ω (pc + 1) lv (.int (zI (Int.tdiv a b)) :: st)) : X E Ω pc lv (.int (zI b) :: .int (zI a) :: st) := by
  obtain ⟨hx, hb, hml, hown, hts, hK, hlk, hok, hsta, hR, hret, hQ, rfl, rfl, rfl⟩ := hC
  intro H locs ls hP hS hl
  have k := k H locs ls hP hS hl
  rw [← zI_div ha hb0 h0] at k
  exact lv_idiv hx hb hdg (zI_ne0 hb0 h0) k
theorem z_irem (hC : zC E w l own ws cc nL fr lo ret Post) {a b : Int} (ha : zb a) (hb0 : zb b) (h0 : 0 < b) (hdg : decode cc pc = .ok (.irem, 1)) (k : X E Ω (pc + 1) lv (.int (zI (Int.tmod a b)) :: st)) : X E Ω pc lv (.int (zI b) :: .int (zI a) :: st) := by
  obtain ⟨hx, hb, hml, hown, hts, hK, hlk, hok, hsta, hR, hret, hQ, rfl, rfl, rfl⟩ := hC
  intro H locs ls hP hS hl
  have k := k H locs ls hP hS hl
  rw [← zI_rem ha hb0 h0] at k
  exact lv_irem hx hb hdg (zI_ne0 hb0 h0) k
theorem z_ladd (hC : zC E w l own ws cc nL fr lo ret Post) {x y : Int64} (hdg : decode cc pc = .ok (.ladd, 1)) (k : X E Ω (pc + 1) lv (.long (x + y) :: st)) : X E Ω pc lv (.long y :: .long x :: st) := by
  obtain ⟨hx, hb, hml, hown, hts, hK, hlk, hok, hsta, hR, hret, hQ, rfl, rfl, rfl⟩ := hC
  intro H locs ls hP hS hl
  exact lv_ladd hx hb hdg (k H locs ls hP hS hl)
theorem z_lsub (hC : zC E w l own ws cc nL fr lo ret Post) {x y : Int64} (hdg : decode cc pc = .ok (.lsub, 1)) (k : X E Ω (pc + 1) lv (.long (x - y) :: st)) : X E Ω pc lv (.long y :: .long x :: st) := by
  obtain ⟨hx, hb, hml, hown, hts, hK, hlk, hok, hsta, hR, hret, hQ, rfl, rfl, rfl⟩ := hC
  intro H locs ls hP hS hl
  exact lv_lsub hx hb hdg (k H locs ls hP hS hl)
theorem z_lmul (hC : zC E w l own ws cc nL fr lo ret Post) {x y : Int64} (hdg : decode cc pc = .ok (.lmul, 1)) (k : X E Ω (pc + 1) lv (.long (x * y) :: st)) : X E Ω pc lv (.long y :: .long x :: st) := by
  obtain ⟨hx, hb, hml, hown, hts, hK, hlk, hok, hsta, hR, hret, hQ, rfl, rfl, rfl⟩ := hC
  intro H locs ls hP hS hl
  exact lv_lmul hx hb hdg (k H locs ls hP hS hl)
theorem z_land (hC : zC E w l own ws cc nL fr lo ret Post) {x y : Int64} (hdg : decode cc pc = .ok (.land, 1)) (k : X E Ω (pc + 1) lv (.long (x &&& y) :: st)) : X E Ω pc lv (.long y :: .long x :: st) := by
  obtain ⟨hx, hb, hml, hown, hts, hK, hlk, hok, hsta, hR, hret, hQ, rfl, rfl, rfl⟩ := hC
  intro H locs ls hP hS hl
  exact lv_land hx hb hdg (k H locs ls hP hS hl)
theorem z_lor (hC : zC E w l own ws cc nL fr lo ret Post) {x y : Int64} (hdg : decode cc pc = .ok (.lor, 1)) (k : X E Ω (pc + 1) lv (.long (x ||| y) :: st)) : X E Ω pc lv (.long y :: .long x :: st) := by
  obtain ⟨hx, hb, hml, hown, hts, hK, hlk, hok, hsta, hR, hret, hQ, rfl, rfl, rfl⟩ := hC
  intro H locs ls hP hS hl
  exact lv_lor hx hb hdg (k H locs ls hP hS hl)
theorem z_lxor (hC : zC E w l own ws cc nL fr lo ret Post) {x y : Int64} (hdg : decode cc pc = .ok (.lxor, 1)) (k : X E Ω (pc + 1) lv (.long (x ^^^ y) :: st)) : X E Ω pc lv (.long y :: .long x :: st) := by
  obtain ⟨hx, hb, hml, hown, hts, hK, hlk, hok, hsta, hR, hret, hQ, rfl, rfl, rfl⟩ := hC
  intro H locs ls hP hS hl
  exact lv_lxor hx hb hdg (k H locs ls hP hS hl)
theorem z_lneg (hC : zC E w l own ws cc nL fr lo ret Post) {x v : Int64} (hv : -x = v) (hdg : decode cc pc = .ok (.lneg, 1)) (k : X E Ω (pc + 1) lv (.long v :: st)) : X E Ω pc lv (.long x :: st) := by
  obtain ⟨hx, hb, hml, hown, hts, hK, hlk, hok, hsta, hR, hret, hQ, rfl, rfl, rfl⟩ := hC
  intro H locs ls hP hS hl
  subst hv
  exact lv_lneg hx hb hdg (k H locs ls hP hS hl)
theorem z_ldiv (hC : zC E w l own ws cc nL fr lo ret Post) {x y : Int64} (h0 : ¬ y = 0) (hdg : decode cc pc = .ok (.ldiv, 1)) (k : X E Ω (pc + 1) lv (.long (x / y) :: st)) : X E Ω pc lv (.long y :: .long x :: st) := by
  obtain ⟨hx, hb, hml, hown, hts, hK, hlk, hok, hsta, hR, hret, hQ, rfl, rfl, rfl⟩ := hC
  intro H locs ls hP hS hl
  exact lv_ldiv hx hb hdg h0 (k H locs ls hP hS hl)
theorem z_lrem (hC : zC E w l own ws cc nL fr lo ret Post) {x y : Int64} (h0 : ¬ y = 0) (hdg : decode cc pc = .ok (.lrem, 1)) (k : X E Ω (pc + 1) lv (.long (x - x / y * y) :: st)) : X E Ω pc lv (.long y :: .long x :: st) := by
  obtain ⟨hx, hb, hml, hown, hts, hK, hlk, hok, hsta, hR, hret, hQ, rfl, rfl, rfl⟩ := hC
  intro H locs ls hP hS hl
  exact lv_lrem hx hb hdg h0 (k H locs ls hP hS hl)
theorem z_lshl (hC : zC E w l own ws cc nL fr lo ret Post) {x v : Int64} {y : Int32} (hv : x <<< (y.toInt64 &&& 63) = v) (hdg : decode cc pc = .ok (.lshl, 1)) (k : X E Ω (pc + 1) lv (.long v :: st)) : X E Ω pc lv (.int y :: .long x :: st) := by
  obtain ⟨hx, hb, hml, hown, hts, hK, hlk, hok, hsta, hR, hret, hQ, rfl, rfl, rfl⟩ := hC
  intro H locs ls hP hS hl
  exact lv_lshl hx hb hdg hv (k H locs ls hP hS hl)
theorem z_lushr (hC : zC E w l own ws cc nL fr lo ret Post) {x v : Int64} {y : Int32} (hv : (x.toUInt64 >>> (y.toInt64.toUInt64 &&& Int64.toUInt64 63)).toInt64 = v) (hdg : decode cc pc = .ok (.lushr, 1)) (k : X E Ω (pc + 1) lv (.long v :: st)) : X E Ω pc lv (.int y :: .long x :: st) := by
  obtain ⟨hx, hb, hml, hown, hts, hK, hlk, hok, hsta, hR, hret, hQ, rfl, rfl, rfl⟩ := hC
  intro H locs ls hP hS hl
  exact lv_lushr hx hb hdg hv (k H locs ls hP hS hl)
theorem z_lshr (hC : zC E w l own ws cc nL fr lo ret Post) {x v : Int64} {y : Int32} (hv : x >>> (y.toInt64 &&& 63) = v) (hdg : decode cc pc = .ok (.lshr, 1)) (k : X E Ω (pc + 1) lv (.long v :: st)) : X E Ω pc lv (.int y :: .long x :: st) := by
  obtain ⟨hx, hb, hml, hown, hts, hK, hlk, hok, hsta, hR, hret, hQ, rfl, rfl, rfl⟩ := hC
  intro H locs ls hP hS hl
  exact lv_lshr hx hb hdg hv (k H locs ls hP hS hl)
theorem z_i2l (hC : zC E w l own ws cc nL fr lo ret Post) {x : Int32} {v : Int64} (hv : x.toInt64 = v) (hdg : decode cc pc = .ok (.i2l, 1)) (k : X E Ω (pc + 1) lv (.long v :: st)) : X E Ω pc lv (.int x :: st) := by
  obtain ⟨hx, hb, hml, hown, hts, hK, hlk, hok, hsta, hR, hret, hQ, rfl, rfl, rfl⟩ := hC
  intro H locs ls hP hS hl
  exact lv_i2l hx hb hdg hv (k H locs ls hP hS hl)
theorem z_l2i (hC : zC E w l own ws cc nL fr lo ret Post) {x : Int64} (r : Int) (hv : x.toInt32 = zI r) (hdg : decode cc pc = .ok (.l2i, 1)) (k : X E Ω (pc + 1) lv (.int (zI r) :: st)) : X E Ω pc lv (.long x :: st) := by
  obtain ⟨hx, hb, hml, hown, hts, hK, hlk, hok, hsta, hR, hret, hQ, rfl, rfl, rfl⟩ := hC
  intro H locs ls hP hS hl
  exact lv_l2i hx hb hdg hv (k H locs ls hP hS hl)
theorem z_lcmp (hC : zC E w l own ws cc nL fr lo ret Post) {x y : Int64} (hdg : decode cc pc = .ok (.lcmp, 1)) (k : X E Ω (pc + 1) lv (.int (zI (zcmp x y)) :: st)) : X E Ω pc lv (.long y :: .long x :: st) := by
  obtain ⟨hx, hb, hml, hown, hts, hK, hlk, hok, hsta, hR, hret, hQ, rfl, rfl, rfl⟩ := hC
  intro H locs ls hP hS hl
  have k := k H locs ls hP hS hl
  rw [← zcmp_eq] at k
  exact W.lcmp hx hb hdg k
theorem z_dup (hC : zC E w l own ws cc nL fr lo ret Post) {v : Value} (hdg : decode cc pc = .ok (.dup, 1)) (hv : v.category = 1) (k : X E Ω (pc + 1) lv (v :: v :: st)) : X E Ω pc lv (v :: st) := by
  obtain ⟨hx, hb, hml, hown, hts, hK, hlk, hok, hsta, hR, hret, hQ, rfl, rfl, rfl⟩ := hC
  intro H locs ls hP hS hl
  exact lv_dup hx hb hdg hv (k H locs ls hP hS hl)
theorem z_pop (hC : zC E w l own ws cc nL fr lo ret Post) {v : Value} (hdg : decode cc pc = .ok (.pop, 1)) (hv : v.category = 1) (k : X E Ω (pc + 1) lv st) : X E Ω pc lv (v :: st) := by
  obtain ⟨hx, hb, hml, hown, hts, hK, hlk, hok, hsta, hR, hret, hQ, rfl, rfl, rfl⟩ := hC
  intro H locs ls hP hS hl
  exact lv_pop hx hb hdg hv (k H locs ls hP hS hl)
theorem z_dup2 (hC : zC E w l own ws cc nL fr lo ret Post) {v u : Value} (hdg : decode cc pc = .ok (.dup2, 1)) (hv : v.category = 1) (hu : u.category = 1) (k : X E Ω (pc + 1) lv (v :: u :: v :: u :: st)) : X E Ω pc lv (v :: u :: st) := by
  obtain ⟨hx, hb, hml, hown, hts, hK, hlk, hok, hsta, hR, hret, hQ, rfl, rfl, rfl⟩ := hC
  intro H locs ls hP hS hl
  exact lv_dup2_11 hx hb hdg hv hu (k H locs ls hP hS hl)
theorem z_dup_x1 (hC : zC E w l own ws cc nL fr lo ret Post) {v u : Value} (hdg : decode cc pc = .ok (.dup_x1, 1)) (hv : v.category = 1) (hu : u.category = 1) (k : X E Ω (pc + 1) lv (v :: u :: v :: st)) : X E Ω pc lv (v :: u :: st) := by
  obtain ⟨hx, hb, hml, hown, hts, hK, hlk, hok, hsta, hR, hret, hQ, rfl, rfl, rfl⟩ := hC
  intro H locs ls hP hS hl
  exact lv_dup_x1 hx hb hdg hv hu (k H locs ls hP hS hl)
theorem z_dup_x2 (hC : zC E w l own ws cc nL fr lo ret Post) {v u t : Value} (hdg : decode cc pc = .ok (.dup_x2, 1)) (hv : v.category = 1) (hu : u.category = 1) (ht : t.category = 1) (k : X E Ω (pc + 1) lv (v :: u :: t :: v :: st)) : X E Ω pc lv (v :: u :: t :: st) := by
  obtain ⟨hx, hb, hml, hown, hts, hK, hlk, hok, hsta, hR, hret, hQ, rfl, rfl, rfl⟩ := hC
  intro H locs ls hP hS hl
  exact lv_dup_x2 hx hb hdg hv hu ht (k H locs ls hP hS hl)
theorem z_pop2 (hC : zC E w l own ws cc nL fr lo ret Post) {v : Value} (hdg : decode cc pc = .ok (.pop2, 1)) (hv : v.category = 2) (k : X E Ω (pc + 1) lv st) : X E Ω pc lv (v :: st) := by
  obtain ⟨hx, hb, hml, hown, hts, hK, hlk, hok, hsta, hR, hret, hQ, rfl, rfl, rfl⟩ := hC
  intro H locs ls hP hS hl
  exact lv_pop2_2 hx hb hdg hv (k H locs ls hP hS hl)
theorem z_icmp_eq (hC : zC E w l own ws cc nL fr lo ret Post) {a b : Int} {off : Int} (tgt : Nat) (ha : zb a) (hb1 : zb b) (hdg : decode cc pc = .ok (.if_icmp .eq off, 3)) (ht : (pc : Int) + off = (tgt : Int)) (kt : a = b → X E Ω tgt lv st) (kf : a ≠ b → X E Ω (pc + 3) lv st) : X E Ω pc lv (.int (zI b) :: .int (zI a) :: st) := by
  obtain ⟨hx, hb, hml, hown, hts, hK, hlk, hok, hsta, hR, hret, hQ, rfl, rfl, rfl⟩ := hC
  intro H locs ls hP hS hl
  refine lv_icmp_eq (tgt := tgt) hx hb hdg ht (fun h => kt ?_ H locs ls hP hS hl) (fun h => kf ?_ H locs ls hP hS hl)
  · exact zc_eq ha hb1 h
  · exact zn_eq ha hb1 h
theorem z_if_eq (hC : zC E w l own ws cc nL fr lo ret Post) {a : Int} {off : Int} (tgt : Nat) (ha : zb a) (hdg : decode cc pc = .ok (.ifCond .eq off, 3)) (ht : (pc : Int) + off = (tgt : Int)) (kt : a = 0 → X E Ω tgt lv st) (kf : a ≠ 0 → X E Ω (pc + 3) lv st) : X E Ω pc lv (.int (zI a) :: st) := by
  obtain ⟨hx, hb, hml, hown, hts, hK, hlk, hok, hsta, hR, hret, hQ, rfl, rfl, rfl⟩ := hC
  intro H locs ls hP hS hl
  refine lv_if_eq (tgt := tgt) hx hb hdg ht (fun h => kt ?_ H locs ls hP hS hl) (fun h => kf ?_ H locs ls hP hS hl)
  · exact zc_eq (b := 0) ha zb_0 h
  · exact zn_eq (b := 0) ha zb_0 h
theorem z_icmp_ne (hC : zC E w l own ws cc nL fr lo ret Post) {a b : Int} {off : Int} (tgt : Nat) (ha : zb a) (hb1 : zb b) (hdg : decode cc pc = .ok (.if_icmp .ne off, 3)) (ht : (pc : Int) + off = (tgt : Int)) (kt : a ≠ b → X E Ω tgt lv st) (kf : a = b → X E Ω (pc + 3) lv st) : X E Ω pc lv (.int (zI b) :: .int (zI a) :: st) := by
  obtain ⟨hx, hb, hml, hown, hts, hK, hlk, hok, hsta, hR, hret, hQ, rfl, rfl, rfl⟩ := hC
  intro H locs ls hP hS hl
  refine lv_icmp_ne (tgt := tgt) hx hb hdg ht (fun h => kt ?_ H locs ls hP hS hl) (fun h => kf ?_ H locs ls hP hS hl)
  · exact zc_ne ha hb1 h
  · exact zn_ne ha hb1 h
theorem z_if_ne (hC : zC E w l own ws cc nL fr lo ret Post) {a : Int} {off : Int} (tgt : Nat) (ha : zb a) (hdg : decode cc pc = .ok (.ifCond .ne off, 3)) (ht : (pc : Int) + off = (tgt : Int)) (kt : a ≠ 0 → X E Ω tgt lv st) (kf : a = 0 → X E Ω (pc + 3) lv st) : X E Ω pc lv (.int (zI a) :: st) := by
  obtain ⟨hx, hb, hml, hown, hts, hK, hlk, hok, hsta, hR, hret, hQ, rfl, rfl, rfl⟩ := hC
  intro H locs ls hP hS hl
  refine lv_if_ne (tgt := tgt) hx hb hdg ht (fun h => kt ?_ H locs ls hP hS hl) (fun h => kf ?_ H locs ls hP hS hl)
  · exact zc_ne (b := 0) ha zb_0 h
  · exact zn_ne (b := 0) ha zb_0 h
theorem z_icmp_lt (hC : zC E w l own ws cc nL fr lo ret Post) {a b : Int} {off : Int} (tgt : Nat) (ha : zb a) (hb1 : zb b) (hdg : decode cc pc = .ok (.if_icmp .lt off, 3)) (ht : (pc : Int) + off = (tgt : Int)) (kt : a < b → X E Ω tgt lv st) (kf : b ≤ a → X E Ω (pc + 3) lv st) : X E Ω pc lv (.int (zI b) :: .int (zI a) :: st) := by
  obtain ⟨hx, hb, hml, hown, hts, hK, hlk, hok, hsta, hR, hret, hQ, rfl, rfl, rfl⟩ := hC
  intro H locs ls hP hS hl
  refine lv_icmp_lt (tgt := tgt) hx hb hdg ht (fun h => kt ?_ H locs ls hP hS hl) (fun h => kf ?_ H locs ls hP hS hl)
  · exact zc_lt ha hb1 h
  · exact zn_lt ha hb1 h
theorem z_if_lt (hC : zC E w l own ws cc nL fr lo ret Post) {a : Int} {off : Int} (tgt : Nat) (ha : zb a) (hdg : decode cc pc = .ok (.ifCond .lt off, 3)) (ht : (pc : Int) + off = (tgt : Int)) (kt : a < 0 → X E Ω tgt lv st) (kf : 0 ≤ a → X E Ω (pc + 3) lv st) : X E Ω pc lv (.int (zI a) :: st) := by
  obtain ⟨hx, hb, hml, hown, hts, hK, hlk, hok, hsta, hR, hret, hQ, rfl, rfl, rfl⟩ := hC
  intro H locs ls hP hS hl
  refine lv_if_lt (tgt := tgt) hx hb hdg ht (fun h => kt ?_ H locs ls hP hS hl) (fun h => kf ?_ H locs ls hP hS hl)
  · exact zc_lt (b := 0) ha zb_0 h
  · exact zn_lt (b := 0) ha zb_0 h
theorem z_icmp_ge (hC : zC E w l own ws cc nL fr lo ret Post) {a b : Int} {off : Int} (tgt : Nat) (ha : zb a) (hb1 : zb b) (hdg : decode cc pc = .ok (.if_icmp .ge off, 3)) (ht : (pc : Int) + off = (tgt : Int)) (kt : b ≤ a → X E Ω tgt lv st) (kf : a < b → X E Ω (pc + 3) lv st) : X E Ω pc lv (.int (zI b) :: .int (zI a) :: st) := by
  obtain ⟨hx, hb, hml, hown, hts, hK, hlk, hok, hsta, hR, hret, hQ, rfl, rfl, rfl⟩ := hC
  intro H locs ls hP hS hl
  refine lv_icmp_ge (tgt := tgt) hx hb hdg ht (fun h => kt ?_ H locs ls hP hS hl) (fun h => kf ?_ H locs ls hP hS hl)
  · exact zc_ge ha hb1 h
  · exact zn_ge ha hb1 h
theorem z_if_ge (hC : zC E w l own ws cc nL fr lo ret Post) {a : Int} {off : Int} (tgt : Nat) (ha : zb a) (hdg : decode cc pc = .ok (.ifCond .ge off, 3)) (ht : (pc : Int) + off = (tgt : Int)) (kt : 0 ≤ a → X E Ω tgt lv st) (kf : a < 0 → X E Ω (pc + 3) lv st) : X E Ω pc lv (.int (zI a) :: st) := by
  obtain ⟨hx, hb, hml, hown, hts, hK, hlk, hok, hsta, hR, hret, hQ, rfl, rfl, rfl⟩ := hC
  intro H locs ls hP hS hl
  refine lv_if_ge (tgt := tgt) hx hb hdg ht (fun h => kt ?_ H locs ls hP hS hl) (fun h => kf ?_ H locs ls hP hS hl)
  · exact zc_ge (b := 0) ha zb_0 h
  · exact zn_ge (b := 0) ha zb_0 h
theorem z_icmp_gt (hC : zC E w l own ws cc nL fr lo ret Post) {a b : Int} {off : Int} (tgt : Nat) (ha : zb a) (hb1 : zb b) (hdg : decode cc pc = .ok (.if_icmp .gt off, 3)) (ht : (pc : Int) + off = (tgt : Int)) (kt : b < a → X E Ω tgt lv st) (kf : a ≤ b → X E Ω (pc + 3) lv st) : X E Ω pc lv (.int (zI b) :: .int (zI a) :: st) := by
  obtain ⟨hx, hb, hml, hown, hts, hK, hlk, hok, hsta, hR, hret, hQ, rfl, rfl, rfl⟩ := hC
  intro H locs ls hP hS hl
  refine lv_icmp_gt (tgt := tgt) hx hb hdg ht (fun h => kt ?_ H locs ls hP hS hl) (fun h => kf ?_ H locs ls hP hS hl)
  · exact zc_gt ha hb1 h
  · exact zn_gt ha hb1 h
theorem z_if_gt (hC : zC E w l own ws cc nL fr lo ret Post) {a : Int} {off : Int} (tgt : Nat) (ha : zb a) (hdg : decode cc pc = .ok (.ifCond .gt off, 3)) (ht : (pc : Int) + off = (tgt : Int)) (kt : 0 < a → X E Ω tgt lv st) (kf : a ≤ 0 → X E Ω (pc + 3) lv st) : X E Ω pc lv (.int (zI a) :: st) := by
  obtain ⟨hx, hb, hml, hown, hts, hK, hlk, hok, hsta, hR, hret, hQ, rfl, rfl, rfl⟩ := hC
  intro H locs ls hP hS hl
  refine lv_if_gt (tgt := tgt) hx hb hdg ht (fun h => kt ?_ H locs ls hP hS hl) (fun h => kf ?_ H locs ls hP hS hl)
  · exact zc_gt (b := 0) ha zb_0 h
  · exact zn_gt (b := 0) ha zb_0 h
theorem z_icmp_le (hC : zC E w l own ws cc nL fr lo ret Post) {a b : Int} {off : Int} (tgt : Nat) (ha : zb a) (hb1 : zb b) (hdg : decode cc pc = .ok (.if_icmp .le off, 3)) (ht : (pc : Int) + off = (tgt : Int)) (kt : a ≤ b → X E Ω tgt lv st) (kf : b < a → X E Ω (pc + 3) lv st) : X E Ω pc lv (.int (zI b) :: .int (zI a) :: st) := by
  obtain ⟨hx, hb, hml, hown, hts, hK, hlk, hok, hsta, hR, hret, hQ, rfl, rfl, rfl⟩ := hC
  intro H locs ls hP hS hl
  refine lv_icmp_le (tgt := tgt) hx hb hdg ht (fun h => kt ?_ H locs ls hP hS hl) (fun h => kf ?_ H locs ls hP hS hl)
  · exact zc_le ha hb1 h
  · exact zn_le ha hb1 h
theorem z_if_le (hC : zC E w l own ws cc nL fr lo ret Post) {a : Int} {off : Int} (tgt : Nat) (ha : zb a) (hdg : decode cc pc = .ok (.ifCond .le off, 3)) (ht : (pc : Int) + off = (tgt : Int)) (kt : a ≤ 0 → X E Ω tgt lv st) (kf : 0 < a → X E Ω (pc + 3) lv st) : X E Ω pc lv (.int (zI a) :: st) := by
  obtain ⟨hx, hb, hml, hown, hts, hK, hlk, hok, hsta, hR, hret, hQ, rfl, rfl, rfl⟩ := hC
  intro H locs ls hP hS hl
  refine lv_if_le (tgt := tgt) hx hb hdg ht (fun h => kt ?_ H locs ls hP hS hl) (fun h => kf ?_ H locs ls hP hS hl)
  · exact zc_le (b := 0) ha zb_0 h
  · exact zn_le (b := 0) ha zb_0 h
theorem z_ifb_eq (hC : zC E w l own ws cc nL fr lo ret Post) {b : Bool} {off : Int} (tgt : Nat) (hdg : decode cc pc = .ok (.ifCond .eq off, 3)) (ht : (pc : Int) + off = (tgt : Int)) (kt : b = false → X E Ω tgt lv st) (kf : b = true → X E Ω (pc + 3) lv st) : X E Ω pc lv (.int (zI (bI b)) :: st) := by
  refine z_if_eq hC tgt (bI_zb b) hdg ht (fun h => kt ?_) (fun h => kf ?_)
  · cases b <;> simp_all [bI]
  · cases b <;> simp_all [bI]
theorem z_ifb_ne (hC : zC E w l own ws cc nL fr lo ret Post) {b : Bool} {off : Int} (tgt : Nat) (hdg : decode cc pc = .ok (.ifCond .ne off, 3)) (ht : (pc : Int) + off = (tgt : Int)) (kt : b = true → X E Ω tgt lv st) (kf : b = false → X E Ω (pc + 3) lv st) : X E Ω pc lv (.int (zI (bI b)) :: st) := by
  refine z_if_ne hC tgt (bI_zb b) hdg ht (fun h => kt ?_) (fun h => kf ?_)
  · cases b <;> simp_all [bI]
  · cases b <;> simp_all [bI]
theorem z_goto (hC : zC E w l own ws cc nL fr lo ret Post) {off : Int} (tgt : Nat) (hdg : decode cc pc = .ok (.goto off, 3)) (ht : (pc : Int) + off = (tgt : Int)) (k : X E Ω tgt lv st) : X E Ω pc lv st := by
  obtain ⟨hx, hb, hml, hown, hts, hK, hlk, hok, hsta, hR, hret, hQ, rfl, rfl, rfl⟩ := hC
  intro H locs ls hP hS hl
  exact lv_goto (tgt := tgt) hx hb hdg ht (k H locs ls hP hS hl)
theorem z_ifnull (hC : zC E w l own ws cc nL fr lo ret Post) {x : Nat} {off : Int} (hdg : decode cc pc = .ok (.ifnull off, 3)) (k : X E Ω (pc + 3) lv st) : X E Ω pc lv (.ref x :: st) := by
  obtain ⟨hx, hb, hml, hown, hts, hK, hlk, hok, hsta, hR, hret, hQ, rfl, rfl, rfl⟩ := hC
  intro H locs ls hP hS hl
  exact lv_ifnull hx hb hdg (k H locs ls hP hS hl)
theorem z_tsIn (hC : zC E w l own ws cc nL fr lo ret Post) {a dflt lo1 hi off : Int} {offs : Array Int} {len : Nat} (tgt : Nat) (ha : zb a) (h1 : lo1 ≤ a) (h2 : a ≤ hi) (hdg : decode cc pc = .ok (.tableswitch dflt lo1 hi offs, len)) (ho : offs[(a - lo1).toNat]? = some off) (ht : (pc : Int) + off = (tgt : Int)) (k : X E Ω tgt lv st) : X E Ω pc lv (.int (zI a) :: st) := by
  obtain ⟨hx, hb, hml, hown, hts, hK, hlk, hok, hsta, hR, hret, hQ, rfl, rfl, rfl⟩ := hC
  intro H locs ls hP hS hl
  exact lv_tableIn (tgt := tgt) (off := off) hx hb hdg (by rw [zI_toInt ha]; omega) (by rw [zI_toInt ha]; omega) (by rw [zI_toInt ha]; exact ho) ht (k H locs ls hP hS hl)
theorem z_tsOut (hC : zC E w l own ws cc nL fr lo ret Post) {a dflt lo1 hi : Int} {offs : Array Int} {len : Nat} (tgt : Nat) (ha : zb a) (h1 : a < lo1 ∨ hi < a) (hdg : decode cc pc = .ok (.tableswitch dflt lo1 hi offs, len)) (ht : (pc : Int) + dflt = (tgt : Int)) (k : X E Ω tgt lv st) : X E Ω pc lv (.int (zI a) :: st) := by
  obtain ⟨hx, hb, hml, hown, hts, hK, hlk, hok, hsta, hR, hret, hQ, rfl, rfl, rfl⟩ := hC
  intro H locs ls hP hS hl
  exact lv_tableOut (tgt := tgt) hx hb hdg (by rw [zI_toInt ha]; exact h1) ht (k H locs ls hP hS hl)
theorem z_lsw (hC : zC E w l own ws cc nL fr lo ret Post) {a dflt off : Int} {ps : Array (Int × Int)} {len : Nat} (tgt : Nat) (ha : zb a) (hdg : decode cc pc = .ok (.lookupswitch dflt ps, len)) (hp : (ps.toList.zip (ps.toList.drop 1)).all (fun (a, next) => a.1 < next.1) = true) (ho : Op.lookupswitch.offset ps.toList dflt a = off) (ht : (pc : Int) + off = (tgt : Int)) (k : X E Ω tgt lv st) : X E Ω pc lv (.int (zI a) :: st) := by
  obtain ⟨hx, hb, hml, hown, hts, hK, hlk, hok, hsta, hR, hret, hQ, rfl, rfl, rfl⟩ := hC
  intro H locs ls hP hS hl
  exact lv_lookup (tgt := tgt) (off := off) hx hb hdg hp (by rw [zI_toInt ha]; exact ho) ht (k H locs ls hP hS hl)
theorem z_getI (hC : zC E w l own ws cc nL fr lo ret Post) {C : String} {T : u_T} {N ci idx : Nat} (q kf : Nat) {fsf : (Nat → Int32) → List Value} (hin : ∀ x ∈ u_ws C T N, x ∈ ws) (hc : vwCl[ci]? = some (C, T, N)) (hq : q < 59) (hz : ∀ f, zs w f q = .inr (ci, fsf f)) (hk : kf < N) (hlk1 : Cond.fieldLink own idx (T kf).1 (T kf).2.1 (T kf).2.2.1 ∈ ws) (hv : ∀ f, (fsf f)[kf]? = some (.int (f kf))) (hdg : decode cc pc = .ok (.getfield idx, 3)) (k : X E Ω (pc + 3) lv (.int (zI (gt Ω q kf)) :: st)) : X E Ω pc lv (.ref (wa w q) :: st) := by
  obtain ⟨hx, hb, hml, hown, hts, hK, hlk, hok, hsta, hR, hret, hQ, rfl, rfl, rfl⟩ := hC
  intro H locs ls hP hS hl
  have k := k H locs ls hP hS hl
  rw [zI_gt] at k
  exact va_get hx hb hts hin hown hK hP q (by rw [zW_at _ Ω hq, hz]) hc kf hk (hts _ hlk1) (fun _ h => h) (hv (Ω q)) hdg k
theorem z_getR (hC : zC E w l own ws cc nL fr lo ret Post) (v : Value) {C : String} {T : u_T} {N ci idx : Nat} (q kf : Nat) {fsf : (Nat → Int32) → List Value} (hin : ∀ x ∈ u_ws C T N, x ∈ ws) (hc : vwCl[ci]? = some (C, T, N)) (hq : q < 59) (hz : ∀ f, zs w f q = .inr (ci, fsf f)) (hk : kf < N) (hlk1 : Cond.fieldLink own idx (T kf).1 (T kf).2.1 (T kf).2.2.1 ∈ ws) (hv : ∀ f, (fsf f)[kf]? = some v) (hdg : decode cc pc = .ok (.getfield idx, 3)) (k : X E Ω (pc + 3) lv (v :: st)) : X E Ω pc lv (.ref (wa w q) :: st) := by
  obtain ⟨hx, hb, hml, hown, hts, hK, hlk, hok, hsta, hR, hret, hQ, rfl, rfl, rfl⟩ := hC
  intro H locs ls hP hS hl
  exact va_get hx hb hts hin hown hK hP q (by rw [zW_at _ Ω hq, hz]) hc kf hk (hts _ hlk1) (fun _ h => h) (hv (Ω q)) hdg (k H locs ls hP hS hl)
theorem z_putI (hC : zC E w l own ws cc nL fr lo ret Post) {z : Int} {C : String} {T : u_T} {N ci idx : Nat} (q kf : Nat) {fsf : (Nat → Int32) → List Value} (hin : ∀ x ∈ u_ws C T N, x ∈ ws) (hc : vwCl[ci]? = some (C, T, N)) (hq : q < 59) (hz : ∀ f, zs w f q = .inr (ci, fsf f)) (hk : kf < N) (hlk1 : Cond.fieldLink own idx (T kf).1 (T kf).2.1 (T kf).2.2.1 ∈ ws) {ty0 : Nat → FieldType} (hty : ∀ k, k < N → parseFieldDescriptor (T k).2.2.1 = some (ty0 k)) (hnm : ∀ a, a < N → ∀ b, b < N → a ≠ b → (T a).2.1 ≠ (T b).2.1) (hfin : (T kf).2.2.2 = false) (hd : parseFieldDescriptor (T kf).2.2.1 = some .int) (hlen : ∀ f, kf < (fsf f).length) (hset : ∀ f v, (.inr (ci, (fsf f).set kf (.int v)) : va_E) = zs w (upd f kf v) q) (hdg : decode cc pc = .ok (.putfield idx, 3)) (k : X E (ups Ω q kf z) (pc + 3) lv st) : X E Ω pc lv (.int (zI z) :: .ref (wa w q) :: st) := by
  obtain ⟨hx, hb, hml, hown, hts, hK, hlk, hok, hsta, hR, hret, hQ, rfl, rfl, rfl⟩ := hC
  intro H locs ls hP hS hl
  refine va_put hx hb hts hin ty0 hty hnm hown hK hP (zD hok Ω) hS q (by rw [zW_at _ Ω hq, hz]) hc kf hk (hts _ hlk1) (fun _ h => h) hfin hd rfl rfl (hlen (Ω q)) hdg (fun H1 locs1 hP1 hD1 hS1 => k H1 locs1 ls ?_ hS1 hl)
  rw [hset, zW_set] at hP1
  exact hP1
theorem z_iald (hC : zC E w l own ws cc nL fr lo ret Post) (q : Nat) {n : Nat} {z : Int} (hq : q < 59) (hz : ∀ f, zs w f q = zar w n f) (h0 : 0 ≤ z) (h1 : z < n) (hn : n ≤ 2147483647) (hdg : decode cc pc = .ok (.iaload, 1)) (k : X E Ω (pc + 1) lv (.int (zI (gt Ω q z.toNat)) :: st)) : X E Ω pc lv (.int (zI z) :: .ref (wa w q) :: st) := by
  obtain ⟨hx, hb, hml, hown, hts, hK, hlk, hok, hsta, hR, hret, hQ, rfl, rfl, rfl⟩ := hC
  intro H locs ls hP hS hl
  have k := k H locs ls hP hS hl
  rw [zI_gt, ← zI_cl h0 (by omega)] at k
  exact va_iald hx hb hK hP q 0 (cA := wI (e_w E)) (n := n) (f := Ω q) (by rw [zW_at _ Ω hq, hz]; rfl) rfl (zI_in h0 h1 hn) hdg k
theorem z_iast (hC : zC E w l own ws cc nL fr lo ret Post) (q : Nat) {n : Nat} {z x : Int} (hq : q < 59) (hz : ∀ f, zs w f q = zar w n f) (h0 : 0 ≤ z) (h1 : z < n) (hn : n ≤ 2147483647) (hdg : decode cc pc = .ok (.iastore, 1)) (k : X E (ups Ω q z.toNat x) (pc + 1) lv st) : X E Ω pc lv (.int (zI x) :: .int (zI z) :: .ref (wa w q) :: st) := by
  obtain ⟨hx, hb, hml, hown, hts, hK, hlk, hok, hsta, hR, hret, hQ, rfl, rfl, rfl⟩ := hC
  intro H locs ls hP hS hl
  refine va_iast hx hb hK hP (zD hok Ω) hS q 0 (cA := wI (e_w E)) (n := n) (f := Ω q) (by rw [zW_at _ Ω hq, hz]; rfl) rfl (zI_in h0 h1 hn) hdg (fun H1 locs1 hP1 hD1 hS1 => k H1 locs1 ls ?_ hS1 hl)
  rw [zI_cl h0 (by omega)] at hP1
  have e : (.inl (wI (e_w E), n, .inl (upd (Ω q) z.toNat (zI x))) : va_E) = zs (e_w E) (upd (Ω q) z.toNat (zI x)) q := by rw [hz]; rfl
  rw [e, zW_set] at hP1
  exact hP1
theorem z_alen (hC : zC E w l own ws cc nL fr lo ret Post) (q : Nat) {n : Nat} (hq : q < 59) (hz : ∀ f, zs w f q = zar w n f) (hdg : decode cc pc = .ok (.arraylength, 1)) (k : X E Ω (pc + 1) lv (.int (zI n) :: st)) : X E Ω pc lv (.ref (wa w q) :: st) := by
  obtain ⟨hx, hb, hml, hown, hts, hK, hlk, hok, hsta, hR, hret, hQ, rfl, rfl, rfl⟩ := hC
  intro H locs ls hP hS hl
  have k := k H locs ls hP hS hl
  rw [← zI_n] at k
  exact va_alen hx hb hK hP q 0 (cA := wI (e_w E)) (x := (n, .inl (Ω q))) (by rw [zW_at _ Ω hq, hz]; rfl) (ty := .int) rfl rfl hdg k
theorem z_kept (hC : zC E w l own ws cc nL fr lo ret Post) {z : Int} (h0 : 0 ≤ z) (h1 : z < 8) (hdg : decode cc pc = .ok (.aaload, 1)) (k : X E Ω (pc + 1) lv (.ref (wa w (17 + 4 * z.toNat)) :: st)) : X E Ω pc lv (.int (zI z) :: .ref (wa w 2) :: st) := by
  obtain ⟨hx, hb, hml, hown, hts, hK, hlk, hok, hsta, hR, hret, hQ, rfl, rfl, rfl⟩ := hC
  intro H locs ls hP hS hl
  have k := k H locs ls hP hS hl
  rw [← zI_cl h0 (by omega)] at k
  exact va_aldq hx hb hK hP 2 1 (cA := wR (e_w E)) (C := "StrokeCuts$Scene") (n := 8) (f := fun j => some (wa (e_w E) (17 + 4 * j))) (by rw [zW_at _ Ω (by omega)]; rfl) rfl (zI_in h0 h1 (by omega)) hdg k
theorem z_gets (hC : zC E w l own ws cc nL fr lo ret Post) {idx : Nat} (j : Nat) (hj : j < 4) (hlk1 : Cond.fieldLink own idx "StrokeCuts" (zTab j) "[I" ∈ ws) (hdg : decode cc pc = .ok (.getstatic idx, 3)) (k : X E Ω (pc + 3) lv (.ref (wt w j) :: st)) : X E Ω pc lv st := by
  obtain ⟨hx, hb, hml, hown, hts, hK, hlk, hok, hsta, hR, hret, hQ, rfl, rfl, rfl⟩ := hC
  intro H locs ls hP hS hl
  exact va_gets hx hb (hsta.1 j hj).1 hS hown (hts _ hlk1) (fun _ h => h) hdg (k H locs ls hP hS hl)
theorem z_getsN (hC : zC E w l own ws cc nL fr lo ret Post) {idx : Nat} {host : String} (j : Nat) (hj : j < 4) (hlk1 : va_Nw (.fieldLinkNest own idx "StrokeCuts" (zTab j) "[I" host) (e_s E)) (hdg : decode cc pc = .ok (.getstatic idx, 3)) (k : X E Ω (pc + 3) lv (.ref (wt w j) :: st)) : X E Ω pc lv st := by
  obtain ⟨hx, hb, hml, hown, hts, hK, hlk, hok, hsta, hR, hret, hQ, rfl, rfl, rfl⟩ := hC
  intro H locs ls hP hS hl
  exact va_getsN hx hb (hsta.1 j hj).1 hS hown (va_Nw.use rfl hlk1) (fun _ h => h) hdg (k H locs ls hP hS hl)
theorem z_tald (hC : zC E w l own ws cc nL fr lo ret Post) (j : Nat) {z : Int} (hj : j < 4) (h0 : 0 ≤ z) (h1 : z < zTl j) (hdg : decode cc pc = .ok (.iaload, 1)) (k : X E Ω (pc + 1) lv (.int (zI (zTv j z.toNat)) :: st)) : X E Ω pc lv (.int (zI z) :: .ref (wt w j) :: st) := by
  obtain ⟨hx, hb, hml, hown, hts, hK, hlk, hok, hsta, hR, hret, hQ, rfl, rfl, rfl⟩ := hC
  intro H locs ls hP hS hl
  have hle : (zTl j : Int) ≤ 6 := by unfold zTl; split <;> omega
  exact va_ti hx hb (hsta.1 j hj).2 hS (zI_in h0 h1 (by omega)) (by rw [zI_cl h0 (by omega)]) hdg (k H locs ls hP hS hl)
theorem zQ_ret {w : zP} {Post : Option Value → Mem → Prop} {Ω : Mem} {s t : State} {H : Heap} {locs : List Loc} {a : Array Value} {v : Option Value} (hp : Post v Ω) (hP : va_P w.1 vwCl (zW w Ω) H) (hS : va_S (zA w) s.heap H locs) (ht : t.heap = H) : zQ w Post a s (.returned v) t := ⟨⟨v, Ω, rfl, hp, by rw [ht]; exact hP⟩, hS.F ht⟩
theorem z_iret (hC : zC E w l own ws cc nL fr lo ret Post) {x : Int32} (hr : ret = some .int) (hp : Post (some (.int x)) Ω) (hdg : decode cc pc = .ok (.ireturn, 1)) : X E Ω pc lv [.int x] := by
  obtain ⟨hx, hb, hml, hown, hts, hK, hlk, hok, hsta, hR, hret, hQ, rfl, rfl, rfl⟩ := hC
  intro H locs ls hP hS hl
  rw [hQ]
  exact W.iret hx hb (hret.trans hr) (fun t ht _ => zQ_ret hp hP hS ht) hS.2.2 hdg hlk
theorem z_zret (hC : zC E w l own ws cc nL fr lo ret Post) {b : Bool} (hr : ret = some .boolean) (hp : Post (some (.int (zI (bI b)))) Ω) (hdg : decode cc pc = .ok (.ireturn, 1)) : X E Ω pc lv [.int (zI (bI b))] := by
  obtain ⟨hx, hb, hml, hown, hts, hK, hlk, hok, hsta, hR, hret, hQ, rfl, rfl, rfl⟩ := hC
  intro H locs ls hP hS hl
  rw [hQ]
  exact W.zret hx hb (hret.trans hr) (by cases b <;> rfl) (fun t ht _ => zQ_ret hp hP hS ht) hS.2.2 hdg hlk
theorem z_lret (hC : zC E w l own ws cc nL fr lo ret Post) {x : Int64} (hr : ret = some .long) (hp : Post (some (.long x)) Ω) (hdg : decode cc pc = .ok (.lreturn, 1)) : X E Ω pc lv [.long x] := by
  obtain ⟨hx, hb, hml, hown, hts, hK, hlk, hok, hsta, hR, hret, hQ, rfl, rfl, rfl⟩ := hC
  intro H locs ls hP hS hl
  rw [hQ]
  exact W.lret hx hb (hret.trans hr) (fun t ht _ => zQ_ret hp hP hS ht) hS.2.2 hdg hlk
theorem z_vret (hC : zC E w l own ws cc nL fr lo ret Post) (hr : ret = none) (hp : Post none Ω) (hdg : decode cc pc = .ok (.return_, 1)) : X E Ω pc lv [] := by
  obtain ⟨hx, hb, hml, hown, hts, hK, hlk, hok, hsta, hR, hret, hQ, rfl, rfl, rfl⟩ := hC
  intro H locs ls hP hS hl
  rw [hQ]
  exact W.vret hx hb (hret.trans hr) (fun t ht _ => zQ_ret hp hP hS ht) hS.2.2 hdg hlk
theorem z_topl {x : Int64} (k : ∀ y : Int64, y = x → X E Ω pc lv (.long y :: st)) : X E Ω pc lv (.long x :: st) := k x rfl
theorem z_topi {x : Int} (k : ∀ y : Int, y = x → X E Ω pc lv (.int (zI y) :: st)) : X E Ω pc lv (.int (zI x) :: st) := k x rfl
theorem z_tope {x : Int} (y : Int) (h : x = y) (k : X E Ω pc lv (.int (zI y) :: st)) : X E Ω pc lv (.int (zI x) :: st) := h ▸ k
theorem z_tople {x : Int64} (y : Int64) (h : x = y) (k : X E Ω pc lv (.long y :: st)) : X E Ω pc lv (.long x :: st) := h ▸ k
end ZOPS
