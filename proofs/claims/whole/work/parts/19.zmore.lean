section ZMORE
variable {E : zE} {w : zP} {l : Launch} {own : String} {ws : List Cond} {cc : ByteArray} {nL fr lo : Nat} {ret : Option FieldType} {Post : Option Value → Mem → Prop} {Ω : Mem} {pc : Nat} {lv lv' : List (Option Value)} {st : List Value}
theorem z_ialk (hC : zC E w l own ws cc nL fr lo ret Post) (q k : Nat) {n : Nat} {z : Int} (hq : q < 59) (hz : ∀ f, zs w f q = zar w n f) (hz1 : z = (k : Int)) (hk : k < n) (hn : n ≤ 2147483647) (hdg : decode cc pc = .ok (.iaload, 1)) (kk : X E Ω (pc + 1) lv (.int (zI (gt Ω q k)) :: st)) : X E Ω pc lv (.int (zI z) :: .ref (wa w q) :: st) := by
  subst hz1
  exact z_iald hC q hq hz (by omega) (by omega) hn hdg kk
theorem z_iask (hC : zC E w l own ws cc nL fr lo ret Post) (q k : Nat) {n : Nat} {z x : Int} (hq : q < 59) (hz : ∀ f, zs w f q = zar w n f) (hz1 : z = (k : Int)) (hk : k < n) (hn : n ≤ 2147483647) (hdg : decode cc pc = .ok (.iastore, 1)) (kk : X E (ups Ω q k x) (pc + 1) lv st) : X E Ω pc lv (.int (zI x) :: .int (zI z) :: .ref (wa w q) :: st) := by
  subst hz1
  exact z_iast hC q hq hz (by omega) (by omega) hn hdg kk
theorem z_talk (hC : zC E w l own ws cc nL fr lo ret Post) (j k : Nat) {z : Int} (hj : j < 4) (hz1 : z = (k : Int)) (hk : k < zTl j) (hdg : decode cc pc = .ok (.iaload, 1)) (kk : X E Ω (pc + 1) lv (.int (zI (zTv j k)) :: st)) : X E Ω pc lv (.int (zI z) :: .ref (wt w j) :: st) := by
  subst hz1
  exact z_tald hC j hj (by omega) (by omega) hdg kk
theorem nat_of {z : Int} (h : 0 ≤ z) : ∃ n : Nat, z = n := ⟨z.toNat, (Int.toNat_of_nonneg h).symm⟩
end ZMORE
