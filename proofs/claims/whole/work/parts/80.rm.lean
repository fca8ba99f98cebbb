/-! ===== the reference's memory as the same object ===== -/
def RM (Ω : Mem) (a : As) : Prop :=
  (scM Ω = a.1 ∧ scok a.1) ∧
  (gt Ω 49 2 = (a.2.1.1 : Int) ∧ a.2.1.1 ≤ 8 ∧ ∀ i, i < a.2.1.1 → (∀ j, j < 80 → gt Ω 51 (80 * (a.2.1.1 - 1 - i) + j) = a.2.1.2 i j) ∧ (∀ j, 80 ≤ j → a.2.1.2 i j = 0) ∧ scok (a.2.1.2 i)) ∧
  (∀ i, i < 3 → Ω 52 i = a.2.2.1 i) ∧
  (gt Ω 49 5 = (a.2.2.2.1 : Int) ∧ a.2.2.2.1 ≤ 100 ∧ ∀ k, k < a.2.2.2.1 → gt Ω 53 k = a.2.2.2.2 k ∧ 0 ≤ a.2.2.2.2 k ∧ a.2.2.2.2 k ≤ 127) ∧
  gt Ω 49 6 = -1
def frG (Ω Ω1 : Mem) : Prop := ∀ q, q < 49 → Ω1 q = Ω q
theorem frG.refl (Ω : Mem) : frG Ω Ω := fun _ _ => rfl
theorem frG.trans {A B C : Mem} (h : frG A B) (g : frG B C) : frG A C := fun q a => (g q a).trans (h q a)
theorem frG_up (Ω : Mem) {q : Nat} (k : Nat) (v : Int) (h : 49 ≤ q) : frG Ω (ups Ω q k v) := fun r hr => ups_n _ _ _ (by omega)
theorem scM_0 (Ω : Mem) {j : Nat} (h : 80 ≤ j) : scM Ω j = 0 := if_neg (by omega)
/-- other pictures, all else as it was -/
theorem RM.set {Ω Ω1 : Mem} {a : As} {σ : Sg} (h : RM Ω a) (hs : scM Ω1 = σ) (ho : scok σ) (h49 : ∀ k, k = 2 ∨ k = 5 ∨ k = 6 → gt Ω1 49 k = gt Ω 49 k) (hq : ∀ q, 51 ≤ q → q ≤ 53 → Ω1 q = Ω q) : RM Ω1 (aSet a σ) := by
  obtain ⟨h1, ⟨h2, h3, h4⟩, h5, ⟨h6, h7, h8⟩, h9⟩ := h
  refine ⟨⟨hs, ho⟩, ⟨by rw [h49 2 (by omega)]; exact h2, h3, fun i hi => ⟨fun j hj => ?_, (h4 i hi).2⟩⟩, fun i hi => ?_, ⟨by rw [h49 5 (by omega)]; exact h6, h7, fun k hk => ?_⟩, by rw [h49 6 (by omega)]; exact h9⟩
  · rw [gt_fr (hq 51 (by omega) (by omega))]; exact (h4 i hi).1 j hj
  · rw [hq 52 (by omega) (by omega)]; exact h5 i hi
  · rw [gt_fr (hq 53 (by omega) (by omega))]; exact h8 k hk
theorem RM.same {Ω Ω1 : Mem} {a : As} (h : RM Ω a) (h49 : ∀ k, k = 2 ∨ k = 5 ∨ k = 6 → gt Ω1 49 k = gt Ω 49 k) (hq : ∀ q, 50 ≤ q → q ≤ 53 → Ω1 q = Ω q) : RM Ω1 a :=
  RM.set h ((scM_cong (hq 50 (by omega) (by omega))).trans h.1.1) h.1.2 h49 (fun q a b => hq q (by omega) b)
theorem RM.scr {Ω Ω1 : Mem} {a : As} (h : RM Ω a) (hq : ∀ q, q ≠ 54 → q ≠ 55 → q ≠ 56 → Ω1 q = Ω q) : RM Ω1 a ∧ frG Ω Ω1 :=
  ⟨h.same (fun k _ => gt_fr (hq 49 (by omega) (by omega) (by omega)) k) (fun q a b => hq q (by omega) (by omega) (by omega)), fun q hq1 => hq q (by omega) (by omega) (by omega)⟩
theorem RM.inc {Ω : Mem} {a : As} (h : RM Ω a) {i : Nat} (hi : i < 3) : RM (ups Ω 52 i (gt Ω 52 i + 1)) (aInc a i) := by
  obtain ⟨h1, ⟨h2, h3, h4⟩, h5, ⟨h6, h7, h8⟩, h9⟩ := h
  have hq : ∀ q, q ≠ 52 → ups Ω 52 i (gt Ω 52 i + 1) q = Ω q := fun q h => ups_n _ _ _ h
  have e49 : ∀ k, gt (ups Ω 52 i (gt Ω 52 i + 1)) 49 k = gt Ω 49 k := fun k => gt_fr (hq 49 (by omega)) k
  refine ⟨⟨(scM_cong (hq 50 (by omega))).trans h1.1, h1.2⟩, ⟨by rw [e49]; exact h2, h3, fun j hj => ⟨fun t ht => ?_, (h4 j hj).2⟩⟩, fun j hj => ?_, ⟨by rw [e49]; exact h6, h7, fun k hk => ?_⟩, by rw [e49]; exact h9⟩
  · rw [gt_fr (hq 51 (by omega))]; exact (h4 j hj).1 t ht
  · by_cases e : j = i
    · subst e
      rw [ups_s, ← zI_add, zI_gt]
      show _ = upd a.2.2.1 j (a.2.2.1 j + 1) j
      rw [h5 j hj]
      simp [upd]
      rfl
    · rw [ups_sn _ _ _ e, h5 j hj]
      show _ = upd a.2.2.1 i (a.2.2.1 i + 1) j
      simp [upd, e]
  · rw [gt_fr (hq 53 (by omega))]; exact h8 k hk
theorem bad_retM {Ω : Mem} {a : As} {F : Int × As} (h : RM Ω a) (e : F = ((-2 : Int), aInc a 0)) : (-2 : Int) = F.1 ∧ RM (ups Ω 52 0 (gt Ω 52 0 + 1)) F.2 ∧ frG Ω (ups Ω 52 0 (gt Ω 52 0 + 1)) := by
  rw [e]; exact ⟨rfl, h.inc (i := 0) (by decide), frG_up _ _ _ (by decide)⟩
theorem ok_retM {Ω Ω1 : Mem} {a1 : As} {r : Int} {F : Int × As} (e : F = (r, a1)) (h : RM Ω1 a1) (hf : frG Ω Ω1) : r = F.1 ∧ RM Ω1 F.2 ∧ frG Ω Ω1 := by
  rw [e]; exact ⟨rfl, h, hf⟩
theorem ok_retML {Ω Ω1 : Mem} {a1 : As} {r : Int64} {F : Int64 × As} (e : F = (r, a1)) (h : RM Ω1 a1) (hf : frG Ω Ω1) : r = F.1 ∧ RM Ω1 F.2 ∧ frG Ω Ω1 := by
  rw [e]; exact ⟨rfl, h, hf⟩
