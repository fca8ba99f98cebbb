/-! ===== the object as its calls show it: the picture; how many states are kept, the newest first; refused calls; the text ===== -/
abbrev As : Type := Sg × (Nat × (Nat → Sg)) × (Nat → Int32) × (Nat × (Nat → Int))
def aRem (a : As) : As := (a.1, (min (a.2.1.1 + 1) 8, fun i => if i = 0 then a.1 else a.2.1.2 (i - 1)), a.2.2)
def aSet (a : As) (σ : Sg) : As := (σ, a.2)
def aInc (a : As) (i : Nat) : As := (a.1, a.2.1, upd a.2.2.1 i (a.2.2.1 i + 1), a.2.2.2)
def aTxt (a : As) (L : Nat) (T : Nat → Int) : As := (a.1, a.2.1, a.2.2.1, (L, T))
def aBack (a : As) : As := (a.2.1.2 0, (a.2.1.1 - 1, fun i => a.2.1.2 (i + 1)), a.2.2)
def RC (Ω : Mem) (a : As) : Prop :=
  (scC Ω = a.1 ∧ scok a.1) ∧
  (gt Ω 1 2 = (a.2.1.1 : Int) ∧ a.2.1.1 ≤ 8 ∧ (0 ≤ gt Ω 1 1 ∧ gt Ω 1 1 < 8) ∧ ∀ i, i < a.2.1.1 → scT Ω (((gt Ω 1 1).toNat + 7 - i) % 8 + 1) = a.2.1.2 i ∧ scok (a.2.1.2 i)) ∧
  (∀ i, i < 3 → Ω 0 (4 + i) = a.2.2.1 i) ∧
  (gt Ω 10 2 = (a.2.2.2.1 : Int) ∧ a.2.2.2.1 ≤ 100 ∧ gt Ω 11 = a.2.2.2.2 ∧ (∀ k, k < a.2.2.2.1 → 0 ≤ a.2.2.2.2 k ∧ a.2.2.2.2 k ≤ 127) ∧ 0 ≤ gt Ω 10 6 ∧ gt Ω 10 6 ≤ 4)
def frC (Ω Ω1 : Mem) : Prop := ∀ q, 49 ≤ q → Ω1 q = Ω q
theorem frC.refl (Ω : Mem) : frC Ω Ω := fun _ _ => rfl
theorem frC.trans {A B C : Mem} (h : frC A B) (g : frC B C) : frC A C := fun q a => (g q a).trans (h q a)
theorem frC_up (Ω : Mem) {q : Nat} (k : Nat) (v : Int) (h : q < 49) : frC Ω (ups Ω q k v) := fun r hr => ups_n _ _ _ (by omega)
theorem frM.C {A B : Mem} (h : frM A B) : frC A B := fun q hq => h.1 q (by omega) (by omega) (by omega)
theorem frM.R {A B : Mem} (h : frM A B) : ∀ q, q < 3 ∨ 9 < q → B q = A q := fun q hq => h.1 q (by omega) (by omega) (by omega)
theorem RC.set {Ω Ω1 : Mem} {a : As} {σ : Sg} (h : RC Ω a) (hs : scC Ω1 = σ) (ho : scok σ) (hq : ∀ q, (q < 3 ∨ 9 < q) → (q < 13 ∨ 16 < q) → Ω1 q = Ω q) : RC Ω1 (aSet a σ) := by
  obtain ⟨h1, ⟨h2, h3, h4, h5⟩, h6, h7, h8, h9, h10, h11⟩ := h
  have e1 : ∀ k, gt Ω1 1 k = gt Ω 1 k := fun k => gt_fr (hq 1 (by omega) (by omega)) k
  have e10 : ∀ k, gt Ω1 10 k = gt Ω 10 k := fun k => gt_fr (hq 10 (by omega) (by omega)) k
  refine ⟨⟨hs, ho⟩, ⟨by rw [e1]; exact h2, h3, by rw [e1]; exact h4, fun i hi => ?_⟩, fun i hi => ?_, ?_, h8, ?_, h10, ?_⟩
  · rw [e1, scT_same (Ω := Ω) (fun q a b => hq q (by omega) (by omega))]; exact h5 i hi
  · rw [hq 0 (by omega) (by omega)]; exact h6 i hi
  · rw [e10]; exact h7
  · refine Eq.trans ?_ h9; unfold gt; rw [hq 11 (by omega) (by omega)]
  · rw [e10]; exact h11
theorem RC.same {Ω Ω1 : Mem} {a : As} (h : RC Ω a) (hq : ∀ q, (q < 3 ∨ 9 < q) → Ω1 q = Ω q) : RC Ω1 a :=
  RC.set h ((scC_cong (hq 13 (by omega)) (hq 14 (by omega)) (hq 15 (by omega)) (hq 16 (by omega))).trans h.1.1) h.1.2 (fun q a _ => hq q a)
theorem RC.inc {Ω : Mem} {a : As} (h : RC Ω a) {i k : Nat} (hi : i < 3) (hk : k = 4 + i) : RC (ups Ω 0 k (gt Ω 0 k + 1)) (aInc a i) := by
  subst hk
  obtain ⟨⟨h1, h1'⟩, ⟨h2, h3, h4, h5⟩, h6, h7, h8, h9, h10, h11⟩ := h
  have hq : ∀ q, q ≠ 0 → ups Ω 0 (4 + i) (gt Ω 0 (4 + i) + 1) q = Ω q := fun q h => ups_n _ _ _ h
  have e1 : ∀ k, gt (ups Ω 0 (4 + i) (gt Ω 0 (4 + i) + 1)) 1 k = gt Ω 1 k := fun k => gt_fr (hq 1 (by omega)) k
  have e10 : ∀ k, gt (ups Ω 0 (4 + i) (gt Ω 0 (4 + i) + 1)) 10 k = gt Ω 10 k := fun k => gt_fr (hq 10 (by omega)) k
  refine ⟨⟨(scC_cong (hq 13 (by omega)) (hq 14 (by omega)) (hq 15 (by omega)) (hq 16 (by omega))).trans h1, h1'⟩, ⟨by rw [e1]; exact h2, h3, by rw [e1]; exact h4, fun j hj => ?_⟩, fun j hj => ?_, ?_, h8, ?_, h10, ?_⟩
  · rw [e1, scT_same (Ω := Ω) (fun q a b => hq q (by omega))]; exact h5 j hj
  · by_cases e : j = i
    · subst e
      rw [ups_s, ← zI_add, zI_gt]
      show _ = upd a.2.2.1 j (a.2.2.1 j + 1) j
      rw [h6 j hj]
      simp [upd]
      rfl
    · rw [ups_sn _ _ _ (by omega), h6 j hj]
      show _ = upd a.2.2.1 i (a.2.2.1 i + 1) j
      simp [upd, e]
  · rw [e10]; exact h7
  · exact Eq.trans (funext fun k => gt_fr (hq 11 (by omega)) k) h9
  · rw [e10]; exact h11
theorem RC.rem {Ω Ω1 : Mem} {a : As} (h : RC Ω a) (g1 : gt Ω1 1 1 = (gt Ω 1 1 + 1) % 8) (g2 : gt Ω1 1 2 = min (gt Ω 1 2 + 1) 8) (g3 : scT Ω1 ((gt Ω 1 1).toNat + 1) = scC Ω) (g4 : ∀ q, q ≠ 1 → (q < 17 + 4 * (gt Ω 1 1).toNat ∨ 17 + 4 * (gt Ω 1 1).toNat + 3 < q) → Ω1 q = Ω q) : RC Ω1 (aRem a) ∧ frC Ω Ω1 ∧ scC Ω1 = a.1 := by
  obtain ⟨⟨h1, h1'⟩, ⟨h2, h3, h4, h5⟩, h6, h7, h8, h9, h10, h11⟩ := h
  have hsc : scC Ω1 = a.1 := (scC_cong (g4 13 (by omega) (by omega)) (g4 14 (by omega) (by omega)) (g4 15 (by omega) (by omega)) (g4 16 (by omega) (by omega))).trans h1
  have e10 : ∀ k, gt Ω1 10 k = gt Ω 10 k := fun k => gt_fr (g4 10 (by omega) (by omega)) k
  have hm : (aRem a).2.1.1 = min (a.2.1.1 + 1) 8 := rfl
  refine ⟨⟨⟨hsc, h1'⟩, ⟨by rw [g2, h2, hm]; omega, by rw [hm]; omega, by rw [g1]; omega, fun i hi => ?_⟩, fun i hi => ?_, ?_, h8, ?_, h10, ?_⟩, fun q hq => g4 q (by omega) (by omega), hsc⟩
  · rw [hm] at hi
    by_cases e : i = 0
    · subst e
      rw [show ((gt Ω1 1 1).toNat + 7 - 0) % 8 + 1 = (gt Ω 1 1).toNat + 1 by rw [g1]; omega, g3]
      exact ⟨h1, h1'⟩
    · have hf : (aRem a).2.1.2 i = a.2.1.2 (i - 1) := if_neg e
      rw [hf, show ((gt Ω1 1 1).toNat + 7 - i) % 8 + 1 = ((gt Ω 1 1).toNat + 7 - (i - 1)) % 8 + 1 by rw [g1]; omega, scT_same (Ω := Ω) (fun q x y => g4 q (by omega) (by omega))]
      exact h5 (i - 1) (by omega)
  · rw [g4 0 (by omega) (by omega)]; exact h6 i hi
  · rw [e10]; exact h7
  · refine Eq.trans ?_ h9; unfold gt; rw [g4 11 (by omega) (by omega)]
  · rw [e10]; exact h11
theorem RC.back {Ω Ω1 : Mem} {a : As} (h : RC Ω a) (h0 : 0 < a.2.1.1) (g1 : gt Ω1 1 1 = (gt Ω 1 1 + 7) % 8) (g2 : gt Ω1 1 2 = gt Ω 1 2 - 1) (g3 : scC Ω1 = scT Ω ((gt Ω 1 1 + 7) % 8).toNat.succ) (g4 : ∀ q, q ≠ 1 → (q < 13 ∨ 16 < q) → Ω1 q = Ω q) : RC Ω1 (aBack a) ∧ frC Ω Ω1 := by
  obtain ⟨⟨h1, h1'⟩, ⟨h2, h3, h4, h5⟩, h6, h7, h8, h9, h10, h11⟩ := h
  have e10 : ∀ k, gt Ω1 10 k = gt Ω 10 k := fun k => gt_fr (g4 10 (by omega) (by omega)) k
  have hm : (aBack a).2.1.1 = a.2.1.1 - 1 := rfl
  have h50 := h5 0 h0
  refine ⟨⟨⟨?_, h50.2⟩, ⟨by rw [g2, h2, hm]; omega, by rw [hm]; omega, by rw [g1]; omega, fun i hi => ?_⟩, fun i hi => ?_, ?_, h8, ?_, h10, ?_⟩, fun q hq => g4 q (by omega) (by omega)⟩
  · rw [g3, ← show ((gt Ω 1 1).toNat + 7 - 0) % 8 + 1 = ((gt Ω 1 1 + 7) % 8).toNat.succ by omega]; exact h50.1
  · rw [hm] at hi
    have hf : (aBack a).2.1.2 i = a.2.1.2 (i + 1) := rfl
    rw [hf, show ((gt Ω1 1 1).toNat + 7 - i) % 8 + 1 = ((gt Ω 1 1).toNat + 7 - (i + 1)) % 8 + 1 by rw [g1]; omega, scT_same (Ω := Ω) (fun q x y => g4 q (by omega) (by omega))]
    exact h5 (i + 1) (by omega)
  · rw [g4 0 (by omega) (by omega)]; exact h6 i hi
  · rw [e10]; exact h7
  · refine Eq.trans ?_ h9; unfold gt; rw [g4 11 (by omega) (by omega)]
  · rw [e10]; exact h11
/-- only the reader's cells differ -/
theorem RC.read {Ω Ω1 : Mem} {a : As} {L : Nat} {T : Nat → Int} (h : RC Ω a) (hq : ∀ q, q ≠ 10 → q ≠ 11 → q ≠ 12 → Ω1 q = Ω q) (hL : gt Ω1 10 2 = (L : Int)) (hL1 : L ≤ 100) (hT : gt Ω1 11 = T) (hTb : ∀ k, k < L → 0 ≤ T k ∧ T k ≤ 127) (h6 : 0 ≤ gt Ω1 10 6 ∧ gt Ω1 10 6 ≤ 4) : RC Ω1 (aTxt a L T) := by
  obtain ⟨⟨h1, h1'⟩, ⟨h2, h3, h4, h5⟩, h6', -⟩ := h
  have e1 : ∀ k, gt Ω1 1 k = gt Ω 1 k := fun k => gt_fr (hq 1 (by omega) (by omega) (by omega)) k
  refine ⟨⟨(scC_cong (hq 13 (by omega) (by omega) (by omega)) (hq 14 (by omega) (by omega) (by omega)) (hq 15 (by omega) (by omega) (by omega)) (hq 16 (by omega) (by omega) (by omega))).trans h1, h1'⟩, ⟨by rw [e1]; exact h2, h3, by rw [e1]; exact h4, fun j hj => ?_⟩, fun j hj => ?_, hL, hL1, hT, hTb, h6⟩
  · rw [e1, scT_same (Ω := Ω) (fun q a b => hq q (by omega) (by omega) (by omega))]; exact h5 j hj
  · rw [hq 0 (by omega) (by omega) (by omega)]; exact h6' j hj
theorem scok_sh {σ : Sg} (h : scok σ) {n : Nat} {v : Int} (hn : n < 36) (h0 : 0 ≤ v) (h1 : v ≤ 9) : scok (sup σ (8 + n) v) := by
  obtain ⟨a0, a1, a2, a3, a4, a5, a6, a7, a8, a9⟩ := h
  have e : ∀ i, i < 8 → sup σ (8 + n) v i = σ i := fun i hi => if_neg (by omega)
  refine ⟨by rw [e 0 (by omega)]; exact a0, by rw [e 1 (by omega)]; exact a1, by rw [e 2 (by omega)]; exact a2, by rw [e 3 (by omega)]; exact a3, by rw [e 4 (by omega)]; exact a4, by rw [e 5 (by omega)]; exact a5, by rw [e 6 (by omega)]; exact a6, by rw [e 7 (by omega)]; exact a7, fun k hk => ?_, fun k hk => ?_⟩
  · by_cases c : k = n
    · subst c; rw [show sup σ (8 + k) v (8 + k) = v from if_pos rfl]; exact ⟨h0, h1⟩
    · rw [show sup σ (8 + n) v (8 + k) = σ (8 + k) from if_neg (by omega)]; exact a8 k hk
  · rw [show sup σ (8 + n) v (44 + k) = σ (44 + k) from if_neg (by omega)]; exact a9 k hk
theorem scok_mk {σ : Sg} (h : scok σ) {n : Nat} {v : Int} (hn : n < 36) (h0 : 0 ≤ v) (h1 : v ≤ 2) : scok (sup σ (44 + n) v) := by
  obtain ⟨a0, a1, a2, a3, a4, a5, a6, a7, a8, a9⟩ := h
  have e : ∀ i, i < 44 → sup σ (44 + n) v i = σ i := fun i hi => if_neg (by omega)
  refine ⟨by rw [e 0 (by omega)]; exact a0, by rw [e 1 (by omega)]; exact a1, by rw [e 2 (by omega)]; exact a2, by rw [e 3 (by omega)]; exact a3, by rw [e 4 (by omega)]; exact a4, by rw [e 5 (by omega)]; exact a5, by rw [e 6 (by omega)]; exact a6, by rw [e 7 (by omega)]; exact a7, fun k hk => ?_, fun k hk => ?_⟩
  · rw [e _ (by omega)]; exact a8 k hk
  · by_cases c : k = n
    · subst c; rw [show sup σ (44 + k) v (44 + k) = v from if_pos rfl]; exact ⟨h0, h1⟩
    · rw [show sup σ (44 + n) v (44 + k) = σ (44 + k) from if_neg (by omega)]; exact a9 k hk
/-- marks alone are changed, to marks -/
theorem scok_mks {σ τ : Sg} (h : scok σ) (h1 : ∀ i, i < 44 → τ i = σ i) (h2 : ∀ k, k < 36 → 0 ≤ τ (44 + k) ∧ τ (44 + k) ≤ 2) : scok τ := by
  obtain ⟨a0, a1, a2, a3, a4, a5, a6, a7, a8, a9⟩ := h
  exact ⟨by rw [h1 0 (by omega)]; exact a0, by rw [h1 1 (by omega)]; exact a1, by rw [h1 2 (by omega)]; exact a2, by rw [h1 3 (by omega)]; exact a3, by rw [h1 4 (by omega)]; exact a4, by rw [h1 5 (by omega)]; exact a5, by rw [h1 6 (by omega)]; exact a6, by rw [h1 7 (by omega)]; exact a7, fun k hk => by rw [h1 _ (by omega)]; exact a8 k hk, h2⟩
theorem scok_sfG {σ : Sg} (h : scok σ) (p : Nat → Bool) (v : Sg) (n : Nat) (hv : ∀ i, 0 ≤ v i ∧ v i ≤ 2) : scok (sfG σ p v n) := by
  refine scok_mks h (fun i hi => ?_) (fun k hk => ?_)
  · exact if_neg (by omega)
  · unfold sfG
    split
    · exact hv _
    · exact h.2.2.2.2.2.2.2.2.2 k hk
theorem scok_sfA {σ : Sg} (h : scok σ) (x : Int64) {m : Int} (n : Nat) (h0 : 0 ≤ m) (h1 : m ≤ 2) : scok (sfA σ x m n) := scok_sfG h _ _ _ (fun _ => ⟨h0, h1⟩)
theorem scok_sfR {σ : Sg} (h : scok σ) (x : Int64) (n : Nat) : scok (sfR σ x n) := scok_sfG h _ _ _ (fun i => by show 0 ≤ (if tb x (i - 44) = true then (1 : Int) else 2) ∧ (if tb x (i - 44) = true then (1 : Int) else 2) ≤ 2; split <;> omega)
theorem scok_sfS {σ : Sg} (h : scok σ) (n : Nat) : scok (sfS σ n) := scok_sfG h _ _ _ (fun i => by show 0 ≤ (if σ i = 1 then (2 : Int) else 1) ∧ (if σ i = 1 then (2 : Int) else 1) ≤ 2; split <;> omega)
theorem scok_turn {σ : Sg} (h : scok σ) (n : Nat) : scok (sup (sup (sfS σ n) (2 + 3) (σ 6)) (2 + 4) (σ 5)) := by
  have h6 := h.2.2.2.2.2.2.1
  have h5 := h.2.2.2.2.2.1
  exact scok_tone (scok_tone (scok_sfS h n) (Or.inl rfl) h6.1 h6.2) (Or.inr rfl) h5.1 h5.2
theorem scok_sbl {σ : Sg} (h : scok σ) {x y : Int} (hx : 2 ≤ x ∧ x ≤ 6) (hy : 2 ≤ y ∧ y ≤ 6) : scok (sbl σ x y 36) := by
  obtain ⟨a0, a1, a2, a3, a4, a5, a6, a7, a8, a9⟩ := h
  refine ⟨hx, hy, a2, a3, a4, a5, a6, a7, fun k hk => ?_, fun k hk => ?_⟩
  · have : sbl σ x y 36 (8 + k) = 0 := by unfold sbl; rw [if_neg (by omega), if_neg (by omega), if_neg (by omega), if_pos (Or.inl ⟨by omega, by omega⟩)]
    rw [this]; omega
  · have : sbl σ x y 36 (44 + k) = 0 := by unfold sbl; rw [if_neg (by omega), if_neg (by omega), if_neg (by omega), if_pos (Or.inr ⟨by omega, by omega⟩)]
    rw [this]; omega
theorem scok_sfH {σ : Sg} (h : scok σ) (p : Nat → Bool) {v : Int} (n : Nat) (h0 : 0 ≤ v) (h1 : v ≤ 9) (hn : n ≤ 36) : scok (sfH σ p v n) := by
  obtain ⟨a0, a1, a2, a3, a4, a5, a6, a7, a8, a9⟩ := h
  have e : ∀ i, i < 8 ∨ 44 ≤ i → sfH σ p v n i = σ i := fun i hi => if_neg (by omega)
  refine ⟨by rw [e 0 (by omega)]; exact a0, by rw [e 1 (by omega)]; exact a1, by rw [e 2 (by omega)]; exact a2, by rw [e 3 (by omega)]; exact a3, by rw [e 4 (by omega)]; exact a4, by rw [e 5 (by omega)]; exact a5, by rw [e 6 (by omega)]; exact a6, by rw [e 7 (by omega)]; exact a7, fun k hk => ?_, fun k hk => ?_⟩
  · unfold sfH
    split
    · exact ⟨h0, h1⟩
    · exact a8 k hk
  · rw [e _ (by omega)]; exact a9 k hk
/-! answers that go over all sets -/
def isLo (σ : Sg) (x : Int64) : Prop := ∀ k, tb x k = true ↔ k < sdots σ ∧ ∀ T, best σ T → T k = true
def isHi (σ : Sg) (x : Int64) : Prop := ∀ k, tb x k = true ↔ k < sdots σ ∧ ∃ T, best σ T ∧ T k = true
theorem tb_uniq {x y : Int64} {P : Nat → Prop} (h : ∀ k, tb x k = true ↔ P k) (g : ∀ k, tb y k = true ↔ P k) : x = y :=
  tb_ext (fun k _ => by
    have := (h k).trans (g k).symm
    cases c1 : tb x k <;> cases c2 : tb y k <;> simp [c1, c2] at this ⊢)
noncomputable def lcV (σ : Sg) : Int := Classical.epsilon (mn σ)
noncomputable def loS (σ : Sg) : Int64 := Classical.epsilon (isLo σ)
noncomputable def hiS (σ : Sg) : Int64 := Classical.epsilon (isHi σ)
theorem lcV_eq {σ : Sg} {m : Int} (h : mn σ m) : m = lcV σ := mn_uniq h (Classical.epsilon_spec ⟨m, h⟩)
theorem loS_eq {σ : Sg} {x : Int64} (h : isLo σ x) : x = loS σ := tb_uniq h (Classical.epsilon_spec (p := isLo σ) ⟨x, h⟩)
theorem hiS_eq {σ : Sg} {x : Int64} (h : isHi σ x) : x = hiS σ := tb_uniq h (Classical.epsilon_spec (p := isHi σ) ⟨x, h⟩)
theorem SV.lc {σ : Sg} (hv : scok σ) {f : Int} {Ω : Mem} (h : SV σ f Ω) : f = lcV σ := lcV_eq (h.mn hv).1
theorem SV.lo {σ : Sg} (hv : scok σ) {f : Int} {Ω : Mem} (h : SV σ f Ω) {x : Int64} (h1 : ∀ k, tb x k = true → k < sdots σ) (h2 : Best σ f (tb x)) (h3 : ∀ T, Best σ f T → ∀ k, tb x k = true → T k = true) : x = loS σ :=
  loS_eq (fun k => ⟨fun hk => ⟨h1 k hk, fun T hT => h3 T (((h.mn hv).2 T).mpr hT) k hk⟩, fun hk => hk.2 _ (((h.mn hv).2 _).mp h2)⟩)
theorem SV.hi {σ : Sg} (hv : scok σ) {f : Int} {Ω : Mem} (h : SV σ f Ω) {x : Int64} (h1 : ∀ k, tb x k = true → k < sdots σ) (h2 : Best σ f (tb x)) (h3 : ∀ T, Best σ f T → ∀ k, k < sdots σ → T k = true → tb x k = true) : x = hiS σ :=
  hiS_eq (fun k => ⟨fun hk => ⟨h1 k hk, _, ((h.mn hv).2 _).mp h2, hk⟩, fun hk => by
    obtain ⟨T, hT, ht⟩ := hk.2
    exact h3 T (((h.mn hv).2 T).mpr hT) k hk.1 ht⟩)
