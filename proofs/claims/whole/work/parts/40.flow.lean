/-! ===== flows: the room that is left, what a sending does ===== -/
theorem sm_one {f f1 : Nat → Int} {k : Nat} : ∀ {n : Nat}, k < n → (∀ i, i < n → i ≠ k → f1 i = f i) → sm f1 n = sm f n + (f1 k - f k)
  | 0, h, _ => absurd h (Nat.not_lt_zero k)
  | n + 1, h, hf => by
    rw [sm_s, sm_s]
    by_cases e : k = n
    · subst e
      rw [sm_cong (fun i hi => hf i (by omega) (by omega))]
      omega
    · rw [sm_one (n := n) (by omega) (fun i hi hk => hf i (by omega) hk), hf n (by omega) (fun q => e q.symm)]
      omega
theorem sm_nn {f : Nat → Int} : ∀ {n : Nat}, (∀ k, k < n → 0 ≤ f k) → 0 ≤ sm f n
  | 0, _ => Int.le_refl 0
  | n + 1, h => by
    have := sm_nn (n := n) (fun k hk => h k (by omega))
    have := h n (by omega)
    rw [sm_s]; omega
theorem sm_z {f : Nat → Int} : ∀ {n : Nat}, (∀ k, k < n → f k = 0) → sm f n = 0
  | 0, _ => rfl
  | n + 1, h => by rw [sm_s, sm_z (fun k hk => h k (by omega)), h n (by omega)]; rfl
theorem sm_z_inv {f : Nat → Int} : ∀ {n : Nat}, (∀ k, k < n → 0 ≤ f k) → sm f n = 0 → ∀ k, k < n → f k = 0
  | 0, _, _, k, hk => absurd hk (Nat.not_lt_zero k)
  | n + 1, h, hz, k, hk => by
    rw [sm_s] at hz
    have h1 := sm_nn (n := n) (fun k hk => h k (by omega))
    have h2 := h n (by omega)
    by_cases e : k = n
    · subst e; omega
    · exact sm_z_inv (n := n) (fun k hk => h k (by omega)) (by omega) k (by omega)
theorem fup_s (f : Nat → Int) (k : Nat) (v : Int) : fup f k v k = v := by simp [fup]
theorem fup_n (f : Nat → Int) {k j : Nat} (v : Int) (h : j ≠ k) : fup f k v j = f j := by simp [fup, h]
def rv (j : Nat) : Nat := if j < 4 then j + 4 else j - 4
theorem rv_lt {j : Nat} (h : j < 8) : rv j < 8 := by unfold rv; split <;> omega
theorem rv_rv {j : Nat} (h : j < 8) : rv (rv j) = j := by
  unfold rv
  by_cases c : j < 4
  · rw [if_pos c, if_neg (by omega)]; omega
  · rw [if_neg c, if_pos (by omega)]; omega
theorem e_div {v j : Nat} (h : j < 8) : (v * 8 + j) / 8 = v ∧ (v * 8 + j) % 8 = j := by omega
def rve (nb : Nat → Int) (e : Nat) : Nat := (nb e).toNat * 8 + rv (e % 8)
/-- links lead there and back -/
def grph (N : Nat) (nb : Nat → Int) : Prop := ∀ e, e < 8 * N → nb e = -1 ∨ (0 ≤ nb e ∧ nb e < N ∧ nb (rve nb e) = ((e / 8 : Nat) : Int) ∧ (nb e).toNat ≠ e / 8)
theorem grph.at {N : Nat} {nb : Nat → Int} (h : grph N nb) {e : Nat} (he : e < 8 * N) (h0 : 0 ≤ nb e) : (nb e).toNat < N ∧ rve nb e < 8 * N ∧ nb (rve nb e) = ((e / 8 : Nat) : Int) ∧ (nb e).toNat ≠ e / 8 ∧ rve nb (rve nb e) = e ∧ rve nb e ≠ e ∧ rve nb e / 8 = (nb e).toNat := by
  rcases h e he with q | ⟨a, b, c, d⟩
  · omega
  · have h1 : (nb e).toNat < N := by omega
    have h2 := rv_lt (show e % 8 < 8 by omega)
    have h3 : rve nb e / 8 = (nb e).toNat ∧ rve nb e % 8 = rv (e % 8) := by unfold rve; exact e_div h2
    refine ⟨h1, by unfold rve; omega, c, d, ?_, ?_, h3.1⟩
    · rw [rve, c, Int.toNat_natCast, h3.2, rv_rv (by omega)]; omega
    · intro q
      rw [q] at h3
      exact d h3.1.symm
/-- what a set would cost yet -/
def rc (N : Nat) (nb F G R : Nat → Int) (S : Nat → Bool) : Int := sm (fun v => if S v = true then G v else F v) N + sm (fun e => if 0 ≤ nb e ∧ S (e / 8) = true ∧ S (nb e).toNat = false then R e else 0) (8 * N)
theorem rc_nn {N : Nat} {nb F G R : Nat → Int} (hF : ∀ v, v < N → 0 ≤ F v) (hG : ∀ v, v < N → 0 ≤ G v) (hR : ∀ e, e < 8 * N → 0 ≤ nb e → 0 ≤ R e) (S : Nat → Bool) : 0 ≤ rc N nb F G R S := by
  unfold rc
  have h1 := sm_nn (f := fun v => if S v = true then G v else F v) (n := N) (fun k hk => by
    by_cases c : S k = true
    · simp only [c, if_true]; exact hG k hk
    · simp only [c]; exact hF k hk)
  have h2 := sm_nn (f := fun e => if 0 ≤ nb e ∧ S (e / 8) = true ∧ S (nb e).toNat = false then R e else 0) (n := 8 * N) (fun e he => by
    by_cases c : 0 ≤ nb e ∧ S (e / 8) = true ∧ S (nb e).toNat = false
    · simp only [c, and_self, if_true]; exact hR e he c.1
    · simp only [c, if_false]; omega)
  omega
theorem rc_G {N : Nat} {nb F G R : Nat → Int} {v : Nat} (hv : v < N) (x : Int) (S : Nat → Bool) : rc N nb F (fup G v x) R S = rc N nb F G R S + (if S v = true then x - G v else 0) := by
  unfold rc
  rw [sm_one (f := fun v => if S v = true then G v else F v) hv (fun i _ hi => by simp only [fup_n _ _ hi])]
  simp only [fup_s]
  by_cases c : S v = true
  · simp only [c, if_true]; omega
  · simp only [c]; simp
theorem rc_F {N : Nat} {nb F G R : Nat → Int} {v : Nat} (hv : v < N) (x : Int) (S : Nat → Bool) : rc N nb (fup F v x) G R S = rc N nb F G R S + (if S v = true then 0 else x - F v) := by
  unfold rc
  rw [sm_one (f := fun v => if S v = true then G v else F v) hv (fun i _ hi => by simp only [fup_n _ _ hi])]
  simp only [fup_s]
  by_cases c : S v = true
  · simp only [c, if_true]; omega
  · simp only [c]; simp; omega
theorem rc_R {N : Nat} {nb F G R : Nat → Int} {e : Nat} (he : e < 8 * N) (h0 : 0 ≤ nb e) (x : Int) (S : Nat → Bool) : rc N nb F G (fup R e x) S = rc N nb F G R S + (if S (e / 8) = true ∧ S (nb e).toNat = false then x - R e else 0) := by
  unfold rc
  rw [sm_one (f := fun e => if 0 ≤ nb e ∧ S (e / 8) = true ∧ S (nb e).toNat = false then R e else 0) he (fun i _ hi => by simp only [fup_n _ _ hi])]
  simp only [fup_s, h0, true_and]
  by_cases c : S (e / 8) = true ∧ S (nb e).toNat = false
  · simp only [c, and_self, if_true]; omega
  · simp only [c, if_false]; omega
/-- to the ground, room, distances -/
abbrev Fl : Type := (Nat → Int) × (Nat → Int) × (Nat → Int)
def PI (N : Nat) (nb L : Nat → Int) (t : Fl) : Prop :=
  (∀ v, v < N → t.2.2 v = L v ∨ t.2.2 v = 0) ∧
  (∀ v, v < N → 0 ≤ t.1 v) ∧
  (∀ e, e < 8 * N → 0 ≤ nb e → 0 ≤ t.2.1 e ∧ t.2.1 e + t.2.1 (rve nb e) ≤ 200) ∧
  (∀ v, v < N → 0 < L v → t.2.2 v = 0 → (L v = 1 → t.1 v = 0) ∧ ∀ j, j < 8 → 0 ≤ nb (v * 8 + j) → 0 < t.2.1 (v * 8 + j) → L (nb (v * 8 + j)).toNat = L v - 1 → 0 < L (nb (v * 8 + j)).toNat → t.2.2 (nb (v * 8 + j)).toNat = 0) ∧
  (∀ v, v < N → ∀ j, j < 8 → 0 ≤ nb (v * 8 + j) → 0 < t.2.1 (v * 8 + j) → 0 < L (nb (v * 8 + j)).toNat → 0 < L v ∧ L v ≤ L (nb (v * 8 + j)).toNat + 1) ∧
  (∀ v, v < N → 0 < t.1 v → L v = 1)
def SP (N : Nat) (nb L F : Nat → Int) (v : Nat) (s : Int) (t t1 : Fl) : Prop :=
  0 ≤ s ∧
  (∀ u, u < N → t1.2.2 u = t.2.2 u ∨ t1.2.2 u = 0) ∧
  (∀ u, u < N → L v < L u → t1.2.2 u = t.2.2 u) ∧
  (∀ e, e < 8 * N → 0 ≤ nb e → t1.2.1 e = t.2.1 e ∨ (L (e / 8) ≤ L v ∧ L (nb e).toNat = L (e / 8) - 1 ∧ t1.2.1 e ≤ t.2.1 e) ∨ (L (nb e).toNat ≤ L v ∧ L (e / 8) = L (nb e).toNat - 1)) ∧
  (∀ e, e < 8 * N → 0 ≤ nb e → t1.2.1 e + t1.2.1 (rve nb e) = t.2.1 e + t.2.1 (rve nb e)) ∧
  (∀ u, u < N → t1.1 u ≤ t.1 u) ∧
  (s = 0 → (∀ u, u < N → t1.1 u = t.1 u) ∧ ∀ e, e < 8 * N → 0 ≤ nb e → t1.2.1 e = t.2.1 e) ∧
  (∀ S : Nat → Bool, rc N nb F t1.1 t1.2.1 S = rc N nb F t.1 t.2.1 S - (if S v = true then s else 0))
theorem SP.refl (N : Nat) (nb L F : Nat → Int) (v : Nat) (t : Fl) : SP N nb L F v 0 t t :=
  ⟨Int.le_refl 0, fun _ _ => Or.inl rfl, fun _ _ _ => rfl, fun _ _ _ => Or.inl rfl, fun _ _ _ => rfl, fun _ _ => Int.le_refl _, fun _ => ⟨fun _ _ => rfl, fun _ _ _ => rfl⟩, fun S => by split <;> omega⟩
theorem SP.trans {N : Nat} {nb L F : Nat → Int} {v : Nat} {a b : Int} {t t1 t2 : Fl} (h : SP N nb L F v a t t1) (g : SP N nb L F v b t1 t2) : SP N nb L F v (a + b) t t2 := by
  obtain ⟨h0, h1, h2, h3, h4, h5, h6, h7⟩ := h
  obtain ⟨g0, g1, g2, g3, g4, g5, g6, g7⟩ := g
  refine ⟨by omega, fun u hu => ?_, fun u hu hL => (g2 u hu hL).trans (h2 u hu hL), fun e he hn => ?_, fun e he hn => (g4 e he hn).trans (h4 e he hn), fun u hu => Int.le_trans (g5 u hu) (h5 u hu), fun hz => ?_, fun S => ?_⟩
  · rcases g1 u hu with q | q
    · rw [q]; exact h1 u hu
    · exact Or.inr q
  · rcases g3 e he hn with q | ⟨q1, q2, q3⟩ | q
    · rw [q]; exact h3 e he hn
    · rcases h3 e he hn with p | ⟨p1, p2, p3⟩ | p
      · exact Or.inr (Or.inl ⟨q1, q2, by omega⟩)
      · exact Or.inr (Or.inl ⟨q1, q2, by omega⟩)
      · omega
    · exact Or.inr (Or.inr q)
  · obtain ⟨p1, p2⟩ := h6 (by omega)
    obtain ⟨q1, q2⟩ := g6 (by omega)
    exact ⟨fun u hu => (q1 u hu).trans (p1 u hu), fun e he hn => (q2 e he hn).trans (p2 e he hn)⟩
  · rw [g7, h7]; split <;> omega
/-- into the ground, from a dot that is there -/
theorem SP.ground {N : Nat} {nb L F : Nat → Int} {v : Nat} {s : Int} {t : Fl} (hP : PI N nb L t) (hv : v < N) (hL : L v = 1) (hD : t.2.2 v = L v) (h0 : 0 ≤ s) (h1 : s ≤ t.1 v) : PI N nb L (fup t.1 v (t.1 v - s), t.2.1, t.2.2) ∧ SP N nb L F v s t (fup t.1 v (t.1 v - s), t.2.1, t.2.2) := by
  obtain ⟨a1, a2, a3, a4, a5, a6⟩ := hP
  have hle : ∀ u, u < N → fup t.1 v (t.1 v - s) u ≤ t.1 u := fun u hu => by
    by_cases e : u = v
    · subst e; rw [fup_s]; omega
    · rw [fup_n _ _ e]; omega
  refine ⟨⟨a1, fun u hu => ?_, a3, fun u hu hl hd => ⟨fun h1 => ?_, (a4 u hu hl hd).2⟩, a5, fun u hu hg => a6 u hu (Int.lt_of_lt_of_le hg (hle u hu))⟩, h0, fun _ _ => Or.inl rfl, fun _ _ _ => rfl, fun _ _ _ => Or.inl rfl, fun _ _ _ => rfl, hle, fun hz => ⟨fun u hu => ?_, fun _ _ _ => rfl⟩, fun S => ?_⟩
  · show 0 ≤ fup t.1 v (t.1 v - s) u
    by_cases e : u = v
    · subst e; rw [fup_s]; omega
    · rw [fup_n _ _ e]; exact a2 u hu
  · show fup t.1 v (t.1 v - s) u = 0
    by_cases e : u = v
    · subst e
      have hd' : t.2.2 u = 0 := hd
      omega
    · rw [fup_n _ _ e]; exact (a4 u hu hl hd).1 h1
  · show fup t.1 v (t.1 v - s) u = t.1 u
    by_cases e : u = v
    · subst e; rw [fup_s]; omega
    · rw [fup_n _ _ e]
  · show rc N nb F (fup t.1 v (t.1 v - s)) t.2.1 S = _
    rw [rc_G hv]; split <;> omega
/-- over a link, what the next dot could send -/
theorem SP.edge {N : Nat} {nb L F : Nat → Int} {v j u : Nat} {m : Int} {t t1 : Fl} (hg : grph N nb) (hv : v < N) (hj : j < 8) (hu : nb (v * 8 + j) = (u : Int)) (hL : L u = L v - 1) (hLu : 0 < L u) (hD : t.2.2 v = L v) (hm : m ≤ t.2.1 (v * 8 + j)) (hP : PI N nb L t1) (hS : SP N nb L F u m t t1) :
    PI N nb L (t1.1, fup (fup t1.2.1 (v * 8 + j) (t1.2.1 (v * 8 + j) - m)) (u * 8 + rv j) (t1.2.1 (u * 8 + rv j) + m), t1.2.2) ∧ SP N nb L F v m t (t1.1, fup (fup t1.2.1 (v * 8 + j) (t1.2.1 (v * 8 + j) - m)) (u * 8 + rv j) (t1.2.1 (u * 8 + rv j) + m), t1.2.2) ∧ t1.2.2 v = L v ∧ t1.2.1 (v * 8 + j) = t.2.1 (v * 8 + j) ∧ u * 8 + rv j ≠ v * 8 + j ∧ u < N ∧ t1.2.1 (u * 8 + rv j) = t.2.1 (u * 8 + rv j) := by
  obtain ⟨s0, s1, s2, s3, s4, s5, s6, s7⟩ := hS
  obtain ⟨a1, a2, a3, a4, a5, a6⟩ := hP
  have hde := e_div (v := v) hj
  have he : v * 8 + j < 8 * N := by omega
  have hn : 0 ≤ nb (v * 8 + j) := by omega
  obtain ⟨g1, g2, g3, g4, g5, g6, g7⟩ := hg.at he hn
  have hrve : rve nb (v * 8 + j) = u * 8 + rv j := by unfold rve; rw [hu, Int.toNat_natCast, hde.2]
  have hut : (nb (v * 8 + j)).toNat = u := by omega
  rw [hut] at g1 g4 g7
  rw [hde.1] at g3 g4
  rw [hrve] at g2 g3 g5 g6 g7
  have hvt : (nb (u * 8 + rv j)).toNat = v := by rw [g3]; rfl
  have hn2 : 0 ≤ nb (u * 8 + rv j) := by omega
  -- the two places are untouched by the next dot's sending
  have r1 : t1.2.1 (v * 8 + j) = t.2.1 (v * 8 + j) := by
    rcases s3 _ he hn with q | ⟨q, -⟩ | ⟨q, q2⟩
    · exact q
    · rw [hde.1] at q; omega
    · rw [hde.1, hut] at q2; omega
  have r2 : t1.2.1 (u * 8 + rv j) = t.2.1 (u * 8 + rv j) := by
    rcases s3 _ g2 hn2 with q | ⟨q, q2, -⟩ | ⟨q, -⟩
    · exact q
    · rw [g7, hvt] at q2; omega
    · rw [hvt] at q; omega
  have hd1 : t1.2.2 v = L v := (s2 v hv (by omega)).trans hD
  generalize hR : fup (fup t1.2.1 (v * 8 + j) (t1.2.1 (v * 8 + j) - m)) (u * 8 + rv j) (t1.2.1 (u * 8 + rv j) + m) = R2
  have b1 : R2 (v * 8 + j) = t1.2.1 (v * 8 + j) - m := by rw [← hR, fup_n _ _ (Ne.symm g6), fup_s]
  have b2 : R2 (u * 8 + rv j) = t1.2.1 (u * 8 + rv j) + m := by rw [← hR, fup_s]
  have b3 : ∀ e, e ≠ v * 8 + j → e ≠ u * 8 + rv j → R2 e = t1.2.1 e := fun e x y => by rw [← hR, fup_n _ _ y, fup_n _ _ x]
  have hsum : ∀ e, e < 8 * N → 0 ≤ nb e → R2 e + R2 (rve nb e) = t1.2.1 e + t1.2.1 (rve nb e) := by
    intro e he' hn'
    obtain ⟨k1, k2, k3, k4, k5, k6, k7⟩ := hg.at he' hn'
    by_cases e1 : e = v * 8 + j
    · subst e1; rw [hrve, b1, b2]; omega
    · by_cases e2 : e = u * 8 + rv j
      · subst e2; rw [g5, b1, b2]; omega
      · have e3 : rve nb e ≠ v * 8 + j := fun q => e2 (by rw [← k5, q, hrve])
        have e4 : rve nb e ≠ u * 8 + rv j := fun q => e1 (by rw [← k5, q, g5])
        rw [b3 e e1 e2, b3 _ e3 e4]
  refine ⟨⟨a1, a2, fun e he' hn' => ⟨?_, ?_⟩, fun x hx hlx hdx => ⟨(a4 x hx hlx hdx).1, fun i hi hni hr hl hlp => ?_⟩, fun x hx i hi hni hr hlp => ?_, a6⟩, ⟨s0, s1, fun x hx hlx => s2 x hx (by omega), fun e he' hn' => ?_, fun e he' hn' => (hsum e he' hn').trans (s4 e he' hn'), s5, fun hz => ?_, fun S => ?_⟩, hd1, r1, g6, g1, r2⟩
  · show 0 ≤ R2 e
    by_cases e1 : e = v * 8 + j
    · subst e1; rw [b1]; omega
    · by_cases e2 : e = u * 8 + rv j
      · subst e2; rw [b2]; have := (a3 _ g2 hn2).1; omega
      · rw [b3 e e1 e2]; exact (a3 e he' hn').1
  · show R2 e + R2 (rve nb e) ≤ 200
    rw [hsum e he' hn']; exact (a3 e he' hn').2
  · have hr' : 0 < R2 (x * 8 + i) := hr
    have hdx' : t1.2.2 x = 0 := hdx
    have hdi := e_div (v := x) hi
    by_cases e1 : x * 8 + i = v * 8 + j
    · have : x = v := by omega
      subst this; omega
    · by_cases e2 : x * 8 + i = u * 8 + rv j
      · have hj8 := rv_lt hj
        have : x = u := by omega
        subst this
        rw [e2, hvt] at hl
        omega
      · rw [b3 _ e1 e2] at hr'
        exact (a4 x hx hlx hdx).2 i hi hni hr' hl hlp
  · have hr' : 0 < R2 (x * 8 + i) := hr
    by_cases e2 : x * 8 + i = u * 8 + rv j
    · have hj8 := rv_lt hj
      have : x = u := by omega
      subst this
      rw [e2, hvt]
      omega
    · have h9 : 0 < t1.2.1 (x * 8 + i) := by
        by_cases e1 : x * 8 + i = v * 8 + j
        · rw [e1, b1] at hr'; rw [e1]; omega
        · rw [b3 _ e1 e2] at hr'; exact hr'
      exact a5 x hx i hi hni h9 hlp
  · show R2 e = t.2.1 e ∨ (L (e / 8) ≤ L v ∧ L (nb e).toNat = L (e / 8) - 1 ∧ R2 e ≤ t.2.1 e) ∨ (L (nb e).toNat ≤ L v ∧ L (e / 8) = L (nb e).toNat - 1)
    by_cases e1 : e = v * 8 + j
    · subst e1
      right; left
      rw [hde.1, hut, b1]
      omega
    · by_cases e2 : e = u * 8 + rv j
      · subst e2
        right; right
        rw [hvt, g7]
        omega
      · rw [b3 e e1 e2]
        rcases s3 e he' hn' with q | ⟨q1, q2, q3⟩ | ⟨q1, q2⟩
        · exact Or.inl q
        · exact Or.inr (Or.inl ⟨by omega, q2, q3⟩)
        · exact Or.inr (Or.inr ⟨by omega, q2⟩)
  · obtain ⟨p1, p2⟩ := s6 hz
    refine ⟨p1, fun e he' hn' => ?_⟩
    show R2 e = t.2.1 e
    by_cases e1 : e = v * 8 + j
    · subst e1; rw [b1]; omega
    · by_cases e2 : e = u * 8 + rv j
      · subst e2; rw [b2]; omega
      · rw [b3 e e1 e2]; exact p2 e he' hn'
  · show rc N nb F t1.1 R2 S = _
    rw [← hR, rc_R g2 hn2, rc_R he hn, fup_n _ _ g6, s7, hde.1, hut, g7, hvt]
    cases c1 : S v <;> cases c2 : S u <;> simp <;> omega
/-- nothing more goes through a dot -/
theorem SP.dead {N : Nat} {nb L F : Nat → Int} {v : Nat} {t : Fl} (hP : PI N nb L t) (hv : v < N) (h1 : L v = 1 → t.1 v = 0) (h2 : ∀ j, j < 8 → 0 ≤ nb (v * 8 + j) → 0 < t.2.1 (v * 8 + j) → L (nb (v * 8 + j)).toNat = L v - 1 → 0 < L (nb (v * 8 + j)).toNat → t.2.2 (nb (v * 8 + j)).toNat = 0) : PI N nb L (t.1, t.2.1, fup t.2.2 v 0) ∧ SP N nb L F v 0 t (t.1, t.2.1, fup t.2.2 v 0) := by
  obtain ⟨a1, a2, a3, a4, a5, a6⟩ := hP
  have z0 : ∀ u, t.2.2 u = 0 → fup t.2.2 v 0 u = 0 := fun u hu => by
    by_cases e : u = v
    · subst e; exact fup_s _ _ _
    · rw [fup_n _ _ e]; exact hu
  refine ⟨⟨fun u hu => ?_, a2, a3, fun u hu hl hd => ?_, a5, a6⟩, Int.le_refl 0, fun u hu => ?_, fun u hu hl => ?_, fun _ _ _ => Or.inl rfl, fun _ _ _ => rfl, fun _ _ => Int.le_refl _, fun _ => ⟨fun _ _ => rfl, fun _ _ _ => rfl⟩, fun S => by show rc N nb F t.1 t.2.1 S = rc N nb F t.1 t.2.1 S - _; split <;> omega⟩
  · show fup t.2.2 v 0 u = L u ∨ fup t.2.2 v 0 u = 0
    by_cases e : u = v
    · subst e; exact Or.inr (fup_s _ _ _)
    · rw [fup_n _ _ e]; exact a1 u hu
  · by_cases e : u = v
    · subst e
      exact ⟨h1, fun j hj x1 x2 x3 x4 => z0 _ (h2 j hj x1 x2 x3 x4)⟩
    · have hd' : fup t.2.2 v 0 u = 0 := hd
      rw [fup_n _ _ e] at hd'
      exact ⟨(a4 u hu hl hd').1, fun j hj x1 x2 x3 x4 => z0 _ ((a4 u hu hl hd').2 j hj x1 x2 x3 x4)⟩
  · show fup t.2.2 v 0 u = t.2.2 u ∨ fup t.2.2 v 0 u = 0
    by_cases e : u = v
    · subst e; exact Or.inr (fup_s _ _ _)
    · rw [fup_n _ _ e]; exact Or.inl rfl
  · show fup t.2.2 v 0 u = t.2.2 u
    by_cases e : u = v
    · subst e; omega
    · rw [fup_n _ _ e]
