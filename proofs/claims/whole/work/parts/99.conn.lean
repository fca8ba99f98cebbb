/-! ===== dots side by side; pieces ===== -/
theorem lk_eq01 {σ : Sg} (h : scok σ) {v : Nat} (hv : v < sdots σ) :
    (lk σ v 0 = if v % sw σ + 1 < sw σ then ((v + 1 : Nat) : Int) else -1) ∧
    (lk σ v 1 = if v + sw σ < sdots σ then ((v + sw σ : Nat) : Int) else -1) := by
  obtain ⟨h1, h2, h3⟩ := dot_xy h hv
  have hW := sw_eq h
  have hH := sh_eq h
  have hM := sdots_mul h
  generalize hx : v % sw σ = x at *
  generalize hy : v / sw σ = y at *
  have hlt : v + sw σ < sdots σ ↔ y + 1 < sh σ := by
    have e1 : sw σ * (y + 1) = sw σ * y + sw σ := Nat.mul_succ _ _
    constructor
    · intro q
      by_cases c : y + 1 < sh σ
      · exact c
      · have := Nat.mul_le_mul_left (sw σ) (show sh σ ≤ y + 1 by omega)
        omega
    · intro q
      have e2 : sw σ * (y + 2) = sw σ * y + sw σ + sw σ := by rw [show y + 2 = (y + 1) + 1 from rfl, Nat.mul_succ, Nat.mul_succ]
      have := Nat.mul_le_mul_left (sw σ) (show y + 2 ≤ sh σ by omega)
      omega
  have hxy := sw_num h x y
  rw [h3] at hxy
  have hm : σ 0 * ((y : Int) + 1) = σ 0 * (y : Int) + σ 0 := by rw [Int.mul_add, Int.mul_one]
  have l0 : lkX 0 = 1 ∧ lkY 0 = 0 := ⟨rfl, rfl⟩
  have l1 : lkX 1 = 0 ∧ lkY 1 = 1 := ⟨rfl, rfl⟩
  unfold lk sLk
  rw [hx, hy, l0.1, l0.2, l1.1, l1.2]
  refine ⟨?_, ?_⟩
  · rw [if_neg (by omega)]
    by_cases c : x + 1 < sw σ
    · rw [if_pos (by omega), if_pos c, Int.add_zero]; omega
    · rw [if_neg (by omega), if_neg c]
  · rw [if_neg (by omega)]
    by_cases c : y + 1 < sh σ
    · rw [if_pos (by omega), if_pos (by omega), hm]; omega
    · rw [if_neg (by omega), if_neg (by omega)]
def adj (σ : Sg) (u v : Nat) : Prop := u < sdots σ ∧ v < sdots σ ∧ ((u % sw σ + 1 < sw σ ∧ v = u + 1) ∨ v = u + sw σ ∨ (v % sw σ + 1 < sw σ ∧ u = v + 1) ∨ u = v + sw σ)
theorem adj_symm {σ : Sg} {u v : Nat} (h : adj σ u v) : adj σ v u := by
  obtain ⟨h1, h2, h3⟩ := h
  refine ⟨h2, h1, ?_⟩
  rcases h3 with q | q | q | q
  · exact Or.inr (Or.inr (Or.inl q))
  · exact Or.inr (Or.inr (Or.inr q))
  · exact Or.inl q
  · exact Or.inr (Or.inl q)
theorem adj_lk {σ : Sg} (h : scok σ) {u v : Nat} (hu : u < sdots σ) (hv : v < sdots σ) {d : Nat} (hd : d < 2) (e : lk σ u d = (v : Int)) : adj σ u v := by
  obtain ⟨e0, e1⟩ := lk_eq01 h hu
  refine ⟨hu, hv, ?_⟩
  obtain rfl | rfl : d = 0 ∨ d = 1 := by omega
  · rw [e0] at e
    by_cases c : u % sw σ + 1 < sw σ
    · rw [if_pos c] at e; exact Or.inl ⟨c, by omega⟩
    · rw [if_neg c] at e; omega
  · rw [e1] at e
    by_cases c : u + sw σ < sdots σ
    · rw [if_pos c] at e; exact Or.inr (Or.inl (by omega))
    · rw [if_neg c] at e; omega
theorem lk_adj {σ : Sg} (h : scok σ) {u v : Nat} (a : adj σ u v) : (∃ d, d < 2 ∧ lk σ u d = (v : Int)) ∨ ∃ d, d < 2 ∧ lk σ v d = (u : Int) := by
  obtain ⟨hu, hv, q⟩ := a
  obtain ⟨e0, e1⟩ := lk_eq01 h hu
  obtain ⟨f0, f1⟩ := lk_eq01 h hv
  rcases q with ⟨c, q⟩ | q | ⟨c, q⟩ | q
  · exact Or.inl ⟨0, by omega, by rw [e0, if_pos c, q]⟩
  · exact Or.inl ⟨1, by omega, by rw [e1, if_pos (by omega), q]⟩
  · exact Or.inr ⟨0, by omega, by rw [f0, if_pos c, q]⟩
  · exact Or.inr ⟨1, by omega, by rw [f1, if_pos (by omega), q]⟩
theorem colS_tb {σ : Sg} (h : scok σ) {x : Nat} (hx : x < sw σ) (v : Nat) : tb (colS σ x) v = true ↔ v < sdots σ ∧ v % sw σ = x := by
  have hM := sdots_mul h
  have hN := sdots_le h
  have hb : ∀ y, y < sh σ → sw σ * y + x < sdots σ := fun y hy => by
    have := Nat.mul_le_mul_left (sw σ) (show y + 1 ≤ sh σ by omega)
    rw [Nat.mul_succ] at this
    omega
  unfold colS
  rw [lnS_tb (fun k hk => by show sw σ * k + x < 64; have := hb k hk; omega)]
  constructor
  · rintro ⟨k, hk, e⟩
    have e : sw σ * k + x = v := e
    have := hb k hk
    exact ⟨by omega, by rw [← e]; exact (sw_mod hx).1⟩
  · rintro ⟨h1, h2⟩
    obtain ⟨a1, a2, a3⟩ := dot_xy h h1
    exact ⟨v / sw σ, a2, by show sw σ * (v / sw σ) + x = v; rw [← h2]; exact a3⟩
theorem rowS_tb {σ : Sg} (h : scok σ) {y : Nat} (hy : y < sh σ) (v : Nat) : tb (rowS σ y) v = true ↔ v < sdots σ ∧ v / sw σ = y := by
  have hM := sdots_mul h
  have hN := sdots_le h
  have hb : ∀ x, x < sw σ → sw σ * y + x < sdots σ := fun x hx => by
    have := Nat.mul_le_mul_left (sw σ) (show y + 1 ≤ sh σ by omega)
    rw [Nat.mul_succ] at this
    omega
  unfold rowS
  rw [lnS_tb (fun k hk => by show sw σ * y + k < 64; have := hb k hk; omega)]
  constructor
  · rintro ⟨k, hk, e⟩
    have e : sw σ * y + k = v := e
    have := hb k hk
    exact ⟨by omega, by rw [← e]; exact (sw_mod hk).2⟩
  · rintro ⟨h1, h2⟩
    obtain ⟨a1, a2, a3⟩ := dot_xy h h1
    exact ⟨v % sw σ, a1, by show sw σ * y + v % sw σ = v; rw [← h2]; exact a3⟩
theorem bnot {b : Bool} : (!b) = true ↔ ¬ b = true := by cases b <;> simp
theorem tb_lt {x : Int64} {k : Nat} (h : tb x k = true) : k < 64 := by
  by_cases c : k < 64
  · exact c
  · rw [tb_big x (by omega)] at h; exact absurd h (by decide)
theorem mod_s {w v : Nat} (hw : 2 ≤ w) (hw6 : w ≤ 6) : ((v + 1) % w ≠ 0 ↔ v % w + 1 < w) ∧ (1 ≤ v → ((v - 1) % w ≠ w - 1 ↔ (v - 1) % w + 1 < w)) := by
  obtain rfl | rfl | rfl | rfl | rfl : w = 2 ∨ w = 3 ∨ w = 4 ∨ w = 5 ∨ w = 6 := by omega
  all_goals omega
theorem grw_tb {σ : Sg} (h : scok σ) {S p : Int64} (hS : ∀ k, tb S k = true → k < sdots σ) (hp : ∀ k, tb p k = true → k < sdots σ) (v : Nat) : tb (grw σ S p) v = true ↔ tb S v = true ∧ (tb p v = true ∨ ∃ u, tb p u = true ∧ adj σ u v) := by
  have hW := sw_eq h
  have hN := sdots_le h
  have e1 : tb (shlI (p &&& (colS σ (sw σ - 1) ^^^ (-1))) 1) v = true ↔ v < 64 ∧ 1 ≤ v ∧ tb p (v - 1) = true ∧ (v - 1) % sw σ ≠ sw σ - 1 := by
    have q := tb_shl (p &&& (colS σ (sw σ - 1) ^^^ (-1))) (n := 1) (by decide) v
    unfold shlI
    rw [show zI 1 = zI ((1 : Nat) : Int) from rfl, q]
    simp only [Bool.and_eq_true, decide_eq_true_iff]
    constructor
    · rintro ⟨⟨a, b⟩, c⟩
      rw [tb_and, Bool.and_eq_true, tb_not _ (by omega), bnot, colS_tb h (by omega)] at c
      exact ⟨a, b, c.1, fun z => c.2 ⟨hp _ c.1, z⟩⟩
    · rintro ⟨a, b, c, d⟩
      refine ⟨⟨a, b⟩, ?_⟩
      rw [tb_and, Bool.and_eq_true, tb_not _ (by omega), bnot, colS_tb h (by omega)]
      exact ⟨c, fun z => d z.2⟩
  have e2 : tb (shrI (p &&& (colS σ 0 ^^^ (-1))) 1) v = true ↔ tb p (v + 1) = true ∧ (v + 1) % sw σ ≠ 0 := by
    have q := tb_ushr (p &&& (colS σ 0 ^^^ (-1))) (n := 1) (by decide) v
    unfold shrI
    rw [show zI 1 = zI ((1 : Nat) : Int) from rfl, q, Nat.add_comm 1 v, tb_and, Bool.and_eq_true]
    constructor
    · rintro ⟨c1, c2⟩
      rw [tb_not _ (tb_lt c1), bnot, colS_tb h (by omega)] at c2
      exact ⟨c1, fun z => c2 ⟨hp _ c1, z⟩⟩
    · rintro ⟨c, d⟩
      refine ⟨c, ?_⟩
      rw [tb_not _ (tb_lt c), bnot, colS_tb h (by omega)]
      exact fun z => d z.2
  have e3 : tb (shlI p (σ 0)) v = true ↔ v < 64 ∧ sw σ ≤ v ∧ tb p (v - sw σ) = true := by
    unfold shlI
    rw [← hW.1, tb_shl p (by omega) v]
    simp only [Bool.and_eq_true, decide_eq_true_iff]
    exact ⟨fun z => ⟨z.1.1, z.1.2, z.2⟩, fun z => ⟨⟨z.1, z.2.1⟩, z.2.2⟩⟩
  have e4 : tb (shrI p (σ 0)) v = true ↔ tb p (v + sw σ) = true := by
    unfold shrI
    rw [← hW.1, tb_ushr p (by omega) v, Nat.add_comm]
  have hms := mod_s (v := v) hW.2.1 hW.2.2
  unfold grw
  rw [tb_and, Bool.and_eq_true, tb_or, Bool.or_eq_true, tb_or, Bool.or_eq_true, tb_or, Bool.or_eq_true, tb_or, Bool.or_eq_true, e1, e2, e3, e4, and_comm]
  refine and_congr_right (fun hv => ?_)
  have hvN := hS v hv
  constructor
  · rintro (((q | q | q) | q) | q)
    · exact Or.inl q
    · exact Or.inr ⟨v - 1, q.2.2.1, by omega, hvN, Or.inl ⟨(hms.2 q.2.1).mp q.2.2.2, by omega⟩⟩
    · exact Or.inr ⟨v + 1, q.1, hp _ q.1, hvN, Or.inr (Or.inr (Or.inl ⟨hms.1.mp q.2, rfl⟩))⟩
    · exact Or.inr ⟨v - sw σ, q.2.2, by omega, hvN, Or.inr (Or.inl (by omega))⟩
    · exact Or.inr ⟨v + sw σ, q, hp _ q, hvN, Or.inr (Or.inr (Or.inr rfl))⟩
  · rintro (q | ⟨u, hu, ⟨a1, a2, q⟩⟩)
    · exact Or.inl (Or.inl (Or.inl q))
    · rcases q with ⟨c, q⟩ | q | ⟨c, q⟩ | q
      · subst q
        exact Or.inl (Or.inl (Or.inr (Or.inl ⟨by omega, by omega, by rw [Nat.add_sub_cancel]; exact hu, by rw [Nat.add_sub_cancel]; omega⟩)))
      · subst q
        exact Or.inl (Or.inr ⟨by omega, by omega, by rw [Nat.add_sub_cancel]; exact hu⟩)
      · subst q
        exact Or.inl (Or.inl (Or.inr (Or.inr ⟨hu, hms.1.mpr c⟩)))
      · subst q
        exact Or.inr hu
theorem sm_mono {f g : Nat → Int} : ∀ {n : Nat}, (∀ k, k < n → f k ≤ g k) → sm f n ≤ sm g n
  | 0, _ => Int.le_refl _
  | n + 1, h => by
    have h1 := sm_mono (n := n) (fun k hk => h k (by omega))
    have h2 := h n (by omega)
    rw [sm_s, sm_s]
    omega
theorem sm_mono1 {f g : Nat → Int} {n j : Nat} (h : ∀ k, k < n → f k ≤ g k) (hj : j < n) (h1 : f j + 1 ≤ g j) : sm f n + 1 ≤ sm g n := by
  have e := sm_one (f := f) (f1 := fun i => if i = j then f j + 1 else f i) hj (fun i _ hne => if_neg hne)
  have m := sm_mono (n := n) (f := fun i => if i = j then f j + 1 else f i) (g := g) (fun k hk => by
    show (if k = j then f j + 1 else f k) ≤ g k
    by_cases c : k = j
    · rw [if_pos c, c]; exact h1
    · rw [if_neg c]; exact h k hk)
  rw [e] at m
  have m : sm f n + ((if j = j then f j + 1 else f j) - f j) ≤ sm g n := m
  rw [if_pos rfl] at m
  omega
def sub (p q : Int64) : Prop := ∀ k, tb p k = true → tb q k = true
theorem sub_ne {p q : Int64} (h : sub p q) (hne : ¬ q = p) : ∃ k, tb q k = true ∧ ¬ tb p k = true := by
  by_cases c : ∃ k, tb q k = true ∧ ¬ tb p k = true
  · exact c
  · exfalso
    apply hne
    apply tb_ext
    intro k _
    cases c1 : tb q k <;> cases c2 : tb p k
    · rfl
    · exact absurd (h k c2) (by rw [c1]; decide)
    · exact absurd ⟨k, c1, by rw [c2]; decide⟩ c
    · rfl
theorem lcnt_sub {p q : Int64} (h : sub p q) (n : Nat) : lcnt p n ≤ lcnt q n := sm_mono (fun k _ => by
  show (if tb p k = true then (1 : Int) else 0) ≤ if tb q k = true then 1 else 0
  by_cases c : tb p k = true
  · rw [if_pos c, if_pos (h k c)]; omega
  · rw [if_neg c]; split <;> omega)
theorem lcnt_sub1 {p q : Int64} (h : sub p q) {n k : Nat} (hk : k < n) (h1 : tb q k = true) (h2 : ¬ tb p k = true) : lcnt p n + 1 ≤ lcnt q n := sm_mono1 (fun k _ => by
  show (if tb p k = true then (1 : Int) else 0) ≤ if tb q k = true then 1 else 0
  by_cases c : tb p k = true
  · rw [if_pos c, if_pos (h k c)]; omega
  · rw [if_neg c]; split <;> omega) hk (by
  show (if tb p k = true then (1 : Int) else 0) + 1 ≤ if tb q k = true then 1 else 0
  rw [if_neg h2, if_pos h1]; omega)
theorem lcnt_le (p : Int64) (n : Nat) : 0 ≤ lcnt p n ∧ lcnt p n ≤ n := sm_01 (fun k => by
  show (if tb p k = true then (1 : Int) else 0) = 0 ∨ (if tb p k = true then (1 : Int) else 0) = 1
  split <;> omega) n
def clo (σ : Sg) (S : Int64) (C : Nat → Prop) : Prop := ∀ u v, C u → adj σ u v → tb S v = true → C v
theorem pcI_ok {σ : Sg} (h : scok σ) {S : Int64} (hS : ∀ k, tb S k = true → k < sdots σ) : ∀ (n : Nat) (p : Int64), sub p S → (sdots σ : Int) ≤ n + lcnt p (sdots σ) → sub p (pcI σ S n p) ∧ sub (pcI σ S n p) S ∧ clo σ S (fun k => tb (pcI σ S n p) k = true) ∧ ∀ C, clo σ S C → (∀ k, tb p k = true → C k) → ∀ k, tb (pcI σ S n p) k = true → C k := by
  intro n
  induction n with
  | zero =>
    intro p hp hn
    refine ⟨fun _ q => q, hp, ?_, fun C _ hC k hk => hC k hk⟩
    intro u v hu a hv
    show tb p v = true
    by_cases c : tb p v = true
    · exact c
    · exfalso
      have h1 := lcnt_sub1 (p := p) (q := S) hp (hS v hv) hv c
      have h2 := lcnt_le S (sdots σ)
      omega
  | succ n ih =>
    intro p hp hn
    have hpd : ∀ k, tb p k = true → k < sdots σ := fun k hk => hS k (hp k hk)
    have hg := grw_tb h hS hpd
    rw [pcI]
    by_cases c : grw σ S p = p
    · rw [if_pos c]
      refine ⟨fun _ q => q, hp, ?_, fun C _ hC k hk => hC k hk⟩
      intro u v hu a hv
      show tb p v = true
      have := (hg v).mpr ⟨hv, Or.inr ⟨u, hu, a⟩⟩
      rw [c] at this
      exact this
    · rw [if_neg c]
      have hsub : sub p (grw σ S p) := fun k hk => (hg k).mpr ⟨hp k hk, Or.inl hk⟩
      have hgS : sub (grw σ S p) S := fun k hk => ((hg k).mp hk).1
      obtain ⟨j, j1, j2⟩ := sub_ne hsub c
      have hc := lcnt_sub1 hsub (hS j (hgS j j1)) j1 j2
      obtain ⟨i1, i2, i3, i4⟩ := ih (grw σ S p) hgS (by omega)
      refine ⟨fun k hk => i1 k (hsub k hk), i2, i3, fun C hC hpC k hk => i4 C hC (fun t ht => ?_) k hk⟩
      rcases (hg t).mp ht with ⟨t1, t2 | ⟨u, t2, t3⟩⟩
      · exact hpC t t2
      · exact hC u t (hpC u t2) t3 t1
theorem least_ex {P : Nat → Prop} : ∀ n, P n → ∃ m, P m ∧ ∀ k, k < m → ¬ P k := by
  intro n
  induction n using Nat.strongRecOn with
  | _ n ih =>
    intro h
    by_cases c : ∃ k, k < n ∧ P k
    · obtain ⟨k, h1, h2⟩ := c
      exact ih k h1 h2
    · exact ⟨n, h, fun k hk q => c ⟨k, hk, q⟩⟩
theorem low_bit {x : Int64} (h : ¬ x = 0) : ∃ u, tb x u = true ∧ ∀ k, tb (x &&& (-x)) k = true ↔ k = u := by
  have h0 : ∃ k, tb x k = true := by
    by_cases c : ∃ k, tb x k = true
    · exact c
    · exfalso
      apply h
      apply tb_ext
      intro k _
      rw [tb_0]
      cases c1 : tb x k
      · rfl
      · exact absurd ⟨k, c1⟩ c
  obtain ⟨k0, hk0⟩ := h0
  obtain ⟨u, u1, u2⟩ := least_ex (P := fun k => tb x k = true) k0 hk0
  refine ⟨u, u1, fun k => ?_⟩
  have e : tb (-x) k = (tb x k ^^ decide (k < 64 ∧ ∃ j, j < k ∧ tb x j = true)) := by
    show (-x).toBitVec.getLsbD k = _
    rw [Int64.toBitVec_neg, BitVec.getLsbD_neg]
    show (tb x k ^^ _) = _
    congr 1
    by_cases c1 : k < 64
    · by_cases c2 : ∃ j, j < k ∧ tb x j = true
      · rw [decide_eq_true c1, decide_eq_true (show ∃ j, j < k ∧ x.toBitVec.getLsbD j = true from c2), decide_eq_true (show k < 64 ∧ ∃ j, j < k ∧ tb x j = true from ⟨c1, c2⟩)]
        rfl
      · rw [decide_eq_true c1, decide_eq_false (show ¬ ∃ j, j < k ∧ x.toBitVec.getLsbD j = true from c2), decide_eq_false (show ¬ (k < 64 ∧ ∃ j, j < k ∧ tb x j = true) from fun q => c2 q.2)]
        rfl
    · rw [decide_eq_false c1, decide_eq_false (show ¬ (k < 64 ∧ ∃ j, j < k ∧ tb x j = true) from fun q => c1 q.1)]
      rfl
  rw [tb_and, e, Bool.and_eq_true]
  constructor
  · rintro ⟨k1, k2⟩
    rw [k1] at k2
    have : ¬ (k < 64 ∧ ∃ j, j < k ∧ tb x j = true) := fun q => by
      rw [decide_eq_true q] at k2
      exact absurd k2 (by decide)
    by_cases c : k = u
    · exact c
    · exfalso
      by_cases c2 : k < u
      · exact u2 k c2 k1
      · exact this ⟨tb_lt k1, u, by omega, u1⟩
  · intro q
    subst q
    refine ⟨u1, ?_⟩
    rw [u1, decide_eq_false (fun q => by obtain ⟨-, j, j1, j2⟩ := q; exact u2 j j1 j2)]
    decide
noncomputable def cI (p : Prop) : Int := @ite Int p (Classical.propDecidable p) 1 0
theorem cI_pos {p : Prop} (h : p) : cI p = 1 := if_pos h
theorem cI_neg {p : Prop} (h : ¬ p) : cI p = 0 := if_neg h
theorem cI_iff {p q : Prop} (h : p ↔ q) : cI p = cI q := by
  by_cases c : p
  · rw [cI_pos c, cI_pos (h.mp c)]
  · rw [cI_neg c, cI_neg (fun z => c (h.mpr z))]
/-- labels that tell a dot of the same piece -/
def IL (σ : Sg) (S : Int64) (L : Nat → Int) : Prop := ∀ v, v < sdots σ → (tb S v = true → 0 ≤ L v ∧ tb S (L v).toNat = true ∧ ∀ C, clo σ S C → C v → C (L v).toNat) ∧ (¬ tb S v = true → L v = -1)
def JN (σ : Sg) (S : Int64) (L : Nat → Int) : Prop := ∀ u v, adj σ u v → tb S u = true → tb S v = true → L u = L v
def okB (S b : Int64) (L : Nat → Int) (v : Nat) : Prop := ∀ t, tb S t = true → L t = (v : Int) → ¬ tb b t = true
theorem cPI_eq {σ : Sg} (h : scok σ) {S b : Int64} (hS : ∀ k, tb S k = true → k < sdots σ) {L : Nat → Int} (hI : IL σ S L) (hJ : JN σ S L) : ∀ (n : Nat) (rest : Int64) (c : Int), sub rest S → clo σ S (fun k => tb rest k = true) → lcnt rest (sdots σ) ≤ n → cPI σ S b n rest c = c + sm (fun v => cI (tb rest v = true ∧ L v = (v : Int) ∧ okB S b L v)) (sdots σ) := by
  intro n
  induction n with
  | zero =>
    intro rest c hr hcl hn
    rw [cPI, sm_z (fun k hk => cI_neg (fun q => ?_))]
    · omega
    · have h1 := lcnt_sub1 (p := 0) (q := rest) (fun t ht => by rw [tb_0] at ht; exact absurd ht (by decide)) hk q.1 (by rw [tb_0]; decide)
      have := lcnt_le 0 (sdots σ)
      omega
  | succ n ih =>
    intro rest c hr hcl hn
    rw [cPI]
    by_cases c0 : rest = 0
    · rw [if_pos c0, sm_z (fun k hk => cI_neg (fun q => by rw [c0, tb_0] at q; exact absurd q.1 (by decide)))]
      omega
    · rw [if_neg c0]
      obtain ⟨u, u1, u2⟩ := low_bit c0
      have hseed : sub (rest &&& (-rest)) S := fun k hk => by rw [u2] at hk; subst hk; exact hr _ u1
      obtain ⟨p1, p2, p3, p4⟩ := pcI_ok h hS (sdots σ) (rest &&& (-rest)) hseed (by have := lcnt_le (rest &&& (-rest)) (sdots σ); omega)
      have eP : pcI σ S (sdots σ) (rest &&& (-rest)) = pieceS σ (rest &&& (-rest)) S := rfl
      rw [eP] at p1 p2 p3 p4
      generalize hP : pieceS σ (rest &&& (-rest)) S = Pp at *
      have hPu : tb Pp u = true := p1 u ((u2 u).mpr rfl)
      have hPr : sub Pp rest := p4 (fun k => tb rest k = true) hcl (fun k hk => by rw [u2] at hk; subst hk; exact u1)
      have huS := hr u u1
      have huN := hS u huS
      have hPL : ∀ k, tb Pp k = true → tb S k = true ∧ L k = L u := p4 (fun k => tb S k = true ∧ L k = L u) (fun x y hx a hy => ⟨hy, (hJ x y a hx.1 hy).symm.trans hx.2⟩) (fun k hk => by rw [u2] at hk; subst hk; exact ⟨huS, rfl⟩)
      obtain ⟨g1, g2, g3⟩ := (hI u huN).1 huS
      obtain ⟨v0, hv0⟩ := nat_of g1
      rw [hv0, Int.toNat_natCast] at g2 g3
      have hPv0 : tb Pp v0 = true := g3 (fun k => tb Pp k = true) p3 hPu
      have hLv0 : L v0 = (v0 : Int) := (hPL v0 hPv0).2.trans hv0
      have hv0N := hS v0 g2
      have hcompl : clo σ S (fun k => tb S k = true ∧ ¬ tb Pp k = true) := fun x y hx a hy => ⟨hy, fun q => hx.2 (p3 y x q (adj_symm a) hx.1)⟩
      have hback : ∀ t, tb S t = true → L t = (v0 : Int) → tb Pp t = true := fun t ht e => by
        by_cases q : tb Pp t = true
        · exact q
        · have := ((hI t (hS t ht)).1 ht).2.2 _ hcompl ⟨ht, q⟩
          rw [e, Int.toNat_natCast] at this
          exact absurd hPv0 this.2
      have hok : okB S b L v0 ↔ Pp &&& b = 0 := by
        constructor
        · intro q
          apply tb_ext
          intro k _
          rw [tb_and, tb_0]
          cases c1 : tb Pp k
          · rfl
          · cases c2 : tb b k
            · rfl
            · exact absurd c2 (q k (p2 k c1) ((hPL k c1).2.trans hv0))
        · intro q t ht e hb
          have h1 : tb (Pp &&& b) t = true := by rw [tb_and, hback t ht e, hb]; rfl
          rw [q, tb_0] at h1
          exact absurd h1 (by decide)
      have hrt : ∀ k, tb (rest &&& (Pp ^^^ (-1))) k = true ↔ tb rest k = true ∧ ¬ tb Pp k = true := fun k => by
        rw [tb_and, Bool.and_eq_true]
        constructor
        · rintro ⟨a1, a2⟩
          rw [tb_not _ (tb_lt a1), bnot] at a2
          exact ⟨a1, a2⟩
        · rintro ⟨a1, a2⟩
          exact ⟨a1, by rw [tb_not _ (tb_lt a1), bnot]; exact a2⟩
      have hn2 : lcnt (rest &&& (Pp ^^^ (-1))) (sdots σ) + 1 ≤ lcnt rest (sdots σ) := lcnt_sub1 (fun k hk => ((hrt k).mp hk).1) huN u1 (fun q => ((hrt u).mp q).2 hPu)
      rw [ih (rest &&& (Pp ^^^ (-1))) _ (fun k hk => hr k ((hrt k).mp hk).1) (fun x y hx a hy => by
        have hx' := (hrt x).mp hx
        exact (hrt y).mpr ⟨hcl x y hx'.1 a hy, fun q => hx'.2 (p3 y x q (adj_symm a) (hr x hx'.1))⟩) (by omega)]
      have hsm := sm_one (f := fun v => cI (tb (rest &&& (Pp ^^^ (-1))) v = true ∧ L v = (v : Int) ∧ okB S b L v)) (f1 := fun v => cI (tb rest v = true ∧ L v = (v : Int) ∧ okB S b L v)) hv0N (fun i _ hne => cI_iff (by
        rw [hrt]
        constructor
        · rintro ⟨a1, a2, a3⟩
          refine ⟨⟨a1, fun q => hne ?_⟩, a2, a3⟩
          have := (hPL i q).2
          rw [a2, hv0] at this
          omega
        · rintro ⟨a1, a2, a3⟩
          exact ⟨a1.1, a2, a3⟩))
      rw [hsm]
      have f0 : cI (tb (rest &&& (Pp ^^^ (-1))) v0 = true ∧ L v0 = (v0 : Int) ∧ okB S b L v0) = 0 := cI_neg (fun q => ((hrt v0).mp q.1).2 hPv0)
      show _ = _ + (_ + (cI (tb rest v0 = true ∧ L v0 = (v0 : Int) ∧ okB S b L v0) - cI (tb (rest &&& (Pp ^^^ (-1))) v0 = true ∧ L v0 = (v0 : Int) ∧ okB S b L v0)))
      rw [f0]
      by_cases ck : Pp &&& b = 0
      · rw [if_pos ck, cI_pos ⟨hPr v0 hPv0, hLv0, hok.mpr ck⟩]
        omega
      · rw [if_neg ck, cI_neg (fun q => ck (hok.mp q.2.2))]
        omega
theorem cntPS_eq {σ : Sg} (h : scok σ) {S b : Int64} (hS : ∀ k, tb S k = true → k < sdots σ) {L : Nat → Int} (hI : IL σ S L) (hJ : JN σ S L) : cntPS σ S b = sm (fun v => cI (L v = (v : Int) ∧ okB S b L v)) (sdots σ) := by
  unfold cntPS
  rw [cPI_eq h hS hI hJ (sdots σ) S 0 (fun _ q => q) (fun _ y _ _ hy => hy) (by have := lcnt_le S (sdots σ); omega), Int.zero_add]
  refine sm_cong (fun v hv => cI_iff ⟨fun q => q.2, fun q => ⟨?_, q⟩⟩)
  by_cases c : tb S v = true
  · exact c
  · have := (hI v hv).2 c
    rw [this] at q
    exact absurd q.1 (by omega)
theorem IL_0 {σ : Sg} {S : Int64} (hS : ∀ k, tb S k = true → k < sdots σ) {L : Nat → Int} (hL : ∀ v, v < sdots σ → (tb S v = true → L v = (v : Int)) ∧ (¬ tb S v = true → L v = -1)) : IL σ S L := fun v hv => ⟨fun q => by
  rw [(hL v hv).1 q, Int.toNat_natCast]
  exact ⟨by omega, q, fun _ _ z => z⟩, (hL v hv).2⟩
theorem IL_join {σ : Sg} {S : Int64} {L : Nat → Int} (hI : IL σ S L) {a b : Nat} (hab : adj σ a b) (ha : L a ≠ -1) (hb : L b ≠ -1) {low : Int} (hl : low = L a ∨ low = L b) : IL σ S (fup (fup L a low) b low) := by
  have haN := hab.1
  have hbN := hab.2.1
  have hSa : tb S a = true := by
    by_cases c : tb S a = true
    · exact c
    · exact absurd ((hI a haN).2 c) ha
  have hSb : tb S b = true := by
    by_cases c : tb S b = true
    · exact c
    · exact absurd ((hI b hbN).2 c) hb
  obtain ⟨a1, a2, a3⟩ := (hI a haN).1 hSa
  obtain ⟨b1, b2, b3⟩ := (hI b hbN).1 hSb
  have hlow : 0 ≤ low ∧ tb S low.toNat = true ∧ ∀ C, clo σ S C → (C a ∨ C b) → C low.toNat := by
    rcases hl with rfl | rfl
    · exact ⟨a1, a2, fun C hC q => by rcases q with q | q; exact a3 C hC q; exact a3 C hC (hC b a q (adj_symm hab) hSa)⟩
    · exact ⟨b1, b2, fun C hC q => by rcases q with q | q; exact b3 C hC (hC a b q hab hSb); exact b3 C hC q⟩
  intro v hv
  by_cases e : v = b
  · subst e
    rw [fup_s]
    exact ⟨fun _ => ⟨hlow.1, hlow.2.1, fun C hC q => hlow.2.2 C hC (Or.inr q)⟩, fun q => absurd hSb q⟩
  · rw [fup_n _ _ e]
    by_cases e2 : v = a
    · subst e2
      rw [fup_s]
      exact ⟨fun _ => ⟨hlow.1, hlow.2.1, fun C hC q => hlow.2.2 C hC (Or.inl q)⟩, fun q => absurd hSa q⟩
    · rw [fup_n _ _ e2]
      exact hI v hv
theorem JN_of {σ : Sg} (h : scok σ) {S : Int64} {L : Nat → Int} (hI : IL σ S L) (hd : ∀ v d o, v < sdots σ → d < 2 → lk σ v d = ((o : Nat) : Int) → o < sdots σ → L v = -1 ∨ L o = -1 ∨ L v = L o) : JN σ S L := by
  intro u v a hu hv
  have nu := ((hI u a.1).1 hu).1
  have nv := ((hI v a.2.1).1 hv).1
  rcases lk_adj h a with ⟨d, d1, d2⟩ | ⟨d, d1, d2⟩
  · have := hd u d v a.1 d1 d2 a.2.1
    omega
  · have := hd v d u a.2.1 d1 d2 a.1
    omega
theorem join_sum {L : Nat → Int} {a b N : Nat} (ha : a < N) (hb : b < N) (hab : b ≠ a) {low : Int} (h1 : low ≤ L a) (h2 : low ≤ L b) (h3 : low < L a ∨ low < L b) : sm (fup (fup L a low) b low) N < sm L N := by
  have e1 := sm_one (f := L) (f1 := fup L a low) ha (fun i _ hne => fup_n _ _ hne)
  have e2 := sm_one (f := fup L a low) (f1 := fup (fup L a low) b low) hb (fun i _ hne => fup_n _ _ hne)
  rw [fup_s] at e1 e2
  rw [fup_n _ _ hab] at e2
  omega
