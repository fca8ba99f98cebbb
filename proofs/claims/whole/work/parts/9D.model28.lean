def vl (σ : Sg) (k : Int) (t : Nat) : Int := if k % 2 = 0 then ((t % sw σ : Nat) : Int) else ((t / sw σ : Nat) : Int)
def bti (k a b : Int) : Prop := if k < 6 then a < b else b < a
/-- the least or the greatest one so far -/
def BI (σ : Sg) (s : Int64) (k : Int) (j : Nat) (m : Int) : Prop := (m = -1 ∧ ∀ t, t < j → ¬ tb s t = true) ∨ ∃ t, t < j ∧ tb s t = true ∧ m = vl σ k t ∧ ∀ u, u < j → tb s u = true → ¬ bti k (vl σ k u) m
theorem vl_b {σ : Sg} (h : scok σ) (k : Int) {t : Nat} (ht : t < sdots σ) : 0 ≤ vl σ k t ∧ vl σ k t ≤ 5 := by
  have hxy := dot_xy h ht
  have hW := sw_eq h
  have hH := sh_eq h
  have hq1 : (0 : Int) ≤ ((t % sw σ : Nat) : Int) := Int.natCast_nonneg _
  have hq2 : (0 : Int) ≤ ((t / sw σ : Nat) : Int) := Int.natCast_nonneg _
  unfold vl
  split <;> omega
theorem BI_b {σ : Sg} (h : scok σ) {s : Int64} {k m : Int} {j : Nat} (hj : j ≤ sdots σ) (g : BI σ s k j m) : -1 ≤ m ∧ m ≤ 5 := by
  rcases g with q | ⟨t, t1, t2, t3, t4⟩
  · omega
  · have := vl_b h k (show t < sdots σ by omega)
    omega
theorem BI_no {σ : Sg} {s : Int64} {k m : Int} {j : Nat} (g : BI σ s k j m) (hn : ¬ tb s j = true) : BI σ s k (j + 1) m := by
  rcases g with ⟨q1, q2⟩ | ⟨t, t1, t2, t3, t4⟩
  · refine Or.inl ⟨q1, fun t ht => ?_⟩
    by_cases e : t = j
    · subst e; exact hn
    · exact q2 t (by omega)
  · refine Or.inr ⟨t, by omega, t2, t3, fun u hu hs => ?_⟩
    by_cases e : u = j
    · subst e; exact absurd hs hn
    · exact t4 u (by omega) hs
theorem BI_yes {σ : Sg} (h : scok σ) {s : Int64} {k m m1 : Int} {j : Nat} (hj : j < sdots σ) (g : BI σ s k j m) (hs : tb s j = true) (hm : ((m = -1 ∨ bti k (vl σ k j) m) ∧ m1 = vl σ k j) ∨ (m ≠ -1 ∧ ¬ bti k (vl σ k j) m ∧ m1 = m)) : BI σ s k (j + 1) m1 := by
  rcases hm with ⟨a, b⟩ | ⟨a, b, c⟩
  · refine Or.inr ⟨j, by omega, hs, b, fun u hu hsu => ?_⟩
    rw [b]
    by_cases e : u = j
    · subst e; unfold bti; split <;> omega
    · rcases g with ⟨q1, q2⟩ | ⟨t, t1, t2, t3, t4⟩
      · exact absurd hsu (q2 u (by omega))
      · have h1 := t4 u (by omega) hsu
        have h2 := vl_b h k (show t < sdots σ by omega)
        rcases a with a | a
        · omega
        · unfold bti at *
          by_cases c : k < 6
          · rw [if_pos c] at *; omega
          · rw [if_neg c] at *; omega
  · rcases g with ⟨q1, q2⟩ | ⟨t, t1, t2, t3, t4⟩
    · exact absurd q1 a
    · refine Or.inr ⟨t, by omega, t2, by rw [c]; exact t3, fun u hu hsu => ?_⟩
      rw [c]
      by_cases e : u = j
      · subst e; exact b
      · exact t4 u (by omega) hsu
theorem hitC_iff {σ : Sg} (h : scok σ) {s : Int64} (hs : ∀ k, tb s k = true → k < sdots σ) {x : Nat} (hx : x < sw σ) : hitC σ s x = true ↔ ∃ t, tb s t = true ∧ t % sw σ = x := by
  unfold hitC
  rw [decide_eq_true_iff]
  constructor
  · intro q
    by_cases c : ∃ t, tb s t = true ∧ t % sw σ = x
    · exact c
    · exfalso
      apply q
      apply tb_ext
      intro k _
      rw [tb_0, tb_and]
      cases c1 : tb s k
      · rfl
      · cases c2 : tb (colS σ x) k
        · rfl
        · exact absurd ⟨k, c1, ((colS_tb h hx k).mp c2).2⟩ c
  · rintro ⟨t, t1, t2⟩ q
    have : tb (s &&& colS σ x) t = true := by rw [tb_and, t1, (colS_tb h hx t).mpr ⟨hs t t1, t2⟩]; rfl
    rw [q, tb_0] at this
    exact absurd this (by decide)
theorem hitR_iff {σ : Sg} (h : scok σ) {s : Int64} (hs : ∀ k, tb s k = true → k < sdots σ) {y : Nat} (hy : y < sh σ) : hitR σ s y = true ↔ ∃ t, tb s t = true ∧ t / sw σ = y := by
  unfold hitR
  rw [decide_eq_true_iff]
  constructor
  · intro q
    by_cases c : ∃ t, tb s t = true ∧ t / sw σ = y
    · exact c
    · exfalso
      apply q
      apply tb_ext
      intro k _
      rw [tb_0, tb_and]
      cases c1 : tb s k
      · rfl
      · cases c2 : tb (rowS σ y) k
        · rfl
        · exact absurd ⟨k, c1, ((rowS_tb h hy k).mp c2).2⟩ c
  · rintro ⟨t, t1, t2⟩ q
    have : tb (s &&& rowS σ y) t = true := by rw [tb_and, t1, (rowS_tb h hy t).mpr ⟨hs t t1, t2⟩]; rfl
    rw [q, tb_0] at this
    exact absurd this (by decide)
theorem lst1_no {p : Nat → Bool} : ∀ {n : Nat}, (∀ k, k < n → ¬ p k = true) → lst1 p n = -1
  | 0, _ => rfl
  | n + 1, h => by rw [lst1_step (h n (by omega)), lst1_no (fun k hk => h k (by omega))]
theorem lst1_yes {p : Nat → Bool} {j : Nat} (hj : p j = true) : ∀ {n : Nat}, j < n → (∀ k, j < k → k < n → ¬ p k = true) → lst1 p n = j
  | 0, hn, _ => absurd hn (Nat.not_lt_zero j)
  | n + 1, hn, h => by
    by_cases e : j = n
    · subst e; exact lst1_here hj
    · rw [lst1_step (h n (by omega) (by omega)), lst1_yes hj (n := n) (by omega) (fun k a b => h k a (by omega))]
/-- any of the four, of values below M -/
theorem bnd_gen {s : Int64} {N M : Nat} {f : Nat → Nat} {p : Nat → Bool} (hf : ∀ t, t < N → f t < M) (hs : ∀ k, tb s k = true → k < N) (hp : ∀ x, x < M → (p x = true ↔ ∃ t, tb s t = true ∧ f t = x)) {m : Int} : ((m = -1 ∧ ∀ t, t < N → ¬ tb s t = true) → m = fst1 p M ∧ m = lst1 p M) ∧ (∀ t, t < N → tb s t = true → m = (f t : Int) → (∀ u, u < N → tb s u = true → ¬ (f u : Int) < m) → m = fst1 p M) ∧ (∀ t, t < N → tb s t = true → m = (f t : Int) → (∀ u, u < N → tb s u = true → ¬ m < (f u : Int)) → m = lst1 p M) := by
  refine ⟨fun q => ?_, fun t t1 t2 t3 t4 => ?_, fun t t1 t2 t3 t4 => ?_⟩
  · have hno : ∀ k, k < M → ¬ p k = true := fun k hk z => by
      obtain ⟨t, t1, t2⟩ := (hp k hk).mp z
      exact q.2 t (hs t t1) t1
    rw [fst1_no hno, lst1_no hno]
    exact ⟨q.1, q.1⟩
  · rw [fst1_yes ((hp (f t) (hf t t1)).mpr ⟨t, t2, rfl⟩) (fun k hk z => by
      obtain ⟨u, u1, u2⟩ := (hp k (by have := hf t t1; omega)).mp z
      exact t4 u (hs u u1) u1 (by omega)) (hf t t1)]
    exact t3
  · rw [lst1_yes ((hp (f t) (hf t t1)).mpr ⟨t, t2, rfl⟩) (hf t t1) (fun k hk hkM z => by
      obtain ⟨u, u1, u2⟩ := (hp k hkM).mp z
      exact t4 u (hs u u1) u1 (by omega))]
    exact t3
theorem bound_eq {σ : Sg} (h : scok σ) {s : Int64} (hs : ∀ k, tb s k = true → k < sdots σ) {k m : Int} (hk : 4 ≤ k ∧ k ≤ 7) (g : BI σ s k (sdots σ) m) : m = shpV σ s k := by
  have gc := bnd_gen (s := s) (N := sdots σ) (M := sw σ) (f := fun t => t % sw σ) (p := hitC σ s) (fun t ht => (dot_xy h ht).1) hs (fun x hx => hitC_iff h hs hx) (m := m)
  have gr := bnd_gen (s := s) (N := sdots σ) (M := sh σ) (f := fun t => t / sw σ) (p := hitR σ s) (fun t ht => (dot_xy h ht).2.1) hs (fun y hy => hitR_iff h hs hy) (m := m)
  unfold shpV
  rw [if_neg (by omega), if_neg (by omega), if_neg (by omega), if_neg (by omega)]
  obtain rfl | rfl | rfl | rfl : k = 4 ∨ k = 5 ∨ k = 6 ∨ k = 7 := by omega
  · rw [if_pos rfl]
    rcases g with q | ⟨t, t1, t2, t3, t4⟩
    · exact (gc.1 q).1
    · exact gc.2.1 t t1 t2 t3 t4
  · rw [if_neg (by omega), if_pos rfl]
    rcases g with q | ⟨t, t1, t2, t3, t4⟩
    · exact (gr.1 q).1
    · exact gr.2.1 t t1 t2 t3 t4
  · rw [if_neg (by omega), if_neg (by omega), if_pos rfl]
    rcases g with q | ⟨t, t1, t2, t3, t4⟩
    · exact (gc.1 q).2
    · exact gc.2.2 t t1 t2 t3 t4
  · rw [if_neg (by omega), if_neg (by omega), if_neg (by omega)]
    rcases g with q | ⟨t, t1, t2, t3, t4⟩
    · exact (gr.1 q).2
    · exact gr.2.2 t t1 t2 t3 t4
theorem RM.scr4 {Ω Ω1 : Mem} {a : As} (h : RM Ω a) (hq : ∀ q, q ≠ 54 → q ≠ 55 → q ≠ 56 → q ≠ 57 → Ω1 q = Ω q) : RM Ω1 a ∧ frG Ω Ω1 :=
  ⟨h.same (fun k _ => gt_fr (hq 49 (by omega) (by omega) (by omega) (by omega)) k) (fun q a b => hq q (by omega) (by omega) (by omega) (by omega)), fun q hq1 => hq q (by omega) (by omega) (by omega) (by omega)⟩
set_option maxHeartbeats 4000000 in
set_option maxRecDepth 100000 in
theorem S_X5_bound_88 {E : zE} {w : zP} {l : Launch} {Post : Option Value → Mem → Prop} (hw : zOK w) (hC : zC E w l RX5 wsX5_bound cX5_bound 8 1 22 (some .int) Post) {Ω : Mem} (x : Int64) (k m vv b7 : Int) (j : Nat) (hmb : -1 ≤ m ∧ m ≤ 5) (BT : Prop) (hb : (b7 = 1 ∧ BT) ∨ (b7 = 0 ∧ ¬ BT)) (K : ∀ m1 : Int, (((m = -1 ∨ BT) ∧ m1 = vv) ∨ (m ≠ -1 ∧ ¬ BT ∧ m1 = m)) → X E Ω 108 [some (.ref (wa w 49)), some (.long x), none, some (.int (zI k)), some (.int (zI m1)), some (.int (zI (j : Int))), some (.int (zI vv)), some (.int (zI b7))] [])  : X E Ω 88 [some (.ref (wa w 49)), some (.long x), none, some (.int (zI k)), some (.int (zI m)), some (.int (zI (j : Int))), some (.int (zI vv)), some (.int (zI b7))] [] := by
  refine z_iload (pc := 88) hC (i := 4) dX5_bound_88 rfl ?_
  refine z_iconst (pc := 90) hC dX5_bound_90 ?_
  refine z_icmp_eq (pc := 91) hC 99 ⟨by omega, by omega⟩ ⟨by decide, by decide⟩ dX5_bound_91 rfl (fun h91 => ?_) (fun h91 => ?_)
  · refine z_iload (pc := 99) hC (i := 6) dX5_bound_99 rfl ?_
    refine z_goto (pc := 101) hC 106 dX5_bound_101 rfl ?_
    refine z_istore (pc := 106) hC (i := 4) dX5_bound_106 (by decide) rfl (zS_s (zS_s (zS_s (zS_s zS_0)))) ?_
    exact K _ (Or.inl ⟨Or.inl h91, rfl⟩)
  · refine z_iload (pc := 94) hC (i := 7) dX5_bound_94 rfl ?_
    refine z_if_eq (pc := 96) hC 104 ⟨by omega, by omega⟩ dX5_bound_96 rfl (fun h96 => ?_) (fun h96 => ?_)
    · refine z_iload (pc := 104) hC (i := 4) dX5_bound_104 rfl ?_
      refine z_istore (pc := 106) hC (i := 4) dX5_bound_106 (by decide) rfl (zS_s (zS_s (zS_s (zS_s zS_0)))) ?_
      exact K _ (Or.inr ⟨h91, by rcases hb with z | z; omega; exact z.2, rfl⟩)
    · refine z_iload (pc := 99) hC (i := 6) dX5_bound_99 rfl ?_
      refine z_goto (pc := 101) hC 106 dX5_bound_101 rfl ?_
      refine z_istore (pc := 106) hC (i := 4) dX5_bound_106 (by decide) rfl (zS_s (zS_s (zS_s (zS_s zS_0)))) ?_
      exact K _ (Or.inl ⟨Or.inr (by rcases hb with z | z; exact z.2; omega), rfl⟩)
set_option maxHeartbeats 4000000 in
set_option maxRecDepth 100000 in
theorem S_X5_bound_53 {E : zE} {w : zP} {l : Launch} {Post : Option Value → Mem → Prop} (hw : zOK w) (hC : zC E w l RX5 wsX5_bound cX5_bound 8 1 22 (some .int) Post) {Ω : Mem} (x : Int64) (k : Int) (hk : 4 ≤ k ∧ k ≤ 7) (m vv : Int) (j : Nat) (hmb : -1 ≤ m ∧ m ≤ 5) (hvb : 0 ≤ vv ∧ vv ≤ 5) (o7 : Option Value) (K : ∀ (m1 : Int) (o7 : Option Value), (((m = -1 ∨ bti k vv m) ∧ m1 = vv) ∨ (m ≠ -1 ∧ ¬ bti k vv m ∧ m1 = m)) → X E Ω 108 [some (.ref (wa w 49)), some (.long x), none, some (.int (zI k)), some (.int (zI m1)), some (.int (zI (j : Int))), some (.int (zI vv)), o7] [])  : X E Ω 53 [some (.ref (wa w 49)), some (.long x), none, some (.int (zI k)), some (.int (zI m)), some (.int (zI (j : Int))), some (.int (zI vv)), o7] [] := by
  refine z_iload_n (pc := 53) hC (i := 3) dX5_bound_53 rfl rfl ?_
  refine z_bipush (pc := 54) hC dX5_bound_54 rfl ?_
  refine z_icmp_ge (pc := 56) hC 74 ⟨by omega, by omega⟩ ⟨by decide, by decide⟩ dX5_bound_56 rfl (fun h56 => ?_) (fun h56 => ?_)
  · refine z_iload (pc := 74) hC (i := 6) dX5_bound_74 rfl ?_
    refine z_iload (pc := 76) hC (i := 4) dX5_bound_76 rfl ?_
    refine z_icmp_le (pc := 78) hC 85 ⟨by omega, by omega⟩ ⟨by omega, by omega⟩ dX5_bound_78 rfl (fun h78 => ?_) (fun h78 => ?_)
    · refine z_iconst (pc := 85) hC dX5_bound_85 ?_
      refine z_istore (pc := 86) hC (i := 7) dX5_bound_86 (by decide) rfl (zS_s (zS_s (zS_s (zS_s (zS_s (zS_s (zS_s zS_0))))))) ?_
      exact S_X5_bound_88 hw hC x k m vv 0 j hmb (bti k vv m) (Or.inr ⟨rfl, by unfold bti; rw [if_neg (by omega)]; omega⟩) (fun m1 hm1 => K m1 _ hm1)
    · refine z_iconst (pc := 81) hC dX5_bound_81 ?_
      refine z_goto (pc := 82) hC 86 dX5_bound_82 rfl ?_
      refine z_istore (pc := 86) hC (i := 7) dX5_bound_86 (by decide) rfl (zS_s (zS_s (zS_s (zS_s (zS_s (zS_s (zS_s zS_0))))))) ?_
      exact S_X5_bound_88 hw hC x k m vv 1 j hmb (bti k vv m) (Or.inl ⟨rfl, by unfold bti; rw [if_neg (by omega)]; omega⟩) (fun m1 hm1 => K m1 _ hm1)
  · refine z_iload (pc := 59) hC (i := 6) dX5_bound_59 rfl ?_
    refine z_iload (pc := 61) hC (i := 4) dX5_bound_61 rfl ?_
    refine z_icmp_ge (pc := 63) hC 70 ⟨by omega, by omega⟩ ⟨by omega, by omega⟩ dX5_bound_63 rfl (fun h63 => ?_) (fun h63 => ?_)
    · refine z_iconst (pc := 70) hC dX5_bound_70 ?_
      refine z_goto (pc := 71) hC 86 dX5_bound_71 rfl ?_
      refine z_istore (pc := 86) hC (i := 7) dX5_bound_86 (by decide) rfl (zS_s (zS_s (zS_s (zS_s (zS_s (zS_s (zS_s zS_0))))))) ?_
      exact S_X5_bound_88 hw hC x k m vv 0 j hmb (bti k vv m) (Or.inr ⟨rfl, by unfold bti; rw [if_pos (by omega)]; omega⟩) (fun m1 hm1 => K m1 _ hm1)
    · refine z_iconst (pc := 66) hC dX5_bound_66 ?_
      refine z_goto (pc := 67) hC 86 dX5_bound_67 rfl ?_
      refine z_istore (pc := 86) hC (i := 7) dX5_bound_86 (by decide) rfl (zS_s (zS_s (zS_s (zS_s (zS_s (zS_s (zS_s zS_0))))))) ?_
      exact S_X5_bound_88 hw hC x k m vv 1 j hmb (bti k vv m) (Or.inl ⟨rfl, by unfold bti; rw [if_pos (by omega)]; omega⟩) (fun m1 hm1 => K m1 _ hm1)
theorem fl_X5_bound_7 : Cond.fieldLink RX5 7 "StrokeCutsModel" "st" "[I" ∈ wsX5_bound := by decide +kernel
theorem in_X5_bound_X5 : ∀ x ∈ u_ws RX5 TX5 15, x ∈ wsX5_bound := by decide +kernel
set_option maxHeartbeats 4000000 in
set_option maxRecDepth 100000 in
theorem L_X5_bound_6 {E : zE} {w : zP} {l : Launch} {Post : Option Value → Mem → Prop} (hw : zOK w) (hC : zC E w l RX5 wsX5_bound cX5_bound 8 1 22 (some .int) Post) (Ω : Mem) (σ : Sg) (hσ : scM Ω = σ) (hv : scok σ) (x : Int64) (k : Int) (hk : 4 ≤ k ∧ k ≤ 7) (K : ∀ (m : Int) (o6 o7 : Option Value), BI σ x k (sdots σ) m → X E Ω 114 [some (.ref (wa w 49)), some (.long x), none, some (.int (zI k)), some (.int (zI m)), some (.int (zI (sdots σ : Int))), o6, o7] []) : ∀ (n : Nat) (j : Nat) (m : Int) (o6 : Option Value) (o7 : Option Value), sdots σ < j + n → (j ≤ sdots σ) → (BI σ x k j m) → X E Ω 6 [some (.ref (wa w 49)), some (.long x), none, some (.int (zI k)), some (.int (zI m)), some (.int (zI (j : Int))), o6, o7] [] := by
  intro n
  induction n with
  | zero =>
    intro j m o6 o7 hfu hj hB
    exact absurd hfu (by omega)
  | succ n ih =>
    intro j m o6 o7 hfu hj hB
    have hN := sdots_le hv
    have q0 : gt Ω 50 0 * gt Ω 50 1 = (sdots σ : Int) := by rw [st_at hσ (by decide), st_at hσ (by decide)]; exact hN.2.2.symm
    have z0 : gt Ω 50 0 = σ 0 := st_at hσ (by decide)
    have hW := sw_eq hv
    have hH := sh_eq hv
    refine z_iload (pc := 6) hC (i := 5) dX5_bound_6 rfl ?_
    refine z_aload_n (pc := 8) hC (i := 0) dX5_bound_8 rfl rfl ?_
    refine z_callV (n := 0) (T := TX5) (N := 15) (ci := 5) (pc := 9) hC (c_X5_dots l w hw _) gX5_bound_X5_dots rfl (by decide +kernel) (by decide) (by decide) rfl (by decide) (fun _ => rfl) rfl rfl (Nat.le_of_ble_eq_true rfl) dX5_bound_9 (zi_k fun r9 Ω9 h9 => ?_)
    obtain ⟨rfl, hM9⟩ := h9
    obtain rfl := hM9.symm
    rw [q0]
    refine z_icmp_ge (pc := 12) hC 114 (by first | assumption | exact zb_gt _ _ _ | exact zcmp_zb _ _ | exact bI_zb _ | exact ⟨by omega, by omega⟩) (by first | assumption | exact zb_gt _ _ _ | exact zcmp_zb _ _ | exact bI_zb _ | exact ⟨by omega, by omega⟩) dX5_bound_12 rfl (fun h12 => ?_) (fun h12 => ?_)
    · obtain rfl : j = sdots σ := by omega
      exact K m _ _ hB
    · refine z_lload_n (pc := 15) hC (i := 1) dX5_bound_15 rfl rfl ?_
      refine z_iload (pc := 16) hC (i := 5) dX5_bound_16 rfl ?_
      refine z_callS (n := 2) (pc := 18) hC (c_X5_isIn l w hw _ x j (by omega)) gX5_bound_X5_isIn rfl (by decide +kernel) (by decide) (by decide) rfl rfl (Nat.le_of_ble_eq_true rfl) dX5_bound_18 (zb_k fun r18 Ω18 h18 => ?_)
      obtain ⟨rfl, hM18⟩ := h18
      obtain rfl := hM18.symm
      refine z_ifd_eq (pc := 21) hC 108 dX5_bound_21 rfl (fun h21 => ?_) (fun h21 => ?_)
      · refine z_iinc (pc := 108) hC (i := 5) dX5_bound_108 rfl (by decide) rfl (zS_s (zS_s (zS_s (zS_s (zS_s zS_0))))) ?_
        refine z_goto (pc := 111) hC 6 dX5_bound_111 rfl ?_
        exact ih (j + 1) m _ _ (by omega) (by omega) (BI_no hB h21)
      · refine z_iload_n (pc := 24) hC (i := 3) dX5_bound_24 rfl rfl ?_
        refine z_iconst (pc := 25) hC dX5_bound_25 ?_
        refine z_irem (pc := 26) hC ⟨by omega, by omega⟩ ⟨by decide, by decide⟩ (by decide) dX5_bound_26 ?_
        rw [Int.tmod_eq_emod_of_nonneg (by omega)]
        refine z_if_ne (pc := 27) hC 42 ⟨by omega, by omega⟩ dX5_bound_27 rfl (fun h27 => ?_) (fun h27 => ?_)
        · refine z_iload (pc := 42) hC (i := 5) dX5_bound_42 rfl ?_
          refine z_aload_n (pc := 44) hC (i := 0) dX5_bound_44 rfl rfl ?_
          refine z_getR (C := RX5) (T := TX5) (N := 15) (ci := 5) (pc := 45) hC _ _ 0 in_X5_bound_X5 rfl (by decide) (fun _ => rfl) (by decide) fl_X5_bound_7 (fun _ => rfl) dX5_bound_45 ?_
          refine z_iconst (pc := 48) hC dX5_bound_48 ?_
          refine z_ialk (pc := 49) hC _ 0 (by decide) (fun _ => rfl) rfl (by decide) (by decide) dX5_bound_49 ?_
          refine z_idiv (pc := 50) hC ⟨by omega, by omega⟩ (zb_gt _ _ _) (by omega) dX5_bound_50 ?_
          rw [z0, Int.tdiv_eq_ediv_of_nonneg (by omega), ← hW.1, ← Int.natCast_ediv]
          refine z_istore (pc := 51) hC (i := 6) dX5_bound_51 (by decide) rfl (zS_s (zS_s (zS_s (zS_s (zS_s (zS_s zS_0)))))) ?_
          have hvl : vl σ k j = _ := if_neg h27
          rw [← hvl]
          refine S_X5_bound_53 hw hC x k hk m (vl σ k j) j (BI_b hv (by omega) hB) (vl_b hv k (by omega)) _ (fun m1 p7 hm1 => ?_)
          refine z_iinc (pc := 108) hC (i := 5) dX5_bound_108 rfl (by decide) rfl (zS_s (zS_s (zS_s (zS_s (zS_s zS_0))))) ?_
          refine z_goto (pc := 111) hC 6 dX5_bound_111 rfl ?_
          exact ih (j + 1) m1 _ _ (by omega) (by omega) (BI_yes hv (by omega) hB h21 hm1)
        · refine z_iload (pc := 30) hC (i := 5) dX5_bound_30 rfl ?_
          refine z_aload_n (pc := 32) hC (i := 0) dX5_bound_32 rfl rfl ?_
          refine z_getR (C := RX5) (T := TX5) (N := 15) (ci := 5) (pc := 33) hC _ _ 0 in_X5_bound_X5 rfl (by decide) (fun _ => rfl) (by decide) fl_X5_bound_7 (fun _ => rfl) dX5_bound_33 ?_
          refine z_iconst (pc := 36) hC dX5_bound_36 ?_
          refine z_ialk (pc := 37) hC _ 0 (by decide) (fun _ => rfl) rfl (by decide) (by decide) dX5_bound_37 ?_
          refine z_irem (pc := 38) hC ⟨by omega, by omega⟩ (zb_gt _ _ _) (by omega) dX5_bound_38 ?_
          rw [z0, Int.tmod_eq_emod_of_nonneg (by omega), ← hW.1, ← Int.natCast_emod]
          refine z_goto (pc := 39) hC 51 dX5_bound_39 rfl ?_
          skip
          refine z_istore (pc := 51) hC (i := 6) dX5_bound_51 (by decide) rfl (zS_s (zS_s (zS_s (zS_s (zS_s (zS_s zS_0)))))) ?_
          have hvl : vl σ k j = _ := if_pos (by omega)
          rw [← hvl]
          refine S_X5_bound_53 hw hC x k hk m (vl σ k j) j (BI_b hv (by omega) hB) (vl_b hv k (by omega)) _ (fun m1 p7 hm1 => ?_)
          refine z_iinc (pc := 108) hC (i := 5) dX5_bound_108 rfl (by decide) rfl (zS_s (zS_s (zS_s (zS_s (zS_s zS_0))))) ?_
          refine z_goto (pc := 111) hC 6 dX5_bound_111 rfl ?_
          exact ih (j + 1) m1 _ _ (by omega) (by omega) (BI_yes hv (by omega) hB h21 hm1)
set_option maxHeartbeats 4000000 in
set_option maxRecDepth 100000 in
theorem c_X5_bound (l : Launch) (w : zP) (hw : zOK w) (Ω : Mem) (σ : Sg) (hσ : scM Ω = σ) (hv : scok σ) (x : Int64) (k : Int) (hk : 4 ≤ k ∧ k ≤ 7) : zM l w yX5_bound wsX5_bound 1 22 [.ref (wa w 49), .long x, .int (zI k)] Ω (zi (fun r Ω1 => BI σ x k (sdots σ) r ∧ Ω1 = Ω)) := by
  refine zM_of cX5_bound 8 (some .int) RX5 [some (.ref (wa w 49)), some (.long x), none, some (.int (zI k)), none, none, none, none] hw (by decide +kernel) rfl rfl (Nat.le_of_ble_eq_true rfl) rfl (fun E hC => ?_)
  have hN := sdots_le hv
  refine z_iconst (pc := 0) hC dX5_bound_0 ?_
  refine z_istore (pc := 1) hC (i := 4) dX5_bound_1 (by decide) rfl (zS_s (zS_s (zS_s (zS_s zS_0)))) ?_
  refine z_iconst (pc := 3) hC dX5_bound_3 ?_
  refine z_istore (pc := 4) hC (i := 5) dX5_bound_4 (by decide) rfl (zS_s (zS_s (zS_s (zS_s (zS_s zS_0))))) ?_
  refine L_X5_bound_6 hw hC Ω σ hσ hv x k hk (fun m o6 o7 hB => ?_) (sdots σ + 1) 0 (-1) none none (by omega) (by omega) (Or.inl ⟨rfl, fun t ht => absurd ht (Nat.not_lt_zero t)⟩)
  refine z_iload (pc := 114) hC (i := 4) dX5_bound_114 rfl ?_
  exact z_iret (pc := 116) hC rfl ⟨_, rfl, hB, rfl⟩ dX5_bound_116
theorem ts_X5_shape_22 {a : Int} {tgt : Nat} (h : (0 ≤ a ∧ a ≤ 3 ∧ (#[30, 36, 47, 53] : Array Int)[(a - 0).toNat]? = some ((tgt : Int) - (22 : Nat))) ∨ ((a < 0 ∨ 3 < a) ∧ (tgt : Int) = (22 : Nat) + 59)) : (tgt = 52 ∧ (a = 0)) ∨ (tgt = 58 ∧ (a = 1)) ∨ (tgt = 69 ∧ (a = 2)) ∨ (tgt = 75 ∧ (a = 3)) ∨ (tgt = 81 ∧ (a < 0 ∨ 3 < a)) := by
  rcases h with ⟨h1, h2, h3⟩ | ⟨h1, h2⟩
  · obtain ⟨i, hi⟩ := nat_of (by omega : 0 ≤ a - 0)
    rw [hi, Int.toNat_natCast] at h3
    rcases (by omega : i = 0 ∨ i = 1 ∨ i = 2 ∨ i = 3) with rfl | rfl | rfl | rfl <;> simp at h3 <;> omega
  · omega
set_option maxHeartbeats 4000000 in
set_option maxRecDepth 100000 in
theorem c_X5_shape (l : Launch) (w : zP) (hw : zOK w) (Ω : Mem) (a : As) (h : RM Ω a) (k : Int) (hk : zb k) : zM l w yX5_shape wsX5_shape 11 266 [.ref (wa w 49), .int (zI k)] Ω (zi (fun r Ω1 => r = (aShape a k).1 ∧ RM Ω1 (aShape a k).2 ∧ frG Ω Ω1)) := by
  refine zM_of cX5_shape 4 (some .int) RX5 [some (.ref (wa w 49)), some (.int (zI k)), none, none] hw (by decide +kernel) rfl rfl (Nat.le_of_ble_eq_true rfl) rfl (fun E hC => ?_)
  have hv := h.1.2
  have hσ := h.1.1
  have z0 : gt Ω 50 0 = a.1 0 := st_at hσ (by decide)
  have z1 : gt Ω 50 1 = a.1 1 := st_at hσ (by decide)
  have hN := sdots_le hv
  have hw01 := hv.1
  have hh01 := hv.2.1
  refine z_iload_n (pc := 0) hC (i := 1) dX5_shape_0 rfl rfl ?_
  refine z_iconst (pc := 1) hC dX5_shape_1 ?_
  refine z_bipush (pc := 2) hC dX5_shape_2 rfl ?_
  refine z_callS (n := 3) (pc := 4) hC (c_X5_in l w hw _ _ _ _ (by first | assumption | exact zb_gt _ _ _ | exact zcmp_zb _ _ | exact bI_zb _ | exact ⟨by omega, by omega⟩) (by first | assumption | exact zb_gt _ _ _ | exact zcmp_zb _ _ | exact bI_zb _ | exact ⟨by omega, by omega⟩) (by first | assumption | exact zb_gt _ _ _ | exact zcmp_zb _ _ | exact bI_zb _ | exact ⟨by omega, by omega⟩)) gX5_shape_X5_in rfl (by decide +kernel) (by decide) (by decide) rfl rfl (Nat.le_of_ble_eq_true rfl) dX5_shape_4 (zb_k fun r4 Ω4 h4 => ?_)
  obtain ⟨rfl, hM4⟩ := h4
  obtain rfl := hM4.symm
  refine z_ifd_ne (pc := 7) hC 15 dX5_shape_7 rfl (fun h7 => ?_) (fun h7 => ?_)
  · refine z_aload_n (pc := 15) hC (i := 0) dX5_shape_15 rfl rfl ?_
    refine z_iconst (pc := 16) hC dX5_shape_16 ?_
    refine z_callV (n := 1) (T := TX5) (N := 15) (ci := 5) (pc := 17) hC (c_X5_sideOf l w hw _ a.1 hσ hv h.2.2.2.2 0 (Or.inl rfl)) gX5_shape_X5_sideOf rfl (by decide +kernel) (by decide) (by decide) rfl (by decide) (fun _ => rfl) rfl rfl (Nat.le_of_ble_eq_true rfl) dX5_shape_17 (zl_k fun r17 Ω17 h17 => ?_)
    obtain ⟨hr17, hF17⟩ := h17
    rw [if_pos rfl] at hr17
    subst hr17
    have hs17 : scM Ω17 = a.1 := (scM_cong (hF17 50 (by decide) (by decide) (by decide))).trans hσ
    have hlo : ∀ k, tb (loS a.1) k = true → k < sdots a.1 := fun k hk => ((loS_is hv k).mp hk).1
    refine z_lstore_n (pc := 20) hC (i := 2) dX5_shape_20 rfl (by decide) rfl (zS2_s (zS2_s zS2_0)) ?_
    refine z_iload_n (pc := 21) hC (i := 1) dX5_shape_21 rfl rfl ?_
    refine z_ts (pc := 22) hC (by first | assumption | exact ⟨by omega, by omega⟩) dX5_shape_22 (by decide) (by decide) (by intro i hi; show i < 4; omega) (fun tgt ht => ?_)
    rcases ts_X5_shape_22 ht with ⟨rfl, hk22⟩ | ⟨rfl, hk22⟩ | ⟨rfl, hk22⟩ | ⟨rfl, hk22⟩ | ⟨rfl, hk22⟩
    · refine z_aload_n (pc := 52) hC (i := 0) dX5_shape_52 rfl rfl ?_
      refine z_lload_n (pc := 53) hC (i := 2) dX5_shape_53 rfl rfl ?_
      refine z_callV (n := 1) (T := TX5) (N := 15) (ci := 5) (pc := 54) hC (c_X5_many l w hw _ a.1 hs17 hv (loS a.1)) gX5_shape_X5_many rfl (by decide +kernel) (by decide) (by decide) rfl (by decide) (fun _ => rfl) rfl rfl (Nat.le_of_ble_eq_true rfl) dX5_shape_54 (zi_k fun r54 Ω54 h54 => ?_)
      obtain ⟨rfl, hM54⟩ := h54
      obtain rfl := hM54.symm
      exact z_iret (pc := 57) hC rfl ⟨_, rfl, by
      obtain ⟨g1, g2⟩ := h.scr4 (Ω1 := _) (fun q u1 u2 u3 u4 => hF17 q u1 u2 u3)
      exact ok_retM (by unfold aShape; rw [if_pos (by omega)]; unfold shpV; rw [if_pos (by omega), pcn_lt (N := sdots a.1) (by omega) hlo]) g1 g2⟩ dX5_shape_57
    · refine z_aload_n (pc := 58) hC (i := 0) dX5_shape_58 rfl rfl ?_
      refine z_lload_n (pc := 59) hC (i := 2) dX5_shape_59 rfl rfl ?_
      refine z_iconst (pc := 60) hC dX5_shape_60 ?_
      refine z_callV (n := 2) (T := TX5) (N := 15) (ci := 5) (pc := 61) hC (c_X5_laysPieces l w hw _ a.1 hv (loS a.1) 1 (Or.inr rfl) (loS a.1) hlo (fun k hk => ⟨fun q => ⟨fun _ => rfl, fun _ => q⟩, fun q => q.mpr rfl⟩) hs17) gX5_shape_X5_laysPieces rfl (by decide +kernel) (by decide) (by decide) rfl (by decide) (fun _ => rfl) rfl rfl (Nat.le_of_ble_eq_true rfl) dX5_shape_61 (zv_k fun Ω61 h61 => ?_)
      obtain ⟨hI61, hJ61, hF61⟩ := h61
      refine z_aload_n (pc := 64) hC (i := 0) dX5_shape_64 rfl rfl ?_
      refine z_callV (n := 0) (T := TX5) (N := 15) (ci := 5) (pc := 65) hC (c_X5_pieces l w hw _ a.1 ((scM_cong (hF61 50 (by decide))).trans hs17) hv) gX5_shape_X5_pieces rfl (by decide +kernel) (by decide) (by decide) rfl (by decide) (fun _ => rfl) rfl rfl (Nat.le_of_ble_eq_true rfl) dX5_shape_65 (zi_k fun r65 Ω65 h65 => ?_)
      obtain ⟨rfl, hM65⟩ := h65
      obtain rfl := hM65.symm
      exact z_iret (pc := 68) hC rfl ⟨_, rfl, by
      obtain ⟨g1, g2⟩ := h.scr4 (Ω1 := _) (fun q u1 u2 u3 u4 => (hF61 q u4).trans (hF17 q u1 u2 u3))
      exact ok_retM (by unfold aShape; rw [if_pos (by omega)]; unfold shpV; rw [if_neg (by omega), if_pos (by omega), ← pieces_eq hv hlo hI61 hJ61]) g1 g2⟩ dX5_shape_68
    · refine z_aload_n (pc := 69) hC (i := 0) dX5_shape_69 rfl rfl ?_
      refine z_lload_n (pc := 70) hC (i := 2) dX5_shape_70 rfl rfl ?_
      refine z_callV (n := 1) (T := TX5) (N := 15) (ci := 5) (pc := 71) hC (c_X5_holes l w hw _ a.1 hs17 hv (loS a.1)) gX5_shape_X5_holes rfl (by decide +kernel) (by decide) (by decide) rfl (by decide) (fun _ => rfl) rfl rfl (Nat.le_of_ble_eq_true rfl) dX5_shape_71 (zi_k fun r71 Ω71 h71 => ?_)
      obtain ⟨hr71, hF71⟩ := h71
      subst hr71
      exact z_iret (pc := 74) hC rfl ⟨_, rfl, by
      obtain ⟨g1, g2⟩ := h.scr4 (Ω1 := _) (fun q u1 u2 u3 u4 => (hF71 q u4).trans (hF17 q u1 u2 u3))
      exact ok_retM (by unfold aShape; rw [if_pos (by omega)]; unfold shpV; rw [if_neg (by omega), if_neg (by omega), if_pos (by omega)]) g1 g2⟩ dX5_shape_74
    · refine z_aload_n (pc := 75) hC (i := 0) dX5_shape_75 rfl rfl ?_
      refine z_lload_n (pc := 76) hC (i := 2) dX5_shape_76 rfl rfl ?_
      refine z_callV (n := 1) (T := TX5) (N := 15) (ci := 5) (pc := 77) hC (c_X5_edges l w hw _ a.1 hs17 hv (loS a.1)) gX5_shape_X5_edges rfl (by decide +kernel) (by decide) (by decide) rfl (by decide) (fun _ => rfl) rfl rfl (Nat.le_of_ble_eq_true rfl) dX5_shape_77 (zi_k fun r77 Ω77 h77 => ?_)
      obtain ⟨rfl, hM77⟩ := h77
      obtain rfl := hM77.symm
      exact z_iret (pc := 80) hC rfl ⟨_, rfl, by
      obtain ⟨g1, g2⟩ := h.scr4 (Ω1 := _) (fun q u1 u2 u3 u4 => hF17 q u1 u2 u3)
      exact ok_retM (by unfold aShape; rw [if_pos (by omega)]; unfold shpV; rw [if_neg (by omega), if_neg (by omega), if_neg (by omega), if_pos (by omega), ← edV_eq hv hlo]) g1 g2⟩ dX5_shape_80
    · refine z_aload_n (pc := 81) hC (i := 0) dX5_shape_81 rfl rfl ?_
      refine z_lload_n (pc := 82) hC (i := 2) dX5_shape_82 rfl rfl ?_
      refine z_iload_n (pc := 83) hC (i := 1) dX5_shape_83 rfl rfl ?_
      refine z_callV (n := 2) (T := TX5) (N := 15) (ci := 5) (pc := 84) hC (c_X5_bound l w hw _ a.1 hs17 hv (loS a.1) k (by omega)) gX5_shape_X5_bound rfl (by decide +kernel) (by decide) (by decide) rfl (by decide) (fun _ => rfl) rfl rfl (Nat.le_of_ble_eq_true rfl) dX5_shape_84 (zi_k fun r84 Ω84 h84 => ?_)
      obtain ⟨hr84, hm84⟩ := h84
      have hm84 := hm84.symm
      subst hm84
      exact z_iret (pc := 87) hC rfl ⟨_, rfl, by
      obtain ⟨g1, g2⟩ := h.scr4 (Ω1 := _) (fun q u1 u2 u3 u4 => hF17 q u1 u2 u3)
      exact ok_retM (by unfold aShape; rw [if_pos (by omega)]; rw [← bound_eq hv hlo (by omega) hr84]) g1 g2⟩ dX5_shape_87
  · refine z_aload_n (pc := 10) hC (i := 0) dX5_shape_10 rfl rfl ?_
    refine z_callV (n := 0) (T := TX5) (N := 15) (ci := 5) (pc := 11) hC (c_X5_bad l w hw _) gX5_shape_X5_bad rfl (by decide +kernel) (by decide) (by decide) rfl (by decide) (fun _ => rfl) rfl rfl (Nat.le_of_ble_eq_true rfl) dX5_shape_11 (zi_k fun r11 Ω11 h11 => ?_)
    obtain ⟨rfl, rfl⟩ := h11
    exact z_iret (pc := 14) hC rfl ⟨_, rfl, bad_retM h (if_neg (by omega))⟩ dX5_shape_14
