theorem and31 (x : Int32) : ∃ r : Nat, r < 32 ∧ x &&& zI 31 = zI (r : Int) := by
  refine ⟨(x.toBitVec &&& 31#32).toNat, ?_, ?_⟩
  · rw [BitVec.toNat_and]
    exact Nat.lt_of_le_of_lt Nat.and_le_right (by decide)
  · apply Int32.toBitVec_inj.mp
    rw [← zI_n]
    show x.toBitVec &&& 31#32 = BitVec.ofNat 32 (x.toBitVec &&& 31#32).toNat
    rw [BitVec.ofNat_toNat, BitVec.setWidth_eq]

set_option maxHeartbeats 4000000 in
set_option maxRecDepth 100000 in
theorem law_loop {E : zE} {w : zP} {l : Launch} {b0 L : Nat} {xs : Nat → Int32} (hw : zOK w) (hC : yC E w l b0 L xs) (hL : L ≤ 3072) : ∀ (n i : Nat) (Ω : Mem) (a : As), L + 6 ≤ i + n → i ≤ L → RC Ω a → RM Ω a → Y E Ω 18 [some (.ref b0), some (.ref (wa w 0)), some (.ref (wa w 49)), some (.int (zI (i : Int)))] [] := by
  intro n
  induction n with
  | zero =>
    intro i Ω a hn hiL
    exact absurd hn (by omega)
  | succ n ih =>
    intro i Ω a hn hiL hC0 hM
    have K : ∀ (Ω1 : Mem) (a1 : As), RC Ω1 a1 → RM Ω1 a1 → i + 6 ≤ L → Y E Ω1 972 [some (.ref b0), some (.ref (wa w 0)), some (.ref (wa w 49)), some (.int (zI (i : Int)))] [] := fun Ω1 a1 c1 m1 hi => by
      refine y_iinc (pc := 972) hC (i := 3) dL_law_972 rfl (by decide) rfl (zS_s (zS_s (zS_s zS_0))) ?_
      refine y_goto (pc := 975) hC 18 dL_law_975 rfl ?_
      exact ih (i + 6) Ω1 a1 (by omega) (by omega) c1 m1
    refine y_iload_n (pc := 18) hC (i := 3) dL_law_18 rfl rfl ?_
    refine y_aload_n (pc := 19) hC (i := 0) dL_law_19 rfl rfl ?_
    refine y_slen (pc := 20) hC dL_law_20 ?_
    refine y_bipush (pc := 21) hC dL_law_21 rfl ?_
    refine y_isub (pc := 23) hC dL_law_23 ?_
    refine y_icmp_gt (pc := 24) hC 978 ⟨by omega, by omega⟩ ⟨by omega, by omega⟩ dL_law_24 rfl (fun h24 => ?_) (fun h24 => ?_)
    · exact y_end (pc := 978) hC dL_law_978 dL_law_979
    · have hi : i + 6 ≤ L := by omega
      refine y_aload_n (pc := 27) hC (i := 0) dL_law_27 rfl rfl ?_
      refine y_iload_n (pc := 28) hC (i := 3) dL_law_28 rfl rfl ?_
      refine y_sld (pc := 29) hC i rfl (by omega) hL dL_law_29 ?_
      refine y_bipush (pc := 30) hC dL_law_30 rfl ?_
      obtain ⟨r, hr, er⟩ := and31 (zI (xs i).toInt)
      refine y_iand (pc := 32) hC (r : Int) er dL_law_32 ?_
      rcases (show r = 0 ∨ r = 1 ∨ r = 2 ∨ r = 3 ∨ r = 4 ∨ r = 5 ∨ r = 6 ∨ r = 7 ∨ r = 8 ∨ r = 9 ∨ r = 10 ∨ r = 11 ∨ r = 12 ∨ r = 13 ∨ r = 14 ∨ r = 15 ∨ r = 16 ∨ r = 17 ∨ r = 18 ∨ r = 19 ∨ r = 20 ∨ r = 21 ∨ r = 22 ∨ r = 23 ∨ r = 24 ∨ r = 25 ∨ 26 ≤ r by omega) with rfl | rfl | rfl | rfl | rfl | rfl | rfl | rfl | rfl | rfl | rfl | rfl | rfl | rfl | rfl | rfl | rfl | rfl | rfl | rfl | rfl | rfl | rfl | rfl | rfl | rfl | h26
      · refine y_tsIn (pc := 33) hC (off := 119) 152 ⟨by decide, by decide⟩ (by decide) (by decide) dL_law_33 rfl rfl ?_
        exact K_law_0 hw hC i hi hL a hC0 hM (fun Ω1 a1 c1 m1 => K Ω1 a1 c1 m1 hi)
      · refine y_tsIn (pc := 33) hC (off := 152) 185 ⟨by decide, by decide⟩ (by decide) (by decide) dL_law_33 rfl rfl ?_
        exact K_law_1 hw hC i hi hL a hC0 hM (fun Ω1 a1 c1 m1 => K Ω1 a1 c1 m1 hi)
      · refine y_tsIn (pc := 33) hC (off := 195) 228 ⟨by decide, by decide⟩ (by decide) (by decide) dL_law_33 rfl rfl ?_
        exact K_law_2 hw hC i hi hL a hC0 hM (fun Ω1 a1 c1 m1 => K Ω1 a1 c1 m1 hi)
      · refine y_tsIn (pc := 33) hC (off := 228) 261 ⟨by decide, by decide⟩ (by decide) (by decide) dL_law_33 rfl rfl ?_
        exact K_law_3 hw hC i hi hL a hC0 hM (fun Ω1 a1 c1 m1 => K Ω1 a1 c1 m1 hi)
      · refine y_tsIn (pc := 33) hC (off := 281) 314 ⟨by decide, by decide⟩ (by decide) (by decide) dL_law_33 rfl rfl ?_
        exact K_law_4 hw hC i hi hL a hC0 hM (fun Ω1 a1 c1 m1 => K Ω1 a1 c1 m1 hi)
      · refine y_tsIn (pc := 33) hC (off := 324) 357 ⟨by decide, by decide⟩ (by decide) (by decide) dL_law_33 rfl rfl ?_
        exact K_law_5 hw hC i hi hL a hC0 hM (fun Ω1 a1 c1 m1 => K Ω1 a1 c1 m1 hi)
      · refine y_tsIn (pc := 33) hC (off := 387) 420 ⟨by decide, by decide⟩ (by decide) (by decide) dL_law_33 rfl rfl ?_
        exact K_law_6 hw hC i hi hL a hC0 hM (fun Ω1 a1 c1 m1 => K Ω1 a1 c1 m1 hi)
      · refine y_tsIn (pc := 33) hC (off := 420) 453 ⟨by decide, by decide⟩ (by decide) (by decide) dL_law_33 rfl rfl ?_
        exact K_law_7 hw hC i hi hL a hC0 hM (fun Ω1 a1 c1 m1 => K Ω1 a1 c1 m1 hi)
      · refine y_tsIn (pc := 33) hC (off := 463) 496 ⟨by decide, by decide⟩ (by decide) (by decide) dL_law_33 rfl rfl ?_
        exact K_law_8 hw hC i hi hL a hC0 hM (fun Ω1 a1 c1 m1 => K Ω1 a1 c1 m1 hi)
      · refine y_tsIn (pc := 33) hC (off := 506) 539 ⟨by decide, by decide⟩ (by decide) (by decide) dL_law_33 rfl rfl ?_
        exact K_law_9 hw hC i hi hL a hC0 hM (fun Ω1 a1 c1 m1 => K Ω1 a1 c1 m1 hi)
      · refine y_tsIn (pc := 33) hC (off := 519) 552 ⟨by decide, by decide⟩ (by decide) (by decide) dL_law_33 rfl rfl ?_
        exact K_law_10 hw hC i hi hL a hC0 hM (fun Ω1 a1 c1 m1 => K Ω1 a1 c1 m1 hi)
      · refine y_tsIn (pc := 33) hC (off := 543) 576 ⟨by decide, by decide⟩ (by decide) (by decide) dL_law_33 rfl rfl ?_
        exact K_law_11 hw hC i hi hL a hC0 hM (fun Ω1 a1 c1 m1 => K Ω1 a1 c1 m1 hi)
      · refine y_tsIn (pc := 33) hC (off := 576) 609 ⟨by decide, by decide⟩ (by decide) (by decide) dL_law_33 rfl rfl ?_
        exact K_law_12 hw hC i hi hL a hC0 hM (fun Ω1 a1 c1 m1 => K Ω1 a1 c1 m1 hi)
      · refine y_tsIn (pc := 33) hC (off := 619) 652 ⟨by decide, by decide⟩ (by decide) (by decide) dL_law_33 rfl rfl ?_
        exact K_law_13 hw hC i hi hL a hC0 hM (fun Ω1 a1 c1 m1 => K Ω1 a1 c1 m1 hi)
      · refine y_tsIn (pc := 33) hC (off := 672) 705 ⟨by decide, by decide⟩ (by decide) (by decide) dL_law_33 rfl rfl ?_
        exact K_law_14 hw hC i hi hL a hC0 hM (fun Ω1 a1 c1 m1 => K Ω1 a1 c1 m1 hi)
      · refine y_tsIn (pc := 33) hC (off := 715) 748 ⟨by decide, by decide⟩ (by decide) (by decide) dL_law_33 rfl rfl ?_
        exact K_law_15 hw hC i hi hL a hC0 hM (fun Ω1 a1 c1 m1 => K Ω1 a1 c1 m1 hi)
      · refine y_tsIn (pc := 33) hC (off := 768) 801 ⟨by decide, by decide⟩ (by decide) (by decide) dL_law_33 rfl rfl ?_
        exact K_law_16 hw hC i hi hL a hC0 hM (fun Ω1 a1 c1 m1 => K Ω1 a1 c1 m1 hi)
      · refine y_tsIn (pc := 33) hC (off := 791) 824 ⟨by decide, by decide⟩ (by decide) (by decide) dL_law_33 rfl rfl ?_
        exact K_law_17 hw hC i hi hL a hC0 hM (fun Ω1 a1 c1 m1 => K Ω1 a1 c1 m1 hi)
      · refine y_tsIn (pc := 33) hC (off := 814) 847 ⟨by decide, by decide⟩ (by decide) (by decide) dL_law_33 rfl rfl ?_
        exact K_law_18 hw hC i hi hL a hC0 hM (fun Ω1 a1 c1 m1 => K Ω1 a1 c1 m1 hi)
      · refine y_tsIn (pc := 33) hC (off := 827) 860 ⟨by decide, by decide⟩ (by decide) (by decide) dL_law_33 rfl rfl ?_
        exact K_law_19 hw hC i hi hL a hC0 hM (fun Ω1 a1 c1 m1 => K Ω1 a1 c1 m1 hi)
      · refine y_tsIn (pc := 33) hC (off := 840) 873 ⟨by decide, by decide⟩ (by decide) (by decide) dL_law_33 rfl rfl ?_
        exact K_law_20 hw hC i hi hL a hC0 hM (fun Ω1 a1 c1 m1 => K Ω1 a1 c1 m1 hi)
      · refine y_tsIn (pc := 33) hC (off := 863) 896 ⟨by decide, by decide⟩ (by decide) (by decide) dL_law_33 rfl rfl ?_
        exact K_law_21 hw hC i hi hL a hC0 hM (fun Ω1 a1 c1 m1 => K Ω1 a1 c1 m1 hi)
      · refine y_tsIn (pc := 33) hC (off := 876) 909 ⟨by decide, by decide⟩ (by decide) (by decide) dL_law_33 rfl rfl ?_
        exact K_law_22 hw hC i hi hL a hC0 hM (fun Ω1 a1 c1 m1 => K Ω1 a1 c1 m1 hi)
      · refine y_tsIn (pc := 33) hC (off := 889) 922 ⟨by decide, by decide⟩ (by decide) (by decide) dL_law_33 rfl rfl ?_
        exact K_law_23 hw hC i hi hL a hC0 hM (fun Ω1 a1 c1 m1 => K Ω1 a1 c1 m1 hi)
      · refine y_tsIn (pc := 33) hC (off := 902) 935 ⟨by decide, by decide⟩ (by decide) (by decide) dL_law_33 rfl rfl ?_
        exact K_law_24 hw hC i hi hL a hC0 hM (fun Ω1 a1 c1 m1 => K Ω1 a1 c1 m1 hi)
      · refine y_tsIn (pc := 33) hC (off := 925) 958 ⟨by decide, by decide⟩ (by decide) (by decide) dL_law_33 rfl rfl ?_
        exact K_law_25 hw hC i hi hL a hC0 hM (fun Ω1 a1 c1 m1 => K Ω1 a1 c1 m1 hi)
      · refine y_tsOut (pc := 33) hC 972 ⟨by omega, by omega⟩ (Or.inr (by omega)) dL_law_33 rfl ?_
        exact K Ω a hC0 hM hi
