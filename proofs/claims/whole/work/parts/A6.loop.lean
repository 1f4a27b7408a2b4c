theorem sub6 {L : Nat} (hL : L ≤ 3072) : (nI L - 6).toInt = (L : Int) - 6 := by
  rw [Int32.toInt_sub, nI_toInt (by omega)]
  show Int.bmod ((L : Int) - 6) (2 ^ 32) = _
  exact Int.bmod_eq_of_le (by omega) (by omega)
theorem law_end {b L X j : Nat} {xs : Nat → Int32} {n : Nat} {h : Hp} (hL : L ≤ 3072) (hj : 6 * j ≤ L) (hd : L < 6 * j + 6) : AW mL_law (gL b L xs) 18 [some (.ref b), some (.ref X), some (.ref (X + 126)), some (.int (nI (6 * j)))] [] (158 + 10 * j) (28596 + 1010 * j) n h := by
  refine aw_iload_n (i := 3) dL_law_18 rfl rfl ?_
  refine aw_aload_n (i := 0) dL_law_19 rfl rfl ?_
  refine aw_slen dL_law_20  ?_
  refine aw_bipush (v := 6) dL_law_21 (by decide +kernel) ?_
  refine aw_isub dL_law_23 ?_
  refine aw_icmp_gt (tgt := 1108) dL_law_24 (by decide) (fun _ => ?_) (fun c => (c (Int32.lt_iff_toInt_lt.mpr (by rw [sub6 hL, nI_toInt (by omega)]; omega))).elim)
  refine aw_iconst (v := 1) dL_law_1108 (by decide +kernel) ?_
  exact aw_lret dL_law_1109 (by omega) (by omega)
theorem law_go {b L X j : Nat} {xs : Nat → Int32} {n : Nat} {h : Hp} (hL : L ≤ 3072) (hj : 6 * j + 6 ≤ L) (kk : AW mL_law (gL b L xs) 27 [some (.ref b), some (.ref X), some (.ref (X + 126)), some (.int (nI (6 * j)))] [] (158 + 10 * j) (28596 + 1010 * j) n h) : AW mL_law (gL b L xs) 18 [some (.ref b), some (.ref X), some (.ref (X + 126)), some (.int (nI (6 * j)))] [] (158 + 10 * j) (28596 + 1010 * j) n h := by
  refine aw_iload_n (i := 3) dL_law_18 rfl rfl ?_
  refine aw_aload_n (i := 0) dL_law_19 rfl rfl ?_
  refine aw_slen dL_law_20  ?_
  refine aw_bipush (v := 6) dL_law_21 (by decide +kernel) ?_
  refine aw_isub dL_law_23 ?_
  refine aw_icmp_gt (tgt := 1108) dL_law_24 (by decide) (fun c => absurd c (fun q => by have := Int32.lt_iff_toInt_lt.mp q; rw [sub6 hL, nI_toInt (by omega)] at this; omega)) (fun _ => ?_)
  exact kk
theorem law_next {b L X j : Nat} {xs : Nat → Int32} {n kc ks : Nat} {h : Hp} (kk : AW mL_law (gL b L xs) 18 [some (.ref b), some (.ref X), some (.ref (X + 126)), some (.int (nI (6 * (j + 1))))] [] kc ks n h) : AW mL_law (gL b L xs) 1102 [some (.ref b), some (.ref X), some (.ref (X + 126)), some (.int (nI (6 * j)))] [] kc ks n h := by
  have e : nI (6 * j) + 6 = nI (6 * (j + 1)) := by
    show nI (6 * j) + nI 6 = _
    unfold nI; rw [← Int32.ofNat_add]
    rfl
  refine aw_iinc_3 (c0 := 6) dL_law_1102 (by decide) (by decide) rfl ?_
  rw [e]
  refine aw_goto (tgt := 18) dL_law_1105 (by decide) ?_
  exact kk
theorem law_body {b L X j : Nat} {xs : Nat → Int32} {S : TS} {h : Hp} (hj : 6 * j + 6 ≤ L) (hL : L ≤ 3072) (hI : SInv S) (hC : CRep h X S) (hM : MRep h (X + 126) S) (kk : ∀ (S1 : TS) (h1 : Hp), SInv S1 → CRep h1 X S1 → MRep h1 (X + 126) S1 → AW mL_law (gL b L xs) 1102 [some (.ref b), some (.ref X), some (.ref (X + 126)), some (.int (nI (6 * j)))] [] (158 + 10 * (j + 1)) (28596 + 1010 * (j + 1)) (cn X S1) h1) : AW mL_law (gL b L xs) 27 [some (.ref b), some (.ref X), some (.ref (X + 126)), some (.int (nI (6 * j)))] [] (158 + 10 * j) (28596 + 1010 * j) (cn X S) h := by
  refine aw_aload_n (i := 0) dL_law_27 rfl rfl ?_
  refine aw_iload_n (i := 3) dL_law_28 rfl rfl ?_
  refine aw_sld dL_law_29 (nI_in (by omega) (by omega)) ?_
  refine aw_bipush (v := 31) dL_law_30 (by decide +kernel) ?_
  refine aw_iand dL_law_32 ?_
  generalize (xs (nI (6 * j)).toNatClampNeg &&& 31) = y
  by_cases h0 : y.toInt = 0
  · exact aw_tableIn (tgt := 152) dL_law_33 (by omega) (by omega) (by rw [h0]; rfl) (by decide) (lc_0 hj hL hI hC hM kk)
  by_cases h1 : y.toInt = 1
  · exact aw_tableIn (tgt := 175) dL_law_33 (by omega) (by omega) (by rw [h1]; rfl) (by decide) (lc_1 hj hL hI hC hM kk)
  by_cases h2 : y.toInt = 2
  · exact aw_tableIn (tgt := 188) dL_law_33 (by omega) (by omega) (by rw [h2]; rfl) (by decide) (lc_2 hj hL hI hC hM kk)
  by_cases h3 : y.toInt = 3
  · exact aw_tableIn (tgt := 231) dL_law_33 (by omega) (by omega) (by rw [h3]; rfl) (by decide) (lc_3 hj hL hI hC hM kk)
  by_cases h4 : y.toInt = 4
  · exact aw_tableIn (tgt := 274) dL_law_33 (by omega) (by omega) (by rw [h4]; rfl) (by decide) (lc_4 hj hL hI hC hM kk)
  by_cases h5 : y.toInt = 5
  · exact aw_tableIn (tgt := 297) dL_law_33 (by omega) (by omega) (by rw [h5]; rfl) (by decide) (lc_5 hj hL hI hC hM kk)
  by_cases h6 : y.toInt = 6
  · exact aw_tableIn (tgt := 330) dL_law_33 (by omega) (by omega) (by rw [h6]; rfl) (by decide) (lc_6 hj hL hI hC hM kk)
  by_cases h7 : y.toInt = 7
  · exact aw_tableIn (tgt := 373) dL_law_33 (by omega) (by omega) (by rw [h7]; rfl) (by decide) (lc_7 hj hL hI hC hM kk)
  by_cases h8 : y.toInt = 8
  · exact aw_tableIn (tgt := 406) dL_law_33 (by omega) (by omega) (by rw [h8]; rfl) (by decide) (lc_8 hj hL hI hC hM kk)
  by_cases h9 : y.toInt = 9
  · exact aw_tableIn (tgt := 439) dL_law_33 (by omega) (by omega) (by rw [h9]; rfl) (by decide) (lc_9 hj hL hI hC hM kk)
  by_cases h10 : y.toInt = 10
  · exact aw_tableIn (tgt := 482) dL_law_33 (by omega) (by omega) (by rw [h10]; rfl) (by decide) (lc_10 hj hL hI hC hM kk)
  by_cases h11 : y.toInt = 11
  · exact aw_tableIn (tgt := 515) dL_law_33 (by omega) (by omega) (by rw [h11]; rfl) (by decide) (lc_11 hj hL hI hC hM kk)
  by_cases h12 : y.toInt = 12
  · exact aw_tableIn (tgt := 558) dL_law_33 (by omega) (by omega) (by rw [h12]; rfl) (by decide) (lc_12 hj hL hI hC hM kk)
  by_cases h13 : y.toInt = 13
  · exact aw_tableIn (tgt := 611) dL_law_33 (by omega) (by omega) (by rw [h13]; rfl) (by decide) (lc_13 hj hL hI hC hM kk)
  by_cases h14 : y.toInt = 14
  · exact aw_tableIn (tgt := 664) dL_law_33 (by omega) (by omega) (by rw [h14]; rfl) (by decide) (lc_14 hj hL hI hC hM kk)
  by_cases h15 : y.toInt = 15
  · exact aw_tableIn (tgt := 677) dL_law_33 (by omega) (by omega) (by rw [h15]; rfl) (by decide) (lc_15 hj hL hI hC hM kk)
  by_cases h16 : y.toInt = 16
  · exact aw_tableIn (tgt := 730) dL_law_33 (by omega) (by omega) (by rw [h16]; rfl) (by decide) (lc_16 hj hL hI hC hM kk)
  by_cases h17 : y.toInt = 17
  · exact aw_tableIn (tgt := 763) dL_law_33 (by omega) (by omega) (by rw [h17]; rfl) (by decide) (lc_17 hj hL hI hC hM kk)
  by_cases h18 : y.toInt = 18
  · exact aw_tableIn (tgt := 796) dL_law_33 (by omega) (by omega) (by rw [h18]; rfl) (by decide) (lc_18 hj hL hI hC hM kk)
  by_cases h19 : y.toInt = 19
  · exact aw_tableIn (tgt := 840) dL_law_33 (by omega) (by omega) (by rw [h19]; rfl) (by decide) (lc_19 hj hL hI hC hM kk)
  by_cases h20 : y.toInt = 20
  · exact aw_tableIn (tgt := 874) dL_law_33 (by omega) (by omega) (by rw [h20]; rfl) (by decide) (lc_20 hj hL hI hC hM kk)
  by_cases h21 : y.toInt = 21
  · exact aw_tableIn (tgt := 897) dL_law_33 (by omega) (by omega) (by rw [h21]; rfl) (by decide) (lc_21 hj hL hI hC hM kk)
  by_cases h22 : y.toInt = 22
  · exact aw_tableIn (tgt := 930) dL_law_33 (by omega) (by omega) (by rw [h22]; rfl) (by decide) (lc_22 hj hL hI hC hM kk)
  by_cases h23 : y.toInt = 23
  · exact aw_tableIn (tgt := 993) dL_law_33 (by omega) (by omega) (by rw [h23]; rfl) (by decide) (lc_23 hj hL hI hC hM kk)
  by_cases h24 : y.toInt = 24
  · exact aw_tableIn (tgt := 1036) dL_law_33 (by omega) (by omega) (by rw [h24]; rfl) (by decide) (lc_24 hj hL hI hC hM kk)
  by_cases h25 : y.toInt = 25
  · exact aw_tableIn (tgt := 1079) dL_law_33 (by omega) (by omega) (by rw [h25]; rfl) (by decide) (lc_25 hj hL hI hC hM kk)
  exact aw_tableOut (tgt := 1102) dL_law_33 (by omega) (by decide) (AW.widen (by omega) (by omega) (kk S h hI hC hM))
theorem law_loop {b L X : Nat} {xs : Nat → Int32} (hL : L ≤ 3072) : ∀ (r j : Nat) (S : TS) (h : Hp), 6 * j ≤ L → L < 6 * j + 6 * r + 6 → SInv S → CRep h X S → MRep h (X + 126) S → AW mL_law (gL b L xs) 18 [some (.ref b), some (.ref X), some (.ref (X + 126)), some (.int (nI (6 * j)))] [] (158 + 10 * j) (28596 + 1010 * j) (cn X S) h := by
  intro r
  induction r with
  | zero =>
    intro j S h h1 h2 hI hC hM
    exact law_end hL h1 (by omega)
  | succ r ih =>
    intro j S h h1 h2 hI hC hM
    by_cases hj : 6 * j + 6 ≤ L
    · refine law_go hL hj (law_body hj hL hI hC hM (fun S1 h3 a1 a2 a3 => ?_))
      refine law_next ?_
      exact ih (j + 1) S1 h3 (by omega) (by omega) a1 a2 a3
    · exact law_end hL h1 (by omega)
