/-! long division -/
def dobj (Q V R H W : Nat) (a b c d : Int64) : AC := .inr (0, [.ref Q, .ref V, .ref R, .ref H, .ref W, .long a, .long b, .long c, .long d])
theorem lN_neg {N : Nat} (h1 : 2 ^ 63 ≤ N) (h2 : N < 2 ^ 64) : lN N < 0 := by
  have e : lN N = lI ((N : Int) - 2 ^ 64) := by
    rw [lI_N, lI_mod, lI_mod ((N : Int) - 2 ^ 64)]; congr 1; omega
  rw [e, show (0 : Int64) = lI 0 from rfl, lI_lt (by omega) (by omega) (by decide) (by decide)]
  omega
theorem ct_X0_unsignedQuotient (n : Nat) (h : Hp) (N f : Nat) (hN : N < 2 ^ 64) (h1 : 0 < f) (h2 : f < 2 ^ 32) : CT mX0_unsignedQuotient 0 0 n h [.long (lN N), .long (lN f)] (plong n h (lN (N / f))) := by
  refine CT.intro [some (.long (lN N)), none, some (.long (lN f)), none, none, none] 2 rfl rfl (by decide) ?_
  intro Q hQ
  have hne : ¬ lN f = 0 := fun q => by have := (pk_lEQ (a := f) (b := 0) (by omega) (by decide)).mp q; omega
  refine aw_lload_n (i := 2) dX0_unsignedQuotient_0 rfl rfl ?_
  refine aw_lconst (v := 0) dX0_unsignedQuotient_1 (by decide) ?_
  refine aw_lcmp dX0_unsignedQuotient_2 ?_
  refine aw_if_gt (tgt := 8) dX0_unsignedQuotient_3 (by decide) (fun _ => ?_) (fun c => (c (by rw [lg_cmp_gt, lN_0, pk_lLT (by decide) (by omega)]; omega)).elim)
  refine aw_lload_n (i := 0) dX0_unsignedQuotient_8 rfl rfl ?_
  refine aw_lconst (v := 0) dX0_unsignedQuotient_9 (by decide) ?_
  refine aw_lcmp dX0_unsignedQuotient_10 ?_
  by_cases hs : N < 2 ^ 63
  · refine aw_if_lt (tgt := 18) dX0_unsignedQuotient_11 (by decide) (fun c => absurd c (by rw [lg_cmp_lt, lN_0, pk_lLT hs (by decide)]; omega)) (fun _ => ?_)
    refine aw_lload_n (i := 0) dX0_unsignedQuotient_14 rfl rfl ?_
    refine aw_lload_n (i := 2) dX0_unsignedQuotient_15 rfl rfl ?_
    refine aw_ldiv dX0_unsignedQuotient_16 hne ?_
    rw [pk_lDiv hs h1 (by omega)]
    refine aw_lreturn dX0_unsignedQuotient_17 rfl (Nat.le_of_ble_eq_true rfl) (Nat.le_of_ble_eq_true rfl) ?_
    exact hQ _ _ _ ⟨rfl, rfl, rfl⟩
  · refine aw_if_lt (tgt := 18) dX0_unsignedQuotient_11 (by decide) (fun _ => ?_) (fun c => (c (by rw [lg_cmp_lt]; exact lN_neg (by omega) hN)).elim)
    refine aw_lload_n (i := 0) dX0_unsignedQuotient_18 rfl rfl ?_
    refine aw_iconst (v := 1) dX0_unsignedQuotient_19 (by decide +kernel) ?_
    refine aw_lushr dX0_unsignedQuotient_20 rfl ?_
    rw [show ((lN N).toUInt64 >>> ((1 : Int32).toInt64.toUInt64 &&& Int64.toUInt64 63)).toInt64 = lN (N / 2) from lN_ushr hN (r := 1) (by decide)]
    refine aw_lload_n (i := 2) dX0_unsignedQuotient_21 rfl rfl ?_
    refine aw_ldiv dX0_unsignedQuotient_22 hne ?_
    rw [pk_lDiv (by omega) h1 (by omega)]
    refine aw_iconst (v := 1) dX0_unsignedQuotient_23 (by decide +kernel) ?_
    refine aw_lshl dX0_unsignedQuotient_24 rfl ?_
    rw [show lN (N / 2 / f) <<< ((1 : Int32).toInt64 &&& 63) = lN (N / 2 / f * 2) from lshlN _ (r := 1) (by decide)]
    have e1 := Nat.div_add_mod (N / 2) f
    have e2 := Nat.mod_lt (N / 2) h1
    generalize hk : N / 2 / f = k at *
    have e3 : k * 2 * f = f * k * 2 := by ac_rfl
    refine aw_lstore_4 dX0_unsignedQuotient_25 (by decide) rfl ?_
    refine aw_lload_n (i := 0) dX0_unsignedQuotient_27 rfl rfl ?_
    refine aw_lload dX0_unsignedQuotient_28 rfl ?_
    refine aw_lload_n (i := 2) dX0_unsignedQuotient_30 rfl rfl ?_
    refine aw_lmul dX0_unsignedQuotient_31 ?_
    refine aw_lsub dX0_unsignedQuotient_32 ?_
    rw [lN_mul, lN_sub (by omega)]
    refine aw_lload_n (i := 2) dX0_unsignedQuotient_33 rfl rfl ?_
    refine aw_lcmp dX0_unsignedQuotient_34 ?_
    by_cases hc : N - k * 2 * f < f
    · refine aw_if_lt (tgt := 45) dX0_unsignedQuotient_35 (by decide) (fun _ => ?_) (fun c => (c (by rw [lg_cmp_lt, pk_lLT (by omega) (by omega)]; exact hc)).elim)
      refine aw_lload dX0_unsignedQuotient_45 rfl ?_
      refine aw_lreturn dX0_unsignedQuotient_47 rfl (Nat.le_of_ble_eq_true rfl) (Nat.le_of_ble_eq_true rfl) ?_
      refine hQ _ _ _ ⟨?_, rfl, rfl⟩
      congr 3
      exact (Nat.div_eq_of_lt_le (by omega) (by rw [Nat.succ_mul]; omega)).symm
    · refine aw_if_lt (tgt := 45) dX0_unsignedQuotient_35 (by decide) (fun c => absurd c (by rw [lg_cmp_lt, pk_lLT (by omega) (by omega)]; exact hc)) (fun _ => ?_)
      refine aw_lload dX0_unsignedQuotient_38 rfl ?_
      refine aw_lconst (v := 1) dX0_unsignedQuotient_40 (by decide) ?_
      refine aw_ladd dX0_unsignedQuotient_41 ?_
      refine aw_goto (tgt := 47) dX0_unsignedQuotient_42 (by decide) ?_
      rw [lN_1]
      refine aw_lreturn dX0_unsignedQuotient_47 rfl (Nat.le_of_ble_eq_true rfl) (Nat.le_of_ble_eq_true rfl) ?_
      refine hQ _ _ _ ⟨?_, rfl, rfl⟩
      congr 3
      exact (Nat.div_eq_of_lt_le (by rw [Nat.succ_mul]; omega) (by rw [Nat.succ_mul, Nat.succ_mul]; omega)).symm
theorem guess_hi {U dv n gs left sec thi : Nat} (h1 : 1 ≤ n) (hd : (2 ^ 32) ^ (n - 1) ≤ dv) (hg : gs < 2 ^ 32) (hu : gs * (dv / (2 ^ 32) ^ (n - 1)) + left = U / (2 ^ 32) ^ (n - 1)) (hs : 2 ≤ n → sec = dv / (2 ^ 32) ^ (n - 2) % 2 ^ 32 ∧ thi = U / (2 ^ 32) ^ (n - 2) % 2 ^ 32) (hb : gs * sec ≤ left * 2 ^ 32 + thi) : gs ≤ U / dv + 1 := by
  have hd0 : 0 < dv := Nat.lt_of_lt_of_le (Nat.pow_pos (by decide)) hd
  have hU : U < (U / dv + 1) * dv := by have := Nat.lt_mul_div_succ U hd0; rw [Nat.mul_comm]; exact this
  have key : gs * dv < U + dv → gs ≤ U / dv + 1 := fun q => by
    have q2 : gs * dv < (U / dv + 1 + 1) * dv := by rw [Nat.add_mul (U / dv + 1) 1 dv]; omega
    have := Nat.lt_of_mul_lt_mul_right q2
    omega
  apply key
  rcases Nat.eq_or_lt_of_le h1 with q | q
  · subst q
    simp only [Nat.sub_self, Nat.pow_zero, Nat.div_one] at hu
    omega
  · obtain ⟨hs1, hs2⟩ := hs q
    obtain ⟨m, rfl⟩ : ∃ m, n = m + 2 := ⟨n - 2, by omega⟩
    simp only [Nat.add_sub_cancel, show m + 2 - 1 = m + 1 by omega] at *
    have a1 := div_step dv (2 ^ 32) m
    have a2 := div_step U (2 ^ 32) m
    rw [p32s] at hd
    have hP : 0 < ((2 : Nat) ^ 32) ^ m := Nat.pow_pos (by decide)
    have b1 : dv < (dv / (2 ^ 32) ^ m + 1) * (2 ^ 32) ^ m := by have := Nat.lt_mul_div_succ dv hP; rw [Nat.mul_comm]; exact this
    have b2 : U / (2 ^ 32) ^ m * (2 ^ 32) ^ m ≤ U := Nat.div_mul_le_self _ _
    generalize ((2 : Nat) ^ 32) ^ m = P at *
    generalize dv / P = D2 at *
    generalize U / P = U2 at *
    generalize dv / (2 ^ 32) ^ (m + 1) = F at *
    generalize U / (2 ^ 32) ^ (m + 1) = T at *
    rw [← hs1] at a1
    rw [← hs2] at a2
    have c1 : gs * D2 ≤ U2 := by
      rw [a1, a2, Nat.mul_add, ← hu, Nat.add_mul, ← Nat.mul_assoc]; omega
    have c2 : gs * dv ≤ gs * ((D2 + 1) * P) := Nat.mul_le_mul_left _ (Nat.le_of_lt b1)
    have c3 : gs * ((D2 + 1) * P) = gs * D2 * P + gs * P := by rw [Nat.add_mul, Nat.mul_add, Nat.one_mul, Nat.mul_assoc]
    have c4 : gs * D2 * P ≤ U2 * P := Nat.mul_le_mul_right _ c1
    have c5 : gs * P < P * 2 ^ 32 := by rw [Nat.mul_comm]; exact Nat.mul_lt_mul_of_pos_left hg hP
    omega
theorem guess_lo {U dv n gs left sec thi : Nat} (h1 : 1 ≤ n) (hd0 : 0 < dv) (hu : gs * (dv / (2 ^ 32) ^ (n - 1)) + left = U / (2 ^ 32) ^ (n - 1)) (hs1 : n = 1 → sec = 0) (hs : 2 ≤ n → sec = dv / (2 ^ 32) ^ (n - 2) % 2 ^ 32 ∧ thi = U / (2 ^ 32) ^ (n - 2) % 2 ^ 32) (hb : left * 2 ^ 32 + thi < gs * sec) : U / dv < gs := by
  rcases Nat.eq_or_lt_of_le h1 with q | q
  · rw [hs1 q.symm, Nat.mul_zero] at hb; omega
  · obtain ⟨hs1, hs2⟩ := hs q
    obtain ⟨m, rfl⟩ : ∃ m, n = m + 2 := ⟨n - 2, by omega⟩
    simp only [Nat.add_sub_cancel, show m + 2 - 1 = m + 1 by omega] at *
    have a1 := div_step dv (2 ^ 32) m
    have a2 := div_step U (2 ^ 32) m
    have hP : 0 < ((2 : Nat) ^ 32) ^ m := Nat.pow_pos (by decide)
    have b1 : U < (U / (2 ^ 32) ^ m + 1) * (2 ^ 32) ^ m := by have := Nat.lt_mul_div_succ U hP; rw [Nat.mul_comm]; exact this
    have b2 : dv / (2 ^ 32) ^ m * (2 ^ 32) ^ m ≤ dv := Nat.div_mul_le_self _ _
    rw [Nat.div_lt_iff_lt_mul hd0]
    generalize ((2 : Nat) ^ 32) ^ m = P at *
    generalize dv / P = D2 at *
    generalize U / P = U2 at *
    generalize dv / (2 ^ 32) ^ (m + 1) = F at *
    generalize U / (2 ^ 32) ^ (m + 1) = T at *
    rw [← hs1] at a1
    rw [← hs2] at a2
    have c1 : U2 + 1 ≤ gs * D2 := by
      rw [a1, a2, Nat.mul_add, ← hu, Nat.add_mul, ← Nat.mul_assoc]; omega
    have c2 : (U2 + 1) * P ≤ gs * D2 * P := Nat.mul_le_mul_right _ c1
    have c3 : gs * D2 * P ≤ gs * dv := by rw [Nat.mul_assoc]; exact Nat.mul_le_mul_left _ b2
    omega
theorem sgn_lI {A : Nat} (h : A < 2 ^ 64) : lN A + (-9223372036854775808) = lI ((A : Int) - 2 ^ 63) := by
  rw [lI_N, show (-9223372036854775808 : Int64) = lI (-2 ^ 63) by decide +kernel, lI_add]
  rfl
theorem ucmp {A B : Nat} (hA : A < 2 ^ 64) (hB : B < 2 ^ 64) : 0 < lg_cmp (lN A + (-9223372036854775808)) (lN B + (-9223372036854775808)) ↔ B < A := by
  rw [lg_cmp_gt, sgn_lI hA, sgn_lI hB, lI_lt (by omega) (by omega) (by omega) (by omega)]
  omega
/-- a part at an index that may lie below 0 -/
theorem word_m2 {n : Nat} {h : Hp} {a x : Nat} {f : Nat → Nat} (hx : 1 ≤ x) (hx2 : x < 2 ^ 31) (c : ∀ i, i < 2 ^ 31 → CT mX3_word 0 0 n h [.ref a, .int (nI i)] (plong n h (lN (f i)))) : CT mX3_word 0 0 n h [.ref a, .int (nI x - 2)] (plong n h (lN (if 2 ≤ x then f (x - 2) else 0))) := by
  by_cases h2 : 2 ≤ x
  · rw [if_pos h2, show nI x - 2 = nI (x - 2) from pk_sub (b := 2) h2]
    exact c (x - 2) (by omega)
  · rw [if_neg h2]
    obtain rfl : x = 1 := by omega
    exact ct_X3_wordN n h a _ (by decide +kernel)
theorem ct_X0_guessAt (n : Nat) (h : Hp) (L : Nat → Nat) (C : NC) (D q V R H W s at' dv r : Nat) (g : Nat → Nat) (a b c d : Int64) (w : LW L) (hD : h D = some (dobj q V R H W a b c d)) (hLD : L D = 0) (hLD1 : L (D - 1) = 0) (hV : L V ≠ 0) (hR : L R ≠ 0) (hVR : V ≠ R) (hv : num (L V) (C V) dv) (htop : (2 ^ 32) ^ (C V).1 ≤ 2 * dv) (hr : raw (L R) (s, g) r) (hat : at' + (C V).1 < s) (hlt : r < dv * (2 ^ 32) ^ (at' + 1)) : CT mX0_guessAt 0 0 n (nu h L C R s g) [.ref D, .int (nI at')] (fun z n' h' => n = n' ∧ nu h L C R s g = h' ∧ ∃ gs, z = some (.long (lN gs)) ∧ gs < 2 ^ 32 ∧ r / (2 ^ 32) ^ at' / dv ≤ gs ∧ gs ≤ r / (2 ^ 32) ^ at' / dv + 1) := by
  refine CT.intro [some (.ref D), some (.int (nI at')), none, none, none, none, none, none, none, none, none, none, none, none, none, none] 14 rfl rfl (by decide) ?_
  intro Q hQ
  have hlV := (w V).1
  have hlR := (w R).1
  have hsV := hv.1.1
  have hsR : s ≤ L R := hr.1
  have hDn : nu h L C R s g D = some (dobj q V R H W a b c d) := by unfold nu; rw [nh_no h _ hLD hLD1]; exact hD
  have hd0 : 0 < dv := by
    rcases Nat.eq_zero_or_pos dv with z | z
    · rw [z] at htop; have : 0 < ((2 : Nat) ^ 32) ^ (C V).1 := Nat.pow_pos (by decide); omega
    · exact z
  have hn1 : 1 ≤ (C V).1 := by have := num_0 hv; omega
  have hge := num_ge hv (by omega)
  have hdlt := raw_lt hv.1
  have wV : ∀ i, i < 2 ^ 31 → CT mX3_word 0 0 n (nu h L C R s g) [.ref V, .int (nI i)] (plong n (nu h L C R s g) (lN (dv / (2 ^ 32) ^ i % 2 ^ 32))) := fun i hi => by rw [← wd_eq hv.1]; exact nu_word n h L C R V s i dv g w hV hVR hv.1 hi
  have wR : ∀ i, i < 2 ^ 31 → CT mX3_word 0 0 n (nu h L C R s g) [.ref R, .int (nI i)] (plong n (nu h L C R s g) (lN (r / (2 ^ 32) ^ i % 2 ^ 32))) := fun i hi => by rw [← wd_eq hr]; exact ct_X3_word n h L C R s i g w hR hsR hr.2.1 hi
  have nVo : nu h L C R s g V = some (nobj V (C V).1) := nu_x hV hVR
  generalize (C V).1 = m at *
  refine aw_aload_n (i := 0) dX0_guessAt_0 rfl rfl ?_
  refine aw_getfield fX0_20 dX0_guessAt_1 hDn rfl ?_
  refine aw_getfield fX0_72 dX0_guessAt_4 nVo rfl ?_
  refine aw_istore_2 dX0_guessAt_7 (by decide) rfl ?_
  refine aw_aload_n (i := 0) dX0_guessAt_8 rfl rfl ?_
  refine aw_getfield fX0_20 dX0_guessAt_9 hDn rfl ?_
  refine aw_iload_n (i := 2) dX0_guessAt_12 rfl rfl ?_
  refine aw_iconst (v := 1) dX0_guessAt_13 (by decide +kernel) ?_
  refine aw_isub dX0_guessAt_14 ?_
  rw [show nI m - 1 = nI (m - 1) from pk_sub (b := 1) hn1]
  refine aw_invokevirtual kX0_108 dX0_guessAt_15 nVo (wV (m - 1) (by omega)) rfl rfl (Nat.le_of_ble_eq_true rfl) ⟨Nat.le_of_ble_eq_true rfl, Nat.le_of_ble_eq_true rfl⟩ ⟨Nat.le_of_ble_eq_true rfl, Nat.le_of_ble_eq_true rfl⟩ ?_
  rintro _ _ _ ⟨rfl, rfl, rfl⟩
  refine aw_lstore_3 dX0_guessAt_18 (by decide) rfl ?_
  refine aw_aload_n (i := 0) dX0_guessAt_19 rfl rfl ?_
  refine aw_getfield fX0_20 dX0_guessAt_20 hDn rfl ?_
  refine aw_iload_n (i := 2) dX0_guessAt_23 rfl rfl ?_
  refine aw_iconst (v := 2) dX0_guessAt_24 (by decide +kernel) ?_
  refine aw_isub dX0_guessAt_25 ?_
  refine aw_invokevirtual kX0_108 dX0_guessAt_26 nVo (word_m2 hn1 (by omega) wV) rfl rfl (Nat.le_of_ble_eq_true rfl) ⟨Nat.le_of_ble_eq_true rfl, Nat.le_of_ble_eq_true rfl⟩ ⟨Nat.le_of_ble_eq_true rfl, Nat.le_of_ble_eq_true rfl⟩ ?_
  rintro _ _ _ ⟨rfl, rfl, rfl⟩
  refine aw_lstore_5 dX0_guessAt_29 (by decide) rfl ?_
  refine aw_aload_n (i := 0) dX0_guessAt_31 rfl rfl ?_
  refine aw_getfield fX0_23 dX0_guessAt_32 hDn rfl ?_
  refine aw_iload_n (i := 1) dX0_guessAt_35 rfl rfl ?_
  refine aw_iload_n (i := 2) dX0_guessAt_36 rfl rfl ?_
  refine aw_iadd dX0_guessAt_37 ?_
  rw [nI_add]
  refine aw_invokevirtual kX0_108 dX0_guessAt_38 (nu_o hR) (wR (at' + m) (by omega)) rfl rfl (Nat.le_of_ble_eq_true rfl) ⟨Nat.le_of_ble_eq_true rfl, Nat.le_of_ble_eq_true rfl⟩ ⟨Nat.le_of_ble_eq_true rfl, Nat.le_of_ble_eq_true rfl⟩ ?_
  rintro _ _ _ ⟨rfl, rfl, rfl⟩
  refine aw_lstore_7 dX0_guessAt_41 (by decide) rfl ?_
  refine aw_aload_n (i := 0) dX0_guessAt_43 rfl rfl ?_
  refine aw_getfield fX0_23 dX0_guessAt_44 hDn rfl ?_
  refine aw_iload_n (i := 1) dX0_guessAt_47 rfl rfl ?_
  refine aw_iload_n (i := 2) dX0_guessAt_48 rfl rfl ?_
  refine aw_iadd dX0_guessAt_49 ?_
  refine aw_iconst (v := 1) dX0_guessAt_50 (by decide +kernel) ?_
  refine aw_isub dX0_guessAt_51 ?_
  rw [nI_add, show nI (at' + m) - 1 = nI (at' + m - 1) from pk_sub (b := 1) (by omega)]
  refine aw_invokevirtual kX0_108 dX0_guessAt_52 (nu_o hR) (wR (at' + m - 1) (by omega)) rfl rfl (Nat.le_of_ble_eq_true rfl) ⟨Nat.le_of_ble_eq_true rfl, Nat.le_of_ble_eq_true rfl⟩ ⟨Nat.le_of_ble_eq_true rfl, Nat.le_of_ble_eq_true rfl⟩ ?_
  rintro _ _ _ ⟨rfl, rfl, rfl⟩
  -- names
  have hU : ∀ k, r / (2 ^ 32) ^ (at' + k) = r / (2 ^ 32) ^ at' / (2 ^ 32) ^ k := fun k => by rw [Nat.div_div_eq_div_mul, Nat.pow_add]
  have hUlt : r / (2 ^ 32) ^ at' < dv * 2 ^ 32 := by
    rw [Nat.div_lt_iff_lt_mul (Nat.pow_pos (by decide)), Nat.mul_assoc]
    rw [p32s, Nat.mul_comm (((2 : Nat) ^ 32) ^ at')] at hlt
    exact hlt
  have w3 : CT mX3_word 0 0 n (nu h L C R s g) [.ref R, .int (nI (at' + m) - 2)] (plong n (nu h L C R s g) (lN (if 2 ≤ at' + m then r / (2 ^ 32) ^ (at' + m - 2) % 2 ^ 32 else 0))) := word_m2 (f := fun i => r / (2 ^ 32) ^ i % 2 ^ 32) (by omega) (by omega) wR
  have hthi : 2 ≤ m → (if 2 ≤ at' + m then r / (2 ^ 32) ^ (at' + m - 2) % 2 ^ 32 else 0) = r / (2 ^ 32) ^ at' / (2 ^ 32) ^ (m - 2) % 2 ^ 32 := fun q => by rw [if_pos (by omega), show at' + m - 2 = at' + (m - 2) by omega, hU]
  have hthl : (if 2 ≤ at' + m then r / (2 ^ 32) ^ (at' + m - 2) % 2 ^ 32 else 0) < 2 ^ 32 := by
    split
    · exact Nat.mod_lt _ (by decide)
    · decide
  generalize hth : (if 2 ≤ at' + m then r / (2 ^ 32) ^ (at' + m - 2) % 2 ^ 32 else 0) = thi at *
  have hse : 2 ≤ m → (if 2 ≤ m then dv / (2 ^ 32) ^ (m - 2) % 2 ^ 32 else 0) = dv / (2 ^ 32) ^ (m - 2) % 2 ^ 32 := fun q => if_pos q
  have hse1 : m = 1 → (if 2 ≤ m then dv / (2 ^ 32) ^ (m - 2) % 2 ^ 32 else 0) = 0 := fun q => if_neg (by omega)
  have hsel : (if 2 ≤ m then dv / (2 ^ 32) ^ (m - 2) % 2 ^ 32 else 0) < 2 ^ 32 := by
    split
    · exact Nat.mod_lt _ (by decide)
    · decide
  generalize hsc : (if 2 ≤ m then dv / (2 ^ 32) ^ (m - 2) % 2 ^ 32 else 0) = sec at *
  rw [show at' + m - 1 = at' + (m - 1) by omega, hU, hU]
  generalize hUU : r / (2 ^ 32) ^ at' = U at *
  have hf : dv / (2 ^ 32) ^ (m - 1) % 2 ^ 32 = dv / (2 ^ 32) ^ (m - 1) := Nat.mod_eq_of_lt (by rw [Nat.div_lt_iff_lt_mul (Nat.pow_pos (by decide)), Nat.mul_comm, ← p32s, show m - 1 + 1 = m by omega]; exact hdlt)
  have hfl : dv / (2 ^ 32) ^ (m - 1) < 2 ^ 32 := by rw [← hf]; exact Nat.mod_lt _ (by decide)
  have hfh : 2 ^ 31 ≤ dv / (2 ^ 32) ^ (m - 1) := by
    rw [Nat.le_div_iff_mul_le (Nat.pow_pos (by decide))]
    rw [show m = m - 1 + 1 by omega, p32s] at htop
    omega
  rw [hf]
  have hu2 : U / (2 ^ 32) ^ m % 2 ^ 32 * 2 ^ 32 + U / (2 ^ 32) ^ (m - 1) % 2 ^ 32 = U / (2 ^ 32) ^ (m - 1) := by
    have e1 := div_step U (2 ^ 32) (m - 1)
    rw [show m - 1 + 1 = m by omega] at e1
    have e2 : U / (2 ^ 32) ^ m < 2 ^ 32 := by
      rw [Nat.div_lt_iff_lt_mul (Nat.pow_pos (by decide))]
      refine Nat.lt_of_lt_of_le hUlt ?_
      rw [Nat.mul_comm dv (2 ^ 32)]
      exact Nat.mul_le_mul_left _ (Nat.le_of_lt hdlt)
    rw [Nat.mod_eq_of_lt e2]
    omega
  have htl : U / (2 ^ 32) ^ m % 2 ^ 32 < 2 ^ 32 := Nat.mod_lt _ (by decide)
  have hnl : U / (2 ^ 32) ^ (m - 1) % 2 ^ 32 < 2 ^ 32 := Nat.mod_lt _ (by decide)
  have hgh := @guess_hi U dv m
  have hgl := @guess_lo U dv m
  -- first guess is never too low
  have hq1 : U / dv < 2 ^ 32 := by rw [Nat.div_lt_iff_lt_mul hd0, Nat.mul_comm]; exact hUlt
  have hq2 : U / dv ≤ U / (2 ^ 32) ^ (m - 1) / (dv / (2 ^ 32) ^ (m - 1)) := by
    rw [Nat.le_div_iff_mul_le (by omega)]
    refine Nat.le_trans (Nat.mul_div_le_mul_div_assoc _ _ _) ?_
    exact Nat.div_le_div_right (Nat.div_mul_le_self _ _)
  have hbnd : U / (2 ^ 32) ^ (m - 1) < (dv / (2 ^ 32) ^ (m - 1) + 1) * 2 ^ 32 := by
    rw [Nat.div_lt_iff_lt_mul (Nat.pow_pos (by decide))]
    have e1 : dv < (dv / (2 ^ 32) ^ (m - 1) + 1) * (2 ^ 32) ^ (m - 1) := by have := Nat.lt_mul_div_succ dv (show 0 < ((2 : Nat) ^ 32) ^ (m - 1) from Nat.pow_pos (by decide)); rw [Nat.mul_comm]; exact this
    have e2 : dv * 2 ^ 32 ≤ (dv / (2 ^ 32) ^ (m - 1) + 1) * (2 ^ 32) ^ (m - 1) * 2 ^ 32 := Nat.mul_le_mul_right _ (Nat.le_of_lt e1)
    have e3 : (dv / (2 ^ 32) ^ (m - 1) + 1) * (2 ^ 32) ^ (m - 1) * 2 ^ 32 = (dv / (2 ^ 32) ^ (m - 1) + 1) * 2 ^ 32 * (2 ^ 32) ^ (m - 1) := by ac_rfl
    omega
  generalize U / (2 ^ 32) ^ m % 2 ^ 32 = top at *
  generalize U / (2 ^ 32) ^ (m - 1) % 2 ^ 32 = next at *
  generalize hF : dv / (2 ^ 32) ^ (m - 1) = F at *
  generalize hT : U / (2 ^ 32) ^ (m - 1) = T at *
  have hTl : T < 2 ^ 64 := by omega
  have horr : ∀ {x y : Nat}, y < 2 ^ 32 → lN (x * 2 ^ 32) ||| lN y = lN (x * 2 ^ 32 + y) := fun hy => by rw [lN_or2 hy, Nat.add_comm]
  -- the loop
  have loop : ∀ (j i : Nat) (gs left : Nat), i + j = 2 → gs < 2 ^ 32 → U / dv ≤ gs → gs * F + left = T → left < 2 ^ 33 → i * F ≤ left → AW mX0_guessAt (gq 0 0 Q) 102 [some (.ref D), some (.int (nI at')), some (.int (nI m)), some (.long (lN F)), none, some (.long (lN sec)), none, some (.long (lN top)), none, some (.long (lN next)), none, some (.long (lN gs)), none, some (.long (lN left)), none, some (.int (nI i))] [] 0 0 n (nu h L C R s g) := by
    -- the end
    have fin : ∀ (i gs left : Nat), gs < 2 ^ 32 → U / dv ≤ gs → gs * F + left = T → gs * sec ≤ left * 2 ^ 32 + thi → AW mX0_guessAt (gq 0 0 Q) 180 [some (.ref D), some (.int (nI at')), some (.int (nI m)), some (.long (lN F)), none, some (.long (lN sec)), none, some (.long (lN top)), none, some (.long (lN next)), none, some (.long (lN gs)), none, some (.long (lN left)), none, some (.int (nI i))] [] 0 0 n (nu h L C R s g) := by
      intro i gs left k1 k2 k3 k4
      refine aw_lload dX0_guessAt_180 rfl ?_
      refine aw_lreturn dX0_guessAt_182 rfl (Nat.le_of_ble_eq_true rfl) (Nat.le_of_ble_eq_true rfl) ?_
      exact hQ _ _ _ ⟨rfl, rfl, gs, rfl, k1, k2, hgh hn1 hge k1 k3 (fun q => ⟨hse q, hthi q⟩) k4⟩
    have big : ∀ gs left, gs < 2 ^ 32 → 2 ^ 32 ≤ left → gs * sec ≤ left * 2 ^ 32 + thi := fun gs left k1 k2 => by
      have e1 : gs * sec ≤ 2 ^ 32 * 2 ^ 32 := Nat.mul_le_mul (by omega) (by omega)
      have e2 : 2 ^ 32 * 2 ^ 32 ≤ left * 2 ^ 32 := Nat.mul_le_mul_right _ k2
      omega
    intro j
    induction j with
    | zero =>
      intro i gs left hi k1 k2 k3 k4 k5
      obtain rfl : i = 2 := by omega
      refine aw_iload dX0_guessAt_102 rfl ?_
      refine aw_iconst (v := 2) dX0_guessAt_104 (by decide +kernel) ?_
      refine aw_icmp_ge (tgt := 180) dX0_guessAt_105 (by decide) (fun _ => ?_) (fun c => (c (by decide)).elim)
      exact fin 2 gs left k1 k2 k3 (big gs left k1 (by omega))
    | succ j ih =>
      intro i gs left hi k1 k2 k3 k4 k5
      refine aw_iload dX0_guessAt_102 rfl ?_
      refine aw_iconst (v := 2) dX0_guessAt_104 (by decide +kernel) ?_
      refine aw_icmp_ge (tgt := 180) dX0_guessAt_105 (by decide) (fun c => absurd c (nI_ge (b := 2) (by omega) (by decide))) (fun _ => ?_)
      refine aw_lload dX0_guessAt_108 rfl ?_
      refine aw_lconst (v := 0) dX0_guessAt_110 (by decide) ?_
      refine aw_lcmp dX0_guessAt_111 ?_
      refine aw_if_lt (tgt := 180) dX0_guessAt_112 (by decide) (fun c => absurd c (by rw [lg_cmp_lt, lN_0, pk_lLT (by omega) (by decide)]; omega)) (fun _ => ?_)
      refine aw_lload dX0_guessAt_115 rfl ?_
      refine aw_ldc2_w qX0_111 dX0_guessAt_117 ?_
      refine aw_lcmp dX0_guessAt_120 ?_
      by_cases hl : left < 2 ^ 32
      · have e1 : gs * sec ≤ (2 ^ 32 - 1) * (2 ^ 32 - 1) := Nat.mul_le_mul (by omega) (by omega)
        refine aw_if_gt (tgt := 180) dX0_guessAt_121 (by decide) (fun c => absurd c (by rw [lg_cmp_gt, show (4294967295 : Int64) = lN 4294967295 from rfl, pk_lLT (by decide) (by omega)]; omega)) (fun _ => ?_)
        refine aw_lload dX0_guessAt_124 rfl ?_
        refine aw_lload dX0_guessAt_126 rfl ?_
        refine aw_lmul dX0_guessAt_128 ?_
        refine aw_ldc2_w qX0_117 dX0_guessAt_129 ?_
        refine aw_ladd dX0_guessAt_132 ?_
        rw [lN_mul]
        refine aw_lload dX0_guessAt_133 rfl ?_
        refine aw_bipush (v := 32) dX0_guessAt_135 (by decide +kernel) ?_
        refine aw_lshl dX0_guessAt_137 rfl ?_
        rw [shl32]
        refine aw_aload_n (i := 0) dX0_guessAt_138 rfl rfl ?_
        refine aw_getfield fX0_23 dX0_guessAt_139 hDn rfl ?_
        refine aw_iload_n (i := 1) dX0_guessAt_142 rfl rfl ?_
        refine aw_iload_n (i := 2) dX0_guessAt_143 rfl rfl ?_
        refine aw_iadd dX0_guessAt_144 ?_
        refine aw_iconst (v := 2) dX0_guessAt_145 (by decide +kernel) ?_
        refine aw_isub dX0_guessAt_146 ?_
        rw [nI_add]
        refine aw_invokevirtual kX0_108 dX0_guessAt_147 (nu_o hR) w3 rfl rfl (Nat.le_of_ble_eq_true rfl) ⟨Nat.le_of_ble_eq_true rfl, Nat.le_of_ble_eq_true rfl⟩ ⟨Nat.le_of_ble_eq_true rfl, Nat.le_of_ble_eq_true rfl⟩ ?_
        rintro _ _ _ ⟨rfl, rfl, rfl⟩
        refine aw_lor dX0_guessAt_150 ?_
        rw [horr hthl]
        refine aw_ldc2_w qX0_117 dX0_guessAt_151 ?_
        refine aw_ladd dX0_guessAt_154 ?_
        refine aw_lcmp dX0_guessAt_155 ?_
        by_cases hc : gs * sec ≤ left * 2 ^ 32 + thi
        · refine aw_if_gt (tgt := 162) dX0_guessAt_156 (by decide) (fun c => absurd c (fun q => by have := (ucmp (by omega) (by omega)).mp q; omega)) (fun _ => ?_)
          refine aw_goto (tgt := 180) dX0_guessAt_159 (by decide) ?_
          exact fin i gs left k1 k2 k3 hc
        · have hlow := hgl hn1 hd0 k3 hse1 (fun q => ⟨hse q, hthi q⟩) (by omega)
          obtain ⟨gs', rfl⟩ : ∃ gs', gs = gs' + 1 := ⟨gs - 1, (Nat.succ_pred_eq_of_pos (Nat.lt_of_le_of_lt (Nat.zero_le _) hlow)).symm⟩
          rw [Nat.add_mul, Nat.one_mul] at k3
          refine aw_if_gt (tgt := 162) dX0_guessAt_156 (by decide) (fun _ => ?_) (fun c => (c ((ucmp (by omega) (by omega)).mpr (by omega))).elim)
          refine aw_lload dX0_guessAt_162 rfl ?_
          refine aw_lconst (v := 1) dX0_guessAt_164 (by decide) ?_
          refine aw_lsub dX0_guessAt_165 ?_
          rw [show lN (gs' + 1) - 1 = lN gs' from lN_sub (b := 1) (by omega)]
          refine aw_lstore_11 dX0_guessAt_166 (by decide) rfl ?_
          refine aw_lload dX0_guessAt_168 rfl ?_
          refine aw_lload_n (i := 3) dX0_guessAt_170 rfl rfl ?_
          refine aw_ladd dX0_guessAt_171 ?_
          rw [lN_add]
          refine aw_lstore_13 dX0_guessAt_172 (by decide) rfl ?_
          refine aw_iinc_15 (c0 := 1) dX0_guessAt_174 (by decide) (by decide) rfl ?_
          refine aw_goto (tgt := 102) dX0_guessAt_177 (by decide) ?_
          rw [nI_1]
          exact ih (i + 1) gs' (left + F) (by omega) (by omega) (Nat.le_of_lt_succ hlow) (by omega) (by omega) (by rw [Nat.add_mul, Nat.one_mul]; omega)
      · refine aw_if_gt (tgt := 180) dX0_guessAt_121 (by decide) (fun _ => ?_) (fun c => (c (by rw [lg_cmp_gt, show (4294967295 : Int64) = lN 4294967295 from rfl, pk_lLT (by decide) (by omega)]; omega)).elim)
        exact fin i gs left k1 k2 k3 (big gs left k1 (by omega))
  -- behind the first guess
  have beg : ∀ gs, gs < 2 ^ 32 → U / dv ≤ gs → gs * F ≤ T → T - gs * F < 2 ^ 33 → AW mX0_guessAt (gq 0 0 Q) 82 [some (.ref D), some (.int (nI at')), some (.int (nI m)), some (.long (lN F)), none, some (.long (lN sec)), none, some (.long (lN top)), none, some (.long (lN next)), none, none, none, none, none, none] [.long (lN gs)] 0 0 n (nu h L C R s g) := by
    intro gs k1 k2 k3 k4
    refine aw_lstore_11 dX0_guessAt_82 (by decide) rfl ?_
    refine aw_lload dX0_guessAt_84 rfl ?_
    refine aw_bipush (v := 32) dX0_guessAt_86 (by decide +kernel) ?_
    refine aw_lshl dX0_guessAt_88 rfl ?_
    rw [shl32]
    refine aw_lload dX0_guessAt_89 rfl ?_
    refine aw_lor dX0_guessAt_91 ?_
    rw [horr hnl, hu2]
    refine aw_lload dX0_guessAt_92 rfl ?_
    refine aw_lload_n (i := 3) dX0_guessAt_94 rfl rfl ?_
    refine aw_lmul dX0_guessAt_95 ?_
    refine aw_lsub dX0_guessAt_96 ?_
    rw [lN_mul, lN_sub k3]
    refine aw_lstore_13 dX0_guessAt_97 (by decide) rfl ?_
    refine aw_iconst (v := 0) dX0_guessAt_99 (by decide +kernel) ?_
    refine aw_istore_15 dX0_guessAt_100 (by decide) rfl ?_
    exact loop 2 0 gs (T - gs * F) (by omega) k1 k2 (by omega) k4 (by omega)
  refine aw_lstore_9 dX0_guessAt_55 (by decide) rfl ?_
  refine aw_lload dX0_guessAt_57 rfl ?_
  refine aw_lload_n (i := 3) dX0_guessAt_59 rfl rfl ?_
  refine aw_lcmp dX0_guessAt_60 ?_
  by_cases htf : top < F
  · have e1 := Nat.div_mul_le_self T F
    have e2 := Nat.lt_mul_div_succ T (show 0 < F by omega)
    rw [Nat.mul_comm] at e2
    rw [Nat.add_mul, Nat.one_mul] at e2
    have e3 : T / F < 2 ^ 32 := by
      rw [Nat.div_lt_iff_lt_mul (by omega)]
      have : (top + 1) * 2 ^ 32 ≤ F * 2 ^ 32 := Nat.mul_le_mul_right _ htf
      rw [Nat.add_mul, Nat.one_mul] at this
      rw [Nat.mul_comm (2 ^ 32) F]
      refine Nat.lt_of_lt_of_le ?_ this
      rw [← hu2]
      exact Nat.add_lt_add_left hnl _
    refine aw_if_lt (tgt := 70) dX0_guessAt_61 (by decide) (fun _ => ?_) (fun c => (c (by rw [lg_cmp_lt, pk_lLT (by omega) (by omega)]; exact htf)).elim)
    refine aw_lload dX0_guessAt_70 rfl ?_
    refine aw_bipush (v := 32) dX0_guessAt_72 (by decide +kernel) ?_
    refine aw_lshl dX0_guessAt_74 rfl ?_
    rw [shl32]
    refine aw_lload dX0_guessAt_75 rfl ?_
    refine aw_lor dX0_guessAt_77 ?_
    rw [horr hnl, hu2]
    refine aw_lload_n (i := 3) dX0_guessAt_78 rfl rfl ?_
    refine aw_invokestatic kX0_113 dX0_guessAt_79 (ct_X0_unsignedQuotient n (nu h L C R s g) T F hTl (by omega) hfl) rfl rfl (Nat.le_of_ble_eq_true rfl) ⟨Nat.le_of_ble_eq_true rfl, Nat.le_of_ble_eq_true rfl⟩ ⟨Nat.le_of_ble_eq_true rfl, Nat.le_of_ble_eq_true rfl⟩ ?_
    rintro _ _ _ ⟨rfl, rfl, rfl⟩
    refine AW.forget [some (.ref D), some (.int (nI at')), some (.int (nI m)), some (.long (lN F)), none, some (.long (lN sec)), none, some (.long (lN top)), none, some (.long (lN next)), none, none, none, none, none, none] ⟨rfl, rfl, rfl, rfl, rfl, rfl, rfl, trivial⟩ ?_
    exact beg (T / F) e3 hq2 e1 (by omega)
  · have e4 : F * 2 ^ 32 ≤ top * 2 ^ 32 := Nat.mul_le_mul_right _ (by omega)
    have e5 : (2 ^ 32 - 1) * F = F * 2 ^ 32 - F := by rw [Nat.sub_mul, Nat.one_mul, Nat.mul_comm]
    rw [Nat.add_mul, Nat.one_mul] at hbnd
    refine aw_if_lt (tgt := 70) dX0_guessAt_61 (by decide) (fun c => absurd c (by rw [lg_cmp_lt, pk_lLT (by omega) (by omega)]; exact htf)) (fun _ => ?_)
    refine aw_ldc2_w qX0_111 dX0_guessAt_64 ?_
    refine aw_goto (tgt := 82) dX0_guessAt_67 (by decide) ?_
    refine AW.forget [some (.ref D), some (.int (nI at')), some (.int (nI m)), some (.long (lN F)), none, some (.long (lN sec)), none, some (.long (lN top)), none, some (.long (lN next)), none, none, none, none, none, none] ⟨rfl, rfl, rfl, rfl, rfl, rfl, rfl, trivial⟩ ?_
    exact beg (2 ^ 32 - 1) (by decide) (by omega) (by omega) (by omega)
