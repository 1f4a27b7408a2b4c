theorem cB_in (c d : Nat → Nat) (t u i : Nat) (hi : i ≤ t) : sg (fun v => if i ≤ v ∧ v - i ≤ u then c i * d (v - i) else 0) (t + u + 1) = c i * sg d (u + 1) := by
  rw [show t + u + 1 = i + (u + 1 + (t - i)) by omega, sg_app, sg_zero (fun v hv => if_neg (by omega)), Nat.zero_add]
  rw [sg_high (m := u + 1) (by omega) (fun v h1 _ => if_neg (by omega))]
  rw [sg_congr (g := fun v => c i * d v) (fun v hv => by rw [if_pos (by omega), Nat.add_sub_cancel_left]), sg_mull]
theorem cBoth_tot (c d : Nat → Nat) (t u : Nat) : sg (cBoth c d t u) (t + u + 1) = sg c (t + 1) * sg d (u + 1) := by
  unfold cBoth
  rw [sg_swap (fun v i => if i ≤ v ∧ v - i ≤ u then c i * d (v - i) else 0), sg_congr (fun i hi => cB_in c d t u i (by omega)), sg_mul]
theorem mt_both (n : Nat) (h : Hp) (m : Nat) (S : TS) (x y : Int32) (hR : MRep h m S) (hI : SInv S) : CT mX8_both 0 0 n h [.ref m, .int x, .int y] (MOK n m h (opBoth S x y)) := by
  obtain ⟨h0, A, bo, ki, mo, wt, rfl, B, hA⟩ := id hR
  refine CT.intro [some (.ref m), some (.int x), some (.int y), none, none, none] 3 rfl rfl (by decide) ?_
  intro Q hQ
  have bad : (isS S x && (isS S y && decide (sT S (tN x) + sT S (tN y) ≤ 120))) = false → AW mX8_both (gq 0 0 Q) 34 [some (.ref m), some (.int x), some (.int y), none, none, none] [] 0 0 n (mh h0 m A) := by
    intro hb
    refine aw_iconst (v := (-1)) dX8_both_34 (by decide +kernel) ?_
    refine aw_ireturn dX8_both_35 rfl rfl (Nat.le_of_ble_eq_true rfl) (Nat.le_of_ble_eq_true rfl) ?_
    refine hQ _ _ _ (bad_ret hR ?_)
    unfold opBoth; rw [hb]; rfl
  refine aw_aload_n (i := 0) dX8_both_0 rfl rfl ?_
  refine aw_iload_n (i := 1) dX8_both_1 rfl rfl ?_
  refine aw_invokevirtual kX8_205 dX8_both_2 (by rw [mh_0]; exact B.1) (ct_isS n h0 m A S bo ki mo wt x B hI) rfl rfl (Nat.le_of_ble_eq_true rfl) ⟨Nat.le_of_ble_eq_true rfl, Nat.le_of_ble_eq_true rfl⟩ ⟨Nat.le_of_ble_eq_true rfl, Nat.le_of_ble_eq_true rfl⟩ ?_
  rintro _ _ _ ⟨rfl, rfl, rfl⟩
  by_cases h1 : isS S x = true
  case neg =>
    refine aw_if_eq (tgt := 34) dX8_both_5 (by decide) (fun _ => ?_) (fun c => (c (bI_eq0.mpr (by simpa using h1))).elim)
    exact bad (by simp [h1])
  refine aw_if_eq (tgt := 34) dX8_both_5 (by decide) (fun c => absurd c (bI_ne0.mpr h1)) (fun _ => ?_)
  refine aw_aload_n (i := 0) dX8_both_8 rfl rfl ?_
  refine aw_iload_n (i := 2) dX8_both_9 rfl rfl ?_
  refine aw_invokevirtual kX8_205 dX8_both_10 (by rw [mh_0]; exact B.1) (ct_isS n h0 m A S bo ki mo wt y B hI) rfl rfl (Nat.le_of_ble_eq_true rfl) ⟨Nat.le_of_ble_eq_true rfl, Nat.le_of_ble_eq_true rfl⟩ ⟨Nat.le_of_ble_eq_true rfl, Nat.le_of_ble_eq_true rfl⟩ ?_
  rintro _ _ _ ⟨rfl, rfl, rfl⟩
  by_cases h2 : isS S y = true
  case neg =>
    refine aw_if_eq (tgt := 34) dX8_both_13 (by decide) (fun _ => ?_) (fun c => (c (bI_eq0.mpr (by simpa using h2))).elim)
    exact bad (by simp [h2])
  obtain ⟨ex, hx⟩ := isS_N h1
  obtain ⟨ey, hy⟩ := isS_N h2
  have hn16 := hI.2.1.1
  have hmoC : ∀ A' : Nat → Nat → Nat, mh h0 m A' (m + 18) = some (iar 16 mo) := fun A' => by rw [mh_no h0 m A' rfl]; exact B.2.2.2.1
  obtain ⟨X, hX⟩ : ∃ X, X = tN x := ⟨_, rfl⟩
  obtain ⟨Y, hY⟩ : ∃ Y, Y = tN y := ⟨_, rfl⟩
  have hopc := hQ
  unfold opBoth at hQ
  rw [h1, h2] at hQ bad
  rw [← hX] at ex hx hQ bad
  rw [← hY] at ey hy hQ bad
  subst ex ey
  have hTx := (hI.2.1.2 X hx).2.1
  have hTy := (hI.2.1.2 Y hy).2.1
  have hmx := (B.2.2.2.2.2.2 X hx).2
  have hmy := (B.2.2.2.2.2.2 Y hy).2
  refine aw_if_eq (tgt := 34) dX8_both_13 (by decide) (fun c => absurd c (bI_ne0.mpr h2)) (fun _ => ?_)
  refine aw_aload_n (i := 0) dX8_both_16 rfl rfl ?_
  refine aw_getfield fX8_63 dX8_both_17 (by rw [mh_0]; exact B.1) rfl ?_
  refine aw_iload_n (i := 1) dX8_both_20 rfl rfl ?_
  refine aw_iald dX8_both_21 X (hmoC _) (nI_toInt (by omega)) (by omega) ?_
  refine aw_aload_n (i := 0) dX8_both_22 rfl rfl ?_
  refine aw_getfield fX8_63 dX8_both_23 (by rw [mh_0]; exact B.1) rfl ?_
  refine aw_iload_n (i := 2) dX8_both_26 rfl rfl ?_
  refine aw_iald dX8_both_27 Y (hmoC _) (nI_toInt (by omega)) (by omega) ?_
  refine aw_iadd dX8_both_28 ?_
  rw [hmx, hmy, nI_add]
  refine aw_bipush (v := 120) dX8_both_29 (by decide +kernel) ?_
  by_cases h3 : sT S X + sT S Y ≤ 120
  case neg =>
    refine aw_icmp_le (tgt := 36) dX8_both_31 (by decide) (fun c => absurd c (nI_ge (a := 120) (by omega) (by omega))) (fun _ => ?_)
    exact bad (by simp [h3])
  simp only [h3, decide_true, Bool.and_self, if_true] at hQ
  refine aw_icmp_le (tgt := 36) dX8_both_31 (by decide) (fun _ => ?_) (fun c => (c (nI_le (b := 120) h3 (by decide))).elim)
  refine aw_aload_n (i := 0) dX8_both_36 rfl rfl ?_
  refine aw_getfield fX8_178 dX8_both_37 (by rw [mh_0]; exact B.1) rfl ?_
  refine aw_bipush (v := 16) dX8_both_40 (by decide +kernel) ?_
  by_cases h16 : sN S = 16
  · refine aw_icmp_ne (tgt := 48) dX8_both_42 (by decide) (fun c => absurd c (fun c => c (by rw [h16]; rfl))) (fun _ => ?_)
    refine aw_bipush (v := (-3)) dX8_both_45 (by decide +kernel) ?_
    refine aw_ireturn dX8_both_47 rfl rfl (Nat.le_of_ble_eq_true rfl) (Nat.le_of_ble_eq_true rfl) ?_
    refine hQ _ _ _ ?_
    rw [if_pos h16]
    exact ⟨rfl, rfl, hR, mfr_rf⟩
  rw [if_neg h16] at hQ
  refine aw_icmp_ne (tgt := 48) dX8_both_42 (by decide) (fun _ => ?_) (fun c => ((fun c => h16 ((nI_eq (b := 16) (by omega) (by decide)).mp c)) c).elim)
  refine aw_aload_n (i := 0) dX8_both_48 rfl rfl ?_
  refine aw_getfield fX8_75 dX8_both_49 (by rw [mh_0]; exact B.1) rfl ?_
  refine aw_aload_n (i := 0) dX8_both_52 rfl rfl ?_
  refine aw_getfield fX8_69 dX8_both_53 (by rw [mh_0]; exact B.1) rfl ?_
  refine aw_bipush (v := 10) dX8_both_56 (by decide +kernel) ?_
  refine aw_iload_n (i := 1) dX8_both_58 rfl rfl ?_
  refine aw_imul dX8_both_59 ?_
  rw [c10]
  refine aw_bipush (v := 10) dX8_both_60 (by decide +kernel) ?_
  refine aw_invokestatic kX8_170 dX8_both_62 (mc_loadT n h0 m A S bo 22 X rfl rfl (by decide) hA hI hx) rfl rfl (Nat.le_of_ble_eq_true rfl) ⟨Nat.le_of_ble_eq_true rfl, Nat.le_of_ble_eq_true rfl⟩ ⟨Nat.le_of_ble_eq_true rfl, Nat.le_of_ble_eq_true rfl⟩ ?_
  rintro _ _ _ ⟨rfl, rfl, A1, rfl, d1, f1⟩
  refine aw_aload_n (i := 0) dX8_both_65 rfl rfl ?_
  refine aw_getfield fX8_78 dX8_both_66 (by rw [mh_0]; exact B.1) rfl ?_
  refine aw_aload_n (i := 0) dX8_both_69 rfl rfl ?_
  refine aw_getfield fX8_69 dX8_both_70 (by rw [mh_0]; exact B.1) rfl ?_
  refine aw_bipush (v := 10) dX8_both_73 (by decide +kernel) ?_
  refine aw_iload_n (i := 2) dX8_both_75 rfl rfl ?_
  refine aw_imul dX8_both_76 ?_
  rw [c10]
  have hA1 : MA A1 S bo := hA.keep (f1 6 (by decide)) (f1 7 (by decide)) (f1 19 (by decide)) (f1 20 (by decide))
  refine aw_bipush (v := 10) dX8_both_77 (by decide +kernel) ?_
  refine aw_invokestatic kX8_170 dX8_both_79 (mc_loadT n h0 m A1 S bo 23 Y rfl rfl (by decide) hA1 hI hy) rfl rfl (Nat.le_of_ble_eq_true rfl) ⟨Nat.le_of_ble_eq_true rfl, Nat.le_of_ble_eq_true rfl⟩ ⟨Nat.le_of_ble_eq_true rfl, Nat.le_of_ble_eq_true rfl⟩ ?_
  rintro _ _ _ ⟨rfl, rfl, A2, rfl, d2, f2⟩
  have tx := (hI.2.1.2 X hx).2.2.2
  have ty := (hI.2.1.2 Y hy).2.2.2
  have e280 : 2 ^ 256 ≤ 2 ^ (28 * 10) := Nat.pow_le_pow_right (by decide) (by decide)
  have w1 : 2 ^ 280 < 2 ^ 2688 := Nat.pow_lt_pow_right (by decide) (by decide)
  refine aw_aload_n (i := 0) dX8_both_82 rfl rfl ?_
  refine aw_getfield fX8_81 dX8_both_83 (by rw [mh_0]; exact B.1) rfl ?_
  refine aw_aload_n (i := 0) dX8_both_86 rfl rfl ?_
  refine aw_getfield fX8_75 dX8_both_87 (by rw [mh_0]; exact B.1) rfl ?_
  refine aw_aload_n (i := 0) dX8_both_90 rfl rfl ?_
  refine aw_getfield fX8_78 dX8_both_91 (by rw [mh_0]; exact B.1) rfl ?_
  refine aw_invokestatic kX8_174 dX8_both_94 (mc_times n h0 m A2 24 22 23 (stot S X) (stot S Y) 10 10 rfl rfl rfl rfl rfl rfl (by decide) (by decide) (by rw [f2 22 (by decide)]; exact d1) d2 (Nat.lt_of_lt_of_le tx e280) (Nat.lt_of_lt_of_le ty e280) (by decide)) rfl rfl (Nat.le_of_ble_eq_true rfl) ⟨Nat.le_of_ble_eq_true rfl, Nat.le_of_ble_eq_true rfl⟩ ⟨Nat.le_of_ble_eq_true rfl, Nat.le_of_ble_eq_true rfl⟩ ?_
  rintro _ _ _ ⟨rfl, rfl, A3, rfl, d3, f3⟩
  have hnb := nb_le.mpr (dg_lt d3)
  have fr3 : ∀ k, k ≠ 22 → k ≠ 23 → k ≠ 24 → A3 k = A k := fun k k1 k2 k3 => by rw [f3 k k3, f2 k k2, f1 k k1]
  have hA3 : MA A3 S bo := hA.keep (fr3 6 (by decide) (by decide) (by decide)) (fr3 7 (by decide) (by decide) (by decide)) (fr3 19 (by decide) (by decide) (by decide)) (fr3 20 (by decide) (by decide) (by decide))
  refine aw_aload_n (i := 0) dX8_both_97 rfl rfl ?_
  refine aw_getfield fX8_81 dX8_both_98 (by rw [mh_0]; exact B.1) rfl ?_
  refine aw_invokestatic kX8_146 dX8_both_101 (mc_bits n h0 m A3 24 _ rfl rfl d3) rfl rfl (Nat.le_of_ble_eq_true rfl) ⟨Nat.le_of_ble_eq_true rfl, Nat.le_of_ble_eq_true rfl⟩ ⟨Nat.le_of_ble_eq_true rfl, Nat.le_of_ble_eq_true rfl⟩ ?_
  rintro _ _ _ ⟨rfl, rfl, rfl⟩
  refine aw_sipush (v := 256) dX8_both_104 (by decide +kernel) ?_
  by_cases h256 : nb (stot S X * stot S Y) ≤ 256
  case neg =>
    refine aw_icmp_le (tgt := 113) dX8_both_107 (by decide) (fun c => absurd c (nI_ge (a := 256) (by omega) (by omega))) (fun _ => ?_)
    refine aw_bipush (v := (-4)) dX8_both_110 (by decide +kernel) ?_
    refine aw_ireturn dX8_both_112 rfl rfl (Nat.le_of_ble_eq_true rfl) (Nat.le_of_ble_eq_true rfl) ?_
    refine hQ _ _ _ ?_
    rw [if_neg h256]
    exact ⟨rfl, rfl, ⟨h0, A3, bo, ki, mo, wt, rfl, B, hA3⟩, mfr_mh (fun _ _ => rfl)⟩
  rw [if_pos h256] at hQ
  unfold newS at hQ; rw [if_neg h16] at hQ
  have htot : sg (cBoth (sC S X) (sC S Y) (sT S X) (sT S Y)) (sT S X + sT S Y + 1) = stot S X * stot S Y := cBoth_tot _ _ _ _
  have hlt : stot S X * stot S Y < 2 ^ 256 := nb_le.mp h256
  refine aw_icmp_le (tgt := 113) dX8_both_107 (by decide) (fun _ => ?_) (fun c => (c (nI_le (b := 256) h256 (by decide))).elim)
  refine aw_aload_n (i := 0) dX8_both_113 rfl rfl ?_
  refine aw_getfield fX8_63 dX8_both_114 (by rw [mh_0]; exact B.1) rfl ?_
  refine aw_iload_n (i := 1) dX8_both_117 rfl rfl ?_
  refine aw_iald dX8_both_118 X (hmoC _) (nI_toInt (by omega)) (by omega) ?_
  refine aw_aload_n (i := 0) dX8_both_119 rfl rfl ?_
  refine aw_getfield fX8_63 dX8_both_120 (by rw [mh_0]; exact B.1) rfl ?_
  refine aw_iload_n (i := 2) dX8_both_123 rfl rfl ?_
  refine aw_iald dX8_both_124 Y (hmoC _) (nI_toInt (by omega)) (by omega) ?_
  refine aw_iadd dX8_both_125 ?_
  rw [hmx, hmy, nI_add]
  refine aw_istore_3 dX8_both_126 (by decide) rfl ?_
  refine aw_iconst (v := 0) dX8_both_127 (by decide +kernel) ?_
  refine aw_istore_4 dX8_both_128 (by decide) rfl ?_
  have loop : ∀ (j v : Nat) (A' : Nat → Nat → Nat) (y5 : Option Value), v + j = sT S X + sT S Y + 1 → (∀ q, q < v → mD (A' 19) (10 * (121 * sN S + q)) 10 (cBoth (sC S X) (sC S Y) (sT S X) (sT S Y) q)) → (∀ i, i < 1210 * sN S → A' 19 i = A 19 i) → (∀ i, i ≠ 19 → i ≠ 22 → i ≠ 23 → i ≠ 24 → i ≠ 25 → A' i = A i) → AW mX8_both (gq 0 0 Q) 130 [some (.ref m), some (.int (nI X)), some (.int (nI Y)), some (.int (nI (sT S X + sT S Y))), some (.int (nI v)), y5] [] 0 0 n (mh h0 m A') := by
    intro j
    induction j with
    | zero =>
      intro v A' y5 hv hd e19 fr
      obtain rfl : v = sT S X + sT S Y + 1 := by omega
      refine aw_iload dX8_both_130 rfl ?_
      refine aw_iload_n (i := 3) dX8_both_132 rfl rfl ?_
      refine aw_icmp_gt (tgt := 277) dX8_both_133 (by decide) (fun _ => ?_) (fun c => (c (nI_lt (by omega) (by omega))).elim)
      refine aw_aload_n (i := 0) dX8_both_277 rfl rfl ?_
      refine aw_iconst (v := 3) dX8_both_278 (by decide +kernel) ?_
      refine aw_iload_n (i := 3) dX8_both_279 rfl rfl ?_
      refine aw_invokevirtual kX8_202 dX8_both_280 (by rw [mh_0]; exact B.1) (ct_X8_comes n h0 m A' S bo ki mo wt 3 (sT S X + sT S Y) _ B (hA.keepC hI e19 (fr 6 (by decide) (by decide) (by decide) (by decide) (by decide)) (fr 7 (by decide) (by decide) (by decide) (by decide) (by decide)) (fr 20 (by decide) (by decide) (by decide) (by decide) (by decide))) (by omega) (by omega) (fun v hv => hd v (by omega)) (by rw [htot]; exact hlt)) rfl rfl (Nat.le_of_ble_eq_true rfl) ⟨Nat.le_of_ble_eq_true rfl, Nat.le_of_ble_eq_true rfl⟩ ⟨Nat.le_of_ble_eq_true rfl, Nat.le_of_ble_eq_true rfl⟩ ?_
      rintro _ _ _ ⟨rfl, rfl, hR', hF⟩
      refine aw_ireturn dX8_both_283 rfl rfl (Nat.le_of_ble_eq_true rfl) (Nat.le_of_ble_eq_true rfl) ?_
      exact hQ _ _ _ ⟨rfl, rfl, hR', fun y hy => by rw [hF y hy, mh_fr hy, mh_fr hy]⟩
    | succ j ih =>
      intro v A' y5 hv hd e19 fr
      have hcv : cBoth (sC S X) (sC S Y) (sT S X) (sT S Y) v ≤ stot S X * stot S Y := by rw [← htot]; exact sg_ge (by omega)
      refine aw_iload dX8_both_130 rfl ?_
      refine aw_iload_n (i := 3) dX8_both_132 rfl rfl ?_
      refine aw_icmp_gt (tgt := 277) dX8_both_133 (by decide) (fun c => absurd c (nI_nlt (by omega) (by omega))) (fun _ => ?_)
      refine aw_aload_n (i := 0) dX8_both_136 rfl rfl ?_
      refine aw_getfield fX8_84 dX8_both_137 (by rw [mh_0]; exact B.1) rfl ?_
      refine aw_lconst (v := 0) dX8_both_140 (by decide) ?_
      refine aw_invokestatic kX8_124 dX8_both_141 (mc_become n h0 m A' 25 0 rfl rfl (by decide)) rfl rfl (Nat.le_of_ble_eq_true rfl) ⟨Nat.le_of_ble_eq_true rfl, Nat.le_of_ble_eq_true rfl⟩ ⟨Nat.le_of_ble_eq_true rfl, Nat.le_of_ble_eq_true rfl⟩ ?_
      rintro _ _ _ ⟨rfl, rfl, A1, rfl, d1, f1⟩
      refine aw_iconst (v := 0) dX8_both_144 (by decide +kernel) ?_
      refine aw_istore_5 dX8_both_145 (by decide) rfl ?_
      have inner : ∀ (j i : Nat) (A2 : Nat → Nat → Nat), i + j = sT S X + 1 → dg (A2 25) (sg (fun i => if i ≤ v ∧ v - i ≤ sT S Y then sC S X i * sC S Y (v - i) else 0) i) → (∀ k, k ≠ 22 → k ≠ 23 → k ≠ 24 → k ≠ 25 → A2 k = A' k) → AW mX8_both (gq 0 0 Q) 147 [some (.ref m), some (.int (nI X)), some (.int (nI Y)), some (.int (nI (sT S X + sT S Y))), some (.int (nI v)), some (.int (nI i))] [] 0 0 n (mh h0 m A2) := by
        intro j
        induction j with
        | zero =>
          intro i A2 hi d f
          obtain rfl : i = sT S X + 1 := by omega
          refine aw_iload dX8_both_147 rfl ?_
          refine aw_aload_n (i := 0) dX8_both_149 rfl rfl ?_
          refine aw_getfield fX8_63 dX8_both_150 (by rw [mh_0]; exact B.1) rfl ?_
          refine aw_iload_n (i := 1) dX8_both_153 rfl rfl ?_
          refine aw_iald dX8_both_154 X (hmoC _) (nI_toInt (by omega)) (by omega) ?_
          rw [hmx]
          refine aw_icmp_gt (tgt := 249) dX8_both_155 (by decide) (fun _ => ?_) (fun c => (c (nI_lt (by omega) (by omega))).elim)
          refine aw_aload_n (i := 0) dX8_both_249 rfl rfl ?_
          refine aw_getfield fX8_66 dX8_both_250 (by rw [mh_0]; exact B.1) rfl ?_
          refine aw_aload_n (i := 0) dX8_both_253 rfl rfl ?_
          refine aw_getfield fX8_178 dX8_both_254 (by rw [mh_0]; exact B.1) rfl ?_
          refine aw_iload dX8_both_257 rfl ?_
          refine aw_invokestatic kX8_187 dX8_both_259 (ct_X8_at n (mh h0 m A2) (sN S) v) rfl rfl (Nat.le_of_ble_eq_true rfl) ⟨Nat.le_of_ble_eq_true rfl, Nat.le_of_ble_eq_true rfl⟩ ⟨Nat.le_of_ble_eq_true rfl, Nat.le_of_ble_eq_true rfl⟩ ?_
          rintro _ _ _ ⟨rfl, rfl, rfl⟩
          refine aw_bipush (v := 10) dX8_both_262 (by decide +kernel) ?_
          refine aw_aload_n (i := 0) dX8_both_264 rfl rfl ?_
          refine aw_getfield fX8_84 dX8_both_265 (by rw [mh_0]; exact B.1) rfl ?_
          refine aw_invokestatic kX8_166 dX8_both_268 (mc_storeC n h0 m A2 25 (sN S) v (cBoth (sC S X) (sC S Y) (sT S X) (sT S Y) v) rfl rfl (by decide) (by omega) (by omega) d (by omega)) rfl rfl (Nat.le_of_ble_eq_true rfl) ⟨Nat.le_of_ble_eq_true rfl, Nat.le_of_ble_eq_true rfl⟩ ⟨Nat.le_of_ble_eq_true rfl, Nat.le_of_ble_eq_true rfl⟩ ?_
          rintro _ _ _ ⟨rfl, rfl, A4, rfl, d4, g4, f4⟩
          refine aw_iinc_4 (c0 := 1) dX8_both_271 (by decide) (by decide) rfl ?_
          refine aw_goto (tgt := 130) dX8_both_274 (by decide) ?_
          rw [nI_1]
          refine ih (v + 1) A4 _ (by omega) (fun q hq => ?_) (fun i hi => ?_) (fun i i0 i1 i2 i3 i4 => by rw [f4 i i0, f i i1 i2 i3 i4]; exact fr i i0 i1 i2 i3 i4)
          · by_cases hqv : q = v
            · rw [hqv]; exact d4
            · exact mD_congr (hd q (by omega)) (fun i h1 h2 => by rw [g4 i (by omega), f 19 (by decide) (by decide) (by decide) (by decide)])
          · rw [g4 i (by omega), f 19 (by decide) (by decide) (by decide) (by decide)]; exact e19 i hi
        | succ j ihj =>
          intro i A2 hi d f
          have hle : sg (fun i => if i ≤ v ∧ v - i ≤ sT S Y then sC S X i * sC S Y (v - i) else 0) (i + 1) ≤ cBoth (sC S X) (sC S Y) (sT S X) (sT S Y) v := sg_le (by omega)
          rw [sg_s] at hle
          have ff : ∀ k, k ≠ 19 → k ≠ 22 → k ≠ 23 → k ≠ 24 → k ≠ 25 → A2 k = A k := fun k i0 i1 i2 i3 i4 => by rw [f k i1 i2 i3 i4]; exact fr k i0 i1 i2 i3 i4
          have hAA : MA A2 S bo := hA.keepC hI (fun i hi => by rw [f 19 (by decide) (by decide) (by decide) (by decide)]; exact e19 i hi) (ff 6 (by decide) (by decide) (by decide) (by decide) (by decide)) (ff 7 (by decide) (by decide) (by decide) (by decide) (by decide)) (ff 20 (by decide) (by decide) (by decide) (by decide) (by decide))
          refine aw_iload dX8_both_147 rfl ?_
          refine aw_aload_n (i := 0) dX8_both_149 rfl rfl ?_
          refine aw_getfield fX8_63 dX8_both_150 (by rw [mh_0]; exact B.1) rfl ?_
          refine aw_iload_n (i := 1) dX8_both_153 rfl rfl ?_
          refine aw_iald dX8_both_154 X (hmoC _) (nI_toInt (by omega)) (by omega) ?_
          rw [hmx]
          refine aw_icmp_gt (tgt := 249) dX8_both_155 (by decide) (fun c => absurd c (nI_nlt (by omega) (by omega))) (fun _ => ?_)
          refine aw_iload dX8_both_158 rfl ?_
          refine aw_iload dX8_both_160 rfl ?_
          refine aw_isub dX8_both_162 ?_
          refine aw_iconst (v := 0) dX8_both_163 (by decide +kernel) ?_
          refine aw_aload_n (i := 0) dX8_both_164 rfl rfl ?_
          refine aw_getfield fX8_63 dX8_both_165 (by rw [mh_0]; exact B.1) rfl ?_
          refine aw_iload_n (i := 2) dX8_both_168 rfl rfl ?_
          refine aw_iald dX8_both_169 Y (hmoC _) (nI_toInt (by omega)) (by omega) ?_
          rw [hmy]
          have skip : ¬ (i ≤ v ∧ v - i ≤ sT S Y) → AW mX8_both (gq 0 0 Q) 243 [some (.ref m), some (.int (nI X)), some (.int (nI Y)), some (.int (nI (sT S X + sT S Y))), some (.int (nI v)), some (.int (nI i))] [] 0 0 n (mh h0 m A2) := by
            intro hc
            refine aw_iinc_5 (c0 := 1) dX8_both_243 (by decide) (by decide) rfl ?_
            refine aw_goto (tgt := 147) dX8_both_246 (by decide) ?_
            rw [nI_1]
            exact ihj (i + 1) A2 (by omega) (by rw [sg_s, if_neg hc]; exact d) f
          have tY : (nI (sT S Y)).toInt = (sT S Y : Int) := nI_toInt (by omega)
          have hneg : (nI v - nI i).toInt = (v : Int) - i := pk_sub_toInt (by omega) (by omega)
          refine aw_invokestatic kX8_153 dX8_both_170 (ct_in n (mh h0 m A2) (nI v - nI i) 0 (nI (sT S Y)) toInt_lit0 tY) rfl rfl (Nat.le_of_ble_eq_true rfl) ⟨Nat.le_of_ble_eq_true rfl, Nat.le_of_ble_eq_true rfl⟩ ⟨Nat.le_of_ble_eq_true rfl, Nat.le_of_ble_eq_true rfl⟩ ?_
          rintro _ _ _ ⟨rfl, rfl, rfl⟩
          by_cases hc : i ≤ v ∧ v - i ≤ sT S Y
          · rw [if_pos hc] at hle
            have k1 := cnt_le (S := S) (s := X) (v := i) (by omega)
            have k2 := cnt_le (S := S) (s := Y) (v := v - i) hc.2
            refine aw_if_eq (tgt := 243) dX8_both_173 (by decide) (fun c => absurd c (bI_ne0.mpr (rg_iff.mpr ⟨by rw [hneg]; omega, by rw [hneg]; omega⟩))) (fun _ => ?_)
            refine aw_aload_n (i := 0) dX8_both_176 rfl rfl ?_
            refine aw_getfield fX8_75 dX8_both_177 (by rw [mh_0]; exact B.1) rfl ?_
            refine aw_aload_n (i := 0) dX8_both_180 rfl rfl ?_
            refine aw_getfield fX8_66 dX8_both_181 (by rw [mh_0]; exact B.1) rfl ?_
            refine aw_iload_n (i := 1) dX8_both_184 rfl rfl ?_
            refine aw_iload dX8_both_185 rfl ?_
            refine aw_invokestatic kX8_187 dX8_both_187 (ct_X8_at n (mh h0 m A2) X i) rfl rfl (Nat.le_of_ble_eq_true rfl) ⟨Nat.le_of_ble_eq_true rfl, Nat.le_of_ble_eq_true rfl⟩ ⟨Nat.le_of_ble_eq_true rfl, Nat.le_of_ble_eq_true rfl⟩ ?_
            rintro _ _ _ ⟨rfl, rfl, rfl⟩
            refine aw_bipush (v := 10) dX8_both_190 (by decide +kernel) ?_
            refine aw_invokestatic kX8_170 dX8_both_192 (mc_loadC n h0 m A2 S bo 22 X i rfl rfl (by decide) hAA hI hx (by omega)) rfl rfl (Nat.le_of_ble_eq_true rfl) ⟨Nat.le_of_ble_eq_true rfl, Nat.le_of_ble_eq_true rfl⟩ ⟨Nat.le_of_ble_eq_true rfl, Nat.le_of_ble_eq_true rfl⟩ ?_
            rintro _ _ _ ⟨rfl, rfl, A3, rfl, d3, f3⟩
            have hAA3 : MA A3 S bo := hAA.keep (f3 6 (by decide)) (f3 7 (by decide)) (f3 19 (by decide)) (f3 20 (by decide))
            refine aw_aload_n (i := 0) dX8_both_195 rfl rfl ?_
            refine aw_getfield fX8_78 dX8_both_196 (by rw [mh_0]; exact B.1) rfl ?_
            refine aw_aload_n (i := 0) dX8_both_199 rfl rfl ?_
            refine aw_getfield fX8_66 dX8_both_200 (by rw [mh_0]; exact B.1) rfl ?_
            refine aw_iload_n (i := 2) dX8_both_203 rfl rfl ?_
            refine aw_iload dX8_both_204 rfl ?_
            refine aw_iload dX8_both_206 rfl ?_
            refine aw_isub dX8_both_208 ?_
            rw [pk_sub hc.1]
            refine aw_invokestatic kX8_187 dX8_both_209 (ct_X8_at n (mh h0 m A3) Y (v - i)) rfl rfl (Nat.le_of_ble_eq_true rfl) ⟨Nat.le_of_ble_eq_true rfl, Nat.le_of_ble_eq_true rfl⟩ ⟨Nat.le_of_ble_eq_true rfl, Nat.le_of_ble_eq_true rfl⟩ ?_
            rintro _ _ _ ⟨rfl, rfl, rfl⟩
            refine aw_bipush (v := 10) dX8_both_212 (by decide +kernel) ?_
            refine aw_invokestatic kX8_170 dX8_both_214 (mc_loadC n h0 m A3 S bo 23 Y (v - i) rfl rfl (by decide) hAA3 hI hy hc.2) rfl rfl (Nat.le_of_ble_eq_true rfl) ⟨Nat.le_of_ble_eq_true rfl, Nat.le_of_ble_eq_true rfl⟩ ⟨Nat.le_of_ble_eq_true rfl, Nat.le_of_ble_eq_true rfl⟩ ?_
            rintro _ _ _ ⟨rfl, rfl, A4, rfl, d4, f4⟩
            refine aw_aload_n (i := 0) dX8_both_217 rfl rfl ?_
            refine aw_getfield fX8_81 dX8_both_218 (by rw [mh_0]; exact B.1) rfl ?_
            refine aw_aload_n (i := 0) dX8_both_221 rfl rfl ?_
            refine aw_getfield fX8_75 dX8_both_222 (by rw [mh_0]; exact B.1) rfl ?_
            refine aw_aload_n (i := 0) dX8_both_225 rfl rfl ?_
            refine aw_getfield fX8_78 dX8_both_226 (by rw [mh_0]; exact B.1) rfl ?_
            refine aw_invokestatic kX8_174 dX8_both_229 (mc_times n h0 m A4 24 22 23 (sC S X i) (sC S Y (v - i)) 10 10 rfl rfl rfl rfl rfl rfl (by decide) (by decide) (by rw [f4 22 (by decide)]; exact d3) d4 (by omega) (by omega) (by decide)) rfl rfl (Nat.le_of_ble_eq_true rfl) ⟨Nat.le_of_ble_eq_true rfl, Nat.le_of_ble_eq_true rfl⟩ ⟨Nat.le_of_ble_eq_true rfl, Nat.le_of_ble_eq_true rfl⟩ ?_
            rintro _ _ _ ⟨rfl, rfl, A5, rfl, d5, f5⟩
            refine aw_aload_n (i := 0) dX8_both_232 rfl rfl ?_
            refine aw_getfield fX8_84 dX8_both_233 (by rw [mh_0]; exact B.1) rfl ?_
            refine aw_aload_n (i := 0) dX8_both_236 rfl rfl ?_
            refine aw_getfield fX8_81 dX8_both_237 (by rw [mh_0]; exact B.1) rfl ?_
            refine aw_invokestatic kX8_191 dX8_both_240 (mc_plus n h0 m A5 25 24 _ _ rfl rfl rfl rfl (by decide) (by rw [f5 25 (by decide), f4 25 (by decide), f3 25 (by decide)]; exact d) d5 (by omega)) rfl rfl (Nat.le_of_ble_eq_true rfl) ⟨Nat.le_of_ble_eq_true rfl, Nat.le_of_ble_eq_true rfl⟩ ⟨Nat.le_of_ble_eq_true rfl, Nat.le_of_ble_eq_true rfl⟩ ?_
            rintro _ _ _ ⟨rfl, rfl, A6, rfl, d6, f6⟩
            refine aw_iinc_5 (c0 := 1) dX8_both_243 (by decide) (by decide) rfl ?_
            refine aw_goto (tgt := 147) dX8_both_246 (by decide) ?_
            rw [nI_1]
            exact ihj (i + 1) A6 (by omega) (by rw [sg_s, if_pos hc]; exact d6) (fun k k1 k2 k3 k4 => by rw [f6 k k4, f5 k k3, f4 k k2, f3 k k1]; exact f k k1 k2 k3 k4)
          · refine aw_if_eq (tgt := 243) dX8_both_173 (by decide) (fun _ => ?_) (fun c => (c (bI_eq0.mpr (by rw [Bool.eq_false_iff]; intro q; have q2 := rg_iff.mp q; rw [hneg] at q2; omega))).elim)
            exact skip hc
      exact inner (sT S X + 1) 0 A1 (by omega) d1 (fun k k1 k2 k3 k4 => f1 k k4)
  exact loop (sT S X + sT S Y + 1) 0 A3 none (by omega) (fun v hv => by omega) (fun i _ => by rw [fr3 19 (by decide) (by decide) (by decide)]) (fun i _ i1 i2 i3 _ => fr3 i i1 i2 i3)
