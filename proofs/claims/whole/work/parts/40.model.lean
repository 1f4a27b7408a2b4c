theorem ra_term {S : TS} {s k j : Nat} (hI : SInv S) (hs : s < sN S) (hj : j ≤ 12) (h4 : 4 ≤ j) {v : Nat} (hv : v ≤ sT S s) : sC S s v * j ^ v * 4 ^ (sT S s - v) ≤ sC S s v * 12 ^ 120 := by
  have hT := (hI.2.1.2 s hs).2.1
  rw [Nat.mul_assoc]
  refine Nat.mul_le_mul_left _ ?_
  have a1 : j ^ v ≤ 12 ^ v := Nat.pow_le_pow_left hj v
  have a2 : 4 ^ (sT S s - v) ≤ 12 ^ (sT S s - v) := Nat.pow_le_pow_left (by decide) _
  have a3 : j ^ v * 4 ^ (sT S s - v) ≤ 12 ^ v * 12 ^ (sT S s - v) := Nat.mul_le_mul a1 a2
  rw [← Nat.pow_add] at a3
  have a4 : 12 ^ (v + (sT S s - v)) ≤ 12 ^ 120 := Nat.pow_le_pow_right (by decide) (by omega)
  omega
theorem ra_sum {S : TS} {s j : Nat} (hI : SInv S) (hs : s < sN S) (hj : j ≤ 12) (h4 : 4 ≤ j) : sg (fun v => sC S s v * j ^ v * 4 ^ (sT S s - v)) (sT S s + 1) < 2 ^ 256 * 12 ^ 120 := by
  have h1 : sg (fun v => sC S s v * j ^ v * 4 ^ (sT S s - v)) (sT S s + 1) ≤ sg (fun v => sC S s v * 12 ^ 120) (sT S s + 1) := sg_mono (fun v hv => ra_term (k := 0) hI hs hj h4 (by omega))
  rw [sg_mul] at h1
  have h2 := (hI.2.1.2 s hs).2.2.2
  unfold stot at h2
  have h3 : sg (sC S s) (sT S s + 1) * 12 ^ 120 < 2 ^ 256 * 12 ^ 120 := Nat.mul_lt_mul_of_pos_right h2 (Nat.pow_pos (by decide))
  omega
theorem ra_big : 2 ^ 256 * 12 ^ 120 * 4 ^ 120 < 2 ^ (28 * 48) := by decide +kernel
theorem raA_lt {S : TS} {s k j : Nat} (hI : SInv S) (hs : s < sN S) (hk : k ≤ 120) (hj : j ≤ 12) (h4 : 4 ≤ j) : raA S s k j < 2 ^ (28 * 48) := by
  unfold raA
  have h1 := ra_sum hI hs hj h4
  have h2 : 4 ^ k ≤ 4 ^ 120 := Nat.pow_le_pow_right (by decide) hk
  have h3 := Nat.mul_le_mul (Nat.le_of_lt h1) h2
  have := ra_big
  omega
theorem raB_lt {S : TS} {s k j : Nat} (hI : SInv S) (hs : s < sN S) (hk : k ≤ 120) (hj : j ≤ 12) (h4 : 4 ≤ j) : raB S s k j < 2 ^ (28 * 48) := by
  unfold raB
  have h0 := (hI.2.1.2 s hs).2.2.2
  have hT := (hI.2.1.2 s hs).2.1
  have h1 : j ^ k ≤ 12 ^ 120 := Nat.le_trans (Nat.pow_le_pow_left hj k) (Nat.pow_le_pow_right (by decide) hk)
  have h2 : 4 ^ sT S s ≤ 4 ^ 120 := Nat.pow_le_pow_right (by decide) hT
  have h3 := Nat.mul_le_mul (Nat.mul_le_mul (Nat.le_of_lt h0) h1) h2
  have := ra_big
  omega
theorem ct_X8_raised (n : Nat) (h0 : Hp) (m : Nat) (A : Nat → Nat → Nat) (S : TS) (bo ki mo wt : Nat → Nat) (s k j : Nat) (B : MB h0 m S bo ki mo wt) (hA : MA A S bo) (hI : SInv S) (hs : s < sN S) (hk : k ≤ 120) (hj : j ≤ 12) (h4 : 4 ≤ j) (d28 : dg (A 28) (stot S s)) : CT mX8_raised 0 0 n (mh h0 m A) [.ref m, .int (nI s), .int (nI k), .int (nI j)] (pv n (fun h' => ∃ A', h' = mh h0 m A' ∧ dg (A' 9) (raA S s k j) ∧ dg (A' 10) (raB S s k j) ∧ ∀ q, q ≠ 9 → q ≠ 10 → q ≠ 22 → q ≠ 25 → A' q = A q)) := by
  refine CT.intro [some (.ref m), some (.int (nI s)), some (.int (nI k)), some (.int (nI j)), none] 1 rfl rfl (by decide) ?_
  intro Q hQ
  have hn16 := hI.2.1.1
  have hT := (hI.2.1.2 s hs).2.1
  have htot := (hI.2.1.2 s hs).2.2.2
  have hmx := (B.2.2.2.2.2.2 s hs).2
  have hmoC : ∀ A' : Nat → Nat → Nat, mh h0 m A' (m + 18) = some (iar 16 mo) := fun A' => by rw [mh_no h0 m A' rfl]; exact B.2.2.2.1
  have hsum := ra_sum hI hs hj h4
  have hA9 := raA_lt hI hs hk hj h4
  have hB9 := raB_lt hI hs hk hj h4
  have w1 : 2 ^ (28 * 48) < 2 ^ 2688 := Nat.pow_lt_pow_right (by decide) (by decide)
  have w2 : 2 ^ 256 * 12 ^ 120 < 2 ^ 2688 := by decide +kernel
  refine aw_aload_n (i := 0) dX8_raised_0 rfl rfl ?_
  refine aw_getfield fX8_84 dX8_raised_1 (by rw [mh_0]; exact B.1) rfl ?_
  refine aw_lconst (v := 0) dX8_raised_4 (by decide) ?_
  refine aw_invokestatic kX8_124 dX8_raised_5 (mc_become n h0 m A 25 0 rfl rfl (by decide)) rfl rfl (Nat.le_of_ble_eq_true rfl) ⟨Nat.le_of_ble_eq_true rfl, Nat.le_of_ble_eq_true rfl⟩ ⟨Nat.le_of_ble_eq_true rfl, Nat.le_of_ble_eq_true rfl⟩ ?_
  rintro _ _ _ ⟨rfl, rfl, A1, rfl, d1, f1⟩
  refine aw_iconst (v := 0) dX8_raised_8 (by decide +kernel) ?_
  refine aw_istore_4 dX8_raised_9 (by decide) rfl ?_
  have loop : ∀ (t v : Nat) (A' : Nat → Nat → Nat), v + t = sT S s + 1 → dg (A' 25) (sg (fun v => sC S s v * j ^ v * 4 ^ (sT S s - v)) v) → (∀ q, q ≠ 22 → q ≠ 25 → A' q = A q) → AW mX8_raised (gq 0 0 Q) 11 [some (.ref m), some (.int (nI s)), some (.int (nI k)), some (.int (nI j)), some (.int (nI v))] [] 0 0 n (mh h0 m A') := by
    intro t
    induction t with
    | zero =>
      intro v A' hv d fr
      obtain rfl : v = sT S s + 1 := by omega
      refine aw_iload dX8_raised_11 rfl ?_
      refine aw_aload_n (i := 0) dX8_raised_13 rfl rfl ?_
      refine aw_getfield fX8_63 dX8_raised_14 (by rw [mh_0]; exact B.1) rfl ?_
      refine aw_iload_n (i := 1) dX8_raised_17 rfl rfl ?_
      refine aw_iald dX8_raised_18 s (hmoC _) (nI_toInt (by omega)) (by omega) ?_
      rw [hmx]
      refine aw_icmp_gt (tgt := 90) dX8_raised_19 (by decide) (fun _ => ?_) (fun c => (c (nI_lt (by omega) (by omega))).elim)
      refine aw_aload_n (i := 0) dX8_raised_90 rfl rfl ?_
      refine aw_aload_n (i := 0) dX8_raised_91 rfl rfl ?_
      refine aw_getfield fX8_84 dX8_raised_92 (by rw [mh_0]; exact B.1) rfl ?_
      refine aw_ldc2_w qX8_230 dX8_raised_95 ?_
      refine aw_iload_n (i := 2) dX8_raised_98 rfl rfl ?_
      refine aw_invokevirtual kX8_198 dX8_raised_99 (by rw [mh_0]; exact B.1) (ct_X8_power n h0 m A' 25 _ 4 k rfl rfl d (by decide) (by omega) (Nat.lt_trans hA9 w1)) rfl rfl (Nat.le_of_ble_eq_true rfl) ⟨Nat.le_of_ble_eq_true rfl, Nat.le_of_ble_eq_true rfl⟩ ⟨Nat.le_of_ble_eq_true rfl, Nat.le_of_ble_eq_true rfl⟩ ?_
      rintro _ _ _ ⟨rfl, rfl, A2, rfl, d2, f2⟩
      refine aw_aload_n (i := 0) dX8_raised_102 rfl rfl ?_
      refine aw_getfield fX8_38 dX8_raised_103 (by rw [mh_0]; exact B.1) rfl ?_
      refine aw_aload_n (i := 0) dX8_raised_106 rfl rfl ?_
      refine aw_getfield fX8_93 dX8_raised_107 (by rw [mh_0]; exact B.1) rfl ?_
      refine aw_invokestatic kX8_128 dX8_raised_110 (mc_copy n h0 m A2 10 28 _ rfl rfl rfl rfl (by decide) (by rw [f2 28 (by decide), fr 28 (by decide) (by decide)]; exact d28)) rfl rfl (Nat.le_of_ble_eq_true rfl) ⟨Nat.le_of_ble_eq_true rfl, Nat.le_of_ble_eq_true rfl⟩ ⟨Nat.le_of_ble_eq_true rfl, Nat.le_of_ble_eq_true rfl⟩ ?_
      rintro _ _ _ ⟨rfl, rfl, A3, rfl, d3, f3⟩
      have hmid : stot S s * j ^ k < 2 ^ 2688 := by
        have : stot S s * j ^ k * 1 ≤ stot S s * j ^ k * 4 ^ sT S s := Nat.mul_le_mul_left _ (Nat.pow_pos (by decide))
        unfold raB at hB9
        omega
      refine aw_aload_n (i := 0) dX8_raised_113 rfl rfl ?_
      refine aw_aload_n (i := 0) dX8_raised_114 rfl rfl ?_
      refine aw_getfield fX8_38 dX8_raised_115 (by rw [mh_0]; exact B.1) rfl ?_
      refine aw_iload_n (i := 3) dX8_raised_118 rfl rfl ?_
      refine aw_i2l dX8_raised_119 rfl ?_
      rw [nI_l (show j < 2 ^ 31 by omega)]
      refine aw_iload_n (i := 2) dX8_raised_120 rfl rfl ?_
      refine aw_invokevirtual kX8_198 dX8_raised_121 (by rw [mh_0]; exact B.1) (ct_X8_power n h0 m A3 10 _ j k rfl rfl d3 (by omega) (by omega) hmid) rfl rfl (Nat.le_of_ble_eq_true rfl) ⟨Nat.le_of_ble_eq_true rfl, Nat.le_of_ble_eq_true rfl⟩ ⟨Nat.le_of_ble_eq_true rfl, Nat.le_of_ble_eq_true rfl⟩ ?_
      rintro _ _ _ ⟨rfl, rfl, A4, rfl, d4, f4⟩
      refine aw_aload_n (i := 0) dX8_raised_124 rfl rfl ?_
      refine aw_aload_n (i := 0) dX8_raised_125 rfl rfl ?_
      refine aw_getfield fX8_38 dX8_raised_126 (by rw [mh_0]; exact B.1) rfl ?_
      refine aw_ldc2_w qX8_230 dX8_raised_129 ?_
      refine aw_aload_n (i := 0) dX8_raised_132 rfl rfl ?_
      refine aw_getfield fX8_63 dX8_raised_133 (by rw [mh_0]; exact B.1) rfl ?_
      refine aw_iload_n (i := 1) dX8_raised_136 rfl rfl ?_
      refine aw_iald dX8_raised_137 s (hmoC _) (nI_toInt (by omega)) (by omega) ?_
      rw [hmx]
      refine aw_invokevirtual kX8_198 dX8_raised_138 (by rw [mh_0]; exact B.1) (ct_X8_power n h0 m A4 10 _ 4 (sT S s) rfl rfl d4 (by decide) (by omega) (Nat.lt_trans hB9 w1)) rfl rfl (Nat.le_of_ble_eq_true rfl) ⟨Nat.le_of_ble_eq_true rfl, Nat.le_of_ble_eq_true rfl⟩ ⟨Nat.le_of_ble_eq_true rfl, Nat.le_of_ble_eq_true rfl⟩ ?_
      rintro _ _ _ ⟨rfl, rfl, A5, rfl, d5, f5⟩
      refine aw_aload_n (i := 0) dX8_raised_141 rfl rfl ?_
      refine aw_getfield fX8_35 dX8_raised_142 (by rw [mh_0]; exact B.1) rfl ?_
      refine aw_aload_n (i := 0) dX8_raised_145 rfl rfl ?_
      refine aw_getfield fX8_84 dX8_raised_146 (by rw [mh_0]; exact B.1) rfl ?_
      refine aw_invokestatic kX8_128 dX8_raised_149 (mc_copy n h0 m A5 9 25 _ rfl rfl rfl rfl (by decide) (by rw [f5 25 (by decide), f4 25 (by decide), f3 25 (by decide)]; exact d2)) rfl rfl (Nat.le_of_ble_eq_true rfl) ⟨Nat.le_of_ble_eq_true rfl, Nat.le_of_ble_eq_true rfl⟩ ⟨Nat.le_of_ble_eq_true rfl, Nat.le_of_ble_eq_true rfl⟩ ?_
      rintro _ _ _ ⟨rfl, rfl, A6, rfl, d6, f6⟩
      refine aw_return dX8_raised_152 rfl (Nat.le_of_ble_eq_true rfl) (Nat.le_of_ble_eq_true rfl) ?_
      exact hQ _ _ _ ⟨rfl, rfl, A6, rfl, d6, by rw [f6 10 (by decide)]; exact d5, fun q q1 q2 q3 q4 => by rw [f6 q q1, f5 q q2, f4 q q2, f3 q q2, f2 q q4]; exact fr q q3 q4⟩
    | succ t ih =>
      intro v A' hv d fr
      have hA' : MA A' S bo := hA.keep (fr 6 (by decide) (by decide)) (fr 7 (by decide) (by decide)) (fr 19 (by decide) (by decide)) (fr 20 (by decide) (by decide))
      have hle : sg (fun v => sC S s v * j ^ v * 4 ^ (sT S s - v)) (v + 1) ≤ sg (fun v => sC S s v * j ^ v * 4 ^ (sT S s - v)) (sT S s + 1) := sg_le (by omega)
      rw [sg_s] at hle
      have hmid : sC S s v * j ^ v < 2 ^ 2688 := by
        have : sC S s v * j ^ v * 1 ≤ sC S s v * j ^ v * 4 ^ (sT S s - v) := Nat.mul_le_mul_left _ (Nat.pow_pos (by decide))
        omega
      refine aw_iload dX8_raised_11 rfl ?_
      refine aw_aload_n (i := 0) dX8_raised_13 rfl rfl ?_
      refine aw_getfield fX8_63 dX8_raised_14 (by rw [mh_0]; exact B.1) rfl ?_
      refine aw_iload_n (i := 1) dX8_raised_17 rfl rfl ?_
      refine aw_iald dX8_raised_18 s (hmoC _) (nI_toInt (by omega)) (by omega) ?_
      rw [hmx]
      refine aw_icmp_gt (tgt := 90) dX8_raised_19 (by decide) (fun c => absurd c (nI_nlt (by omega) (by omega))) (fun _ => ?_)
      refine aw_aload_n (i := 0) dX8_raised_22 rfl rfl ?_
      refine aw_getfield fX8_75 dX8_raised_23 (by rw [mh_0]; exact B.1) rfl ?_
      refine aw_aload_n (i := 0) dX8_raised_26 rfl rfl ?_
      refine aw_getfield fX8_66 dX8_raised_27 (by rw [mh_0]; exact B.1) rfl ?_
      refine aw_iload_n (i := 1) dX8_raised_30 rfl rfl ?_
      refine aw_iload dX8_raised_31 rfl ?_
      refine aw_invokestatic kX8_187 dX8_raised_33 (ct_X8_at n (mh h0 m A') s v) rfl rfl (Nat.le_of_ble_eq_true rfl) ⟨Nat.le_of_ble_eq_true rfl, Nat.le_of_ble_eq_true rfl⟩ ⟨Nat.le_of_ble_eq_true rfl, Nat.le_of_ble_eq_true rfl⟩ ?_
      rintro _ _ _ ⟨rfl, rfl, rfl⟩
      refine aw_bipush (v := 10) dX8_raised_36 (by decide +kernel) ?_
      refine aw_invokestatic kX8_170 dX8_raised_38 (mc_loadC n h0 m A' S bo 22 s v rfl rfl (by decide) hA' hI hs (by omega)) rfl rfl (Nat.le_of_ble_eq_true rfl) ⟨Nat.le_of_ble_eq_true rfl, Nat.le_of_ble_eq_true rfl⟩ ⟨Nat.le_of_ble_eq_true rfl, Nat.le_of_ble_eq_true rfl⟩ ?_
      rintro _ _ _ ⟨rfl, rfl, A3, rfl, d3, f3⟩
      refine aw_aload_n (i := 0) dX8_raised_41 rfl rfl ?_
      refine aw_aload_n (i := 0) dX8_raised_42 rfl rfl ?_
      refine aw_getfield fX8_75 dX8_raised_43 (by rw [mh_0]; exact B.1) rfl ?_
      refine aw_iload_n (i := 3) dX8_raised_46 rfl rfl ?_
      refine aw_i2l dX8_raised_47 rfl ?_
      rw [nI_l (show j < 2 ^ 31 by omega)]
      refine aw_iload dX8_raised_48 rfl ?_
      refine aw_invokevirtual kX8_198 dX8_raised_50 (by rw [mh_0]; exact B.1) (ct_X8_power n h0 m A3 22 _ j v rfl rfl d3 (by omega) (by omega) hmid) rfl rfl (Nat.le_of_ble_eq_true rfl) ⟨Nat.le_of_ble_eq_true rfl, Nat.le_of_ble_eq_true rfl⟩ ⟨Nat.le_of_ble_eq_true rfl, Nat.le_of_ble_eq_true rfl⟩ ?_
      rintro _ _ _ ⟨rfl, rfl, A4, rfl, d4, f4⟩
      refine aw_aload_n (i := 0) dX8_raised_53 rfl rfl ?_
      refine aw_aload_n (i := 0) dX8_raised_54 rfl rfl ?_
      refine aw_getfield fX8_75 dX8_raised_55 (by rw [mh_0]; exact B.1) rfl ?_
      refine aw_ldc2_w qX8_230 dX8_raised_58 ?_
      refine aw_aload_n (i := 0) dX8_raised_61 rfl rfl ?_
      refine aw_getfield fX8_63 dX8_raised_62 (by rw [mh_0]; exact B.1) rfl ?_
      refine aw_iload_n (i := 1) dX8_raised_65 rfl rfl ?_
      refine aw_iald dX8_raised_66 s (hmoC _) (nI_toInt (by omega)) (by omega) ?_
      refine aw_iload dX8_raised_67 rfl ?_
      refine aw_isub dX8_raised_69 ?_
      rw [hmx, pk_sub (show v ≤ sT S s by omega)]
      refine aw_invokevirtual kX8_198 dX8_raised_70 (by rw [mh_0]; exact B.1) (ct_X8_power n h0 m A4 22 _ 4 (sT S s - v) rfl rfl d4 (by decide) (by omega) (by omega)) rfl rfl (Nat.le_of_ble_eq_true rfl) ⟨Nat.le_of_ble_eq_true rfl, Nat.le_of_ble_eq_true rfl⟩ ⟨Nat.le_of_ble_eq_true rfl, Nat.le_of_ble_eq_true rfl⟩ ?_
      rintro _ _ _ ⟨rfl, rfl, A5, rfl, d5, f5⟩
      refine aw_aload_n (i := 0) dX8_raised_73 rfl rfl ?_
      refine aw_getfield fX8_84 dX8_raised_74 (by rw [mh_0]; exact B.1) rfl ?_
      refine aw_aload_n (i := 0) dX8_raised_77 rfl rfl ?_
      refine aw_getfield fX8_75 dX8_raised_78 (by rw [mh_0]; exact B.1) rfl ?_
      refine aw_invokestatic kX8_191 dX8_raised_81 (mc_plus n h0 m A5 25 22 _ _ rfl rfl rfl rfl (by decide) (by rw [f5 25 (by decide), f4 25 (by decide), f3 25 (by decide)]; exact d) d5 (by omega)) rfl rfl (Nat.le_of_ble_eq_true rfl) ⟨Nat.le_of_ble_eq_true rfl, Nat.le_of_ble_eq_true rfl⟩ ⟨Nat.le_of_ble_eq_true rfl, Nat.le_of_ble_eq_true rfl⟩ ?_
      rintro _ _ _ ⟨rfl, rfl, A6, rfl, d6, f6⟩
      refine aw_iinc_4 (c0 := 1) dX8_raised_84 (by decide) (by decide) rfl ?_
      refine aw_goto (tgt := 11) dX8_raised_87 (by decide) ?_
      rw [nI_1]
      exact ih (v + 1) A6 (by omega) d6 (fun q q1 q2 => by rw [f6 q q2, f5 q q1, f4 q q1, f3 q q1]; exact fr q q1 q2)
  exact loop (sT S s + 1) 0 A1 (by omega) d1 (fun q _ q2 => f1 q q2)
theorem raL_rg (S : TS) (s k : Nat) : ∀ n, (n = 0 ∧ raL S s k n = 0) ∨ (0 < n ∧ 5 ≤ raL S s k n ∧ raL S s k n ≤ n + 4)
  | 0 => Or.inl ⟨rfl, rfl⟩
  | n + 1 => by
    right
    simp only [raL]
    split
    · omega
    · rename_i hc
      rcases raL_rg S s k n with h | h
      · exact absurd (Or.inl h.2) hc
      · omega
theorem ct_X8_leastRaised (n : Nat) (h0 : Hp) (m : Nat) (A : Nat → Nat → Nat) (S : TS) (bo ki mo wt : Nat → Nat) (s k : Nat) (B : MB h0 m S bo ki mo wt) (hA : MA A S bo) (hI : SInv S) (hs : s < sN S) (hk : k ≤ 120) (d28 : dg (A 28) (stot S s)) : CT mX8_leastRaised 0 0 n (mh h0 m A) [.ref m, .int (nI s), .int (nI k)] (fun r n' h' => n = n' ∧ r = some (.int (nI (raL S s k 8))) ∧ ∃ A', h' = mh h0 m A' ∧ dg (A' 9) (raA S s k (raL S s k 8)) ∧ dg (A' 10) (raB S s k (raL S s k 8)) ∧ ∀ q, q = 6 ∨ q = 7 ∨ q = 19 ∨ q = 20 ∨ q = 28 → A' q = A q) := by
  refine CT.intro [some (.ref m), some (.int (nI s)), some (.int (nI k)), none, none, none] 3 rfl rfl (by decide) ?_
  intro Q hQ
  refine aw_iconst (v := 0) dX8_leastRaised_0 (by decide +kernel) ?_
  refine aw_istore_3 dX8_leastRaised_1 (by decide) rfl ?_
  refine aw_iconst (v := 5) dX8_leastRaised_2 (by decide +kernel) ?_
  refine aw_istore_4 dX8_leastRaised_3 (by decide) rfl ?_
  have loop : ∀ (t i : Nat) (A' : Nat → Nat → Nat) (y5 : Option Value), i + t = 8 → (0 < i → dg (A' 30) (raA S s k (raL S s k i)) ∧ dg (A' 31) (raB S s k (raL S s k i))) → (∀ q, q = 6 ∨ q = 7 ∨ q = 19 ∨ q = 20 ∨ q = 28 → A' q = A q) → AW mX8_leastRaised (gq 0 0 Q) 5 [some (.ref m), some (.int (nI s)), some (.int (nI k)), some (.int (nI (raL S s k i))), some (.int (nI (i + 5))), y5] [] 0 0 n (mh h0 m A') := by
    intro t
    induction t with
    | zero =>
      intro i A' y5 hi hb fr
      obtain rfl : i = 8 := by omega
      have hb := hb (by decide)
      refine aw_iload dX8_leastRaised_5 rfl ?_
      refine aw_bipush (v := 12) dX8_leastRaised_7 (by decide +kernel) ?_
      refine aw_icmp_gt (tgt := 123) dX8_leastRaised_9 (by decide) (fun _ => ?_) (fun c => (c (show (12 : Int32) < nI (8 + 5) by decide)).elim)
      refine aw_aload_n (i := 0) dX8_leastRaised_123 rfl rfl ?_
      refine aw_getfield fX8_35 dX8_leastRaised_124 (by rw [mh_0]; exact B.1) rfl ?_
      refine aw_aload_n (i := 0) dX8_leastRaised_127 rfl rfl ?_
      refine aw_getfield fX8_99 dX8_leastRaised_128 (by rw [mh_0]; exact B.1) rfl ?_
      refine aw_invokestatic kX8_128 dX8_leastRaised_131 (mc_copy n h0 m A' 9 30 _ rfl rfl rfl rfl (by decide) hb.1) rfl rfl (Nat.le_of_ble_eq_true rfl) ⟨Nat.le_of_ble_eq_true rfl, Nat.le_of_ble_eq_true rfl⟩ ⟨Nat.le_of_ble_eq_true rfl, Nat.le_of_ble_eq_true rfl⟩ ?_
      rintro _ _ _ ⟨rfl, rfl, A2, rfl, d2, f2⟩
      refine aw_aload_n (i := 0) dX8_leastRaised_134 rfl rfl ?_
      refine aw_getfield fX8_38 dX8_leastRaised_135 (by rw [mh_0]; exact B.1) rfl ?_
      refine aw_aload_n (i := 0) dX8_leastRaised_138 rfl rfl ?_
      refine aw_getfield fX8_102 dX8_leastRaised_139 (by rw [mh_0]; exact B.1) rfl ?_
      refine aw_invokestatic kX8_128 dX8_leastRaised_142 (mc_copy n h0 m A2 10 31 _ rfl rfl rfl rfl (by decide) (by rw [f2 31 (by decide)]; exact hb.2)) rfl rfl (Nat.le_of_ble_eq_true rfl) ⟨Nat.le_of_ble_eq_true rfl, Nat.le_of_ble_eq_true rfl⟩ ⟨Nat.le_of_ble_eq_true rfl, Nat.le_of_ble_eq_true rfl⟩ ?_
      rintro _ _ _ ⟨rfl, rfl, A3, rfl, d3, f3⟩
      refine aw_iload_n (i := 3) dX8_leastRaised_145 rfl rfl ?_
      refine aw_ireturn dX8_leastRaised_146 rfl rfl (Nat.le_of_ble_eq_true rfl) (Nat.le_of_ble_eq_true rfl) ?_
      exact hQ _ _ _ ⟨rfl, rfl, A3, rfl, by rw [f3 9 (by decide)]; exact d2, d3, fun q hq => by rw [f3 q (by omega), f2 q (by omega)]; exact fr q hq⟩
    | succ t ih =>
      intro i A' y5 hi hb fr
      have hA' : MA A' S bo := hA.keep (fr 6 (by decide)) (fr 7 (by decide)) (fr 19 (by decide)) (fr 20 (by decide))
      refine aw_iload dX8_leastRaised_5 rfl ?_
      refine aw_bipush (v := 12) dX8_leastRaised_7 (by decide +kernel) ?_
      refine aw_icmp_gt (tgt := 123) dX8_leastRaised_9 (by decide) (fun c => absurd c (nI_nlt (a := 12) (by omega) (by decide))) (fun _ => ?_)
      refine aw_aload_n (i := 0) dX8_leastRaised_12 rfl rfl ?_
      refine aw_iload_n (i := 1) dX8_leastRaised_13 rfl rfl ?_
      refine aw_iload_n (i := 2) dX8_leastRaised_14 rfl rfl ?_
      refine aw_iload dX8_leastRaised_15 rfl ?_
      refine aw_invokevirtual kX8_232 dX8_leastRaised_17 (by rw [mh_0]; exact B.1) (ct_X8_raised n h0 m A' S bo ki mo wt s k (i + 5) B hA' hI hs hk (by omega) (by omega) (by rw [fr 28 (by decide)]; exact d28)) rfl rfl (Nat.le_of_ble_eq_true rfl) ⟨Nat.le_of_ble_eq_true rfl, Nat.le_of_ble_eq_true rfl⟩ ⟨Nat.le_of_ble_eq_true rfl, Nat.le_of_ble_eq_true rfl⟩ ?_
      rintro _ _ _ ⟨rfl, rfl, A2, rfl, d9, d10, f2⟩
      have fr2 : ∀ q, q = 6 ∨ q = 7 ∨ q = 19 ∨ q = 20 ∨ q = 28 → A2 q = A q := fun q hq => by rw [f2 q (by omega) (by omega) (by omega) (by omega)]; exact fr q hq
      -- the new one is taken, or not
      have take : ∀ (A3 : Nat → Nat → Nat), (raL S s k i = 0 ∨ raA S s k (i + 5) * raB S s k (raL S s k i) < raA S s k (raL S s k i) * raB S s k (i + 5)) → dg (A3 9) (raA S s k (i + 5)) → dg (A3 10) (raB S s k (i + 5)) → (∀ q, q = 6 ∨ q = 7 ∨ q = 19 ∨ q = 20 ∨ q = 28 → A3 q = A q) → AW mX8_leastRaised (gq 0 0 Q) 87 [some (.ref m), some (.int (nI s)), some (.int (nI k)), some (.int (nI (raL S s k i))), some (.int (nI (i + 5))), some (.int 1)] [] 0 0 n (mh h0 m A3) := by
        intro A3 hc e9 e10 fr3
        have hnew : raL S s k (i + 1) = i + 5 := by simp only [raL]; rw [if_pos hc]
        refine aw_iload dX8_leastRaised_87 rfl ?_
        refine aw_if_eq (tgt := 117) dX8_leastRaised_89 (by decide) (fun c => absurd c (by decide)) (fun _ => ?_)
        refine aw_iload dX8_leastRaised_92 rfl ?_
        refine aw_istore_3 dX8_leastRaised_94 (by decide) rfl ?_
        refine aw_aload_n (i := 0) dX8_leastRaised_95 rfl rfl ?_
        refine aw_getfield fX8_99 dX8_leastRaised_96 (by rw [mh_0]; exact B.1) rfl ?_
        refine aw_aload_n (i := 0) dX8_leastRaised_99 rfl rfl ?_
        refine aw_getfield fX8_35 dX8_leastRaised_100 (by rw [mh_0]; exact B.1) rfl ?_
        refine aw_invokestatic kX8_128 dX8_leastRaised_103 (mc_copy n h0 m A3 30 9 _ rfl rfl rfl rfl (by decide) e9) rfl rfl (Nat.le_of_ble_eq_true rfl) ⟨Nat.le_of_ble_eq_true rfl, Nat.le_of_ble_eq_true rfl⟩ ⟨Nat.le_of_ble_eq_true rfl, Nat.le_of_ble_eq_true rfl⟩ ?_
        rintro _ _ _ ⟨rfl, rfl, A4, rfl, d4, f4⟩
        refine aw_aload_n (i := 0) dX8_leastRaised_106 rfl rfl ?_
        refine aw_getfield fX8_102 dX8_leastRaised_107 (by rw [mh_0]; exact B.1) rfl ?_
        refine aw_aload_n (i := 0) dX8_leastRaised_110 rfl rfl ?_
        refine aw_getfield fX8_38 dX8_leastRaised_111 (by rw [mh_0]; exact B.1) rfl ?_
        refine aw_invokestatic kX8_128 dX8_leastRaised_114 (mc_copy n h0 m A4 31 10 _ rfl rfl rfl rfl (by decide) (by rw [f4 10 (by decide)]; exact e10)) rfl rfl (Nat.le_of_ble_eq_true rfl) ⟨Nat.le_of_ble_eq_true rfl, Nat.le_of_ble_eq_true rfl⟩ ⟨Nat.le_of_ble_eq_true rfl, Nat.le_of_ble_eq_true rfl⟩ ?_
        rintro _ _ _ ⟨rfl, rfl, A5, rfl, d5, f5⟩
        refine aw_iinc_4 (c0 := 1) dX8_leastRaised_117 (by decide) (by decide) rfl ?_
        refine aw_goto (tgt := 5) dX8_leastRaised_120 (by decide) ?_
        rw [nI_1, show i + 5 + 1 = i + 1 + 5 by omega]
        have := ih (i + 1) A5 (some (.int 1)) (by omega) (fun _ => by rw [hnew]; exact ⟨by rw [f5 30 (by decide)]; exact d4, d5⟩) (fun q hq => by rw [f5 q (by omega), f4 q (by omega)]; exact fr3 q hq)
        rw [hnew] at this
        exact this
      refine aw_iload_n (i := 3) dX8_leastRaised_20 rfl rfl ?_
      by_cases h0' : raL S s k i = 0
      · refine aw_if_ne (tgt := 28) dX8_leastRaised_21 (by decide) (fun c => absurd c (fun c => c (by rw [h0']; rfl))) (fun _ => ?_)
        refine aw_iconst (v := 1) dX8_leastRaised_24 (by decide +kernel) ?_
        refine aw_goto (tgt := 29) dX8_leastRaised_25 (by decide) ?_
        refine aw_istore_5 dX8_leastRaised_29 (by decide) rfl ?_
        refine aw_iload dX8_leastRaised_31 rfl ?_
        refine aw_if_ne (tgt := 87) dX8_leastRaised_33 (by decide) (fun _ => ?_) (fun c => ((show ¬ (1 : Int32) = 0 by decide) c).elim)
        exact take A2 (Or.inl h0') d9 d10 fr2
      · have hrg : 0 < i ∧ 5 ≤ raL S s k i ∧ raL S s k i ≤ i + 4 := by
          rcases raL_rg S s k i with q | q
          · exact absurd q.2 h0'
          · exact q
        have hb := hb hrg.1
        refine aw_if_ne (tgt := 28) dX8_leastRaised_21 (by decide) (fun _ => ?_) (fun c => ((nI_ne0 (by omega) (by omega)) c).elim)
        refine aw_iconst (v := 0) dX8_leastRaised_28 (by decide +kernel) ?_
        refine aw_istore_5 dX8_leastRaised_29 (by decide) rfl ?_
        refine aw_iload dX8_leastRaised_31 rfl ?_
        refine aw_if_ne (tgt := 87) dX8_leastRaised_33 (by decide) (fun c => absurd c (fun c => c rfl)) (fun _ => ?_)
        refine aw_aload_n (i := 0) dX8_leastRaised_36 rfl rfl ?_
        refine aw_getfield fX8_53 dX8_leastRaised_37 (by rw [mh_0]; exact B.1) rfl ?_
        refine aw_aload_n (i := 0) dX8_leastRaised_40 rfl rfl ?_
        refine aw_getfield fX8_35 dX8_leastRaised_41 (by rw [mh_0]; exact B.1) rfl ?_
        refine aw_aload_n (i := 0) dX8_leastRaised_44 rfl rfl ?_
        refine aw_getfield fX8_102 dX8_leastRaised_45 (by rw [mh_0]; exact B.1) rfl ?_
        refine aw_invokestatic kX8_174 dX8_leastRaised_48 (mc_times n h0 m A2 15 9 31 _ _ 48 48 rfl rfl rfl rfl rfl rfl (by decide) (by decide) d9 (by rw [f2 31 (by decide) (by decide) (by decide) (by decide)]; exact hb.2) (raA_lt hI hs hk (by omega) (by omega)) (raB_lt hI hs hk (by omega) (by omega)) (by decide)) rfl rfl (Nat.le_of_ble_eq_true rfl) ⟨Nat.le_of_ble_eq_true rfl, Nat.le_of_ble_eq_true rfl⟩ ⟨Nat.le_of_ble_eq_true rfl, Nat.le_of_ble_eq_true rfl⟩ ?_
        rintro _ _ _ ⟨rfl, rfl, A3, rfl, d15, f3⟩
        refine aw_aload_n (i := 0) dX8_leastRaised_51 rfl rfl ?_
        refine aw_getfield fX8_56 dX8_leastRaised_52 (by rw [mh_0]; exact B.1) rfl ?_
        refine aw_aload_n (i := 0) dX8_leastRaised_55 rfl rfl ?_
        refine aw_getfield fX8_99 dX8_leastRaised_56 (by rw [mh_0]; exact B.1) rfl ?_
        refine aw_aload_n (i := 0) dX8_leastRaised_59 rfl rfl ?_
        refine aw_getfield fX8_38 dX8_leastRaised_60 (by rw [mh_0]; exact B.1) rfl ?_
        refine aw_invokestatic kX8_174 dX8_leastRaised_63 (mc_times n h0 m A3 16 30 10 _ _ 48 48 rfl rfl rfl rfl rfl rfl (by decide) (by decide) (by rw [f3 30 (by decide), f2 30 (by decide) (by decide) (by decide) (by decide)]; exact hb.1) (by rw [f3 10 (by decide)]; exact d10) (raA_lt hI hs hk (by omega) (by omega)) (raB_lt hI hs hk (by omega) (by omega)) (by decide)) rfl rfl (Nat.le_of_ble_eq_true rfl) ⟨Nat.le_of_ble_eq_true rfl, Nat.le_of_ble_eq_true rfl⟩ ⟨Nat.le_of_ble_eq_true rfl, Nat.le_of_ble_eq_true rfl⟩ ?_
        rintro _ _ _ ⟨rfl, rfl, A4, rfl, d16, f4⟩
        have fr4 : ∀ q, q = 6 ∨ q = 7 ∨ q = 19 ∨ q = 20 ∨ q = 28 → A4 q = A q := fun q hq => by rw [f4 q (by omega), f3 q (by omega)]; exact fr2 q hq
        refine aw_aload_n (i := 0) dX8_leastRaised_66 rfl rfl ?_
        refine aw_getfield fX8_53 dX8_leastRaised_67 (by rw [mh_0]; exact B.1) rfl ?_
        refine aw_aload_n (i := 0) dX8_leastRaised_70 rfl rfl ?_
        refine aw_getfield fX8_56 dX8_leastRaised_71 (by rw [mh_0]; exact B.1) rfl ?_
        refine aw_invokestatic kX8_136 dX8_leastRaised_74 (mc_compare n h0 m A4 15 16 _ _ rfl rfl rfl rfl (by rw [f4 15 (by decide)]; exact d15) d16) rfl rfl (Nat.le_of_ble_eq_true rfl) ⟨Nat.le_of_ble_eq_true rfl, Nat.le_of_ble_eq_true rfl⟩ ⟨Nat.le_of_ble_eq_true rfl, Nat.le_of_ble_eq_true rfl⟩ ?_
        rintro _ _ _ ⟨rfl, rfl, rfl⟩
        by_cases hc : raA S s k (i + 5) * raB S s k (raL S s k i) < raA S s k (raL S s k i) * raB S s k (i + 5)
        · refine aw_if_ge (tgt := 84) dX8_leastRaised_77 (by decide) (fun c => absurd c (fun q => by have := cmp_ge0.mp q; omega)) (fun _ => ?_)
          refine aw_iconst (v := 1) dX8_leastRaised_80 (by decide +kernel) ?_
          refine aw_goto (tgt := 85) dX8_leastRaised_81 (by decide) ?_
          refine aw_istore_5 dX8_leastRaised_85 (by decide) rfl ?_
          exact take A4 (Or.inr hc) (by rw [f4 9 (by decide), f3 9 (by decide)]; exact d9) (by rw [f4 10 (by decide), f3 10 (by decide)]; exact d10) fr4
        · have hnew : raL S s k (i + 1) = raL S s k i := by simp only [raL]; rw [if_neg (fun q => q.elim h0' hc)]
          refine aw_if_ge (tgt := 84) dX8_leastRaised_77 (by decide) (fun _ => ?_) (fun c => (c (cmp_ge0.mpr (by omega))).elim)
          refine aw_iconst (v := 0) dX8_leastRaised_84 (by decide +kernel) ?_
          refine aw_istore_5 dX8_leastRaised_85 (by decide) rfl ?_
          refine aw_iload dX8_leastRaised_87 rfl ?_
          refine aw_if_eq (tgt := 117) dX8_leastRaised_89 (by decide) (fun _ => ?_) (fun c => (c rfl).elim)
          refine aw_iinc_4 (c0 := 1) dX8_leastRaised_117 (by decide) (by decide) rfl ?_
          refine aw_goto (tgt := 5) dX8_leastRaised_120 (by decide) ?_
          rw [nI_1, show i + 5 + 1 = i + 1 + 5 by omega]
          have := ih (i + 1) A4 (some (.int 0)) (by omega) (fun _ => by rw [hnew]; exact ⟨by rw [f4 30 (by decide), f3 30 (by decide), f2 30 (by decide) (by decide) (by decide) (by decide)]; exact hb.1, by rw [f4 31 (by decide), f3 31 (by decide), f2 31 (by decide) (by decide) (by decide) (by decide)]; exact hb.2⟩) fr4
          rw [hnew] at this
          exact this
  exact loop 8 0 A none (by omega) (fun q => by omega) (fun _ _ => rfl)
