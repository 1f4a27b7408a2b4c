theorem ct_X8_bounded (n : Nat) (h0 : Hp) (m : Nat) (A : Nat → Nat → Nat) (S : TS) (bo ki mo wt : Nat → Nat) (s k kd : Nat) (B : MB h0 m S bo ki mo wt) (hA : MA A S bo) (hI : SInv S) (hs : s < sN S) (hk : k ≤ 120) (hkd : kd ≤ 4) : CT mX8_bounded 0 0 n (mh h0 m A) [.ref m, .int (nI s), .int (nI k), .int (nI kd)] (fun r n' h' => n = n' ∧ r = some (.int (nI (bndBase S s k kd))) ∧ ∃ A', h' = mh h0 m A' ∧ dg (A' 9) (bndA S s k kd) ∧ dg (A' 10) (bndB S s k kd) ∧ ∀ q, q = 6 ∨ q = 7 ∨ q = 19 ∨ q = 20 → A' q = A q) := by
  refine CT.intro [some (.ref m), some (.int (nI s)), some (.int (nI k)), some (.int (nI kd))] 0 rfl rfl (by decide) ?_
  intro Q hQ
  have htot := (hI.2.1.2 s hs).2.2.2
  have w1 : 2 ^ 256 < 2 ^ 263 := Nat.pow_lt_pow_right (by decide) (by decide)
  have w2 : 2 ^ 256 < 2 ^ (28 * 10) := Nat.pow_lt_pow_right (by decide) (by decide)
  have w3 : 2 ^ 263 < 2 ^ (28 * 20) := Nat.pow_lt_pow_right (by decide) (by decide)
  have w4 : (2 ^ 263) * (2 ^ 263) < 2 ^ (28 * 20) := by rw [← Nat.pow_add]; exact Nat.pow_lt_pow_right (by decide) (by decide)
  have w5 : (2 ^ 263) ^ 4 < 2 ^ (28 * 48) := by rw [← Nat.pow_mul]; exact Nat.pow_lt_pow_right (by decide) (by decide)
  have w7 : 2 ^ 263 * 120 < 2 ^ 2688 := by decide +kernel
  have w8 : 2 ^ (28 * 48) * 2 ^ 256 + 2 ^ 1344 < 2 ^ 2688 := by decide +kernel
  have hw : stot S s * k ≤ stot S s * 120 := Nat.mul_le_mul_left _ hk
  refine aw_aload_n (i := 0) dX8_bounded_0 rfl rfl ?_
  refine aw_iload_n (i := 1) dX8_bounded_1 rfl rfl ?_
  refine aw_invokevirtual kX8_218 dX8_bounded_2 (by rw [mh_0]; exact B.1) (ct_X8_weighs n h0 m A S bo ki mo wt s B hA hI hs) rfl rfl (Nat.le_of_ble_eq_true rfl) ⟨Nat.le_of_ble_eq_true rfl, Nat.le_of_ble_eq_true rfl⟩ ⟨Nat.le_of_ble_eq_true rfl, Nat.le_of_ble_eq_true rfl⟩ ?_
  rintro _ _ _ ⟨rfl, rfl, A1, rfl, d28, d29, f1⟩
  have fr1 : ∀ q, q = 6 ∨ q = 7 ∨ q = 19 ∨ q = 20 → A1 q = A q := fun q hq => f1 q (by omega) (by omega) (by omega)
  refine aw_aload_n (i := 0) dX8_bounded_5 rfl rfl ?_
  refine aw_aload_n (i := 0) dX8_bounded_6 rfl rfl ?_
  refine aw_getfield fX8_53 dX8_bounded_7 (by rw [mh_0]; exact B.1) rfl ?_
  refine aw_iload_n (i := 2) dX8_bounded_10 rfl rfl ?_
  refine aw_invokevirtual kX8_222 dX8_bounded_11 (by rw [mh_0]; exact B.1) (ct_X8_away n h0 m A1 15 _ _ k B.ob rfl rfl (by decide) (by decide) (by decide) hk d28 d29 (by omega)) rfl rfl (Nat.le_of_ble_eq_true rfl) ⟨Nat.le_of_ble_eq_true rfl, Nat.le_of_ble_eq_true rfl⟩ ⟨Nat.le_of_ble_eq_true rfl, Nat.le_of_ble_eq_true rfl⟩ ?_
  rintro _ _ _ ⟨rfl, rfl, A2, rfl, d15, f2⟩
  rw [awG_S] at d15
  have e28 : dg (A2 28) (stot S s) := by rw [f2 28 (by decide) (by decide)]; exact d28
  have e29 : dg (A2 29) (smean S s) := by rw [f2 29 (by decide) (by decide)]; exact d29
  have fr2 : ∀ q, q = 6 ∨ q = 7 ∨ q = 19 ∨ q = 20 → A2 q = A q := fun q hq => by rw [f2 q (by omega) (by omega)]; exact fr1 q hq
  have hA2 : MA A2 S bo := hA.keep (fr2 6 (by decide)) (fr2 7 (by decide)) (fr2 19 (by decide)) (fr2 20 (by decide))
  by_cases hc : smean S s < stot S s * k
  case neg =>
    rw [decide_eq_false hc]
    refine aw_if_ne (tgt := 35) dX8_bounded_14 (by decide) (fun c => absurd c (fun c => c rfl)) (fun _ => ?_)
    refine aw_aload_n (i := 0) dX8_bounded_17 rfl rfl ?_
    refine aw_getfield fX8_35 dX8_bounded_18 (by rw [mh_0]; exact B.1) rfl ?_
    refine aw_lconst (v := 1) dX8_bounded_21 (by decide) ?_
    refine aw_invokestatic kX8_124 dX8_bounded_22 (mc_become n h0 m A2 9 1 rfl rfl (by decide)) rfl rfl (Nat.le_of_ble_eq_true rfl) ⟨Nat.le_of_ble_eq_true rfl, Nat.le_of_ble_eq_true rfl⟩ ⟨Nat.le_of_ble_eq_true rfl, Nat.le_of_ble_eq_true rfl⟩ ?_
    rintro _ _ _ ⟨rfl, rfl, A3, rfl, d3, f3⟩
    refine aw_aload_n (i := 0) dX8_bounded_25 rfl rfl ?_
    refine aw_getfield fX8_38 dX8_bounded_26 (by rw [mh_0]; exact B.1) rfl ?_
    refine aw_lconst (v := 1) dX8_bounded_29 (by decide) ?_
    refine aw_invokestatic kX8_124 dX8_bounded_30 (mc_become n h0 m A3 10 1 rfl rfl (by decide)) rfl rfl (Nat.le_of_ble_eq_true rfl) ⟨Nat.le_of_ble_eq_true rfl, Nat.le_of_ble_eq_true rfl⟩ ⟨Nat.le_of_ble_eq_true rfl, Nat.le_of_ble_eq_true rfl⟩ ?_
    rintro _ _ _ ⟨rfl, rfl, A4, rfl, d4, f4⟩
    refine aw_iconst (v := 0) dX8_bounded_33 (by decide +kernel) ?_
    refine aw_ireturn dX8_bounded_34 rfl rfl (Nat.le_of_ble_eq_true rfl) (Nat.le_of_ble_eq_true rfl) ?_
    refine hQ _ _ _ ⟨rfl, by unfold bndBase; rw [if_neg hc]; rfl, A4, rfl, ?_, ?_, fun q hq => by rw [f4 q (by omega), f3 q (by omega)]; exact fr2 q hq⟩
    · unfold bndA; rw [if_neg hc, f4 9 (by decide)]; exact d3
    · unfold bndB; rw [if_neg hc]; exact d4
  rw [decide_eq_true hc]
  refine aw_if_ne (tgt := 35) dX8_bounded_14 (by decide) (fun _ => ?_) (fun c => ((show ¬ bI true = 0 by decide) c).elim)
  refine aw_iload_n (i := 3) dX8_bounded_35 rfl rfl ?_
  have zero : kd ≠ 4 → nI (bndBase S s k kd) = 0 := fun q => by unfold bndBase; rw [if_pos hc, if_neg q]; rfl
  by_cases k0 : kd = 0
  · refine aw_if_ne (tgt := 73) dX8_bounded_36 (by decide) (fun c => absurd c (fun c => c (by rw [k0]; rfl))) (fun _ => ?_)
    refine aw_aload_n (i := 0) dX8_bounded_39 rfl rfl ?_
    refine aw_getfield fX8_35 dX8_bounded_40 (by rw [mh_0]; exact B.1) rfl ?_
    refine aw_aload_n (i := 0) dX8_bounded_43 rfl rfl ?_
    refine aw_getfield fX8_96 dX8_bounded_44 (by rw [mh_0]; exact B.1) rfl ?_
    refine aw_invokestatic kX8_128 dX8_bounded_47 (mc_copy n h0 m A2 9 29 _ rfl rfl rfl rfl (by decide) e29) rfl rfl (Nat.le_of_ble_eq_true rfl) ⟨Nat.le_of_ble_eq_true rfl, Nat.le_of_ble_eq_true rfl⟩ ⟨Nat.le_of_ble_eq_true rfl, Nat.le_of_ble_eq_true rfl⟩ ?_
    rintro _ _ _ ⟨rfl, rfl, A3, rfl, d3, f3⟩
    refine aw_aload_n (i := 0) dX8_bounded_50 rfl rfl ?_
    refine aw_getfield fX8_38 dX8_bounded_51 (by rw [mh_0]; exact B.1) rfl ?_
    refine aw_aload_n (i := 0) dX8_bounded_54 rfl rfl ?_
    refine aw_getfield fX8_93 dX8_bounded_55 (by rw [mh_0]; exact B.1) rfl ?_
    refine aw_invokestatic kX8_128 dX8_bounded_58 (mc_copy n h0 m A3 10 28 _ rfl rfl rfl rfl (by decide) (by rw [f3 28 (by decide)]; exact e28)) rfl rfl (Nat.le_of_ble_eq_true rfl) ⟨Nat.le_of_ble_eq_true rfl, Nat.le_of_ble_eq_true rfl⟩ ⟨Nat.le_of_ble_eq_true rfl, Nat.le_of_ble_eq_true rfl⟩ ?_
    rintro _ _ _ ⟨rfl, rfl, A4, rfl, d4, f4⟩
    refine aw_aload_n (i := 0) dX8_bounded_61 rfl rfl ?_
    refine aw_getfield fX8_38 dX8_bounded_62 (by rw [mh_0]; exact B.1) rfl ?_
    refine aw_iload_n (i := 2) dX8_bounded_65 rfl rfl ?_
    refine aw_i2l dX8_bounded_66 rfl ?_
    rw [nI_l (show k < 2 ^ 31 by omega)]
    refine aw_invokestatic kX8_184 dX8_bounded_67 (mc_by n h0 m A4 10 _ k rfl rfl d4 (by omega) (by omega)) rfl rfl (Nat.le_of_ble_eq_true rfl) ⟨Nat.le_of_ble_eq_true rfl, Nat.le_of_ble_eq_true rfl⟩ ⟨Nat.le_of_ble_eq_true rfl, Nat.le_of_ble_eq_true rfl⟩ ?_
    rintro _ _ _ ⟨rfl, rfl, A5, rfl, d5, f5⟩
    refine aw_goto (tgt := 188) dX8_bounded_70 (by decide) ?_
    refine aw_iconst (v := 0) dX8_bounded_188 (by decide +kernel) ?_
    refine aw_ireturn dX8_bounded_189 rfl rfl (Nat.le_of_ble_eq_true rfl) (Nat.le_of_ble_eq_true rfl) ?_
    refine hQ _ _ _ ⟨rfl, by rw [zero (by omega)], A5, rfl, ?_, ?_, fun q hq => by rw [f5 q (by omega), f4 q (by omega), f3 q (by omega)]; exact fr2 q hq⟩
    · unfold bndA; rw [if_pos hc, if_pos k0, f5 9 (by decide), f4 9 (by decide)]; exact d3
    · unfold bndB; rw [if_pos hc, if_pos k0]; exact d5
  refine aw_if_ne (tgt := 73) dX8_bounded_36 (by decide) (fun _ => ?_) (fun c => ((nI_ne0 (n := kd) (Nat.pos_of_ne_zero k0) (Nat.lt_of_le_of_lt hkd (by decide))) c).elim)
  refine aw_iload_n (i := 3) dX8_bounded_73 rfl rfl ?_
  refine aw_iconst (v := 4) dX8_bounded_74 (by decide +kernel) ?_
  by_cases k4 : kd = 4
  · refine aw_icmp_ne (tgt := 85) dX8_bounded_75 (by decide) (fun c => absurd c (fun c => c (by rw [k4]; rfl))) (fun _ => ?_)
    refine aw_aload_n (i := 0) dX8_bounded_78 rfl rfl ?_
    refine aw_iload_n (i := 1) dX8_bounded_79 rfl rfl ?_
    refine aw_iload_n (i := 2) dX8_bounded_80 rfl rfl ?_
    refine aw_invokevirtual kX8_236 dX8_bounded_81 (by rw [mh_0]; exact B.1) (ct_X8_leastRaised n h0 m A2 S bo ki mo wt s k B hA2 hI hs hk e28) rfl rfl (Nat.le_of_ble_eq_true rfl) ⟨Nat.le_of_ble_eq_true rfl, Nat.le_of_ble_eq_true rfl⟩ ⟨Nat.le_of_ble_eq_true rfl, Nat.le_of_ble_eq_true rfl⟩ ?_
    rintro _ _ _ ⟨rfl, rfl, A3, rfl, d9, d10, f3⟩
    refine aw_ireturn dX8_bounded_84 rfl rfl (Nat.le_of_ble_eq_true rfl) (Nat.le_of_ble_eq_true rfl) ?_
    refine hQ _ _ _ ⟨rfl, by unfold bndBase; rw [if_pos hc, if_pos k4], A3, rfl, ?_, ?_, fun q hq => by rw [f3 q (by omega)]; exact fr2 q hq⟩
    · unfold bndA; rw [if_pos hc, if_neg k0, if_pos k4]; exact d9
    · unfold bndB; rw [if_pos hc, if_neg k0, if_pos k4]; exact d10
  refine aw_icmp_ne (tgt := 85) dX8_bounded_75 (by decide) (fun _ => ?_) (fun c => ((fun c => k4 ((nI_eq (b := 4) (by omega) (by decide)).mp c)) c).elim)
  refine aw_aload_n (i := 0) dX8_bounded_85 rfl rfl ?_
  refine aw_iload_n (i := 1) dX8_bounded_86 rfl rfl ?_
  refine aw_iload_n (i := 3) dX8_bounded_87 rfl rfl ?_
  refine aw_iconst (v := 2) dX8_bounded_88 (by decide +kernel) ?_
  have haw := awayN_lt hI hs hk
  have hsq : awayN S s k * awayN S s k < 2 ^ (28 * 20) := Nat.lt_of_le_of_lt (Nat.mul_le_mul (Nat.le_of_lt haw) (Nat.le_of_lt haw)) w4
  -- from the moment on
  have go : ∀ E : Nat, E = (if kd = 2 then 4 else 2) → AW mX8_bounded (gq 0 0 Q) 97 [some (.ref m), some (.int (nI s)), some (.int (nI k)), some (.int (nI kd))] [.int (nI E), .int (nI s), .ref m] 0 0 n (mh h0 m A2) := by
    intro E hE
    have hE2 : E = 2 ∨ E = 4 := by rw [hE]; split <;> omega
    have hmm := smom_lt (e := E) hI hs (by omega)
    refine aw_invokevirtual kX8_226 dX8_bounded_97 (by rw [mh_0]; exact B.1) (ct_X8_moments n h0 m A2 S bo ki mo wt s E B hA2 hI hs hE2 e28 e29) rfl rfl (Nat.le_of_ble_eq_true rfl) ⟨Nat.le_of_ble_eq_true rfl, Nat.le_of_ble_eq_true rfl⟩ ⟨Nat.le_of_ble_eq_true rfl, Nat.le_of_ble_eq_true rfl⟩ ?_
    rintro _ _ _ ⟨rfl, rfl, A3, rfl, d25, f3⟩
    refine aw_aload_n (i := 0) dX8_bounded_100 rfl rfl ?_
    refine aw_getfield fX8_35 dX8_bounded_101 (by rw [mh_0]; exact B.1) rfl ?_
    refine aw_aload_n (i := 0) dX8_bounded_104 rfl rfl ?_
    refine aw_getfield fX8_84 dX8_bounded_105 (by rw [mh_0]; exact B.1) rfl ?_
    refine aw_invokestatic kX8_128 dX8_bounded_108 (mc_copy n h0 m A3 9 25 _ rfl rfl rfl rfl (by decide) d25) rfl rfl (Nat.le_of_ble_eq_true rfl) ⟨Nat.le_of_ble_eq_true rfl, Nat.le_of_ble_eq_true rfl⟩ ⟨Nat.le_of_ble_eq_true rfl, Nat.le_of_ble_eq_true rfl⟩ ?_
    rintro _ _ _ ⟨rfl, rfl, A4, rfl, d9, f4⟩
    have g15 : dg (A4 15) (awayN S s k) := by rw [f4 15 (by decide), f3 15 (by decide) (by decide) (by decide) (by decide)]; exact d15
    refine aw_aload_n (i := 0) dX8_bounded_111 rfl rfl ?_
    refine aw_getfield fX8_78 dX8_bounded_112 (by rw [mh_0]; exact B.1) rfl ?_
    refine aw_aload_n (i := 0) dX8_bounded_115 rfl rfl ?_
    refine aw_getfield fX8_53 dX8_bounded_116 (by rw [mh_0]; exact B.1) rfl ?_
    refine aw_aload_n (i := 0) dX8_bounded_119 rfl rfl ?_
    refine aw_getfield fX8_53 dX8_bounded_120 (by rw [mh_0]; exact B.1) rfl ?_
    refine aw_invokestatic kX8_174 dX8_bounded_123 (mc_times n h0 m A4 23 15 15 _ _ 20 20 rfl rfl rfl rfl rfl rfl (by decide) (by decide) g15 g15 (by omega) (by omega) (by decide)) rfl rfl (Nat.le_of_ble_eq_true rfl) ⟨Nat.le_of_ble_eq_true rfl, Nat.le_of_ble_eq_true rfl⟩ ⟨Nat.le_of_ble_eq_true rfl, Nat.le_of_ble_eq_true rfl⟩ ?_
    rintro _ _ _ ⟨rfl, rfl, A5, rfl, d23, f5⟩
    have g28 : dg (A5 28) (stot S s) := by rw [f5 28 (by decide), f4 28 (by decide), f3 28 (by decide) (by decide) (by decide) (by decide)]; exact e28
    have g9 : dg (A5 9) (smom S s E) := by rw [f5 9 (by decide)]; exact d9
    have fr5 : ∀ q, q = 6 ∨ q = 7 ∨ q = 19 ∨ q = 20 → A5 q = A q := fun q hq => by rw [f5 q (by omega), f4 q (by omega), f3 q (by omega) (by omega) (by omega) (by omega)]; exact fr2 q hq
    have hpw : awayN S s k ^ E < 2 ^ (28 * 48) := by
      have a2 : awayN S s k ^ E ≤ (2 ^ 263) ^ E := Nat.pow_le_pow_left (Nat.le_of_lt haw) E
      have a3 : (2 ^ 263) ^ E ≤ (2 ^ 263) ^ 4 := Nat.pow_le_pow_right (by decide) (by omega)
      omega
    have eA : bndA S s k kd = smom S s E := by unfold bndA; rw [if_pos hc, if_neg k0, if_neg k4, hE]
    -- the power lies in 23
    have fin : ∀ A6 : Nat → Nat → Nat, dg (A6 23) (awayN S s k ^ E) → dg (A6 28) (stot S s) → dg (A6 9) (smom S s E) → (∀ q, q = 6 ∨ q = 7 ∨ q = 19 ∨ q = 20 → A6 q = A q) → AW mX8_bounded (gq 0 0 Q) 157 [some (.ref m), some (.int (nI s)), some (.int (nI k)), some (.int (nI kd))] [] 0 0 n (mh h0 m A6) := by
      intro A6 i23 i28 i9 fr6
      refine aw_aload_n (i := 0) dX8_bounded_157 rfl rfl ?_
      refine aw_getfield fX8_38 dX8_bounded_158 (by rw [mh_0]; exact B.1) rfl ?_
      refine aw_aload_n (i := 0) dX8_bounded_161 rfl rfl ?_
      refine aw_getfield fX8_78 dX8_bounded_162 (by rw [mh_0]; exact B.1) rfl ?_
      refine aw_aload_n (i := 0) dX8_bounded_165 rfl rfl ?_
      refine aw_getfield fX8_93 dX8_bounded_166 (by rw [mh_0]; exact B.1) rfl ?_
      refine aw_invokestatic kX8_174 dX8_bounded_169 (mc_times n h0 m A6 10 23 28 _ _ 48 10 rfl rfl rfl rfl rfl rfl (by decide) (by decide) i23 i28 hpw (by omega) (by decide)) rfl rfl (Nat.le_of_ble_eq_true rfl) ⟨Nat.le_of_ble_eq_true rfl, Nat.le_of_ble_eq_true rfl⟩ ⟨Nat.le_of_ble_eq_true rfl, Nat.le_of_ble_eq_true rfl⟩ ?_
      rintro _ _ _ ⟨rfl, rfl, A7, rfl, d10, f7⟩
      refine aw_iload_n (i := 3) dX8_bounded_172 rfl rfl ?_
      refine aw_iconst (v := 3) dX8_bounded_173 (by decide +kernel) ?_
      by_cases k3 : kd = 3
      · have hE3 : E = 2 := by rw [hE, if_neg (by omega)]
        subst hE3
        have hmul : awayN S s k ^ 2 * stot S s ≤ 2 ^ (28 * 48) * 2 ^ 256 := Nat.mul_le_mul (Nat.le_of_lt hpw) (Nat.le_of_lt htot)
        refine aw_icmp_ne (tgt := 188) dX8_bounded_174 (by decide) (fun c => absurd c (fun c => c (by rw [k3]; rfl))) (fun _ => ?_)
        refine aw_aload_n (i := 0) dX8_bounded_177 rfl rfl ?_
        refine aw_getfield fX8_38 dX8_bounded_178 (by rw [mh_0]; exact B.1) rfl ?_
        refine aw_aload_n (i := 0) dX8_bounded_181 rfl rfl ?_
        refine aw_getfield fX8_35 dX8_bounded_182 (by rw [mh_0]; exact B.1) rfl ?_
        refine aw_invokestatic kX8_191 dX8_bounded_185 (mc_plus n h0 m A7 10 9 _ _ rfl rfl rfl rfl (by decide) d10 (by rw [f7 9 (by decide)]; exact i9) (by omega)) rfl rfl (Nat.le_of_ble_eq_true rfl) ⟨Nat.le_of_ble_eq_true rfl, Nat.le_of_ble_eq_true rfl⟩ ⟨Nat.le_of_ble_eq_true rfl, Nat.le_of_ble_eq_true rfl⟩ ?_
        rintro _ _ _ ⟨rfl, rfl, A8, rfl, d10', f8⟩
        refine aw_iconst (v := 0) dX8_bounded_188 (by decide +kernel) ?_
        refine aw_ireturn dX8_bounded_189 rfl rfl (Nat.le_of_ble_eq_true rfl) (Nat.le_of_ble_eq_true rfl) ?_
        refine hQ _ _ _ ⟨rfl, by rw [zero k4], A8, rfl, by rw [eA, f8 9 (by decide), f7 9 (by decide)]; exact i9, ?_, fun q hq => by rw [f8 q (by omega), f7 q (by omega)]; exact fr6 q hq⟩
        unfold bndB; rw [if_pos hc, if_neg k0, if_neg k4, if_pos k3]; exact d10'
      · refine aw_icmp_ne (tgt := 188) dX8_bounded_174 (by decide) (fun _ => ?_) (fun c => ((fun c => k3 ((nI_eq (b := 3) (by omega) (by decide)).mp c)) c).elim)
        refine aw_iconst (v := 0) dX8_bounded_188 (by decide +kernel) ?_
        refine aw_ireturn dX8_bounded_189 rfl rfl (Nat.le_of_ble_eq_true rfl) (Nat.le_of_ble_eq_true rfl) ?_
        refine hQ _ _ _ ⟨rfl, by rw [zero k4], A7, rfl, by rw [eA, f7 9 (by decide)]; exact i9, ?_, fun q hq => by rw [f7 q (by omega)]; exact fr6 q hq⟩
        unfold bndB; rw [if_pos hc, if_neg k0, if_neg k4, if_neg k3, ← hE]; exact d10
    refine aw_iload_n (i := 3) dX8_bounded_126 rfl rfl ?_
    refine aw_iconst (v := 2) dX8_bounded_127 (by decide +kernel) ?_
    by_cases k2 : kd = 2
    · rw [if_pos k2] at hE
      subst hE
      refine aw_icmp_ne (tgt := 157) dX8_bounded_128 (by decide) (fun c => absurd c (fun c => c (by rw [k2]; rfl))) (fun _ => ?_)
      refine aw_aload_n (i := 0) dX8_bounded_131 rfl rfl ?_
      refine aw_getfield fX8_81 dX8_bounded_132 (by rw [mh_0]; exact B.1) rfl ?_
      refine aw_aload_n (i := 0) dX8_bounded_135 rfl rfl ?_
      refine aw_getfield fX8_78 dX8_bounded_136 (by rw [mh_0]; exact B.1) rfl ?_
      refine aw_aload_n (i := 0) dX8_bounded_139 rfl rfl ?_
      refine aw_getfield fX8_78 dX8_bounded_140 (by rw [mh_0]; exact B.1) rfl ?_
      refine aw_invokestatic kX8_174 dX8_bounded_143 (mc_times n h0 m A5 24 23 23 _ _ 20 20 rfl rfl rfl rfl rfl rfl (by decide) (by decide) d23 d23 hsq hsq (by decide)) rfl rfl (Nat.le_of_ble_eq_true rfl) ⟨Nat.le_of_ble_eq_true rfl, Nat.le_of_ble_eq_true rfl⟩ ⟨Nat.le_of_ble_eq_true rfl, Nat.le_of_ble_eq_true rfl⟩ ?_
      rintro _ _ _ ⟨rfl, rfl, A6, rfl, d6, f6⟩
      refine aw_aload_n (i := 0) dX8_bounded_146 rfl rfl ?_
      refine aw_getfield fX8_78 dX8_bounded_147 (by rw [mh_0]; exact B.1) rfl ?_
      refine aw_aload_n (i := 0) dX8_bounded_150 rfl rfl ?_
      refine aw_getfield fX8_81 dX8_bounded_151 (by rw [mh_0]; exact B.1) rfl ?_
      refine aw_invokestatic kX8_128 dX8_bounded_154 (mc_copy n h0 m A6 23 24 _ rfl rfl rfl rfl (by decide) d6) rfl rfl (Nat.le_of_ble_eq_true rfl) ⟨Nat.le_of_ble_eq_true rfl, Nat.le_of_ble_eq_true rfl⟩ ⟨Nat.le_of_ble_eq_true rfl, Nat.le_of_ble_eq_true rfl⟩ ?_
      rintro _ _ _ ⟨rfl, rfl, A7, rfl, d7, f7⟩
      refine fin A7 ?_ (by rw [f7 28 (by decide), f6 28 (by decide)]; exact g28) (by rw [f7 9 (by decide), f6 9 (by decide)]; exact g9) (fun q hq => by rw [f7 q (by omega), f6 q (by omega)]; exact fr5 q hq)
      rw [show awayN S s k ^ 4 = awayN S s k * awayN S s k * (awayN S s k * awayN S s k) by rw [show (4 : Nat) = 2 + 2 from rfl, Nat.pow_add, Nat.pow_two]]
      exact d7
    · rw [if_neg k2] at hE
      subst hE
      refine aw_icmp_ne (tgt := 157) dX8_bounded_128 (by decide) (fun _ => ?_) (fun c => ((fun c => k2 ((nI_eq (b := 2) (by omega) (by decide)).mp c)) c).elim)
      exact fin A5 (by rw [Nat.pow_two]; exact d23) g28 g9 fr5
  by_cases k2 : kd = 2
  · refine aw_icmp_ne (tgt := 96) dX8_bounded_89 (by decide) (fun c => absurd c (fun c => c (by rw [k2]; rfl))) (fun _ => ?_)
    refine aw_iconst (v := 4) dX8_bounded_92 (by decide +kernel) ?_
    refine aw_goto (tgt := 97) dX8_bounded_93 (by decide) ?_
    exact go 4 (by rw [if_pos k2])
  · refine aw_icmp_ne (tgt := 96) dX8_bounded_89 (by decide) (fun _ => ?_) (fun c => ((fun c => k2 ((nI_eq (b := 2) (by omega) (by decide)).mp c)) c).elim)
    refine aw_iconst (v := 2) dX8_bounded_96 (by decide +kernel) ?_
    exact go 2 (by rw [if_neg k2])
theorem bnd_pos {S : TS} {s k kd : Nat} (hI : SInv S) (hs : s < sN S) : 0 < bndB S s k kd := by
  have htp := (hI.2.1.2 s hs).2.2.1
  unfold bndB
  split
  · rename_i hc
    have ha : 0 < awayN S s k := by unfold awayN; rw [if_pos hc]; omega
    split
    · rcases Nat.eq_zero_or_pos k with q | q
      · subst q; simp at hc
      · exact Nat.mul_pos htp q
    · split
      · have hr := raL_rg S s k 8
        unfold raB
        exact Nat.mul_pos (Nat.mul_pos htp (Nat.pow_pos (by omega))) (Nat.pow_pos (by decide))
      · split
        · exact Nat.add_pos_left (Nat.mul_pos (Nat.pow_pos ha) htp) _
        · exact Nat.mul_pos (Nat.pow_pos ha) htp
  · decide
theorem mt_bound (n : Nat) (h : Hp) (m : Nat) (S : TS) (p s k kd : Int32) (hR : MRep h m S) (hI : SInv S) : CT mX8_bound 0 0 n h [.ref m, .int p, .int s, .int k, .int kd] (MOK n m h (opBound S p s k kd)) := by
  obtain ⟨h0, A, bo, ki, mo, wt, rfl, B, hA⟩ := id hR
  refine CT.intro [some (.ref m), some (.int p), some (.int s), some (.int k), some (.int kd), none, none] 2 rfl rfl (by decide) ?_
  intro Q hQ
  have bad : (isP p && (isS S s && (rg k 0 120 && rg kd 0 4))) = false → AW mX8_bound (gq 0 0 Q) 35 [some (.ref m), some (.int p), some (.int s), some (.int k), some (.int kd), none, none] [] 0 0 n (mh h0 m A) := by
    intro hb
    refine aw_iconst (v := (-1)) dX8_bound_35 (by decide +kernel) ?_
    refine aw_ireturn dX8_bound_36 rfl rfl (Nat.le_of_ble_eq_true rfl) (Nat.le_of_ble_eq_true rfl) ?_
    refine hQ _ _ _ (bad_ret hR ?_)
    unfold opBound; rw [hb]; rfl
  refine aw_iload_n (i := 1) dX8_bound_0 rfl rfl ?_
  refine aw_invokestatic kX8_211 dX8_bound_1 (ct_isP n (mh h0 m A) p) rfl rfl (Nat.le_of_ble_eq_true rfl) ⟨Nat.le_of_ble_eq_true rfl, Nat.le_of_ble_eq_true rfl⟩ ⟨Nat.le_of_ble_eq_true rfl, Nat.le_of_ble_eq_true rfl⟩ ?_
  rintro _ _ _ ⟨rfl, rfl, rfl⟩
  by_cases h1 : isP p = true
  case neg =>
    refine aw_if_eq (tgt := 35) dX8_bound_4 (by decide) (fun _ => ?_) (fun c => (c (bI_eq0.mpr (by simpa using h1))).elim)
    exact bad (by simp [h1])
  refine aw_if_eq (tgt := 35) dX8_bound_4 (by decide) (fun c => absurd c (bI_ne0.mpr h1)) (fun _ => ?_)
  refine aw_aload_n (i := 0) dX8_bound_7 rfl rfl ?_
  refine aw_iload_n (i := 2) dX8_bound_8 rfl rfl ?_
  refine aw_invokevirtual kX8_205 dX8_bound_9 (by rw [mh_0]; exact B.1) (ct_isS n h0 m A S bo ki mo wt s B hI) rfl rfl (Nat.le_of_ble_eq_true rfl) ⟨Nat.le_of_ble_eq_true rfl, Nat.le_of_ble_eq_true rfl⟩ ⟨Nat.le_of_ble_eq_true rfl, Nat.le_of_ble_eq_true rfl⟩ ?_
  rintro _ _ _ ⟨rfl, rfl, rfl⟩
  by_cases h2 : isS S s = true
  case neg =>
    refine aw_if_eq (tgt := 35) dX8_bound_12 (by decide) (fun _ => ?_) (fun c => (c (bI_eq0.mpr (by simpa using h2))).elim)
    exact bad (by simp [h2])
  refine aw_if_eq (tgt := 35) dX8_bound_12 (by decide) (fun c => absurd c (bI_ne0.mpr h2)) (fun _ => ?_)
  refine aw_iload_n (i := 3) dX8_bound_15 rfl rfl ?_
  refine aw_iconst (v := 0) dX8_bound_16 (by decide +kernel) ?_
  refine aw_bipush (v := 120) dX8_bound_17 (by decide +kernel) ?_
  refine aw_invokestatic kX8_153 dX8_bound_19 (ct_in n (mh h0 m A) k 0 120 toInt_lit0 toInt_120) rfl rfl (Nat.le_of_ble_eq_true rfl) ⟨Nat.le_of_ble_eq_true rfl, Nat.le_of_ble_eq_true rfl⟩ ⟨Nat.le_of_ble_eq_true rfl, Nat.le_of_ble_eq_true rfl⟩ ?_
  rintro _ _ _ ⟨rfl, rfl, rfl⟩
  by_cases h3 : rg k 0 120 = true
  case neg =>
    refine aw_if_eq (tgt := 35) dX8_bound_22 (by decide) (fun _ => ?_) (fun c => (c (bI_eq0.mpr (by simpa using h3))).elim)
    exact bad (by simp [h3])
  refine aw_if_eq (tgt := 35) dX8_bound_22 (by decide) (fun c => absurd c (bI_ne0.mpr h3)) (fun _ => ?_)
  refine aw_iload dX8_bound_25 rfl ?_
  refine aw_iconst (v := 0) dX8_bound_27 (by decide +kernel) ?_
  refine aw_iconst (v := 4) dX8_bound_28 (by decide +kernel) ?_
  refine aw_invokestatic kX8_153 dX8_bound_29 (ct_in n (mh h0 m A) kd 0 4 toInt_lit0 toInt_4) rfl rfl (Nat.le_of_ble_eq_true rfl) ⟨Nat.le_of_ble_eq_true rfl, Nat.le_of_ble_eq_true rfl⟩ ⟨Nat.le_of_ble_eq_true rfl, Nat.le_of_ble_eq_true rfl⟩ ?_
  rintro _ _ _ ⟨rfl, rfl, rfl⟩
  by_cases h4 : rg kd 0 4 = true
  case neg =>
    refine aw_if_ne (tgt := 37) dX8_bound_32 (by decide) (fun c => absurd c (fun c => c (bI_eq0.mpr (by simpa using h4)))) (fun _ => ?_)
    exact bad (by simp [h4])
  obtain ⟨ep, hp⟩ := isP_N h1
  obtain ⟨es, hs⟩ := isS_N h2
  obtain ⟨ek, -, -, hk⟩ := rg_N h3 (by decide)
  obtain ⟨ed, -, -, hd⟩ := rg_N h4 (by decide)
  have hop : opBound S p s k kd = (let q := capP S (tN p) (bndA S (tN s) (tN k) (tN kd)) (bndB S (tN s) (tN k) (tN kd)); if tN kd = 4 ∧ q.1 = 1 then (q.1, setB q.2 (bndBase S (tN s) (tN k) 4)) else q) := by unfold opBound; rw [h1, h2, h3, h4]; rfl
  rw [hop] at hQ
  clear bad hop
  generalize tN p = p' at *
  generalize tN s = X at *
  generalize tN k = K at *
  generalize tN kd = D at *
  subst ep es ek ed
  have hpos := bnd_pos (k := K) (kd := D) hI hs
  refine aw_if_ne (tgt := 37) dX8_bound_32 (by decide) (fun _ => ?_) (fun c => ((bI_ne0.mpr h4) c).elim)
  refine aw_aload_n (i := 0) dX8_bound_37 rfl rfl ?_
  refine aw_iload_n (i := 2) dX8_bound_38 rfl rfl ?_
  refine aw_iload_n (i := 3) dX8_bound_39 rfl rfl ?_
  refine aw_iload dX8_bound_40 rfl ?_
  refine aw_invokevirtual kX8_239 dX8_bound_42 (by rw [mh_0]; exact B.1) (ct_X8_bounded n h0 m A S bo ki mo wt X K D B hA hI hs (by omega) (by omega)) rfl rfl (Nat.le_of_ble_eq_true rfl) ⟨Nat.le_of_ble_eq_true rfl, Nat.le_of_ble_eq_true rfl⟩ ⟨Nat.le_of_ble_eq_true rfl, Nat.le_of_ble_eq_true rfl⟩ ?_
  rintro _ _ _ ⟨rfl, rfl, A1, rfl, d9, d10, f1⟩
  refine aw_istore_5 dX8_bound_45 (by decide) rfl ?_
  -- behind 'give'
  have fin : ∀ (r : Int32) (S' : TS) (h' : Hp), MOK n m (mh h0 m A) (r, S') (some (.int r)) n h' → capP S p' (bndA S X K D) (bndB S X K D) = (r, S') → AW mX8_bound (gq 0 0 Q) 82 [some (.ref m), some (.int (nI p')), some (.int (nI X)), some (.int (nI K)), some (.int (nI D)), some (.int (nI (bndBase S X K D))), none] [.int r] 0 0 n h' := by
    intro r S' h' hOK hcap
    obtain ⟨-, -, ⟨g0, A5, bo', ki', mo', wt', rfl, B', hA'⟩, hF⟩ := hOK
    rw [hcap] at hQ
    have hset : ∀ b : Nat, ∀ q : Int32 × TS, q = (r, setB S' b) → (∀ r n' h', MOK n m (mh h0 m A) q r n' h' → Q r n' h') → AW mX8_bound (gq 0 0 Q) 106 [some (.ref m), some (.int (nI p')), some (.int (nI X)), some (.int (nI K)), some (.int (nI D)), some (.int (nI (bndBase S X K D))), some (.int r)] [.int (nI b), .ref m] 0 0 n (mh g0 m A5) := by
      intro b q hq hQ
      refine aw_putfield fX8_243 dX8_bound_106 (by rw [mh_0]; exact B'.1) rfl rfl (Nat.le_of_ble_eq_true rfl) ?_
      dsimp only [List.set]
      refine AW.hp (mh_upo _ m A5 (mobS m (setB S' b))) ?_
      refine aw_iload dX8_bound_109 rfl ?_
      refine aw_ireturn dX8_bound_111 rfl rfl (Nat.le_of_ble_eq_true rfl) (Nat.le_of_ble_eq_true rfl) ?_
      refine hQ _ _ _ ?_
      rw [hq]
      refine ⟨rfl, rfl, ⟨_, A5, bo', ki', mo', wt', rfl, ⟨hup_self _ _ _, ?_, ?_, ?_, ?_, B'.2.2.2.2.2.1, B'.2.2.2.2.2.2⟩, hA'⟩, fun y hy => ?_⟩
      · rw [hup_ne (by omega)]; exact B'.2.1
      · rw [hup_ne (by omega)]; exact B'.2.2.1
      · rw [hup_ne (by omega)]; exact B'.2.2.2.1
      · rw [hup_ne (by omega)]; exact B'.2.2.2.2.1
      · rw [← hF y hy, mh_fr hy, mh_fr hy, hup_ne (by omega)]
    have keep : ∀ q : Int32 × TS, q = (r, S') → (∀ r n' h', MOK n m (mh h0 m A) q r n' h' → Q r n' h') → AW mX8_bound (gq 0 0 Q) 102 [some (.ref m), some (.int (nI p')), some (.int (nI X)), some (.int (nI K)), some (.int (nI D)), some (.int (nI (bndBase S X K D))), some (.int r)] [.ref m] 0 0 n (mh g0 m A5) := by
      intro q hq hQ
      refine aw_aload_n (i := 0) dX8_bound_102 rfl rfl ?_
      refine aw_getfield fX8_243 dX8_bound_103 (by rw [mh_0]; exact B'.1) rfl ?_
      exact hset (sB S') q (by rw [hq]; rfl) hQ
    refine aw_istore_6 dX8_bound_82 (by decide) rfl ?_
    refine aw_aload_n (i := 0) dX8_bound_84 rfl rfl ?_
    refine aw_iload dX8_bound_85 rfl ?_
    refine aw_iconst (v := 4) dX8_bound_87 (by decide +kernel) ?_
    by_cases c4 : D = 4
    · refine aw_icmp_ne (tgt := 102) dX8_bound_88 (by decide) (fun c => absurd c (fun c => c (by rw [c4]; rfl))) (fun _ => ?_)
      refine aw_iload dX8_bound_91 rfl ?_
      refine aw_iconst (v := 1) dX8_bound_93 (by decide +kernel) ?_
      by_cases c1 : r = 1
      · refine aw_icmp_ne (tgt := 102) dX8_bound_94 (by decide) (fun c => absurd c (fun c => c c1)) (fun _ => ?_)
        refine aw_iload dX8_bound_97 rfl ?_
        refine aw_goto (tgt := 106) dX8_bound_99 (by decide) ?_
        exact hset (bndBase S X K D) _ (by dsimp only; rw [if_pos ⟨c4, c1⟩, c4]) hQ
      · refine aw_icmp_ne (tgt := 102) dX8_bound_94 (by decide) (fun _ => ?_) (fun c => (c1 c).elim)
        exact keep _ (by dsimp only; rw [if_neg (fun q => c1 q.2)]) hQ
    · refine aw_icmp_ne (tgt := 102) dX8_bound_88 (by decide) (fun _ => ?_) (fun c => ((fun c => c4 ((nI_eq (b := 4) (by omega) (by decide)).mp c)) c).elim)
      exact keep _ (by dsimp only; rw [if_neg (fun q => c4 q.1)]) hQ
  refine aw_aload_n (i := 0) dX8_bound_47 rfl rfl ?_
  refine aw_getfield fX8_35 dX8_bound_48 (by rw [mh_0]; exact B.1) rfl ?_
  refine aw_aload_n (i := 0) dX8_bound_51 rfl rfl ?_
  refine aw_getfield fX8_38 dX8_bound_52 (by rw [mh_0]; exact B.1) rfl ?_
  refine aw_invokestatic kX8_136 dX8_bound_55 (mc_compare n h0 m A1 9 10 _ _ rfl rfl rfl rfl d9 d10) rfl rfl (Nat.le_of_ble_eq_true rfl) ⟨Nat.le_of_ble_eq_true rfl, Nat.le_of_ble_eq_true rfl⟩ ⟨Nat.le_of_ble_eq_true rfl, Nat.le_of_ble_eq_true rfl⟩ ?_
  rintro _ _ _ ⟨rfl, rfl, rfl⟩
  by_cases hc : bndB S X K D < bndA S X K D
  · refine aw_if_le (tgt := 77) dX8_bound_58 (by decide) (fun c => absurd c (fun q => by have := cmp_le0.mp q; omega)) (fun _ => ?_)
    refine aw_aload_n (i := 0) dX8_bound_61 rfl rfl ?_
    refine aw_getfield fX8_35 dX8_bound_62 (by rw [mh_0]; exact B.1) rfl ?_
    refine aw_lconst (v := 1) dX8_bound_65 (by decide) ?_
    refine aw_invokestatic kX8_124 dX8_bound_66 (mc_become n h0 m A1 9 1 rfl rfl (by decide)) rfl rfl (Nat.le_of_ble_eq_true rfl) ⟨Nat.le_of_ble_eq_true rfl, Nat.le_of_ble_eq_true rfl⟩ ⟨Nat.le_of_ble_eq_true rfl, Nat.le_of_ble_eq_true rfl⟩ ?_
    rintro _ _ _ ⟨rfl, rfl, A2, rfl, d2, f2⟩
    refine aw_aload_n (i := 0) dX8_bound_69 rfl rfl ?_
    refine aw_getfield fX8_38 dX8_bound_70 (by rw [mh_0]; exact B.1) rfl ?_
    refine aw_lconst (v := 1) dX8_bound_73 (by decide) ?_
    refine aw_invokestatic kX8_124 dX8_bound_74 (mc_become n h0 m A2 10 1 rfl rfl (by decide)) rfl rfl (Nat.le_of_ble_eq_true rfl) ⟨Nat.le_of_ble_eq_true rfl, Nat.le_of_ble_eq_true rfl⟩ ⟨Nat.le_of_ble_eq_true rfl, Nat.le_of_ble_eq_true rfl⟩ ?_
    rintro _ _ _ ⟨rfl, rfl, A3, rfl, d3, f3⟩
    refine aw_aload_n (i := 0) dX8_bound_77 rfl rfl ?_
    refine aw_iload_n (i := 1) dX8_bound_78 rfl rfl ?_
    refine aw_invokevirtual kX8_214 dX8_bound_79 (by rw [mh_0]; exact B.1) (ct_X8_give n h0 m A3 bo p' 1 1 hp B.ob B.2.1 (by rw [f3 9 (by decide)]; exact d2) d3 (by decide)) rfl rfl (Nat.le_of_ble_eq_true rfl) ⟨Nat.le_of_ble_eq_true rfl, Nat.le_of_ble_eq_true rfl⟩ ⟨Nat.le_of_ble_eq_true rfl, Nat.le_of_ble_eq_true rfl⟩ ?_
    rintro r _ h' ⟨rfl, hg⟩
    have hOK := gave_rep (n := n) (h := mh h0 m A) B hA hp (fun k hk => by rw [f3 k (by omega), f2 k (by omega)]; exact f1 k hk) (fun y hy => (mh_fr hy).symm) hg
    obtain ⟨-, hr, -⟩ := id hOK
    subst hr
    exact fin (putP S p' 1 1).1 (putP S p' 1 1).2 h' hOK (by unfold capP; rw [if_pos hc])
  · refine aw_if_le (tgt := 77) dX8_bound_58 (by decide) (fun _ => ?_) (fun c => (c (cmp_le0.mpr (by omega))).elim)
    refine aw_aload_n (i := 0) dX8_bound_77 rfl rfl ?_
    refine aw_iload_n (i := 1) dX8_bound_78 rfl rfl ?_
    refine aw_invokevirtual kX8_214 dX8_bound_79 (by rw [mh_0]; exact B.1) (ct_X8_give n h0 m A1 bo p' _ _ hp B.ob B.2.1 d9 d10 hpos) rfl rfl (Nat.le_of_ble_eq_true rfl) ⟨Nat.le_of_ble_eq_true rfl, Nat.le_of_ble_eq_true rfl⟩ ⟨Nat.le_of_ble_eq_true rfl, Nat.le_of_ble_eq_true rfl⟩ ?_
    rintro r _ h' ⟨rfl, hg⟩
    have hOK := gave_rep (n := n) (h := mh h0 m A) B hA hp f1 (fun y hy => (mh_fr hy).symm) hg
    obtain ⟨-, hr, -⟩ := id hOK
    subst hr
    exact fin (putP S p' (bndA S X K D) (bndB S X K D)).1 (putP S p' (bndA S X K D) (bndB S X K D)).2 h' hOK (by unfold capP; rw [if_neg hc])
theorem mt_base (n : Nat) (h : Hp) (m : Nat) (S : TS) (hR : MRep h m S) : CT mX8_base 0 0 n h [.ref m] (MOK n m h (opBase S)) := by
  obtain ⟨h0, A, bo, ki, mo, wt, rfl, B, hA⟩ := id hR
  refine CT.intro [some (.ref m)] 0 rfl rfl (by decide) ?_
  intro Q hQ
  refine aw_aload_n (i := 0) dX8_base_0 rfl rfl ?_
  refine aw_getfield fX8_243 dX8_base_1 (by rw [mh_0]; exact B.1) rfl ?_
  refine aw_ireturn dX8_base_4 rfl rfl (Nat.le_of_ble_eq_true rfl) (Nat.le_of_ble_eq_true rfl) ?_
  exact hQ _ _ _ ⟨rfl, rfl, hR, mfr_rf⟩
