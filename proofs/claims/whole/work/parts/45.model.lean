theorem good_lt {a b w u v x : Nat} (ha : a ≤ b) (hb : b ≤ 60) (hw : w ≤ 100) (hu : u ≤ 1000000) (hv : v ≤ 1000000) (hx : x ≤ 40) : 10000 * a * (b - a) * v ≤ 36000000000000 ∧ x * b * b * w * w * u ≤ 1440000000000000 ∧ 10000 * a * (b - a) ≤ 36000000 ∧ x * b * b * w * w ≤ 1440000000 ∧ x * b ≤ 2400 ∧ x * b * b ≤ 144000 ∧ x * b * b * w ≤ 14400000 := by
  have e1 : 10000 * a ≤ 10000 * 60 := by omega
  have e2 : 10000 * a * (b - a) ≤ 10000 * 60 * 60 := Nat.mul_le_mul e1 (by omega)
  have e3 : 10000 * a * (b - a) * v ≤ 10000 * 60 * 60 * 1000000 := Nat.mul_le_mul e2 hv
  have e4 : x * b ≤ 40 * 60 := Nat.mul_le_mul hx hb
  have e5 : x * b * b ≤ 40 * 60 * 60 := Nat.mul_le_mul e4 hb
  have e6 : x * b * b * w ≤ 40 * 60 * 60 * 100 := Nat.mul_le_mul e5 hw
  have e7 : x * b * b * w * w ≤ 40 * 60 * 60 * 100 * 100 := Nat.mul_le_mul e6 hw
  have e8 : x * b * b * w * w * u ≤ 40 * 60 * 60 * 100 * 100 * 1000000 := Nat.mul_le_mul e7 hu
  omega
theorem ct_X8_isGood (n : Nat) (h0 : Hp) (m : Nat) (A : Nat → Nat → Nat) (S : TS) (bo ki mo wt : Nat → Nat) (how x w u v : Nat) (B : MB h0 m S bo ki mo wt) (hI : SInv S) (hh : how ≤ 1) (h1x : 1 ≤ x) (hx : x ≤ 40) (hw : w ≤ 100) (hu : u ≤ 1000000) (hv : v ≤ 1000000) : CT mX8_isGood 0 0 n (mh h0 m A) [.ref m, .int (nI how), .int (nI x), .int (nI w), .int (nI u), .int (nI v)] (fun r n' h' => n = n' ∧ r = some (.int (bI (goodN (sCA S) (sCB S) how w u v x))) ∧ ∃ A', h' = mh h0 m A' ∧ ∀ k, k = 6 ∨ k = 7 ∨ k = 19 ∨ k = 20 → A' k = A k) := by
  refine CT.intro [some (.ref m), some (.int (nI how)), some (.int (nI x)), some (.int (nI w)), some (.int (nI u)), some (.int (nI v)), none, none, none, none] 4 rfl rfl (by decide) ?_
  intro Q hQ
  obtain ⟨ca1, cb1, cb2⟩ := hI.2.2.2.2.1
  generalize hca : sCA S = a at *
  generalize hcb : sCB S = b at *
  have hB1 := B.1
  unfold mobS at hB1
  rw [hca, hcb] at hB1
  obtain ⟨g1, g2, g3, g4, g5, g6, g7⟩ := good_lt (x := x) ca1 cb2 hw hu hv hx
  refine aw_iload_n (i := 1) dX8_isGood_0 rfl rfl ?_
  refine aw_iconst (v := 1) dX8_isGood_1 (by decide +kernel) ?_
  by_cases hw1 : how = 1
  · have hop : goodN a b how w u v x = (decide (v ≤ u) || decide (10000 * a * (b - a) * v ≤ x * b * b * w * w * u)) := by unfold goodN; rw [if_pos hw1]
    rw [hop] at hQ
    refine aw_icmp_ne (tgt := 78) dX8_isGood_2 (by decide) (fun c => absurd c (fun c => c (by rw [hw1]; rfl))) (fun _ => ?_)
    refine aw_ldc2_w qX8_269 dX8_isGood_5 ?_
    refine aw_aload_n (i := 0) dX8_isGood_8 rfl rfl ?_
    refine aw_getfield fX8_105 dX8_isGood_9 (by rw [mh_0]; exact hB1) rfl ?_
    refine aw_i2l dX8_isGood_12 rfl ?_
    refine aw_lmul dX8_isGood_13 ?_
    refine aw_aload_n (i := 0) dX8_isGood_14 rfl rfl ?_
    refine aw_getfield fX8_109 dX8_isGood_15 (by rw [mh_0]; exact hB1) rfl ?_
    refine aw_aload_n (i := 0) dX8_isGood_18 rfl rfl ?_
    refine aw_getfield fX8_105 dX8_isGood_19 (by rw [mh_0]; exact hB1) rfl ?_
    refine aw_isub dX8_isGood_22 ?_
    refine aw_i2l dX8_isGood_23 rfl ?_
    refine aw_lmul dX8_isGood_24 ?_
    rw [show (10000 : Int64) = lN 10000 from rfl, pk_sub ca1, nI_l (show a < 2 ^ 31 by omega), nI_l (show b - a < 2 ^ 31 by omega), lN_mul, lN_mul]
    refine aw_lstore_6 dX8_isGood_25 (by decide) rfl ?_
    refine aw_iload_n (i := 2) dX8_isGood_27 rfl rfl ?_
    refine aw_i2l dX8_isGood_28 rfl ?_
    refine aw_aload_n (i := 0) dX8_isGood_29 rfl rfl ?_
    refine aw_getfield fX8_109 dX8_isGood_30 (by rw [mh_0]; exact hB1) rfl ?_
    refine aw_i2l dX8_isGood_33 rfl ?_
    refine aw_lmul dX8_isGood_34 ?_
    refine aw_aload_n (i := 0) dX8_isGood_35 rfl rfl ?_
    refine aw_getfield fX8_109 dX8_isGood_36 (by rw [mh_0]; exact hB1) rfl ?_
    refine aw_i2l dX8_isGood_39 rfl ?_
    refine aw_lmul dX8_isGood_40 ?_
    refine aw_iload_n (i := 3) dX8_isGood_41 rfl rfl ?_
    refine aw_i2l dX8_isGood_42 rfl ?_
    refine aw_lmul dX8_isGood_43 ?_
    refine aw_iload_n (i := 3) dX8_isGood_44 rfl rfl ?_
    refine aw_i2l dX8_isGood_45 rfl ?_
    refine aw_lmul dX8_isGood_46 ?_
    rw [nI_l (show x < 2 ^ 31 by omega), nI_l (show b < 2 ^ 31 by omega), nI_l (show w < 2 ^ 31 by omega), lN_mul, lN_mul, lN_mul, lN_mul]
    refine aw_lstore_8 dX8_isGood_47 (by decide) rfl ?_
    refine aw_iload dX8_isGood_49 rfl ?_
    refine aw_iload dX8_isGood_51 rfl ?_
    by_cases huv : v ≤ u
    · refine aw_icmp_ge (tgt := 72) dX8_isGood_53 (by decide) (fun _ => ?_) (fun c => (c (nI_le huv (by omega))).elim)
      refine aw_iconst (v := 1) dX8_isGood_72 (by decide +kernel) ?_
      refine aw_goto (tgt := 77) dX8_isGood_73 (by decide) ?_
      refine aw_ireturn dX8_isGood_77 rfl rfl (Nat.le_of_ble_eq_true rfl) (Nat.le_of_ble_eq_true rfl) ?_
      exact hQ _ _ _ ⟨rfl, by rw [decide_eq_true huv]; rfl, A, rfl, fun _ _ => rfl⟩
    · refine aw_icmp_ge (tgt := 72) dX8_isGood_53 (by decide) (fun c => absurd c (nI_ge (by omega) (by omega))) (fun _ => ?_)
      refine aw_lload dX8_isGood_56 rfl ?_
      refine aw_iload dX8_isGood_58 rfl ?_
      refine aw_i2l dX8_isGood_60 rfl ?_
      refine aw_lmul dX8_isGood_61 ?_
      refine aw_lload dX8_isGood_62 rfl ?_
      refine aw_iload dX8_isGood_64 rfl ?_
      refine aw_i2l dX8_isGood_66 rfl ?_
      refine aw_lmul dX8_isGood_67 ?_
      rw [nI_l (show u < 2 ^ 31 by omega), nI_l (show v < 2 ^ 31 by omega), lN_mul, lN_mul]
      refine aw_lcmp dX8_isGood_68 ?_
      by_cases hc : 10000 * a * (b - a) * v ≤ x * b * b * w * w * u
      · refine aw_if_gt (tgt := 76) dX8_isGood_69 (by decide) (fun c => absurd c (by rw [lg_cmp_gt, pk_lLT (by omega) (by omega)]; omega)) (fun _ => ?_)
        refine aw_iconst (v := 1) dX8_isGood_72 (by decide +kernel) ?_
        refine aw_goto (tgt := 77) dX8_isGood_73 (by decide) ?_
        refine aw_ireturn dX8_isGood_77 rfl rfl (Nat.le_of_ble_eq_true rfl) (Nat.le_of_ble_eq_true rfl) ?_
        exact hQ _ _ _ ⟨rfl, by rw [decide_eq_true hc, decide_eq_false huv]; rfl, A, rfl, fun _ _ => rfl⟩
      · refine aw_if_gt (tgt := 76) dX8_isGood_69 (by decide) (fun _ => ?_) (fun c => (c (by rw [lg_cmp_gt, pk_lLT (by omega) (by omega)]; omega)).elim)
        refine aw_iconst (v := 0) dX8_isGood_76 (by decide +kernel) ?_
        refine aw_ireturn dX8_isGood_77 rfl rfl (Nat.le_of_ble_eq_true rfl) (Nat.le_of_ble_eq_true rfl) ?_
        exact hQ _ _ _ ⟨rfl, by rw [decide_eq_false hc, decide_eq_false huv]; rfl, A, rfl, fun _ _ => rfl⟩
  · have hop : goodN a b how w u v x = decide (sg (fun k => if farN a b w x k then cCoins x a b k else 0) (x + 1) * v ≤ u * b ^ x) := by unfold goodN; rw [if_neg hw1]
    rw [hop] at hQ
    have htot := cCoins_tot (n := x) (a := a) (b := b) ca1
    have hlt := coin_pow (n := x) (b := b) hx cb2 cb1
    have hsl : ∀ k, k ≤ x + 1 → sg (fun k => if farN a b w x k then cCoins x a b k else 0) k ≤ b ^ x := fun k hk => by
      rw [← htot]
      exact Nat.le_trans (sg_le hk) (sg_mono (fun i _ => by split <;> omega))
    have w1 : 2 ^ 256 * 2 ^ 32 < 2 ^ 2688 := by decide +kernel
    have w2 : 2 ^ 256 < 2 ^ 2688 := Nat.pow_lt_pow_right (by decide) (by decide)
    refine aw_icmp_ne (tgt := 78) dX8_isGood_2 (by decide) (fun _ => ?_) (fun c => ((fun c => hw1 ((nI_eq (b := 1) (by omega) (by decide)).mp c)) c).elim)
    refine aw_aload_n (i := 0) dX8_isGood_78 rfl rfl ?_
    refine aw_getfield fX8_84 dX8_isGood_79 (by rw [mh_0]; exact hB1) rfl ?_
    refine aw_lconst (v := 0) dX8_isGood_82 (by decide) ?_
    refine aw_invokestatic kX8_124 dX8_isGood_83 (mc_become n h0 m A 25 0 rfl rfl (by decide)) rfl rfl (Nat.le_of_ble_eq_true rfl) ⟨Nat.le_of_ble_eq_true rfl, Nat.le_of_ble_eq_true rfl⟩ ⟨Nat.le_of_ble_eq_true rfl, Nat.le_of_ble_eq_true rfl⟩ ?_
    rintro _ _ _ ⟨rfl, rfl, A1, rfl, d1, f1⟩
    refine aw_iconst (v := 0) dX8_isGood_86 (by decide +kernel) ?_
    refine aw_istore_6 dX8_isGood_87 (by decide) rfl ?_
    have loop : ∀ (j k : Nat) (A' : Nat → Nat → Nat) (y7 : Option Value), k + j = x + 1 → dg (A' 25) (sg (fun k => if farN a b w x k then cCoins x a b k else 0) k) → (∀ k, k = 6 ∨ k = 7 ∨ k = 19 ∨ k = 20 → A' k = A k) → AW mX8_isGood (gq 0 0 Q) 89 [some (.ref m), some (.int (nI how)), some (.int (nI x)), some (.int (nI w)), some (.int (nI u)), some (.int (nI v)), some (.int (nI k)), y7, none, none] [] 0 0 n (mh h0 m A') := by
      intro j
      induction j with
      | zero =>
        intro k A' y7 hk d fr
        obtain rfl : k = x + 1 := by omega
        have hs := hsl (x + 1) (Nat.le_refl _)
        generalize sg (fun k => if farN a b w x k then cCoins x a b k else 0) (x + 1) = s at *
        have hsv : s * v ≤ 2 ^ 256 * 2 ^ 32 := Nat.mul_le_mul (by omega) (by omega)
        have hub : u * b ^ x ≤ 2 ^ 256 * 2 ^ 32 := by rw [Nat.mul_comm]; exact Nat.mul_le_mul (by omega) (by omega)
        refine aw_iload dX8_isGood_89 rfl ?_
        refine aw_iload_n (i := 2) dX8_isGood_91 rfl rfl ?_
        refine aw_icmp_gt (tgt := 209) dX8_isGood_92 (by decide) (fun _ => ?_) (fun c => (c (nI_lt (by omega) (by omega))).elim)
        refine aw_aload_n (i := 0) dX8_isGood_209 rfl rfl ?_
        refine aw_getfield fX8_84 dX8_isGood_210 (by rw [mh_0]; exact hB1) rfl ?_
        refine aw_iload dX8_isGood_213 rfl ?_
        refine aw_i2l dX8_isGood_215 rfl ?_
        rw [nI_l (show v < 2 ^ 31 by omega)]
        refine aw_invokestatic kX8_184 dX8_isGood_216 (mc_by n h0 m A' 25 s v rfl rfl d (by omega) (by omega)) rfl rfl (Nat.le_of_ble_eq_true rfl) ⟨Nat.le_of_ble_eq_true rfl, Nat.le_of_ble_eq_true rfl⟩ ⟨Nat.le_of_ble_eq_true rfl, Nat.le_of_ble_eq_true rfl⟩ ?_
        rintro _ _ _ ⟨rfl, rfl, A2, rfl, d2, f2⟩
        refine aw_aload_n (i := 0) dX8_isGood_219 rfl rfl ?_
        refine aw_getfield fX8_75 dX8_isGood_220 (by rw [mh_0]; exact hB1) rfl ?_
        refine aw_iload dX8_isGood_223 rfl ?_
        refine aw_i2l dX8_isGood_225 rfl ?_
        rw [nI_l (show u < 2 ^ 31 by omega)]
        refine aw_invokestatic kX8_124 dX8_isGood_226 (mc_become n h0 m A2 22 u rfl rfl (by omega)) rfl rfl (Nat.le_of_ble_eq_true rfl) ⟨Nat.le_of_ble_eq_true rfl, Nat.le_of_ble_eq_true rfl⟩ ⟨Nat.le_of_ble_eq_true rfl, Nat.le_of_ble_eq_true rfl⟩ ?_
        rintro _ _ _ ⟨rfl, rfl, A3, rfl, d3, f3⟩
        refine aw_aload_n (i := 0) dX8_isGood_229 rfl rfl ?_
        refine aw_aload_n (i := 0) dX8_isGood_230 rfl rfl ?_
        refine aw_getfield fX8_75 dX8_isGood_231 (by rw [mh_0]; exact hB1) rfl ?_
        refine aw_aload_n (i := 0) dX8_isGood_234 rfl rfl ?_
        refine aw_getfield fX8_109 dX8_isGood_235 (by rw [mh_0]; exact hB1) rfl ?_
        refine aw_i2l dX8_isGood_238 rfl ?_
        rw [nI_l (show b < 2 ^ 31 by omega)]
        refine aw_iload_n (i := 2) dX8_isGood_239 rfl rfl ?_
        refine aw_invokevirtual kX8_198 dX8_isGood_240 (by rw [mh_0]; exact hB1) (ct_X8_power n h0 m A3 22 u b x rfl rfl d3 (by omega) (by omega) (by omega)) rfl rfl (Nat.le_of_ble_eq_true rfl) ⟨Nat.le_of_ble_eq_true rfl, Nat.le_of_ble_eq_true rfl⟩ ⟨Nat.le_of_ble_eq_true rfl, Nat.le_of_ble_eq_true rfl⟩ ?_
        rintro _ _ _ ⟨rfl, rfl, A4, rfl, d4, f4⟩
        refine aw_aload_n (i := 0) dX8_isGood_243 rfl rfl ?_
        refine aw_getfield fX8_84 dX8_isGood_244 (by rw [mh_0]; exact hB1) rfl ?_
        refine aw_aload_n (i := 0) dX8_isGood_247 rfl rfl ?_
        refine aw_getfield fX8_75 dX8_isGood_248 (by rw [mh_0]; exact hB1) rfl ?_
        refine aw_invokestatic kX8_136 dX8_isGood_251 (mc_compare n h0 m A4 25 22 _ _ rfl rfl rfl rfl (by rw [f4 25 (by decide), f3 25 (by decide)]; exact d2) d4) rfl rfl (Nat.le_of_ble_eq_true rfl) ⟨Nat.le_of_ble_eq_true rfl, Nat.le_of_ble_eq_true rfl⟩ ⟨Nat.le_of_ble_eq_true rfl, Nat.le_of_ble_eq_true rfl⟩ ?_
        rintro _ _ _ ⟨rfl, rfl, rfl⟩
        have ff : ∀ k, k = 6 ∨ k = 7 ∨ k = 19 ∨ k = 20 → A4 k = A k := fun k hk => by rw [f4 k (by omega), f3 k (by omega), f2 k (by omega)]; exact fr k hk
        by_cases hc : s * v ≤ u * b ^ x
        · refine aw_if_gt (tgt := 261) dX8_isGood_254 (by decide) (fun c => absurd c (fun q => by have := cmp_gt0.mp q; omega)) (fun _ => ?_)
          refine aw_iconst (v := 1) dX8_isGood_257 (by decide +kernel) ?_
          refine aw_goto (tgt := 262) dX8_isGood_258 (by decide) ?_
          refine aw_ireturn dX8_isGood_262 rfl rfl (Nat.le_of_ble_eq_true rfl) (Nat.le_of_ble_eq_true rfl) ?_
          exact hQ _ _ _ ⟨rfl, by rw [decide_eq_true hc]; rfl, A4, rfl, ff⟩
        · refine aw_if_gt (tgt := 261) dX8_isGood_254 (by decide) (fun _ => ?_) (fun c => (c (cmp_gt0.mpr (by omega))).elim)
          refine aw_iconst (v := 0) dX8_isGood_261 (by decide +kernel) ?_
          refine aw_ireturn dX8_isGood_262 rfl rfl (Nat.le_of_ble_eq_true rfl) (Nat.le_of_ble_eq_true rfl) ?_
          exact hQ _ _ _ ⟨rfl, by rw [decide_eq_false hc]; rfl, A4, rfl, ff⟩
      | succ j ih =>
        intro k A' y7 hk d fr
        have e1 : k * b ≤ 40 * 60 := Nat.mul_le_mul (by omega) cb2
        have e2 : a * x ≤ 60 * 40 := Nat.mul_le_mul (by omega) hx
        have e3 : w * x ≤ 100 * 40 := Nat.mul_le_mul hw hx
        have e4 : w * x * b ≤ 100 * 40 * 60 := Nat.mul_le_mul e3 cb2
        have hle := hsl (k + 1) (by omega)
        rw [sg_s] at hle
        refine aw_iload dX8_isGood_89 rfl ?_
        refine aw_iload_n (i := 2) dX8_isGood_91 rfl rfl ?_
        refine aw_icmp_gt (tgt := 209) dX8_isGood_92 (by decide) (fun c => absurd c (nI_nlt (by omega) (by omega))) (fun _ => ?_)
        refine aw_iload dX8_isGood_95 rfl ?_
        refine aw_aload_n (i := 0) dX8_isGood_97 rfl rfl ?_
        refine aw_getfield fX8_109 dX8_isGood_98 (by rw [mh_0]; exact hB1) rfl ?_
        refine aw_imul dX8_isGood_101 ?_
        refine aw_aload_n (i := 0) dX8_isGood_102 rfl rfl ?_
        refine aw_getfield fX8_105 dX8_isGood_103 (by rw [mh_0]; exact hB1) rfl ?_
        refine aw_iload_n (i := 2) dX8_isGood_106 rfl rfl ?_
        refine aw_imul dX8_isGood_107 ?_
        refine aw_isub dX8_isGood_108 ?_
        rw [pk_mul, pk_mul]
        -- behind the distance
        have fin : ∀ f : Nat, f = (if k * b < a * x then a * x - k * b else k * b - a * x) → AW mX8_isGood (gq 0 0 Q) 126 [some (.ref m), some (.int (nI how)), some (.int (nI x)), some (.int (nI w)), some (.int (nI u)), some (.int (nI v)), some (.int (nI k)), some (.int (nI f)), none, none] [] 0 0 n (mh h0 m A') := by
          intro f hf
          have hf2 : f ≤ 2400 := by rw [hf]; split <;> omega
          have hfar : farN a b w x k = decide (w * x * b ≤ 100 * f) := by unfold farN; rw [hf]
          refine aw_bipush (v := 100) dX8_isGood_126 (by decide +kernel) ?_
          refine aw_iload dX8_isGood_128 rfl ?_
          refine aw_imul dX8_isGood_130 ?_
          refine aw_iload_n (i := 3) dX8_isGood_131 rfl rfl ?_
          refine aw_iload_n (i := 2) dX8_isGood_132 rfl rfl ?_
          refine aw_imul dX8_isGood_133 ?_
          refine aw_aload_n (i := 0) dX8_isGood_134 rfl rfl ?_
          refine aw_getfield fX8_109 dX8_isGood_135 (by rw [mh_0]; exact hB1) rfl ?_
          refine aw_imul dX8_isGood_138 ?_
          rw [show (100 : Int32) = nI 100 from rfl, pk_mul, pk_mul, pk_mul]
          by_cases hc : w * x * b ≤ 100 * f
          · rw [hfar, decide_eq_true hc, if_pos rfl] at hle
            have hck : cCoins x a b k ≤ b ^ x := by rw [← htot]; exact sg_ge (by omega)
            have q1 : cho x k * a ^ k < 2 ^ 2688 := by
              have r1 : a ^ k ≤ 60 ^ 40 := Nat.le_trans (Nat.pow_le_pow_left (show a ≤ 60 by omega) k) (Nat.pow_le_pow_right (by decide) (by omega))
              have r2 := Nat.mul_le_mul (Nat.le_of_lt (cho_bd (n := x) (by omega) k)) r1
              have r3 : 2 ^ 57 * 60 ^ 40 < 2 ^ 2688 := by decide +kernel
              omega
            refine aw_icmp_lt (tgt := 203) dX8_isGood_139 (by decide) (fun c => absurd c (nI_nlt hc (by omega))) (fun _ => ?_)
            refine aw_aload_n (i := 0) dX8_isGood_142 rfl rfl ?_
            refine aw_getfield fX8_75 dX8_isGood_143 (by rw [mh_0]; exact hB1) rfl ?_
            refine aw_iload_n (i := 2) dX8_isGood_146 rfl rfl ?_
            refine aw_iload dX8_isGood_147 rfl ?_
            refine aw_invokestatic kX8_194 dX8_isGood_149 (ct_X8_choose n (mh h0 m A') x k (by omega) (by omega)) rfl rfl (Nat.le_of_ble_eq_true rfl) ⟨Nat.le_of_ble_eq_true rfl, Nat.le_of_ble_eq_true rfl⟩ ⟨Nat.le_of_ble_eq_true rfl, Nat.le_of_ble_eq_true rfl⟩ ?_
            rintro _ _ _ ⟨rfl, rfl, rfl⟩
            refine aw_invokestatic kX8_124 dX8_isGood_152 (mc_become n h0 m A' 22 (cho x k) rfl rfl (Nat.lt_of_lt_of_le (cho_bd (by omega) k) (by decide))) rfl rfl (Nat.le_of_ble_eq_true rfl) ⟨Nat.le_of_ble_eq_true rfl, Nat.le_of_ble_eq_true rfl⟩ ⟨Nat.le_of_ble_eq_true rfl, Nat.le_of_ble_eq_true rfl⟩ ?_
            rintro _ _ _ ⟨rfl, rfl, A2, rfl, d2, f2⟩
            refine aw_aload_n (i := 0) dX8_isGood_155 rfl rfl ?_
            refine aw_aload_n (i := 0) dX8_isGood_156 rfl rfl ?_
            refine aw_getfield fX8_75 dX8_isGood_157 (by rw [mh_0]; exact hB1) rfl ?_
            refine aw_aload_n (i := 0) dX8_isGood_160 rfl rfl ?_
            refine aw_getfield fX8_105 dX8_isGood_161 (by rw [mh_0]; exact hB1) rfl ?_
            refine aw_i2l dX8_isGood_164 rfl ?_
            rw [nI_l (show a < 2 ^ 31 by omega)]
            refine aw_iload dX8_isGood_165 rfl ?_
            refine aw_invokevirtual kX8_198 dX8_isGood_167 (by rw [mh_0]; exact hB1) (ct_X8_power n h0 m A2 22 (cho x k) a k rfl rfl d2 (by omega) (by omega) q1) rfl rfl (Nat.le_of_ble_eq_true rfl) ⟨Nat.le_of_ble_eq_true rfl, Nat.le_of_ble_eq_true rfl⟩ ⟨Nat.le_of_ble_eq_true rfl, Nat.le_of_ble_eq_true rfl⟩ ?_
            rintro _ _ _ ⟨rfl, rfl, A3, rfl, d3, f3⟩
            refine aw_aload_n (i := 0) dX8_isGood_170 rfl rfl ?_
            refine aw_aload_n (i := 0) dX8_isGood_171 rfl rfl ?_
            refine aw_getfield fX8_75 dX8_isGood_172 (by rw [mh_0]; exact hB1) rfl ?_
            refine aw_aload_n (i := 0) dX8_isGood_175 rfl rfl ?_
            refine aw_getfield fX8_109 dX8_isGood_176 (by rw [mh_0]; exact hB1) rfl ?_
            refine aw_aload_n (i := 0) dX8_isGood_179 rfl rfl ?_
            refine aw_getfield fX8_105 dX8_isGood_180 (by rw [mh_0]; exact hB1) rfl ?_
            refine aw_isub dX8_isGood_183 ?_
            refine aw_i2l dX8_isGood_184 rfl ?_
            rw [pk_sub ca1, nI_l (show b - a < 2 ^ 31 by omega)]
            refine aw_iload_n (i := 2) dX8_isGood_185 rfl rfl ?_
            refine aw_iload dX8_isGood_186 rfl ?_
            refine aw_isub dX8_isGood_188 ?_
            rw [pk_sub (show k ≤ x by omega)]
            refine aw_invokevirtual kX8_198 dX8_isGood_189 (by rw [mh_0]; exact hB1) (ct_X8_power n h0 m A3 22 (cho x k * a ^ k) (b - a) (x - k) rfl rfl d3 (by omega) (by omega) (by unfold cCoins at hck; omega)) rfl rfl (Nat.le_of_ble_eq_true rfl) ⟨Nat.le_of_ble_eq_true rfl, Nat.le_of_ble_eq_true rfl⟩ ⟨Nat.le_of_ble_eq_true rfl, Nat.le_of_ble_eq_true rfl⟩ ?_
            rintro _ _ _ ⟨rfl, rfl, A4, rfl, d4, f4⟩
            have hcc : cho x k * a ^ k * (b - a) ^ (x - k) = cCoins x a b k := rfl
            rw [hcc] at d4
            refine aw_aload_n (i := 0) dX8_isGood_192 rfl rfl ?_
            refine aw_getfield fX8_84 dX8_isGood_193 (by rw [mh_0]; exact hB1) rfl ?_
            refine aw_aload_n (i := 0) dX8_isGood_196 rfl rfl ?_
            refine aw_getfield fX8_75 dX8_isGood_197 (by rw [mh_0]; exact hB1) rfl ?_
            refine aw_invokestatic kX8_191 dX8_isGood_200 (mc_plus n h0 m A4 25 22 _ _ rfl rfl rfl rfl (by decide) (by rw [f4 25 (by decide), f3 25 (by decide), f2 25 (by decide)]; exact d) d4 (by omega)) rfl rfl (Nat.le_of_ble_eq_true rfl) ⟨Nat.le_of_ble_eq_true rfl, Nat.le_of_ble_eq_true rfl⟩ ⟨Nat.le_of_ble_eq_true rfl, Nat.le_of_ble_eq_true rfl⟩ ?_
            rintro _ _ _ ⟨rfl, rfl, A5, rfl, d5, f5⟩
            refine aw_iinc_6 (c0 := 1) dX8_isGood_203 (by decide) (by decide) rfl ?_
            refine aw_goto (tgt := 89) dX8_isGood_206 (by decide) ?_
            rw [nI_1]
            exact ih (k + 1) A5 _ (by omega) (by rw [sg_s, hfar, decide_eq_true hc, if_pos rfl]; exact d5) (fun k hk => by rw [f5 k (by omega), f4 k (by omega), f3 k (by omega), f2 k (by omega)]; exact fr k hk)
          · refine aw_icmp_lt (tgt := 203) dX8_isGood_139 (by decide) (fun _ => ?_) (fun c => (c (nI_lt (by omega) (by omega))).elim)
            refine aw_iinc_6 (c0 := 1) dX8_isGood_203 (by decide) (by decide) rfl ?_
            refine aw_goto (tgt := 89) dX8_isGood_206 (by decide) ?_
            rw [nI_1]
            exact ih (k + 1) A' _ (by omega) (by rw [sg_s, hfar, decide_eq_false hc]; exact d) fr
        by_cases hn : k * b < a * x
        · have en : -(nI (k * b) - nI (a * x)) = nI (a * x - k * b) := by rw [Int32.neg_sub, pk_sub (by omega)]
          refine aw_istore_7 dX8_isGood_109 (by decide) rfl ?_
          refine aw_iload dX8_isGood_111 rfl ?_
          refine aw_if_ge (tgt := 122) dX8_isGood_113 (by decide) (fun c => absurd c (Int32.not_le.mpr (pk_sneg (by omega) hn))) (fun _ => ?_)
          refine aw_iload dX8_isGood_116 rfl ?_
          refine aw_ineg dX8_isGood_118 ?_
          refine aw_goto (tgt := 124) dX8_isGood_119 (by decide) ?_
          rw [en]
          refine aw_istore_7 dX8_isGood_124 (by decide) rfl ?_
          exact fin _ (by rw [if_pos hn])
        · rw [pk_sub (by omega)]
          refine aw_istore_7 dX8_isGood_109 (by decide) rfl ?_
          refine aw_iload dX8_isGood_111 rfl ?_
          refine aw_if_ge (tgt := 122) dX8_isGood_113 (by decide) (fun _ => ?_) (fun c => (c (nI_pos' (by omega))).elim)
          refine aw_iload dX8_isGood_122 rfl ?_
          refine aw_istore_7 dX8_isGood_124 (by decide) rfl ?_
          exact fin _ (by rw [if_neg hn])
    exact loop (x + 1) 0 A1 none (by omega) d1 (fun k hk => f1 k (by omega))
theorem mt_needed (n : Nat) (h : Hp) (m : Nat) (S : TS) (ho w u v wh : Int32) (hR : MRep h m S) (hI : SInv S) : CT mX8_needed 0 0 n h [.ref m, .int ho, .int w, .int u, .int v, .int wh] (MOK n m h (opNeeded S ho w u v wh)) := by
  obtain ⟨h0, A, bo, ki, mo, wt, rfl, B, hA⟩ := id hR
  refine CT.intro [some (.ref m), some (.int ho), some (.int w), some (.int u), some (.int v), some (.int wh), none, none] 2 rfl rfl (by decide) ?_
  intro Q hQ
  have bad : (rg ho 0 1 && (rg w 1 100 && (rg u 0 1000000 && (rg v 1 1000000 && rg wh 0 1)))) = false → AW mX8_needed (gq 0 0 Q) 52 [some (.ref m), some (.int ho), some (.int w), some (.int u), some (.int v), some (.int wh), none, none] [] 0 0 n (mh h0 m A) := by
    intro hb
    refine aw_iconst (v := (-1)) dX8_needed_52 (by decide +kernel) ?_
    refine aw_ireturn dX8_needed_53 rfl rfl (Nat.le_of_ble_eq_true rfl) (Nat.le_of_ble_eq_true rfl) ?_
    exact hQ _ _ _ (bad_ret hR (by unfold opNeeded; rw [hb]; rfl))
  refine aw_iload_n (i := 1) dX8_needed_0 rfl rfl ?_
  refine aw_iconst (v := 0) dX8_needed_1 (by decide +kernel) ?_
  refine aw_iconst (v := 1) dX8_needed_2 (by decide +kernel) ?_
  refine aw_invokestatic kX8_153 dX8_needed_3 (ct_in n (mh h0 m A) ho 0 1 toInt_lit0 toInt_1) rfl rfl (Nat.le_of_ble_eq_true rfl) ⟨Nat.le_of_ble_eq_true rfl, Nat.le_of_ble_eq_true rfl⟩ ⟨Nat.le_of_ble_eq_true rfl, Nat.le_of_ble_eq_true rfl⟩ ?_
  rintro _ _ _ ⟨rfl, rfl, rfl⟩
  by_cases h1 : rg ho 0 1 = true
  case neg =>
    refine aw_if_eq (tgt := 52) dX8_needed_6 (by decide) (fun _ => ?_) (fun c => (c (bI_eq0.mpr (by simpa using h1))).elim)
    exact bad (by simp [h1])
  refine aw_if_eq (tgt := 52) dX8_needed_6 (by decide) (fun c => absurd c (bI_ne0.mpr h1)) (fun _ => ?_)
  refine aw_iload_n (i := 2) dX8_needed_9 rfl rfl ?_
  refine aw_iconst (v := 1) dX8_needed_10 (by decide +kernel) ?_
  refine aw_bipush (v := 100) dX8_needed_11 (by decide +kernel) ?_
  refine aw_invokestatic kX8_153 dX8_needed_13 (ct_in n (mh h0 m A) w 1 100 toInt_1 toInt_100) rfl rfl (Nat.le_of_ble_eq_true rfl) ⟨Nat.le_of_ble_eq_true rfl, Nat.le_of_ble_eq_true rfl⟩ ⟨Nat.le_of_ble_eq_true rfl, Nat.le_of_ble_eq_true rfl⟩ ?_
  rintro _ _ _ ⟨rfl, rfl, rfl⟩
  by_cases h2 : rg w 1 100 = true
  case neg =>
    refine aw_if_eq (tgt := 52) dX8_needed_16 (by decide) (fun _ => ?_) (fun c => (c (bI_eq0.mpr (by simpa using h2))).elim)
    exact bad (by simp [h2])
  refine aw_if_eq (tgt := 52) dX8_needed_16 (by decide) (fun c => absurd c (bI_ne0.mpr h2)) (fun _ => ?_)
  refine aw_iload_n (i := 3) dX8_needed_19 rfl rfl ?_
  refine aw_iconst (v := 0) dX8_needed_20 (by decide +kernel) ?_
  refine aw_ldc_w qX8_271 dX8_needed_21 ?_
  refine aw_invokestatic kX8_153 dX8_needed_24 (ct_in n (mh h0 m A) u 0 1000000 toInt_lit0 toInt_mil) rfl rfl (Nat.le_of_ble_eq_true rfl) ⟨Nat.le_of_ble_eq_true rfl, Nat.le_of_ble_eq_true rfl⟩ ⟨Nat.le_of_ble_eq_true rfl, Nat.le_of_ble_eq_true rfl⟩ ?_
  rintro _ _ _ ⟨rfl, rfl, rfl⟩
  by_cases h3 : rg u 0 1000000 = true
  case neg =>
    refine aw_if_eq (tgt := 52) dX8_needed_27 (by decide) (fun _ => ?_) (fun c => (c (bI_eq0.mpr (by simpa using h3))).elim)
    exact bad (by simp [h3])
  refine aw_if_eq (tgt := 52) dX8_needed_27 (by decide) (fun c => absurd c (bI_ne0.mpr h3)) (fun _ => ?_)
  refine aw_iload dX8_needed_30 rfl ?_
  refine aw_iconst (v := 1) dX8_needed_32 (by decide +kernel) ?_
  refine aw_ldc_w qX8_271 dX8_needed_33 ?_
  refine aw_invokestatic kX8_153 dX8_needed_36 (ct_in n (mh h0 m A) v 1 1000000 toInt_1 toInt_mil) rfl rfl (Nat.le_of_ble_eq_true rfl) ⟨Nat.le_of_ble_eq_true rfl, Nat.le_of_ble_eq_true rfl⟩ ⟨Nat.le_of_ble_eq_true rfl, Nat.le_of_ble_eq_true rfl⟩ ?_
  rintro _ _ _ ⟨rfl, rfl, rfl⟩
  by_cases h4 : rg v 1 1000000 = true
  case neg =>
    refine aw_if_eq (tgt := 52) dX8_needed_39 (by decide) (fun _ => ?_) (fun c => (c (bI_eq0.mpr (by simpa using h4))).elim)
    exact bad (by simp [h4])
  refine aw_if_eq (tgt := 52) dX8_needed_39 (by decide) (fun c => absurd c (bI_ne0.mpr h4)) (fun _ => ?_)
  refine aw_iload dX8_needed_42 rfl ?_
  refine aw_iconst (v := 0) dX8_needed_44 (by decide +kernel) ?_
  refine aw_iconst (v := 1) dX8_needed_45 (by decide +kernel) ?_
  refine aw_invokestatic kX8_153 dX8_needed_46 (ct_in n (mh h0 m A) wh 0 1 toInt_lit0 toInt_1) rfl rfl (Nat.le_of_ble_eq_true rfl) ⟨Nat.le_of_ble_eq_true rfl, Nat.le_of_ble_eq_true rfl⟩ ⟨Nat.le_of_ble_eq_true rfl, Nat.le_of_ble_eq_true rfl⟩ ?_
  rintro _ _ _ ⟨rfl, rfl, rfl⟩
  by_cases h5 : rg wh 0 1 = true
  case neg =>
    refine aw_if_ne (tgt := 54) dX8_needed_49 (by decide) (fun c => absurd c (fun c => c (bI_eq0.mpr (by simpa using h5)))) (fun _ => ?_)
    exact bad (by simp [h5])
  obtain ⟨e1, -, -, q1⟩ := rg_N h1 (by decide)
  obtain ⟨e2, -, -, q2⟩ := rg_N h2 (by decide)
  obtain ⟨e3, -, -, q3⟩ := rg_N h3 (by decide)
  obtain ⟨e4, -, -, q4⟩ := rg_N h4 (by decide)
  obtain ⟨e5, -, -, q5⟩ := rg_N h5 (by decide)
  have hop : opNeeded S ho w u v wh = (if tN wh = 0 then leastG (goodN (sCA S) (sCB S) (tN ho) (tN w) (tN u) (tN v)) 40 (-5) else sinceG (goodN (sCA S) (sCB S) (tN ho) (tN w) (tN u) (tN v)) 40 (-5), S) := by unfold opNeeded; rw [h1, h2, h3, h4, h5]; rfl
  rw [hop] at hQ
  clear bad hop
  generalize tN ho = ho' at *
  generalize tN w = w' at *
  generalize tN u = u' at *
  generalize tN v = v' at *
  generalize tN wh = wh' at *
  subst e1 e2 e3 e4 e5
  have good := fun (A' : Nat → Nat → Nat) (x : Nat) (h1x : 1 ≤ x) (hx : x ≤ 40) => ct_X8_isGood n h0 m A' S bo ki mo wt ho' x w' u' v' B hI (by omega) h1x hx (by omega) (by omega) (by omega)
  generalize hg : goodN (sCA S) (sCB S) ho' w' u' v' = g at *
  have rep : ∀ A' : Nat → Nat → Nat, (∀ k, k = 6 ∨ k = 7 ∨ k = 19 ∨ k = 20 → A' k = A k) → MRep (mh h0 m A') m S := fun A' fr => ⟨h0, A', bo, ki, mo, wt, rfl, B, hA.keep (fr 6 (by decide)) (fr 7 (by decide)) (fr 19 (by decide)) (fr 20 (by decide))⟩
  refine aw_if_ne (tgt := 54) dX8_needed_49 (by decide) (fun _ => ?_) (fun c => ((bI_ne0.mpr h5) c).elim)
  refine aw_bipush (v := (-5)) dX8_needed_54 (by decide +kernel) ?_
  refine aw_istore_6 dX8_needed_56 (by decide) rfl ?_
  refine aw_iload dX8_needed_58 rfl ?_
  by_cases hz : wh' = 0
  · rw [if_pos hz] at hQ
    refine aw_if_ne (tgt := 105) dX8_needed_60 (by decide) (fun c => absurd c (fun c => c (by rw [hz]; rfl))) (fun _ => ?_)
    refine aw_bipush (v := 40) dX8_needed_63 (by decide +kernel) ?_
    refine aw_istore_7 dX8_needed_65 (by decide) rfl ?_
    have loop : ∀ (x : Nat) (f : Int32) (A' : Nat → Nat → Nat), x ≤ 40 → (∀ k, k = 6 ∨ k = 7 ∨ k = 19 ∨ k = 20 → A' k = A k) → leastG g 40 (-5) = leastG g x f → AW mX8_needed (gq 0 0 Q) 67 [some (.ref m), some (.int (nI ho')), some (.int (nI w')), some (.int (nI u')), some (.int (nI v')), some (.int (nI wh')), some (.int f), some (.int (nI x))] [] 0 0 n (mh h0 m A') := by
      intro x
      induction x with
      | zero =>
        intro f A' hx fr hf
        refine aw_iload dX8_needed_67 rfl ?_
        refine aw_iconst (v := 1) dX8_needed_69 (by decide +kernel) ?_
        refine aw_icmp_lt (tgt := 102) dX8_needed_70 (by decide) (fun _ => ?_) (fun c => (c (by decide)).elim)
        refine aw_iload dX8_needed_102 rfl ?_
        refine aw_ireturn dX8_needed_104 rfl rfl (Nat.le_of_ble_eq_true rfl) (Nat.le_of_ble_eq_true rfl) ?_
        exact hQ _ _ _ ⟨rfl, by rw [hf]; rfl, rep A' fr, mfr_mh (fun _ _ => rfl)⟩
      | succ x ih =>
        intro f A' hx fr hf
        refine aw_iload dX8_needed_67 rfl ?_
        refine aw_iconst (v := 1) dX8_needed_69 (by decide +kernel) ?_
        refine aw_icmp_lt (tgt := 102) dX8_needed_70 (by decide) (fun c => absurd c (nI_nlt (b := 1) (by omega) (by omega))) (fun _ => ?_)
        refine aw_aload_n (i := 0) dX8_needed_73 rfl rfl ?_
        refine aw_iload_n (i := 1) dX8_needed_74 rfl rfl ?_
        refine aw_iload dX8_needed_75 rfl ?_
        refine aw_iload_n (i := 2) dX8_needed_77 rfl rfl ?_
        refine aw_iload_n (i := 3) dX8_needed_78 rfl rfl ?_
        refine aw_iload dX8_needed_79 rfl ?_
        refine aw_invokevirtual kX8_272 dX8_needed_81 (by rw [mh_0]; exact B.1) (good A' (x + 1) (by omega) hx) rfl rfl (Nat.le_of_ble_eq_true rfl) ⟨Nat.le_of_ble_eq_true rfl, Nat.le_of_ble_eq_true rfl⟩ ⟨Nat.le_of_ble_eq_true rfl, Nat.le_of_ble_eq_true rfl⟩ ?_
        rintro _ _ _ ⟨rfl, rfl, A2, rfl, f2⟩
        have fr2 : ∀ k, k = 6 ∨ k = 7 ∨ k = 19 ∨ k = 20 → A2 k = A k := fun k hk => by rw [f2 k hk]; exact fr k hk
        by_cases hgx : g (x + 1) = true
        · refine aw_if_eq (tgt := 92) dX8_needed_84 (by decide) (fun c => absurd c (bI_ne0.mpr hgx)) (fun _ => ?_)
          refine aw_iload dX8_needed_87 rfl ?_
          refine aw_goto (tgt := 94) dX8_needed_89 (by decide) ?_
          refine aw_istore_6 dX8_needed_94 (by decide) rfl ?_
          refine aw_iinc_7 (c0 := (-1)) dX8_needed_96 (by decide) (by decide) rfl ?_
          refine aw_goto (tgt := 67) dX8_needed_99 (by decide) ?_
          rw [show nI (x + 1) + (-1) = nI x from pk_m1 x]
          exact ih _ A2 (by omega) fr2 (by rw [hf]; simp only [leastG]; rw [if_pos hgx])
        · refine aw_if_eq (tgt := 92) dX8_needed_84 (by decide) (fun _ => ?_) (fun c => (c (bI_eq0.mpr (by simpa using hgx))).elim)
          refine aw_iload dX8_needed_92 rfl ?_
          refine aw_istore_6 dX8_needed_94 (by decide) rfl ?_
          refine aw_iinc_7 (c0 := (-1)) dX8_needed_96 (by decide) (by decide) rfl ?_
          refine aw_goto (tgt := 67) dX8_needed_99 (by decide) ?_
          rw [show nI (x + 1) + (-1) = nI x from pk_m1 x]
          exact ih _ A2 (by omega) fr2 (by rw [hf]; simp only [leastG]; rw [if_neg hgx])
    exact loop 40 (-5) A (by decide) (fun _ _ => rfl) rfl
  · rw [if_neg hz] at hQ
    refine aw_if_ne (tgt := 105) dX8_needed_60 (by decide) (fun _ => ?_) (fun c => ((nI_ne0 (by omega) (by omega)) c).elim)
    refine aw_bipush (v := 40) dX8_needed_105 (by decide +kernel) ?_
    refine aw_istore_7 dX8_needed_107 (by decide) rfl ?_
    have loop : ∀ (x : Nat) (f : Int32) (A' : Nat → Nat → Nat), x ≤ 40 → (∀ k, k = 6 ∨ k = 7 ∨ k = 19 ∨ k = 20 → A' k = A k) → sinceG g 40 (-5) = sinceG g x f → AW mX8_needed (gq 0 0 Q) 109 [some (.ref m), some (.int (nI ho')), some (.int (nI w')), some (.int (nI u')), some (.int (nI v')), some (.int (nI wh')), some (.int f), some (.int (nI x))] [] 0 0 n (mh h0 m A') := by
      intro x
      induction x with
      | zero =>
        intro f A' hx fr hf
        refine aw_iload dX8_needed_109 rfl ?_
        refine aw_iconst (v := 1) dX8_needed_111 (by decide +kernel) ?_
        refine aw_icmp_lt (tgt := 139) dX8_needed_112 (by decide) (fun _ => ?_) (fun c => (c (by decide)).elim)
        refine aw_iload dX8_needed_139 rfl ?_
        refine aw_ireturn dX8_needed_141 rfl rfl (Nat.le_of_ble_eq_true rfl) (Nat.le_of_ble_eq_true rfl) ?_
        exact hQ _ _ _ ⟨rfl, by rw [hf]; rfl, rep A' fr, mfr_mh (fun _ _ => rfl)⟩
      | succ x ih =>
        intro f A' hx fr hf
        refine aw_iload dX8_needed_109 rfl ?_
        refine aw_iconst (v := 1) dX8_needed_111 (by decide +kernel) ?_
        refine aw_icmp_lt (tgt := 139) dX8_needed_112 (by decide) (fun c => absurd c (nI_nlt (b := 1) (by omega) (by omega))) (fun _ => ?_)
        refine aw_aload_n (i := 0) dX8_needed_115 rfl rfl ?_
        refine aw_iload_n (i := 1) dX8_needed_116 rfl rfl ?_
        refine aw_iload dX8_needed_117 rfl ?_
        refine aw_iload_n (i := 2) dX8_needed_119 rfl rfl ?_
        refine aw_iload_n (i := 3) dX8_needed_120 rfl rfl ?_
        refine aw_iload dX8_needed_121 rfl ?_
        refine aw_invokevirtual kX8_272 dX8_needed_123 (by rw [mh_0]; exact B.1) (good A' (x + 1) (by omega) hx) rfl rfl (Nat.le_of_ble_eq_true rfl) ⟨Nat.le_of_ble_eq_true rfl, Nat.le_of_ble_eq_true rfl⟩ ⟨Nat.le_of_ble_eq_true rfl, Nat.le_of_ble_eq_true rfl⟩ ?_
        rintro _ _ _ ⟨rfl, rfl, A2, rfl, f2⟩
        have fr2 : ∀ k, k = 6 ∨ k = 7 ∨ k = 19 ∨ k = 20 → A2 k = A k := fun k hk => by rw [f2 k hk]; exact fr k hk
        by_cases hgx : g (x + 1) = true
        · refine aw_if_eq (tgt := 139) dX8_needed_126 (by decide) (fun c => absurd c (bI_ne0.mpr hgx)) (fun _ => ?_)
          refine aw_iload dX8_needed_129 rfl ?_
          refine aw_istore_6 dX8_needed_131 (by decide) rfl ?_
          refine aw_iinc_7 (c0 := (-1)) dX8_needed_133 (by decide) (by decide) rfl ?_
          refine aw_goto (tgt := 109) dX8_needed_136 (by decide) ?_
          rw [show nI (x + 1) + (-1) = nI x from pk_m1 x]
          exact ih _ A2 (by omega) fr2 (by rw [hf]; simp only [sinceG]; rw [if_pos hgx])
        · refine aw_if_eq (tgt := 139) dX8_needed_126 (by decide) (fun _ => ?_) (fun c => (c (bI_eq0.mpr (by simpa using hgx))).elim)
          refine aw_iload dX8_needed_139 rfl ?_
          refine aw_ireturn dX8_needed_141 rfl rfl (Nat.le_of_ble_eq_true rfl) (Nat.le_of_ble_eq_true rfl) ?_
          exact hQ _ _ _ ⟨rfl, by rw [hf]; simp only [sinceG]; rw [if_neg hgx], rep A2 fr2, mfr_mh (fun _ _ => rfl)⟩
    exact loop 40 (-5) A (by decide) (fun _ _ => rfl) rfl
