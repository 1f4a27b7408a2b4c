theorem smean_lt {S : TS} {s : Nat} (hI : SInv S) (hs : s < sN S) : smean S s < 2 ^ 263 := by
  have h1 := (hI.2.1.2 s hs).2.1
  have h2 := (hI.2.1.2 s hs).2.2.2
  have h3 : smean S s ≤ sg (fun v => sC S s v * 120) (sT S s + 1) := sg_mono (fun v hv => Nat.mul_le_mul_left _ (by omega))
  rw [sg_mul] at h3
  have h4 : stot S s * 120 < 2 ^ 256 * 128 := by omega
  have h5 : (2 : Nat) ^ 263 = 2 ^ 256 * 128 := by decide +kernel
  unfold stot at h4
  omega
theorem awayN_lt {S : TS} {s v : Nat} (hI : SInv S) (hs : s < sN S) (hv : v ≤ 120) : awayN S s v < 2 ^ 263 := by
  have h1 := smean_lt hI hs
  have h2 := (hI.2.1.2 s hs).2.2.2
  have h3 : stot S s * v ≤ stot S s * 120 := Nat.mul_le_mul_left _ hv
  have h5 : (2 : Nat) ^ 263 = 2 ^ 256 * 128 := by decide +kernel
  unfold awayN
  split <;> omega
theorem ct_X8_weighs (n : Nat) (h0 : Hp) (m : Nat) (A : Nat → Nat → Nat) (S : TS) (bo ki mo wt : Nat → Nat) (s : Nat) (B : MB h0 m S bo ki mo wt) (hA : MA A S bo) (hI : SInv S) (hs : s < sN S) : CT mX8_weighs 0 0 n (mh h0 m A) [.ref m, .int (nI s)] (pv n (fun h' => ∃ A', h' = mh h0 m A' ∧ dg (A' 28) (stot S s) ∧ dg (A' 29) (smean S s) ∧ ∀ k, k ≠ 22 → k ≠ 28 → k ≠ 29 → A' k = A k)) := by
  refine CT.intro [some (.ref m), some (.int (nI s)), none] 1 rfl rfl (by decide) ?_
  intro Q hQ
  have hn16 := hI.2.1.1
  have hT := (hI.2.1.2 s hs).2.1
  have htot := (hI.2.1.2 s hs).2.2.2
  have hmx := (B.2.2.2.2.2.2 s hs).2
  have hmoC : ∀ A' : Nat → Nat → Nat, mh h0 m A' (m + 18) = some (iar 16 mo) := fun A' => by rw [mh_no h0 m A' rfl]; exact B.2.2.2.1
  have hml := smean_lt hI hs
  have w1 : 2 ^ 263 < 2 ^ 2688 := Nat.pow_lt_pow_right (by decide) (by decide)
  refine aw_aload_n (i := 0) dX8_weighs_0 rfl rfl ?_
  refine aw_getfield fX8_93 dX8_weighs_1 (by rw [mh_0]; exact B.1) rfl ?_
  refine aw_aload_n (i := 0) dX8_weighs_4 rfl rfl ?_
  refine aw_getfield fX8_69 dX8_weighs_5 (by rw [mh_0]; exact B.1) rfl ?_
  refine aw_bipush (v := 10) dX8_weighs_8 (by decide +kernel) ?_
  refine aw_iload_n (i := 1) dX8_weighs_10 rfl rfl ?_
  refine aw_imul dX8_weighs_11 ?_
  rw [c10]
  refine aw_bipush (v := 10) dX8_weighs_12 (by decide +kernel) ?_
  refine aw_invokestatic kX8_170 dX8_weighs_14 (mc_loadT n h0 m A S bo 28 s rfl rfl (by decide) hA hI hs) rfl rfl (Nat.le_of_ble_eq_true rfl) ⟨Nat.le_of_ble_eq_true rfl, Nat.le_of_ble_eq_true rfl⟩ ⟨Nat.le_of_ble_eq_true rfl, Nat.le_of_ble_eq_true rfl⟩ ?_
  rintro _ _ _ ⟨rfl, rfl, A1, rfl, d1, f1⟩
  refine aw_aload_n (i := 0) dX8_weighs_17 rfl rfl ?_
  refine aw_getfield fX8_96 dX8_weighs_18 (by rw [mh_0]; exact B.1) rfl ?_
  refine aw_lconst (v := 0) dX8_weighs_21 (by decide) ?_
  refine aw_invokestatic kX8_124 dX8_weighs_22 (mc_become n h0 m A1 29 0 rfl rfl (by decide)) rfl rfl (Nat.le_of_ble_eq_true rfl) ⟨Nat.le_of_ble_eq_true rfl, Nat.le_of_ble_eq_true rfl⟩ ⟨Nat.le_of_ble_eq_true rfl, Nat.le_of_ble_eq_true rfl⟩ ?_
  rintro _ _ _ ⟨rfl, rfl, A2, rfl, d2, f2⟩
  refine aw_iconst (v := 0) dX8_weighs_25 (by decide +kernel) ?_
  refine aw_istore_2 dX8_weighs_26 (by decide) rfl ?_
  have loop : ∀ (j v : Nat) (A' : Nat → Nat → Nat), v + j = sT S s + 1 → dg (A' 28) (stot S s) → dg (A' 29) (sg (fun v => sC S s v * v) v) → (∀ k, k ≠ 22 → k ≠ 28 → k ≠ 29 → A' k = A k) → AW mX8_weighs (gq 0 0 Q) 27 [some (.ref m), some (.int (nI s)), some (.int (nI v))] [] 0 0 n (mh h0 m A') := by
    intro j
    induction j with
    | zero =>
      intro v A' hv e1 e2 fr
      obtain rfl : v = sT S s + 1 := by omega
      refine aw_iload_n (i := 2) dX8_weighs_27 rfl rfl ?_
      refine aw_aload_n (i := 0) dX8_weighs_28 rfl rfl ?_
      refine aw_getfield fX8_63 dX8_weighs_29 (by rw [mh_0]; exact B.1) rfl ?_
      refine aw_iload_n (i := 1) dX8_weighs_32 rfl rfl ?_
      refine aw_iald dX8_weighs_33 s (hmoC _) (nI_toInt (by omega)) (by omega) ?_
      rw [hmx]
      refine aw_icmp_gt (tgt := 81) dX8_weighs_34 (by decide) (fun _ => ?_) (fun c => (c (nI_lt (by omega) (by omega))).elim)
      refine aw_return dX8_weighs_81 rfl (Nat.le_of_ble_eq_true rfl) (Nat.le_of_ble_eq_true rfl) ?_
      exact hQ _ _ _ ⟨rfl, rfl, A', rfl, e1, e2, fr⟩
    | succ j ih =>
      intro v A' hv e1 e2 fr
      have hA' : MA A' S bo := hA.keep (fr 6 (by decide) (by decide) (by decide)) (fr 7 (by decide) (by decide) (by decide)) (fr 19 (by decide) (by decide) (by decide)) (fr 20 (by decide) (by decide) (by decide))
      have hle : sg (fun v => sC S s v * v) (v + 1) ≤ smean S s := sg_le (by omega)
      rw [sg_s] at hle
      refine aw_iload_n (i := 2) dX8_weighs_27 rfl rfl ?_
      refine aw_aload_n (i := 0) dX8_weighs_28 rfl rfl ?_
      refine aw_getfield fX8_63 dX8_weighs_29 (by rw [mh_0]; exact B.1) rfl ?_
      refine aw_iload_n (i := 1) dX8_weighs_32 rfl rfl ?_
      refine aw_iald dX8_weighs_33 s (hmoC _) (nI_toInt (by omega)) (by omega) ?_
      rw [hmx]
      refine aw_icmp_gt (tgt := 81) dX8_weighs_34 (by decide) (fun c => absurd c (nI_nlt (by omega) (by omega))) (fun _ => ?_)
      refine aw_aload_n (i := 0) dX8_weighs_37 rfl rfl ?_
      refine aw_getfield fX8_75 dX8_weighs_38 (by rw [mh_0]; exact B.1) rfl ?_
      refine aw_aload_n (i := 0) dX8_weighs_41 rfl rfl ?_
      refine aw_getfield fX8_66 dX8_weighs_42 (by rw [mh_0]; exact B.1) rfl ?_
      refine aw_iload_n (i := 1) dX8_weighs_45 rfl rfl ?_
      refine aw_iload_n (i := 2) dX8_weighs_46 rfl rfl ?_
      refine aw_invokestatic kX8_187 dX8_weighs_47 (ct_X8_at n (mh h0 m A') s v) rfl rfl (Nat.le_of_ble_eq_true rfl) ⟨Nat.le_of_ble_eq_true rfl, Nat.le_of_ble_eq_true rfl⟩ ⟨Nat.le_of_ble_eq_true rfl, Nat.le_of_ble_eq_true rfl⟩ ?_
      rintro _ _ _ ⟨rfl, rfl, rfl⟩
      refine aw_bipush (v := 10) dX8_weighs_50 (by decide +kernel) ?_
      refine aw_invokestatic kX8_170 dX8_weighs_52 (mc_loadC n h0 m A' S bo 22 s v rfl rfl (by decide) hA' hI hs (by omega)) rfl rfl (Nat.le_of_ble_eq_true rfl) ⟨Nat.le_of_ble_eq_true rfl, Nat.le_of_ble_eq_true rfl⟩ ⟨Nat.le_of_ble_eq_true rfl, Nat.le_of_ble_eq_true rfl⟩ ?_
      rintro _ _ _ ⟨rfl, rfl, A3, rfl, d3, f3⟩
      refine aw_aload_n (i := 0) dX8_weighs_55 rfl rfl ?_
      refine aw_getfield fX8_75 dX8_weighs_56 (by rw [mh_0]; exact B.1) rfl ?_
      refine aw_iload_n (i := 2) dX8_weighs_59 rfl rfl ?_
      refine aw_i2l dX8_weighs_60 rfl ?_
      rw [nI_l (show v < 2 ^ 31 by omega)]
      refine aw_invokestatic kX8_184 dX8_weighs_61 (mc_by n h0 m A3 22 (sC S s v) v rfl rfl d3 (by omega) (by omega)) rfl rfl (Nat.le_of_ble_eq_true rfl) ⟨Nat.le_of_ble_eq_true rfl, Nat.le_of_ble_eq_true rfl⟩ ⟨Nat.le_of_ble_eq_true rfl, Nat.le_of_ble_eq_true rfl⟩ ?_
      rintro _ _ _ ⟨rfl, rfl, A4, rfl, d4, f4⟩
      refine aw_aload_n (i := 0) dX8_weighs_64 rfl rfl ?_
      refine aw_getfield fX8_96 dX8_weighs_65 (by rw [mh_0]; exact B.1) rfl ?_
      refine aw_aload_n (i := 0) dX8_weighs_68 rfl rfl ?_
      refine aw_getfield fX8_75 dX8_weighs_69 (by rw [mh_0]; exact B.1) rfl ?_
      refine aw_invokestatic kX8_191 dX8_weighs_72 (mc_plus n h0 m A4 29 22 _ _ rfl rfl rfl rfl (by decide) (by rw [f4 29 (by decide), f3 29 (by decide)]; exact e2) d4 (by omega)) rfl rfl (Nat.le_of_ble_eq_true rfl) ⟨Nat.le_of_ble_eq_true rfl, Nat.le_of_ble_eq_true rfl⟩ ⟨Nat.le_of_ble_eq_true rfl, Nat.le_of_ble_eq_true rfl⟩ ?_
      rintro _ _ _ ⟨rfl, rfl, A5, rfl, d5, f5⟩
      refine aw_iinc_2 (c0 := 1) dX8_weighs_75 (by decide) (by decide) rfl ?_
      refine aw_goto (tgt := 27) dX8_weighs_78 (by decide) ?_
      rw [nI_1]
      exact ih (v + 1) A5 (by omega) (by rw [f5 28 (by decide), f4 28 (by decide), f3 28 (by decide)]; exact e1) d5 (fun k k1 k2 k3 => by rw [f5 k k3, f4 k k1, f3 k k1]; exact fr k k1 k2 k3)
  exact loop (sT S s + 1) 0 A2 (by omega) (by rw [f2 28 (by decide)]; exact d1) d2 (fun k k1 k2 k3 => by rw [f2 k k3, f1 k k2])
theorem mt_mean (n : Nat) (h : Hp) (m : Nat) (S : TS) (p s : Int32) (hR : MRep h m S) (hI : SInv S) : CT mX8_mean 0 0 n h [.ref m, .int p, .int s] (MOK n m h (opMean S p s)) := by
  obtain ⟨h0, A, bo, ki, mo, wt, rfl, B, hA⟩ := id hR
  refine CT.intro [some (.ref m), some (.int p), some (.int s)] 0 rfl rfl (by decide) ?_
  intro Q hQ
  have bad : (isP p && isS S s) = false → AW mX8_mean (gq 0 0 Q) 15 [some (.ref m), some (.int p), some (.int s)] [] 0 0 n (mh h0 m A) := by
    intro hb
    refine aw_iconst (v := (-1)) dX8_mean_15 (by decide +kernel) ?_
    refine aw_ireturn dX8_mean_16 rfl rfl (Nat.le_of_ble_eq_true rfl) (Nat.le_of_ble_eq_true rfl) ?_
    refine hQ _ _ _ (bad_ret hR ?_)
    unfold opMean; rw [hb]; rfl
  refine aw_iload_n (i := 1) dX8_mean_0 rfl rfl ?_
  refine aw_invokestatic kX8_211 dX8_mean_1 (ct_isP n (mh h0 m A) p) rfl rfl (Nat.le_of_ble_eq_true rfl) ⟨Nat.le_of_ble_eq_true rfl, Nat.le_of_ble_eq_true rfl⟩ ⟨Nat.le_of_ble_eq_true rfl, Nat.le_of_ble_eq_true rfl⟩ ?_
  rintro _ _ _ ⟨rfl, rfl, rfl⟩
  by_cases h1 : isP p = true
  case neg =>
    refine aw_if_eq (tgt := 15) dX8_mean_4 (by decide) (fun _ => ?_) (fun c => (c (bI_eq0.mpr (by simpa using h1))).elim)
    exact bad (by simp [h1])
  refine aw_if_eq (tgt := 15) dX8_mean_4 (by decide) (fun c => absurd c (bI_ne0.mpr h1)) (fun _ => ?_)
  refine aw_aload_n (i := 0) dX8_mean_7 rfl rfl ?_
  refine aw_iload_n (i := 2) dX8_mean_8 rfl rfl ?_
  refine aw_invokevirtual kX8_205 dX8_mean_9 (by rw [mh_0]; exact B.1) (ct_isS n h0 m A S bo ki mo wt s B hI) rfl rfl (Nat.le_of_ble_eq_true rfl) ⟨Nat.le_of_ble_eq_true rfl, Nat.le_of_ble_eq_true rfl⟩ ⟨Nat.le_of_ble_eq_true rfl, Nat.le_of_ble_eq_true rfl⟩ ?_
  rintro _ _ _ ⟨rfl, rfl, rfl⟩
  by_cases h2 : isS S s = true
  case neg =>
    refine aw_if_ne (tgt := 17) dX8_mean_12 (by decide) (fun c => absurd c (fun c => c (bI_eq0.mpr (by simpa using h2)))) (fun _ => ?_)
    exact bad (by simp [h2])
  obtain ⟨ep, hp⟩ := isP_N h1
  obtain ⟨es, hs⟩ := isS_N h2
  have hop : opMean S p s = putP S (tN p) (smean S (tN s)) (stot S (tN s)) := by unfold opMean; rw [h1, h2]; rfl
  rw [hop] at hQ
  generalize tN p = p' at *
  generalize tN s = X at *
  subst ep es
  refine aw_if_ne (tgt := 17) dX8_mean_12 (by decide) (fun _ => ?_) (fun c => ((bI_ne0.mpr h2) c).elim)
  refine aw_aload_n (i := 0) dX8_mean_17 rfl rfl ?_
  refine aw_iload_n (i := 2) dX8_mean_18 rfl rfl ?_
  refine aw_invokevirtual kX8_218 dX8_mean_19 (by rw [mh_0]; exact B.1) (ct_X8_weighs n h0 m A S bo ki mo wt X B hA hI hs) rfl rfl (Nat.le_of_ble_eq_true rfl) ⟨Nat.le_of_ble_eq_true rfl, Nat.le_of_ble_eq_true rfl⟩ ⟨Nat.le_of_ble_eq_true rfl, Nat.le_of_ble_eq_true rfl⟩ ?_
  rintro _ _ _ ⟨rfl, rfl, A1, rfl, d28, d29, f1⟩
  refine aw_aload_n (i := 0) dX8_mean_22 rfl rfl ?_
  refine aw_getfield fX8_35 dX8_mean_23 (by rw [mh_0]; exact B.1) rfl ?_
  refine aw_aload_n (i := 0) dX8_mean_26 rfl rfl ?_
  refine aw_getfield fX8_96 dX8_mean_27 (by rw [mh_0]; exact B.1) rfl ?_
  refine aw_invokestatic kX8_128 dX8_mean_30 (mc_copy n h0 m A1 9 29 _ rfl rfl rfl rfl (by decide) d29) rfl rfl (Nat.le_of_ble_eq_true rfl) ⟨Nat.le_of_ble_eq_true rfl, Nat.le_of_ble_eq_true rfl⟩ ⟨Nat.le_of_ble_eq_true rfl, Nat.le_of_ble_eq_true rfl⟩ ?_
  rintro _ _ _ ⟨rfl, rfl, A2, rfl, d2, f2⟩
  refine aw_aload_n (i := 0) dX8_mean_33 rfl rfl ?_
  refine aw_getfield fX8_38 dX8_mean_34 (by rw [mh_0]; exact B.1) rfl ?_
  refine aw_aload_n (i := 0) dX8_mean_37 rfl rfl ?_
  refine aw_getfield fX8_93 dX8_mean_38 (by rw [mh_0]; exact B.1) rfl ?_
  refine aw_invokestatic kX8_128 dX8_mean_41 (mc_copy n h0 m A2 10 28 _ rfl rfl rfl rfl (by decide) (by rw [f2 28 (by decide)]; exact d28)) rfl rfl (Nat.le_of_ble_eq_true rfl) ⟨Nat.le_of_ble_eq_true rfl, Nat.le_of_ble_eq_true rfl⟩ ⟨Nat.le_of_ble_eq_true rfl, Nat.le_of_ble_eq_true rfl⟩ ?_
  rintro _ _ _ ⟨rfl, rfl, A3, rfl, d3, f3⟩
  refine aw_aload_n (i := 0) dX8_mean_44 rfl rfl ?_
  refine aw_iload_n (i := 1) dX8_mean_45 rfl rfl ?_
  refine aw_invokevirtual kX8_214 dX8_mean_46 (by rw [mh_0]; exact B.1) (ct_X8_give n h0 m A3 bo p' _ _ hp B.ob B.2.1 (by rw [f3 9 (by decide)]; exact d2) d3 (hI.2.1.2 X hs).2.2.1) rfl rfl (Nat.le_of_ble_eq_true rfl) ⟨Nat.le_of_ble_eq_true rfl, Nat.le_of_ble_eq_true rfl⟩ ⟨Nat.le_of_ble_eq_true rfl, Nat.le_of_ble_eq_true rfl⟩ ?_
  rintro r _ h' ⟨rfl, hg⟩
  have hOK := gave_rep (n := n) (h := mh h0 m A) B hA hp (fun k hk => by rw [f3 k (by omega), f2 k (by omega), f1 k (by omega) (by omega) (by omega)]) (fun y hy => (mh_fr hy).symm) hg
  obtain ⟨-, hr, -⟩ := id hOK
  subst hr
  refine aw_ireturn dX8_mean_49 rfl rfl (Nat.le_of_ble_eq_true rfl) (Nat.le_of_ble_eq_true rfl) ?_
  exact hQ _ _ _ hOK
/-- away: T and M lie in 28 and 29 -/
def awG (T M v : Nat) : Nat := if M < T * v then T * v - M else M - T * v
theorem ct_X8_away (n : Nat) (h0 : Hp) (m : Nat) (A : Nat → Nat → Nat) (i T M v : Nat) (hm : mob h0 m) (hi : lidx i = true) (li : mlen i = 96) (i23 : i ≠ 23) (i28 : i ≠ 28) (i29 : i ≠ 29) (hv : v ≤ 120) (d28 : dg (A 28) T) (d29 : dg (A 29) M) (hT : T < 2 ^ 263) : CT mX8_away 0 0 n (mh h0 m A) [.ref m, .ref (m + i), .int (nI v)] (fun r n' h' => n = n' ∧ r = some (.int (bI (decide (M < T * v)))) ∧ ∃ A', h' = mh h0 m A' ∧ dg (A' i) (awG T M v) ∧ ∀ k, k ≠ i → k ≠ 23 → A' k = A k) := by
  obtain ⟨so, we, ba, ca, cb, lc, ld, le, hm⟩ := hm
  refine CT.intro [some (.ref m), some (.ref (m + i)), some (.int (nI v))] 0 rfl rfl (by decide) ?_
  intro Q hQ
  have w1 : 2 ^ 263 * 120 < 2 ^ 2688 := by decide +kernel
  have w2 : T * v ≤ T * 120 := Nat.mul_le_mul_left _ hv
  refine aw_aload_n (i := 1) dX8_away_0 rfl rfl ?_
  refine aw_aload_n (i := 0) dX8_away_1 rfl rfl ?_
  refine aw_getfield fX8_93 dX8_away_2 (by rw [mh_0]; exact hm) rfl ?_
  refine aw_invokestatic kX8_128 dX8_away_5 (mc_copy n h0 m A i 28 T hi li rfl rfl (Ne.symm i28) d28) rfl rfl (Nat.le_of_ble_eq_true rfl) ⟨Nat.le_of_ble_eq_true rfl, Nat.le_of_ble_eq_true rfl⟩ ⟨Nat.le_of_ble_eq_true rfl, Nat.le_of_ble_eq_true rfl⟩ ?_
  rintro _ _ _ ⟨rfl, rfl, A1, rfl, d1, f1⟩
  refine aw_aload_n (i := 1) dX8_away_8 rfl rfl ?_
  refine aw_iload_n (i := 2) dX8_away_9 rfl rfl ?_
  refine aw_i2l dX8_away_10 rfl ?_
  rw [nI_l (show v < 2 ^ 31 by omega)]
  refine aw_invokestatic kX8_184 dX8_away_11 (mc_by n h0 m A1 i T v hi li d1 (by omega) (by omega)) rfl rfl (Nat.le_of_ble_eq_true rfl) ⟨Nat.le_of_ble_eq_true rfl, Nat.le_of_ble_eq_true rfl⟩ ⟨Nat.le_of_ble_eq_true rfl, Nat.le_of_ble_eq_true rfl⟩ ?_
  rintro _ _ _ ⟨rfl, rfl, A2, rfl, d2, f2⟩
  have e29 : dg (A2 29) M := by rw [f2 29 (Ne.symm i29), f1 29 (Ne.symm i29)]; exact d29
  refine aw_aload_n (i := 1) dX8_away_14 rfl rfl ?_
  refine aw_aload_n (i := 0) dX8_away_15 rfl rfl ?_
  refine aw_getfield fX8_96 dX8_away_16 (by rw [mh_0]; exact hm) rfl ?_
  refine aw_invokestatic kX8_136 dX8_away_19 (mc_compare n h0 m A2 i 29 _ M hi li rfl rfl d2 e29) rfl rfl (Nat.le_of_ble_eq_true rfl) ⟨Nat.le_of_ble_eq_true rfl, Nat.le_of_ble_eq_true rfl⟩ ⟨Nat.le_of_ble_eq_true rfl, Nat.le_of_ble_eq_true rfl⟩ ?_
  rintro _ _ _ ⟨rfl, rfl, rfl⟩
  by_cases hc : M < T * v
  · refine aw_if_le (tgt := 35) dX8_away_22 (by decide) (fun c => absurd c (fun q => by have := cmp_le0.mp q; omega)) (fun _ => ?_)
    refine aw_aload_n (i := 1) dX8_away_25 rfl rfl ?_
    refine aw_aload_n (i := 0) dX8_away_26 rfl rfl ?_
    refine aw_getfield fX8_96 dX8_away_27 (by rw [mh_0]; exact hm) rfl ?_
    refine aw_invokestatic kX8_140 dX8_away_30 (mc_minus n h0 m A2 i 29 _ M hi li rfl rfl (Ne.symm i29) d2 e29 (by omega)) rfl rfl (Nat.le_of_ble_eq_true rfl) ⟨Nat.le_of_ble_eq_true rfl, Nat.le_of_ble_eq_true rfl⟩ ⟨Nat.le_of_ble_eq_true rfl, Nat.le_of_ble_eq_true rfl⟩ ?_
    rintro _ _ _ ⟨rfl, rfl, A3, rfl, d3, f3⟩
    refine aw_iconst (v := 1) dX8_away_33 (by decide +kernel) ?_
    refine aw_ireturn dX8_away_34 rfl rfl (Nat.le_of_ble_eq_true rfl) (Nat.le_of_ble_eq_true rfl) ?_
    exact hQ _ _ _ ⟨rfl, by simp [hc, bI], A3, rfl, by unfold awG; rw [if_pos hc]; exact d3, fun k k1 _ => by rw [f3 k k1, f2 k k1, f1 k k1]⟩
  · refine aw_if_le (tgt := 35) dX8_away_22 (by decide) (fun _ => ?_) (fun c => (c (cmp_le0.mpr (by omega))).elim)
    refine aw_aload_n (i := 0) dX8_away_35 rfl rfl ?_
    refine aw_getfield fX8_78 dX8_away_36 (by rw [mh_0]; exact hm) rfl ?_
    refine aw_aload_n (i := 0) dX8_away_39 rfl rfl ?_
    refine aw_getfield fX8_96 dX8_away_40 (by rw [mh_0]; exact hm) rfl ?_
    refine aw_invokestatic kX8_128 dX8_away_43 (mc_copy n h0 m A2 23 29 M rfl rfl rfl rfl (by decide) e29) rfl rfl (Nat.le_of_ble_eq_true rfl) ⟨Nat.le_of_ble_eq_true rfl, Nat.le_of_ble_eq_true rfl⟩ ⟨Nat.le_of_ble_eq_true rfl, Nat.le_of_ble_eq_true rfl⟩ ?_
    rintro _ _ _ ⟨rfl, rfl, A3, rfl, d3, f3⟩
    refine aw_aload_n (i := 0) dX8_away_46 rfl rfl ?_
    refine aw_getfield fX8_78 dX8_away_47 (by rw [mh_0]; exact hm) rfl ?_
    refine aw_aload_n (i := 1) dX8_away_50 rfl rfl ?_
    refine aw_invokestatic kX8_140 dX8_away_51 (mc_minus n h0 m A3 23 i M (T * v) rfl rfl hi li i23 d3 (by rw [f3 i i23]; exact d2) (by omega)) rfl rfl (Nat.le_of_ble_eq_true rfl) ⟨Nat.le_of_ble_eq_true rfl, Nat.le_of_ble_eq_true rfl⟩ ⟨Nat.le_of_ble_eq_true rfl, Nat.le_of_ble_eq_true rfl⟩ ?_
    rintro _ _ _ ⟨rfl, rfl, A4, rfl, d4, f4⟩
    refine aw_aload_n (i := 1) dX8_away_54 rfl rfl ?_
    refine aw_aload_n (i := 0) dX8_away_55 rfl rfl ?_
    refine aw_getfield fX8_78 dX8_away_56 (by rw [mh_0]; exact hm) rfl ?_
    refine aw_invokestatic kX8_128 dX8_away_59 (mc_copy n h0 m A4 i 23 _ hi li rfl rfl (Ne.symm i23) d4) rfl rfl (Nat.le_of_ble_eq_true rfl) ⟨Nat.le_of_ble_eq_true rfl, Nat.le_of_ble_eq_true rfl⟩ ⟨Nat.le_of_ble_eq_true rfl, Nat.le_of_ble_eq_true rfl⟩ ?_
    rintro _ _ _ ⟨rfl, rfl, A5, rfl, d5, f5⟩
    refine aw_iconst (v := 0) dX8_away_62 (by decide +kernel) ?_
    refine aw_ireturn dX8_away_63 rfl rfl (Nat.le_of_ble_eq_true rfl) (Nat.le_of_ble_eq_true rfl) ?_
    exact hQ _ _ _ ⟨rfl, by simp [hc, bI], A5, rfl, by unfold awG; rw [if_neg hc]; exact d5, fun k k1 k2 => by rw [f5 k k1, f4 k k2, f3 k k2, f2 k k1, f1 k k1]⟩
theorem awG_S (S : TS) (s v : Nat) : awG (stot S s) (smean S s) v = awayN S s v := rfl
theorem smom_lt {S : TS} {s e : Nat} (hI : SInv S) (hs : s < sN S) (he : e ≤ 4) : smom S s e < 2 ^ 1344 := by
  have h1 := (hI.2.1.2 s hs).2.1
  have h2 := (hI.2.1.2 s hs).2.2.2
  have h3 : smom S s e ≤ sg (fun v => sC S s v * 2 ^ 1052) (sT S s + 1) := by
    refine sg_mono (fun v hv => Nat.mul_le_mul_left _ ?_)
    have a1 := awayN_lt hI hs (show v ≤ 120 by omega)
    have a2 : awayN S s v ^ e ≤ (2 ^ 263) ^ e := Nat.pow_le_pow_left (Nat.le_of_lt a1) e
    have a3 : (2 ^ 263) ^ e ≤ (2 ^ 263) ^ 4 := Nat.pow_le_pow_right (by decide) he
    have a4 : ((2 : Nat) ^ 263) ^ 4 = 2 ^ 1052 := by rw [← Nat.pow_mul]
    omega
  rw [sg_mul] at h3
  have h4 : stot S s * 2 ^ 1052 ≤ 2 ^ 256 * 2 ^ 1052 := Nat.mul_le_mul_right _ (Nat.le_of_lt h2)
  have h5 : (2 : Nat) ^ 256 * 2 ^ 1052 < 2 ^ 1344 := by rw [← Nat.pow_add]; exact Nat.pow_lt_pow_right (by decide) (by decide)
  unfold stot at h4
  omega
theorem ct_X8_moments (n : Nat) (h0 : Hp) (m : Nat) (A : Nat → Nat → Nat) (S : TS) (bo ki mo wt : Nat → Nat) (s e : Nat) (B : MB h0 m S bo ki mo wt) (hA : MA A S bo) (hI : SInv S) (hs : s < sN S) (he : e = 2 ∨ e = 4) (d28 : dg (A 28) (stot S s)) (d29 : dg (A 29) (smean S s)) : CT mX8_moments 0 0 n (mh h0 m A) [.ref m, .int (nI s), .int (nI e)] (pv n (fun h' => ∃ A', h' = mh h0 m A' ∧ dg (A' 25) (smom S s e) ∧ ∀ k, k ≠ 22 → k ≠ 23 → k ≠ 24 → k ≠ 25 → A' k = A k)) := by
  refine CT.intro [some (.ref m), some (.int (nI s)), some (.int (nI e)), none, none] 2 rfl rfl (by decide) ?_
  intro Q hQ
  have hn16 := hI.2.1.1
  have hT := (hI.2.1.2 s hs).2.1
  have htot := (hI.2.1.2 s hs).2.2.2
  have hmx := (B.2.2.2.2.2.2 s hs).2
  have hmoC : ∀ A' : Nat → Nat → Nat, mh h0 m A' (m + 18) = some (iar 16 mo) := fun A' => by rw [mh_no h0 m A' rfl]; exact B.2.2.2.1
  have hmom := smom_lt (e := e) hI hs (by omega)
  have w1 : 2 ^ 1344 < 2 ^ 2688 := Nat.pow_lt_pow_right (by decide) (by decide)
  have w2 : 2 ^ 256 < 2 ^ 263 := Nat.pow_lt_pow_right (by decide) (by decide)
  have w3 : 2 ^ 263 < 2 ^ (28 * 20) := Nat.pow_lt_pow_right (by decide) (by decide)
  have w4 : (2 ^ 263) * (2 ^ 263) < 2 ^ (28 * 20) := by rw [← Nat.pow_add]; exact Nat.pow_lt_pow_right (by decide) (by decide)
  have w5 : (2 ^ 263) ^ 4 < 2 ^ (28 * 48) := by rw [← Nat.pow_mul]; exact Nat.pow_lt_pow_right (by decide) (by decide)
  have w6 : 2 ^ 256 < 2 ^ (28 * 10) := Nat.pow_lt_pow_right (by decide) (by decide)
  refine aw_aload_n (i := 0) dX8_moments_0 rfl rfl ?_
  refine aw_getfield fX8_84 dX8_moments_1 (by rw [mh_0]; exact B.1) rfl ?_
  refine aw_lconst (v := 0) dX8_moments_4 (by decide) ?_
  refine aw_invokestatic kX8_124 dX8_moments_5 (mc_become n h0 m A 25 0 rfl rfl (by decide)) rfl rfl (Nat.le_of_ble_eq_true rfl) ⟨Nat.le_of_ble_eq_true rfl, Nat.le_of_ble_eq_true rfl⟩ ⟨Nat.le_of_ble_eq_true rfl, Nat.le_of_ble_eq_true rfl⟩ ?_
  rintro _ _ _ ⟨rfl, rfl, A1, rfl, d1, f1⟩
  refine aw_iconst (v := 0) dX8_moments_8 (by decide +kernel) ?_
  refine aw_istore_3 dX8_moments_9 (by decide) rfl ?_
  have loop : ∀ (j v : Nat) (A' : Nat → Nat → Nat) (y : Option Value), v + j = sT S s + 1 → dg (A' 25) (sg (fun v => sC S s v * awayN S s v ^ e) v) → (∀ k, k ≠ 22 → k ≠ 23 → k ≠ 24 → k ≠ 25 → A' k = A k) → AW mX8_moments (gq 0 0 Q) 10 [some (.ref m), some (.int (nI s)), some (.int (nI e)), some (.int (nI v)), y] [] 0 0 n (mh h0 m A') := by
    intro j
    induction j with
    | zero =>
      intro v A' y hv d fr
      obtain rfl : v = sT S s + 1 := by omega
      refine aw_iload_n (i := 3) dX8_moments_10 rfl rfl ?_
      refine aw_aload_n (i := 0) dX8_moments_11 rfl rfl ?_
      refine aw_getfield fX8_63 dX8_moments_12 (by rw [mh_0]; exact B.1) rfl ?_
      refine aw_iload_n (i := 1) dX8_moments_15 rfl rfl ?_
      refine aw_iald dX8_moments_16 s (hmoC _) (nI_toInt (by omega)) (by omega) ?_
      rw [hmx]
      refine aw_icmp_gt (tgt := 127) dX8_moments_17 (by decide) (fun _ => ?_) (fun c => (c (nI_lt (by omega) (by omega))).elim)
      refine aw_return dX8_moments_127 rfl (Nat.le_of_ble_eq_true rfl) (Nat.le_of_ble_eq_true rfl) ?_
      exact hQ _ _ _ ⟨rfl, rfl, A', rfl, d, fr⟩
    | succ j ih =>
      intro v A' y hv d fr
      have hle : sg (fun v => sC S s v * awayN S s v ^ e) (v + 1) ≤ smom S s e := sg_le (by omega)
      rw [sg_s] at hle
      have haw := awayN_lt hI hs (show v ≤ 120 by omega)
      have hcn := cnt_le (S := S) (s := s) (v := v) (by omega)
      refine aw_iload_n (i := 3) dX8_moments_10 rfl rfl ?_
      refine aw_aload_n (i := 0) dX8_moments_11 rfl rfl ?_
      refine aw_getfield fX8_63 dX8_moments_12 (by rw [mh_0]; exact B.1) rfl ?_
      refine aw_iload_n (i := 1) dX8_moments_15 rfl rfl ?_
      refine aw_iald dX8_moments_16 s (hmoC _) (nI_toInt (by omega)) (by omega) ?_
      rw [hmx]
      refine aw_icmp_gt (tgt := 127) dX8_moments_17 (by decide) (fun c => absurd c (nI_nlt (by omega) (by omega))) (fun _ => ?_)
      refine aw_aload_n (i := 0) dX8_moments_20 rfl rfl ?_
      refine aw_aload_n (i := 0) dX8_moments_21 rfl rfl ?_
      refine aw_getfield fX8_75 dX8_moments_22 (by rw [mh_0]; exact B.1) rfl ?_
      refine aw_iload_n (i := 3) dX8_moments_25 rfl rfl ?_
      refine aw_invokevirtual kX8_222 dX8_moments_26 (by rw [mh_0]; exact B.1) (ct_X8_away n h0 m A' 22 _ _ v B.ob rfl rfl (by decide) (by decide) (by decide) (by omega) (by rw [fr 28 (by decide) (by decide) (by decide) (by decide)]; exact d28) (by rw [fr 29 (by decide) (by decide) (by decide) (by decide)]; exact d29) (by omega)) rfl rfl (Nat.le_of_ble_eq_true rfl) ⟨Nat.le_of_ble_eq_true rfl, Nat.le_of_ble_eq_true rfl⟩ ⟨Nat.le_of_ble_eq_true rfl, Nat.le_of_ble_eq_true rfl⟩ ?_
      rintro _ _ _ ⟨rfl, rfl, A2, rfl, d2, f2⟩
      rw [awG_S] at d2
      refine aw_istore_4 dX8_moments_29 (by decide) rfl ?_
      generalize hy4 : some (Value.int (bI (decide (smean S s < stot S s * v)))) = y4
      refine aw_aload_n (i := 0) dX8_moments_31 rfl rfl ?_
      refine aw_getfield fX8_78 dX8_moments_32 (by rw [mh_0]; exact B.1) rfl ?_
      refine aw_aload_n (i := 0) dX8_moments_35 rfl rfl ?_
      refine aw_getfield fX8_75 dX8_moments_36 (by rw [mh_0]; exact B.1) rfl ?_
      refine aw_aload_n (i := 0) dX8_moments_39 rfl rfl ?_
      refine aw_getfield fX8_75 dX8_moments_40 (by rw [mh_0]; exact B.1) rfl ?_
      refine aw_invokestatic kX8_174 dX8_moments_43 (mc_times n h0 m A2 23 22 22 _ _ 20 20 rfl rfl rfl rfl rfl rfl (by decide) (by decide) d2 d2 (by omega) (by omega) (by decide)) rfl rfl (Nat.le_of_ble_eq_true rfl) ⟨Nat.le_of_ble_eq_true rfl, Nat.le_of_ble_eq_true rfl⟩ ⟨Nat.le_of_ble_eq_true rfl, Nat.le_of_ble_eq_true rfl⟩ ?_
      rintro _ _ _ ⟨rfl, rfl, A3, rfl, d3, f3⟩
      have hsq : awayN S s v * awayN S s v < 2 ^ (28 * 20) := Nat.lt_of_le_of_lt (Nat.mul_le_mul (Nat.le_of_lt haw) (Nat.le_of_lt haw)) w4
      -- the power lies in 23
      have fin : ∀ A4 : Nat → Nat → Nat, dg (A4 23) (awayN S s v ^ e) → dg (A4 25) (sg (fun v => sC S s v * awayN S s v ^ e) v) → (∀ k, k ≠ 22 → k ≠ 23 → k ≠ 24 → k ≠ 25 → A4 k = A k) → AW mX8_moments (gq 0 0 Q) 77 [some (.ref m), some (.int (nI s)), some (.int (nI e)), some (.int (nI v)), y4] [] 0 0 n (mh h0 m A4) := by
        intro A4 d4 d5 fr4
        have hA4 : MA A4 S bo := hA.keep (fr4 6 (by decide) (by decide) (by decide) (by decide)) (fr4 7 (by decide) (by decide) (by decide) (by decide)) (fr4 19 (by decide) (by decide) (by decide) (by decide)) (fr4 20 (by decide) (by decide) (by decide) (by decide))
        have hpw : awayN S s v ^ e < 2 ^ (28 * 48) := by
          have a2 : awayN S s v ^ e ≤ (2 ^ 263) ^ e := Nat.pow_le_pow_left (Nat.le_of_lt haw) e
          have a3 : (2 ^ 263) ^ e ≤ (2 ^ 263) ^ 4 := Nat.pow_le_pow_right (by decide) (by omega)
          omega
        refine aw_aload_n (i := 0) dX8_moments_77 rfl rfl ?_
        refine aw_getfield fX8_75 dX8_moments_78 (by rw [mh_0]; exact B.1) rfl ?_
        refine aw_aload_n (i := 0) dX8_moments_81 rfl rfl ?_
        refine aw_getfield fX8_66 dX8_moments_82 (by rw [mh_0]; exact B.1) rfl ?_
        refine aw_iload_n (i := 1) dX8_moments_85 rfl rfl ?_
        refine aw_iload_n (i := 3) dX8_moments_86 rfl rfl ?_
        refine aw_invokestatic kX8_187 dX8_moments_87 (ct_X8_at n (mh h0 m A4) s v) rfl rfl (Nat.le_of_ble_eq_true rfl) ⟨Nat.le_of_ble_eq_true rfl, Nat.le_of_ble_eq_true rfl⟩ ⟨Nat.le_of_ble_eq_true rfl, Nat.le_of_ble_eq_true rfl⟩ ?_
        rintro _ _ _ ⟨rfl, rfl, rfl⟩
        refine aw_bipush (v := 10) dX8_moments_90 (by decide +kernel) ?_
        refine aw_invokestatic kX8_170 dX8_moments_92 (mc_loadC n h0 m A4 S bo 22 s v rfl rfl (by decide) hA4 hI hs (by omega)) rfl rfl (Nat.le_of_ble_eq_true rfl) ⟨Nat.le_of_ble_eq_true rfl, Nat.le_of_ble_eq_true rfl⟩ ⟨Nat.le_of_ble_eq_true rfl, Nat.le_of_ble_eq_true rfl⟩ ?_
        rintro _ _ _ ⟨rfl, rfl, A5, rfl, d6, f6⟩
        refine aw_aload_n (i := 0) dX8_moments_95 rfl rfl ?_
        refine aw_getfield fX8_81 dX8_moments_96 (by rw [mh_0]; exact B.1) rfl ?_
        refine aw_aload_n (i := 0) dX8_moments_99 rfl rfl ?_
        refine aw_getfield fX8_75 dX8_moments_100 (by rw [mh_0]; exact B.1) rfl ?_
        refine aw_aload_n (i := 0) dX8_moments_103 rfl rfl ?_
        refine aw_getfield fX8_78 dX8_moments_104 (by rw [mh_0]; exact B.1) rfl ?_
        refine aw_invokestatic kX8_174 dX8_moments_107 (mc_times n h0 m A5 24 22 23 _ _ 10 48 rfl rfl rfl rfl rfl rfl (by decide) (by decide) d6 (by rw [f6 23 (by decide)]; exact d4) (by omega) hpw (by decide)) rfl rfl (Nat.le_of_ble_eq_true rfl) ⟨Nat.le_of_ble_eq_true rfl, Nat.le_of_ble_eq_true rfl⟩ ⟨Nat.le_of_ble_eq_true rfl, Nat.le_of_ble_eq_true rfl⟩ ?_
        rintro _ _ _ ⟨rfl, rfl, A6, rfl, d7, f7⟩
        refine aw_aload_n (i := 0) dX8_moments_110 rfl rfl ?_
        refine aw_getfield fX8_84 dX8_moments_111 (by rw [mh_0]; exact B.1) rfl ?_
        refine aw_aload_n (i := 0) dX8_moments_114 rfl rfl ?_
        refine aw_getfield fX8_81 dX8_moments_115 (by rw [mh_0]; exact B.1) rfl ?_
        refine aw_invokestatic kX8_191 dX8_moments_118 (mc_plus n h0 m A6 25 24 _ _ rfl rfl rfl rfl (by decide) (by rw [f7 25 (by decide), f6 25 (by decide)]; exact d5) d7 (by omega)) rfl rfl (Nat.le_of_ble_eq_true rfl) ⟨Nat.le_of_ble_eq_true rfl, Nat.le_of_ble_eq_true rfl⟩ ⟨Nat.le_of_ble_eq_true rfl, Nat.le_of_ble_eq_true rfl⟩ ?_
        rintro _ _ _ ⟨rfl, rfl, A7, rfl, d8, f8⟩
        refine aw_iinc_3 (c0 := 1) dX8_moments_121 (by decide) (by decide) rfl ?_
        refine aw_goto (tgt := 10) dX8_moments_124 (by decide) ?_
        rw [nI_1]
        exact ih (v + 1) A7 _ (by omega) d8 (fun k k1 k2 k3 k4 => by rw [f8 k k4, f7 k k3, f6 k k1]; exact fr4 k k1 k2 k3 k4)
      have fr3 : ∀ k, k ≠ 22 → k ≠ 23 → A3 k = A' k := fun k k1 k2 => by rw [f3 k k2, f2 k k1 k2]
      refine aw_iload_n (i := 2) dX8_moments_46 rfl rfl ?_
      refine aw_iconst (v := 4) dX8_moments_47 (by decide +kernel) ?_
      rcases he with rfl | rfl
      · refine aw_icmp_ne (tgt := 77) dX8_moments_48 (by decide) (fun _ => ?_) (fun c => ((show ¬ nI 2 = 4 by decide) c).elim)
        exact fin A3 (by rw [Nat.pow_two]; exact d3) (by rw [fr3 25 (by decide) (by decide)]; exact d) (fun k k1 k2 k3 k4 => by rw [fr3 k k1 k2]; exact fr k k1 k2 k3 k4)
      · refine aw_icmp_ne (tgt := 77) dX8_moments_48 (by decide) (fun c => absurd c (fun c => c rfl)) (fun _ => ?_)
        refine aw_aload_n (i := 0) dX8_moments_51 rfl rfl ?_
        refine aw_getfield fX8_81 dX8_moments_52 (by rw [mh_0]; exact B.1) rfl ?_
        refine aw_aload_n (i := 0) dX8_moments_55 rfl rfl ?_
        refine aw_getfield fX8_78 dX8_moments_56 (by rw [mh_0]; exact B.1) rfl ?_
        refine aw_aload_n (i := 0) dX8_moments_59 rfl rfl ?_
        refine aw_getfield fX8_78 dX8_moments_60 (by rw [mh_0]; exact B.1) rfl ?_
        refine aw_invokestatic kX8_174 dX8_moments_63 (mc_times n h0 m A3 24 23 23 _ _ 20 20 rfl rfl rfl rfl rfl rfl (by decide) (by decide) d3 d3 hsq hsq (by decide)) rfl rfl (Nat.le_of_ble_eq_true rfl) ⟨Nat.le_of_ble_eq_true rfl, Nat.le_of_ble_eq_true rfl⟩ ⟨Nat.le_of_ble_eq_true rfl, Nat.le_of_ble_eq_true rfl⟩ ?_
        rintro _ _ _ ⟨rfl, rfl, A4, rfl, d4, f4⟩
        refine aw_aload_n (i := 0) dX8_moments_66 rfl rfl ?_
        refine aw_getfield fX8_78 dX8_moments_67 (by rw [mh_0]; exact B.1) rfl ?_
        refine aw_aload_n (i := 0) dX8_moments_70 rfl rfl ?_
        refine aw_getfield fX8_81 dX8_moments_71 (by rw [mh_0]; exact B.1) rfl ?_
        refine aw_invokestatic kX8_128 dX8_moments_74 (mc_copy n h0 m A4 23 24 _ rfl rfl rfl rfl (by decide) d4) rfl rfl (Nat.le_of_ble_eq_true rfl) ⟨Nat.le_of_ble_eq_true rfl, Nat.le_of_ble_eq_true rfl⟩ ⟨Nat.le_of_ble_eq_true rfl, Nat.le_of_ble_eq_true rfl⟩ ?_
        rintro _ _ _ ⟨rfl, rfl, A5, rfl, d5, f5⟩
        refine fin A5 ?_ (by rw [f5 25 (by decide), f4 25 (by decide), fr3 25 (by decide) (by decide)]; exact d) (fun k k1 k2 k3 k4 => by rw [f5 k k2, f4 k k3, fr3 k k1 k2]; exact fr k k1 k2 k3 k4)
        rw [show awayN S s v ^ 4 = awayN S s v * awayN S s v * (awayN S s v * awayN S s v) by rw [show (4 : Nat) = 2 + 2 from rfl, Nat.pow_add, Nat.pow_two]]
        exact d5
  exact loop (sT S s + 1) 0 A1 none (by omega) d1 (fun k _ _ _ k4 => f1 k k4)
