theorem MA.keepC {A A' : Nat → Nat → Nat} {S : TS} {bo : Nat → Nat} (h : MA A S bo) (hI : SInv S) (e19 : ∀ i, i < 1210 * sN S → A' 19 i = A 19 i) (e6 : A' 6 = A 6) (e7 : A' 7 = A 7) (e20 : A' 20 = A 20) : MA A' S bo := by
  refine ⟨fun s hs => ?_, fun p hp => ?_⟩
  · have h3 := (hI.2.1.2 s hs).2.1
    rw [e20]
    exact ⟨(h.1 s hs).1, fun v hv => mD_congr ((h.1 s hs).2 v hv) (fun i h1 h2 => e19 i (by omega))⟩
  · have := h.2 p hp
    unfold plc at *
    rw [e6, e7]; exact this
theorem mc_storeC (n : Nat) (h0 : Hp) (m : Nat) (A : Nat → Nat → Nat) (i N v c : Nat) (hi : lidx i = true) (li : mlen i = 96) (i19 : i ≠ 19) (hN : N < 16) (hv : v ≤ 120) (hd : dg (A i) c) (hc : c < 2 ^ 280) : CT mX8_store 0 0 n (mh h0 m A) [.ref (m + 19), .int (nI (10 * (121 * N + v))), .int (nI 10), .ref (m + i)] (pv n (fun h' => ∃ A', h' = mh h0 m A' ∧ mD (A' 19) (10 * (121 * N + v)) 10 c ∧ (∀ j, (j < 10 * (121 * N + v) ∨ 10 * (121 * N + v) + 10 ≤ j) → A' 19 j = A 19 j) ∧ ∀ k, k ≠ 19 → A' k = A k)) := by
  refine (ct_X8_store n (mh h0 m A) (m + i) (m + 19) (10 * (121 * N + v)) 10 19360 (A 19) (A i) (mh_at h0 m A rfl) (mh_96 h0 m A hi li) (ix_ne i19) (by decide) (by omega) (by decide)).weaken ?_
  rintro r n' h' ⟨h1, h2, h3⟩
  refine ⟨h1, h2, va_up A 19 (spl (A 19) (A i) (10 * (121 * N + v)) 10), ?_, ?_, fun j hj => ?_, fun k hk => va_up_off hk⟩
  · rw [h3]; exact mh_up h0 m A (k := 19) rfl _
  · rw [va_up_at]; exact mD_spl (by decide) hd (by rw [← Nat.pow_mul]; exact hc)
  · rw [va_up_at]; exact spl_out hj
theorem bad_ret {n m : Nat} {h : Hp} {S : TS} (hR : MRep h m S) {q : Int32 × TS} (e : q = (-1, S)) : MOK n m h q (some (.int (-1))) n h := by subst e; exact ⟨rfl, rfl, hR, mfr_rf⟩
theorem toInt_1 : (1 : Int32).toInt = 1 := by decide +kernel
theorem toInt_2 : (2 : Int32).toInt = 2 := by decide +kernel
theorem toInt_3 : (3 : Int32).toInt = 3 := by decide +kernel
theorem toInt_4 : (4 : Int32).toInt = 4 := by decide +kernel
theorem toInt_12 : (12 : Int32).toInt = 12 := by decide +kernel
theorem toInt_15 : (15 : Int32).toInt = 15 := by decide +kernel
theorem toInt_18 : (18 : Int32).toInt = 18 := by decide +kernel
theorem toInt_40 : (40 : Int32).toInt = 40 := by decide +kernel
theorem toInt_60 : (60 : Int32).toInt = 60 := by decide +kernel
theorem toInt_100 : (100 : Int32).toInt = 100 := by decide +kernel
theorem toInt_120 : (120 : Int32).toInt = 120 := by decide +kernel
theorem toInt_mil : (1000000 : Int32).toInt = 1000000 := by decide +kernel
theorem ct_in (n : Nat) (h : Hp) (v lo hi : Int32) {a b : Int} (ha : lo.toInt = a) (hb : hi.toInt = b) : CT mX8_in 0 0 n h [.int v, .int lo, .int hi] (pint n h (bI (rg v a b))) := by
  have := ct_X8_in n h v lo hi
  rw [le_rg, ha, hb] at this
  exact this
theorem ct_isP (n : Nat) (h : Hp) (p : Int32) : CT mX8_isPlace 0 0 n h [.int p] (pint n h (bI (isP p))) := by
  have := ct_X8_isPlace n h p
  rw [le_rg, toInt_lit0, toInt_15] at this
  exact this
theorem ct_isS (n : Nat) (h0 : Hp) (m : Nat) (A : Nat → Nat → Nat) (S : TS) (bo ki mo wt : Nat → Nat) (s : Int32) (B : MB h0 m S bo ki mo wt) (hI : SInv S) : CT mX8_isSource 0 0 n (mh h0 m A) [.ref m, .int s] (pint n (mh h0 m A) (bI (isS S s))) := by
  have := ct_X8_isSource n (mh h0 m A) m s _ _ _ _ _ _ _ _ (by rw [mh_0]; exact B.1)
  have h2 := hI.2.1.1
  rw [le_rg, toInt_lit0, pI_m, pI_T (by omega)] at this
  exact this
theorem pow_lt_lt {a b n : Nat} (h : a ≤ b) : a ^ n ≤ b ^ n := Nat.pow_le_pow_left h n
theorem sixty : (60 : Nat) ^ 40 < 2 ^ 256 := by decide +kernel
theorem cCoins_eq {n a b : Nat} : cCoins n a b = cC a (b - a) n := rfl
theorem cCoins_tot {n a b : Nat} (h : a ≤ b) : sg (cCoins n a b) (n + 1) = b ^ n := by
  rw [cCoins_eq, cC_sum]; congr 1; omega
theorem coin_pow {n b : Nat} (hn : n ≤ 40) (hb : b ≤ 60) (h1 : 1 ≤ b) : b ^ n < 2 ^ 256 := by
  have e1 : b ^ n ≤ 60 ^ n := Nat.pow_le_pow_left hb n
  have e2 : 60 ^ n ≤ 60 ^ 40 := Nat.pow_le_pow_right (by decide) hn
  have := sixty
  omega
theorem mt_coins (n : Nat) (h : Hp) (m : Nat) (S : TS) (x a b : Int32) (hR : MRep h m S) (hI : SInv S) : CT mX8_coins 0 0 n h [.ref m, .int x, .int a, .int b] (MOK n m h (opCoins S x a b)) := by
  obtain ⟨h0, A, bo, ki, mo, wt, rfl, B, hA⟩ := id hR
  refine CT.intro [some (.ref m), some (.int x), some (.int a), some (.int b), none] 1 rfl rfl (by decide) ?_
  intro Q hQ
  have bad : (rg x 0 40 && (rg b 1 60 && rg a 0 b.toInt)) = false → AW mX8_coins (gq 0 0 Q) 29 [some (.ref m), some (.int x), some (.int a), some (.int b), none] [] 0 0 n (mh h0 m A) := by
    intro hb
    refine aw_iconst (v := (-1)) dX8_coins_29 (by decide +kernel) ?_
    refine aw_ireturn dX8_coins_30 rfl rfl (Nat.le_of_ble_eq_true rfl) (Nat.le_of_ble_eq_true rfl) ?_
    refine hQ _ _ _ (bad_ret hR ?_)
    unfold opCoins; rw [hb]; rfl
  refine aw_iload_n (i := 1) dX8_coins_0 rfl rfl ?_
  refine aw_iconst (v := 0) dX8_coins_1 (by decide +kernel) ?_
  refine aw_bipush (v := 40) dX8_coins_2 (by decide +kernel) ?_
  refine aw_invokestatic kX8_153 dX8_coins_4 (ct_in n (mh h0 m A) x 0 40 toInt_lit0 toInt_40) rfl rfl (Nat.le_of_ble_eq_true rfl) ⟨Nat.le_of_ble_eq_true rfl, Nat.le_of_ble_eq_true rfl⟩ ⟨Nat.le_of_ble_eq_true rfl, Nat.le_of_ble_eq_true rfl⟩ ?_
  rintro _ _ _ ⟨rfl, rfl, rfl⟩
  by_cases h1 : rg x 0 40 = true
  case neg =>
    refine aw_if_eq (tgt := 29) dX8_coins_7 (by decide) (fun _ => ?_) (fun c => (c (bI_eq0.mpr (by simpa using h1))).elim)
    exact bad (by simp [h1])
  refine aw_if_eq (tgt := 29) dX8_coins_7 (by decide) (fun c => absurd c (bI_ne0.mpr h1)) (fun _ => ?_)
  refine aw_iload_n (i := 3) dX8_coins_10 rfl rfl ?_
  refine aw_iconst (v := 1) dX8_coins_11 (by decide +kernel) ?_
  refine aw_bipush (v := 60) dX8_coins_12 (by decide +kernel) ?_
  refine aw_invokestatic kX8_153 dX8_coins_14 (ct_in n (mh h0 m A) b 1 60 toInt_1 toInt_60) rfl rfl (Nat.le_of_ble_eq_true rfl) ⟨Nat.le_of_ble_eq_true rfl, Nat.le_of_ble_eq_true rfl⟩ ⟨Nat.le_of_ble_eq_true rfl, Nat.le_of_ble_eq_true rfl⟩ ?_
  rintro _ _ _ ⟨rfl, rfl, rfl⟩
  by_cases h2 : rg b 1 60 = true
  case neg =>
    refine aw_if_eq (tgt := 29) dX8_coins_17 (by decide) (fun _ => ?_) (fun c => (c (bI_eq0.mpr (by simpa using h2))).elim)
    exact bad (by simp [h2])
  refine aw_if_eq (tgt := 29) dX8_coins_17 (by decide) (fun c => absurd c (bI_ne0.mpr h2)) (fun _ => ?_)
  refine aw_iload_n (i := 2) dX8_coins_20 rfl rfl ?_
  refine aw_iconst (v := 0) dX8_coins_21 (by decide +kernel) ?_
  refine aw_iload_n (i := 3) dX8_coins_22 rfl rfl ?_
  refine aw_invokestatic kX8_153 dX8_coins_23 (ct_in n (mh h0 m A) a 0 b toInt_lit0 rfl) rfl rfl (Nat.le_of_ble_eq_true rfl) ⟨Nat.le_of_ble_eq_true rfl, Nat.le_of_ble_eq_true rfl⟩ ⟨Nat.le_of_ble_eq_true rfl, Nat.le_of_ble_eq_true rfl⟩ ?_
  rintro _ _ _ ⟨rfl, rfl, rfl⟩
  by_cases h3 : rg a 0 b.toInt = true
  case neg =>
    refine aw_if_ne (tgt := 31) dX8_coins_26 (by decide) (fun c => absurd c (fun c => c (bI_eq0.mpr (by simpa using h3)))) (fun _ => ?_)
    exact bad (by simp [h3])
  obtain ⟨ex, -, -, hx⟩ := rg_N h1 (by decide)
  obtain ⟨eb, eb2, hb1, hb2⟩ := rg_N h2 (by decide)
  obtain ⟨ea, -, -, hab⟩ := rg_N h3 (by decide)
  have hop : opCoins S x a b = newS S 0 (tN x) (cCoins (tN x) (tN a) (tN b)) := by unfold opCoins; rw [h1, h2, h3]; rfl
  rw [hop] at hQ
  generalize tN x = X at *
  generalize tN a = a' at *
  generalize tN b = b' at *
  subst ex ea eb
  rw [← eb2] at hab
  refine aw_if_ne (tgt := 31) dX8_coins_26 (by decide) (fun _ => ?_) (fun c => ((bI_ne0.mpr h3) c).elim)
  refine aw_aload_n (i := 0) dX8_coins_31 rfl rfl ?_
  refine aw_getfield fX8_178 dX8_coins_32 (by rw [mh_0]; exact B.1) rfl ?_
  refine aw_bipush (v := 16) dX8_coins_35 (by decide +kernel) ?_
  have hn16 := hI.2.1.1
  by_cases h16 : sN S = 16
  · refine aw_icmp_ne (tgt := 43) dX8_coins_37 (by decide) (fun c => absurd c (fun c => c (by rw [h16]; rfl))) (fun _ => ?_)
    refine aw_bipush (v := (-3)) dX8_coins_40 (by decide +kernel) ?_
    refine aw_ireturn dX8_coins_42 rfl rfl (Nat.le_of_ble_eq_true rfl) (Nat.le_of_ble_eq_true rfl) ?_
    refine hQ _ _ _ ?_
    unfold newS; rw [if_pos h16]
    exact ⟨rfl, rfl, hR, mfr_rf⟩
  refine aw_icmp_ne (tgt := 43) dX8_coins_37 (by decide) (fun _ => ?_) (fun c => ((fun c => h16 ((nI_eq (b := 16) (by omega) (by decide)).mp c)) c).elim)
  refine aw_iconst (v := 0) dX8_coins_43 (by decide +kernel) ?_
  refine aw_istore_4 dX8_coins_44 (by decide) rfl ?_
  unfold newS at hQ; rw [if_neg h16] at hQ
  have htot := cCoins_tot (n := X) (a := a') (b := b') (by omega)
  have hlt := coin_pow (n := X) (b := b') (by omega) (by omega) (by omega)
  have loop : ∀ (j k : Nat) (A' : Nat → Nat → Nat), k + j = X + 1 → (∀ v, v < k → mD (A' 19) (10 * (121 * sN S + v)) 10 (cCoins X a' b' v)) → (∀ i, i < 1210 * sN S → A' 19 i = A 19 i) → (∀ i, i ≠ 19 → i ≠ 22 → A' i = A i) → AW mX8_coins (gq 0 0 Q) 46 [some (.ref m), some (.int (nI X)), some (.int (nI a')), some (.int (nI b')), some (.int (nI k))] [] 0 0 n (mh h0 m A') := by
    intro j
    induction j with
    | zero =>
      intro k A' hk hd e19 fr
      obtain rfl : k = X + 1 := by omega
      refine aw_iload dX8_coins_46 rfl ?_
      refine aw_iload_n (i := 1) dX8_coins_48 rfl rfl ?_
      refine aw_icmp_gt (tgt := 121) dX8_coins_49 (by decide) (fun _ => ?_) (fun c => (c (nI_lt (by omega) (by omega))).elim)
      refine aw_aload_n (i := 0) dX8_coins_121 rfl rfl ?_
      refine aw_iconst (v := 0) dX8_coins_122 (by decide +kernel) ?_
      refine aw_iload_n (i := 1) dX8_coins_123 rfl rfl ?_
      refine aw_invokevirtual kX8_202 dX8_coins_124 (by rw [mh_0]; exact B.1) (ct_X8_comes n h0 m A' S bo ki mo wt 0 X (cCoins X a' b') B (hA.keepC hI e19 (fr 6 (by decide) (by decide)) (fr 7 (by decide) (by decide)) (fr 20 (by decide) (by decide))) (by omega) (by omega) (fun v hv => hd v (by omega)) (by rw [htot]; exact hlt)) rfl rfl (Nat.le_of_ble_eq_true rfl) ⟨Nat.le_of_ble_eq_true rfl, Nat.le_of_ble_eq_true rfl⟩ ⟨Nat.le_of_ble_eq_true rfl, Nat.le_of_ble_eq_true rfl⟩ ?_
      rintro _ _ _ ⟨rfl, rfl, hR', hF⟩
      refine aw_ireturn dX8_coins_127 rfl rfl (Nat.le_of_ble_eq_true rfl) (Nat.le_of_ble_eq_true rfl) ?_
      exact hQ _ _ _ ⟨rfl, rfl, hR', fun y hy => by rw [hF y hy, mh_fr hy, mh_fr hy]⟩
    | succ j ih =>
      intro k A' hk hd e19 fr
      have hle : cCoins X a' b' k ≤ b' ^ X := by rw [← htot]; exact sg_ge (by omega)
      have w1 : 2 ^ 256 < 2 ^ 2688 := Nat.pow_lt_pow_right (by decide) (by decide)
      have w2 : 2 ^ 256 < 2 ^ 280 := Nat.pow_lt_pow_right (by decide) (by decide)
      refine aw_iload dX8_coins_46 rfl ?_
      refine aw_iload_n (i := 1) dX8_coins_48 rfl rfl ?_
      refine aw_icmp_gt (tgt := 121) dX8_coins_49 (by decide) (fun c => absurd c (nI_nlt (by omega) (by omega))) (fun _ => ?_)
      refine aw_aload_n (i := 0) dX8_coins_52 rfl rfl ?_
      refine aw_getfield fX8_75 dX8_coins_53 (by rw [mh_0]; exact B.1) rfl ?_
      refine aw_iload_n (i := 1) dX8_coins_56 rfl rfl ?_
      refine aw_iload dX8_coins_57 rfl ?_
      refine aw_invokestatic kX8_194 dX8_coins_59 (ct_X8_choose n (mh h0 m A') X k (by omega) (by omega)) rfl rfl (Nat.le_of_ble_eq_true rfl) ⟨Nat.le_of_ble_eq_true rfl, Nat.le_of_ble_eq_true rfl⟩ ⟨Nat.le_of_ble_eq_true rfl, Nat.le_of_ble_eq_true rfl⟩ ?_
      rintro _ _ _ ⟨rfl, rfl, rfl⟩
      refine aw_invokestatic kX8_124 dX8_coins_62 (mc_become n h0 m A' 22 (cho X k) rfl rfl (Nat.lt_of_lt_of_le (cho_bd (by omega) k) (by decide))) rfl rfl (Nat.le_of_ble_eq_true rfl) ⟨Nat.le_of_ble_eq_true rfl, Nat.le_of_ble_eq_true rfl⟩ ⟨Nat.le_of_ble_eq_true rfl, Nat.le_of_ble_eq_true rfl⟩ ?_
      rintro _ _ _ ⟨rfl, rfl, A1, rfl, d1, f1⟩
      have s1 : cho X k * a' ^ k < 2 ^ 2688 := by
        have q1 : a' ^ k ≤ 60 ^ 40 := Nat.le_trans (Nat.pow_le_pow_left (show a' ≤ 60 by omega) k) (Nat.pow_le_pow_right (by decide) (by omega))
        have q2 := Nat.mul_le_mul (Nat.le_of_lt (cho_bd (n := X) (by omega) k)) q1
        have q3 : 2 ^ 57 * 60 ^ 40 < 2 ^ 2688 := by decide +kernel
        omega
      refine aw_aload_n (i := 0) dX8_coins_65 rfl rfl ?_
      refine aw_aload_n (i := 0) dX8_coins_66 rfl rfl ?_
      refine aw_getfield fX8_75 dX8_coins_67 (by rw [mh_0]; exact B.1) rfl ?_
      refine aw_iload_n (i := 2) dX8_coins_70 rfl rfl ?_
      refine aw_i2l dX8_coins_71 rfl ?_
      rw [nI_l (show a' < 2 ^ 31 by omega)]
      refine aw_iload dX8_coins_72 rfl ?_
      refine aw_invokevirtual kX8_198 dX8_coins_74 (by rw [mh_0]; exact B.1) (ct_X8_power n h0 m A1 22 (cho X k) a' k rfl rfl d1 (by omega) (by omega) s1) rfl rfl (Nat.le_of_ble_eq_true rfl) ⟨Nat.le_of_ble_eq_true rfl, Nat.le_of_ble_eq_true rfl⟩ ⟨Nat.le_of_ble_eq_true rfl, Nat.le_of_ble_eq_true rfl⟩ ?_
      rintro _ _ _ ⟨rfl, rfl, A2, rfl, d2, f2⟩
      refine aw_aload_n (i := 0) dX8_coins_77 rfl rfl ?_
      refine aw_aload_n (i := 0) dX8_coins_78 rfl rfl ?_
      refine aw_getfield fX8_75 dX8_coins_79 (by rw [mh_0]; exact B.1) rfl ?_
      refine aw_iload_n (i := 3) dX8_coins_82 rfl rfl ?_
      refine aw_iload_n (i := 2) dX8_coins_83 rfl rfl ?_
      refine aw_isub dX8_coins_84 ?_
      refine aw_i2l dX8_coins_85 rfl ?_
      rw [pk_sub (show a' ≤ b' by omega), nI_l (show b' - a' < 2 ^ 31 by omega)]
      refine aw_iload_n (i := 1) dX8_coins_86 rfl rfl ?_
      refine aw_iload dX8_coins_87 rfl ?_
      refine aw_isub dX8_coins_89 ?_
      rw [pk_sub (show k ≤ X by omega)]
      refine aw_invokevirtual kX8_198 dX8_coins_90 (by rw [mh_0]; exact B.1) (ct_X8_power n h0 m A2 22 (cho X k * a' ^ k) (b' - a') (X - k) rfl rfl d2 (by omega) (by omega) (by unfold cCoins at hle; omega)) rfl rfl (Nat.le_of_ble_eq_true rfl) ⟨Nat.le_of_ble_eq_true rfl, Nat.le_of_ble_eq_true rfl⟩ ⟨Nat.le_of_ble_eq_true rfl, Nat.le_of_ble_eq_true rfl⟩ ?_
      rintro _ _ _ ⟨rfl, rfl, A3, rfl, d3, f3⟩
      refine aw_aload_n (i := 0) dX8_coins_93 rfl rfl ?_
      refine aw_getfield fX8_66 dX8_coins_94 (by rw [mh_0]; exact B.1) rfl ?_
      refine aw_aload_n (i := 0) dX8_coins_97 rfl rfl ?_
      refine aw_getfield fX8_178 dX8_coins_98 (by rw [mh_0]; exact B.1) rfl ?_
      refine aw_iload dX8_coins_101 rfl ?_
      refine aw_invokestatic kX8_187 dX8_coins_103 (ct_X8_at n (mh h0 m A3) (sN S) k) rfl rfl (Nat.le_of_ble_eq_true rfl) ⟨Nat.le_of_ble_eq_true rfl, Nat.le_of_ble_eq_true rfl⟩ ⟨Nat.le_of_ble_eq_true rfl, Nat.le_of_ble_eq_true rfl⟩ ?_
      rintro _ _ _ ⟨rfl, rfl, rfl⟩
      refine aw_bipush (v := 10) dX8_coins_106 (by decide +kernel) ?_
      refine aw_aload_n (i := 0) dX8_coins_108 rfl rfl ?_
      refine aw_getfield fX8_75 dX8_coins_109 (by rw [mh_0]; exact B.1) rfl ?_
      refine aw_invokestatic kX8_166 dX8_coins_112 (mc_storeC n h0 m A3 22 (sN S) k (cCoins X a' b' k) rfl rfl (by decide) (by omega) (by omega) d3 (by omega)) rfl rfl (Nat.le_of_ble_eq_true rfl) ⟨Nat.le_of_ble_eq_true rfl, Nat.le_of_ble_eq_true rfl⟩ ⟨Nat.le_of_ble_eq_true rfl, Nat.le_of_ble_eq_true rfl⟩ ?_
      rintro _ _ _ ⟨rfl, rfl, A4, rfl, d4, g4, f4⟩
      refine aw_iinc_4 (c0 := 1) dX8_coins_115 (by decide) (by decide) rfl ?_
      refine aw_goto (tgt := 46) dX8_coins_118 (by decide) ?_
      rw [nI_1]
      have fx : ∀ i, i ≠ 22 → A3 i = A' i := fun i hi => by rw [f3 i hi, f2 i hi, f1 i hi]
      refine ih (k + 1) A4 (by omega) (fun v hv => ?_) (fun i hi => ?_) (fun i i1 i2 => by rw [f4 i i1, fx i i2]; exact fr i i1 i2)
      · by_cases hvk : v = k
        · rw [hvk]; exact d4
        · exact mD_congr (hd v (by omega)) (fun i h1 h2 => by rw [g4 i (by omega), fx 19 (by decide)])
      · rw [g4 i (by omega), fx 19 (by decide)]; exact e19 i hi
  exact loop (X + 1) 0 A (by omega) (fun v hv => by omega) (fun i _ => rfl) (fun i _ _ => rfl)
