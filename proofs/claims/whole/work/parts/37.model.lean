theorem mt_source (n : Nat) (h : Hp) (m : Nat) (S : TS) (s w : Int32) (hR : MRep h m S) (hI : SInv S) : CT mX8_source 0 0 n h [.ref m, .int s, .int w] (MOK n m h (opSource S s w)) := by
  obtain ⟨h0, A, bo, ki, mo, wt, rfl, B, hA⟩ := id hR
  refine CT.intro [some (.ref m), some (.int s), some (.int w), none, none] 2 rfl rfl (by decide) ?_
  intro Q hQ
  have bad : (isS S s && rg w 0 3) = false → AW mX8_source (gq 0 0 Q) 17 [some (.ref m), some (.int s), some (.int w), none, none] [] 0 0 n (mh h0 m A) := by
    intro hb
    refine aw_iconst (v := (-1)) dX8_source_17 (by decide +kernel) ?_
    refine aw_ireturn dX8_source_18 rfl rfl (Nat.le_of_ble_eq_true rfl) (Nat.le_of_ble_eq_true rfl) ?_
    refine hQ _ _ _ (bad_ret hR ?_)
    unfold opSource; rw [hb]; rfl
  refine aw_aload_n (i := 0) dX8_source_0 rfl rfl ?_
  refine aw_iload_n (i := 1) dX8_source_1 rfl rfl ?_
  refine aw_invokevirtual kX8_205 dX8_source_2 (by rw [mh_0]; exact B.1) (ct_isS n h0 m A S bo ki mo wt s B hI) rfl rfl (Nat.le_of_ble_eq_true rfl) ⟨Nat.le_of_ble_eq_true rfl, Nat.le_of_ble_eq_true rfl⟩ ⟨Nat.le_of_ble_eq_true rfl, Nat.le_of_ble_eq_true rfl⟩ ?_
  rintro _ _ _ ⟨rfl, rfl, rfl⟩
  by_cases h1 : isS S s = true
  case neg =>
    refine aw_if_eq (tgt := 17) dX8_source_5 (by decide) (fun _ => ?_) (fun c => (c (bI_eq0.mpr (by simpa using h1))).elim)
    exact bad (by simp [h1])
  refine aw_if_eq (tgt := 17) dX8_source_5 (by decide) (fun c => absurd c (bI_ne0.mpr h1)) (fun _ => ?_)
  refine aw_iload_n (i := 2) dX8_source_8 rfl rfl ?_
  refine aw_iconst (v := 0) dX8_source_9 (by decide +kernel) ?_
  refine aw_iconst (v := 3) dX8_source_10 (by decide +kernel) ?_
  refine aw_invokestatic kX8_153 dX8_source_11 (ct_in n (mh h0 m A) w 0 3 toInt_lit0 toInt_3) rfl rfl (Nat.le_of_ble_eq_true rfl) ⟨Nat.le_of_ble_eq_true rfl, Nat.le_of_ble_eq_true rfl⟩ ⟨Nat.le_of_ble_eq_true rfl, Nat.le_of_ble_eq_true rfl⟩ ?_
  rintro _ _ _ ⟨rfl, rfl, rfl⟩
  by_cases h2 : rg w 0 3 = true
  case neg =>
    refine aw_if_ne (tgt := 19) dX8_source_14 (by decide) (fun c => absurd c (fun c => c (bI_eq0.mpr (by simpa using h2)))) (fun _ => ?_)
    exact bad (by simp [h2])
  obtain ⟨es, hs⟩ := isS_N h1
  obtain ⟨ew, -, -, hw⟩ := rg_N h2 (by decide)
  have hop : opSource S s w = (nI (aSource S (tN s) (tN w)), S) := by unfold opSource; rw [h1, h2]; rfl
  rw [hop] at hQ
  generalize tN s = X at *
  generalize tN w = w' at *
  subst es ew
  have hn16 := hI.2.1.1
  have hTx := (hI.2.1.2 X hs).2.1
  have hmx := (B.2.2.2.2.2.2 X hs)
  have hmoC : ∀ A' : Nat → Nat → Nat, mh h0 m A' (m + 18) = some (iar 16 mo) := fun A' => by rw [mh_no h0 m A' rfl]; exact B.2.2.2.1
  have hkiC : ∀ A' : Nat → Nat → Nat, mh h0 m A' (m + 17) = some (iar 16 ki) := fun A' => by rw [mh_no h0 m A' rfl]; exact B.2.2.1
  refine aw_if_ne (tgt := 19) dX8_source_14 (by decide) (fun _ => ?_) (fun c => ((bI_ne0.mpr h2) c).elim)
  refine aw_iload_n (i := 2) dX8_source_19 rfl rfl ?_
  refine aw_iconst (v := 2) dX8_source_20 (by decide +kernel) ?_
  by_cases c1 : w' < 2
  · refine aw_icmp_ge (tgt := 44) dX8_source_21 (by decide) (fun c => absurd c (nI_ge (b := 2) c1 (by decide))) (fun _ => ?_)
    refine aw_iload_n (i := 2) dX8_source_24 rfl rfl ?_
    by_cases c0 : w' = 0
    · refine aw_if_ne (tgt := 37) dX8_source_25 (by decide) (fun c => absurd c (fun c => c (by rw [c0]; rfl))) (fun _ => ?_)
      refine aw_aload_n (i := 0) dX8_source_28 rfl rfl ?_
      refine aw_getfield fX8_59 dX8_source_29 (by rw [mh_0]; exact B.1) rfl ?_
      refine aw_iload_n (i := 1) dX8_source_32 rfl rfl ?_
      refine aw_iald dX8_source_33 X (hkiC _) (nI_toInt (by omega)) (by omega) ?_
      refine aw_goto (tgt := 43) dX8_source_34 (by decide) ?_
      rw [hmx.1]
      refine aw_ireturn dX8_source_43 rfl rfl (Nat.le_of_ble_eq_true rfl) (Nat.le_of_ble_eq_true rfl) ?_
      exact hQ _ _ _ ⟨rfl, by unfold aSource; rw [if_pos c0], hR, mfr_rf⟩
    · refine aw_if_ne (tgt := 37) dX8_source_25 (by decide) (fun _ => ?_) (fun c => ((nI_ne0 (by omega) (by omega)) c).elim)
      refine aw_aload_n (i := 0) dX8_source_37 rfl rfl ?_
      refine aw_getfield fX8_63 dX8_source_38 (by rw [mh_0]; exact B.1) rfl ?_
      refine aw_iload_n (i := 1) dX8_source_41 rfl rfl ?_
      refine aw_iald dX8_source_42 X (hmoC _) (nI_toInt (by omega)) (by omega) ?_
      rw [hmx.2]
      refine aw_ireturn dX8_source_43 rfl rfl (Nat.le_of_ble_eq_true rfl) (Nat.le_of_ble_eq_true rfl) ?_
      exact hQ _ _ _ ⟨rfl, by unfold aSource; rw [if_neg c0, if_pos (by omega)], hR, mfr_rf⟩
  · refine aw_icmp_ge (tgt := 44) dX8_source_21 (by decide) (fun _ => ?_) (fun c => (c (nI_le (a := 2) (by omega) (by omega))).elim)
    refine aw_iload_n (i := 2) dX8_source_44 rfl rfl ?_
    refine aw_iconst (v := 2) dX8_source_45 (by decide +kernel) ?_
    by_cases c2 : w' = 2
    · refine aw_icmp_ne (tgt := 74) dX8_source_46 (by decide) (fun c => absurd c (fun c => c (by rw [c2]; rfl))) (fun _ => ?_)
      refine aw_aload_n (i := 0) dX8_source_49 rfl rfl ?_
      refine aw_getfield fX8_75 dX8_source_50 (by rw [mh_0]; exact B.1) rfl ?_
      refine aw_aload_n (i := 0) dX8_source_53 rfl rfl ?_
      refine aw_getfield fX8_69 dX8_source_54 (by rw [mh_0]; exact B.1) rfl ?_
      refine aw_bipush (v := 10) dX8_source_57 (by decide +kernel) ?_
      refine aw_iload_n (i := 1) dX8_source_59 rfl rfl ?_
      refine aw_imul dX8_source_60 ?_
      rw [c10]
      refine aw_bipush (v := 10) dX8_source_61 (by decide +kernel) ?_
      refine aw_invokestatic kX8_170 dX8_source_63 (mc_loadT n h0 m A S bo 22 X rfl rfl (by decide) hA hI hs) rfl rfl (Nat.le_of_ble_eq_true rfl) ⟨Nat.le_of_ble_eq_true rfl, Nat.le_of_ble_eq_true rfl⟩ ⟨Nat.le_of_ble_eq_true rfl, Nat.le_of_ble_eq_true rfl⟩ ?_
      rintro _ _ _ ⟨rfl, rfl, A1, rfl, d1, f1⟩
      refine aw_aload_n (i := 0) dX8_source_66 rfl rfl ?_
      refine aw_getfield fX8_75 dX8_source_67 (by rw [mh_0]; exact B.1) rfl ?_
      refine aw_invokestatic kX8_146 dX8_source_70 (mc_bits n h0 m A1 22 _ rfl rfl d1) rfl rfl (Nat.le_of_ble_eq_true rfl) ⟨Nat.le_of_ble_eq_true rfl, Nat.le_of_ble_eq_true rfl⟩ ⟨Nat.le_of_ble_eq_true rfl, Nat.le_of_ble_eq_true rfl⟩ ?_
      rintro _ _ _ ⟨rfl, rfl, rfl⟩
      refine aw_ireturn dX8_source_73 rfl rfl (Nat.le_of_ble_eq_true rfl) (Nat.le_of_ble_eq_true rfl) ?_
      exact hQ _ _ _ ⟨rfl, by unfold aSource; rw [if_neg (by omega), if_neg (by omega), if_pos c2], ⟨h0, A1, bo, ki, mo, wt, rfl, B, hA.keep (f1 6 (by decide)) (f1 7 (by decide)) (f1 19 (by decide)) (f1 20 (by decide))⟩, mfr_mh (fun _ _ => rfl)⟩
    · refine aw_icmp_ne (tgt := 74) dX8_source_46 (by decide) (fun _ => ?_) (fun c => ((fun c => c2 ((nI_eq (b := 2) (by omega) (by decide)).mp c)) c).elim)
      refine aw_iconst (v := 0) dX8_source_74 (by decide +kernel) ?_
      refine aw_istore_3 dX8_source_75 (by decide) rfl ?_
      refine aw_iconst (v := 0) dX8_source_76 (by decide +kernel) ?_
      refine aw_istore_4 dX8_source_77 (by decide) rfl ?_
      have loop : ∀ (j v : Nat) (A' : Nat → Nat → Nat), v + j = sT S X + 1 → (∀ k, k ≠ 22 → A' k = A k) → AW mX8_source (gq 0 0 Q) 79 [some (.ref m), some (.int (nI X)), some (.int (nI w')), some (.int (nI (sg (fun v => if sC S X v = 0 then 1 else 0) v))), some (.int (nI v))] [] 0 0 n (mh h0 m A') := by
        intro j
        induction j with
        | zero =>
          intro v A' hv fr
          obtain rfl : v = sT S X + 1 := by omega
          refine aw_iload dX8_source_79 rfl ?_
          refine aw_aload_n (i := 0) dX8_source_81 rfl rfl ?_
          refine aw_getfield fX8_63 dX8_source_82 (by rw [mh_0]; exact B.1) rfl ?_
          refine aw_iload_n (i := 1) dX8_source_85 rfl rfl ?_
          refine aw_iald dX8_source_86 X (hmoC _) (nI_toInt (by omega)) (by omega) ?_
          rw [hmx.2]
          refine aw_icmp_gt (tgt := 133) dX8_source_87 (by decide) (fun _ => ?_) (fun c => (c (nI_lt (by omega) (by omega))).elim)
          refine aw_iload_n (i := 3) dX8_source_133 rfl rfl ?_
          refine aw_ireturn dX8_source_134 rfl rfl (Nat.le_of_ble_eq_true rfl) (Nat.le_of_ble_eq_true rfl) ?_
          exact hQ _ _ _ ⟨rfl, by unfold aSource; rw [if_neg (by omega), if_neg (by omega), if_neg c2], ⟨h0, A', bo, ki, mo, wt, rfl, B, hA.keep (fr 6 (by decide)) (fr 7 (by decide)) (fr 19 (by decide)) (fr 20 (by decide))⟩, mfr_mh (fun _ _ => rfl)⟩
        | succ j ih =>
          intro v A' hv fr
          refine aw_iload dX8_source_79 rfl ?_
          refine aw_aload_n (i := 0) dX8_source_81 rfl rfl ?_
          refine aw_getfield fX8_63 dX8_source_82 (by rw [mh_0]; exact B.1) rfl ?_
          refine aw_iload_n (i := 1) dX8_source_85 rfl rfl ?_
          refine aw_iald dX8_source_86 X (hmoC _) (nI_toInt (by omega)) (by omega) ?_
          rw [hmx.2]
          refine aw_icmp_gt (tgt := 133) dX8_source_87 (by decide) (fun c => absurd c (nI_nlt (by omega) (by omega))) (fun _ => ?_)
          refine aw_aload_n (i := 0) dX8_source_90 rfl rfl ?_
          refine aw_getfield fX8_75 dX8_source_91 (by rw [mh_0]; exact B.1) rfl ?_
          refine aw_aload_n (i := 0) dX8_source_94 rfl rfl ?_
          refine aw_getfield fX8_66 dX8_source_95 (by rw [mh_0]; exact B.1) rfl ?_
          refine aw_iload_n (i := 1) dX8_source_98 rfl rfl ?_
          refine aw_iload dX8_source_99 rfl ?_
          refine aw_invokestatic kX8_187 dX8_source_101 (ct_X8_at n (mh h0 m A') X v) rfl rfl (Nat.le_of_ble_eq_true rfl) ⟨Nat.le_of_ble_eq_true rfl, Nat.le_of_ble_eq_true rfl⟩ ⟨Nat.le_of_ble_eq_true rfl, Nat.le_of_ble_eq_true rfl⟩ ?_
          rintro _ _ _ ⟨rfl, rfl, rfl⟩
          refine aw_bipush (v := 10) dX8_source_104 (by decide +kernel) ?_
          refine aw_invokestatic kX8_170 dX8_source_106 (mc_loadC n h0 m A' S bo 22 X v rfl rfl (by decide) (hA.keep (fr 6 (by decide)) (fr 7 (by decide)) (fr 19 (by decide)) (fr 20 (by decide))) hI hs (by omega)) rfl rfl (Nat.le_of_ble_eq_true rfl) ⟨Nat.le_of_ble_eq_true rfl, Nat.le_of_ble_eq_true rfl⟩ ⟨Nat.le_of_ble_eq_true rfl, Nat.le_of_ble_eq_true rfl⟩ ?_
          rintro _ _ _ ⟨rfl, rfl, A1, rfl, d1, f1⟩
          refine aw_iload_n (i := 3) dX8_source_109 rfl rfl ?_
          refine aw_aload_n (i := 0) dX8_source_110 rfl rfl ?_
          refine aw_getfield fX8_75 dX8_source_111 (by rw [mh_0]; exact B.1) rfl ?_
          refine aw_invokestatic kX8_120 dX8_source_114 (mc_top n h0 m A1 22 _ rfl rfl d1) rfl rfl (Nat.le_of_ble_eq_true rfl) ⟨Nat.le_of_ble_eq_true rfl, Nat.le_of_ble_eq_true rfl⟩ ⟨Nat.le_of_ble_eq_true rfl, Nat.le_of_ble_eq_true rfl⟩ ?_
          rintro _ _ _ ⟨rfl, rfl, t, rfl, ht⟩
          have ht96 := ht.1
          by_cases hz : sC S X v = 0
          · obtain rfl : t = 0 := (tpp_0 ht d1).mpr hz
            refine aw_if_ge (tgt := 124) dX8_source_117 (by decide) (fun c => absurd c (by rw [pI_0]; decide)) (fun _ => ?_)
            refine aw_iconst (v := 1) dX8_source_120 (by decide +kernel) ?_
            refine aw_goto (tgt := 125) dX8_source_121 (by decide) ?_
            refine aw_iadd dX8_source_125 ?_
            rw [show (1 : Int32) = nI 1 from rfl, nI_add]
            refine aw_istore_3 dX8_source_126 (by decide) rfl ?_
            refine aw_iinc_4 (c0 := 1) dX8_source_127 (by decide) (by decide) rfl ?_
            refine aw_goto (tgt := 79) dX8_source_130 (by decide) ?_
            rw [nI_1]
            have := ih (v + 1) A1 (by omega) (fun k k1 => by rw [f1 k k1]; exact fr k k1)
            rw [sg_s, if_pos hz] at this
            exact this
          · refine aw_if_ge (tgt := 124) dX8_source_117 (by decide) (fun _ => ?_) (fun c => (c (Int32.not_lt.mp (fun q => hz ((tpp_0 ht d1).mp ((pI_lt0 (by omega)).mp q))))).elim)
            refine aw_iconst (v := 0) dX8_source_124 (by decide +kernel) ?_
            refine aw_iadd dX8_source_125 ?_
            rw [show (0 : Int32) = nI 0 from rfl, nI_add]
            refine aw_istore_3 dX8_source_126 (by decide) rfl ?_
            refine aw_iinc_4 (c0 := 1) dX8_source_127 (by decide) (by decide) rfl ?_
            refine aw_goto (tgt := 79) dX8_source_130 (by decide) ?_
            rw [nI_1]
            have := ih (v + 1) A1 (by omega) (fun k k1 => by rw [f1 k k1]; exact fr k k1)
            rw [sg_s, if_neg hz] at this
            exact this
      exact loop (sT S X + 1) 0 A (by omega) (fun _ _ => rfl)
theorem mD_digit0 {g : Nat → Nat} {p v : Nat} (h : mD g p 10 v) (hv : v < 2 ^ 28) : g p = v := by
  have := h.2
  rw [bv_high (m := 1) (by decide) (fun i h1 h2 => ?_), bv_s _ _ 0, bv_0] at this
  · simpa using this
  · have hg := bv_ge (B := 2 ^ 28) (g := fun i => g (p + i)) h2
    rw [h.2] at hg
    have hg : g (p + i) * (2 ^ 28) ^ i ≤ v := hg
    rcases Nat.eq_zero_or_pos (g (p + i)) with q | q
    · exact q
    · have e1 : 1 * (2 ^ 28) ^ 1 ≤ g (p + i) * (2 ^ 28) ^ i := Nat.mul_le_mul q (Nat.pow_le_pow_right (by decide) h1)
      omega
theorem mt_counted (n : Nat) (h : Hp) (m : Nat) (S : TS) (s k : Int32) (hR : MRep h m S) (hI : SInv S) : CT mX8_counted 0 0 n h [.ref m, .int s, .int k] (MOK n m h (opCounted S s k)) := by
  obtain ⟨h0, A, bo, ki, mo, wt, rfl, B, hA⟩ := id hR
  refine CT.intro [some (.ref m), some (.int s), some (.int k), none, none] 2 rfl rfl (by decide) ?_
  intro Q hQ
  have bad : (isS S s && rg k 0 120) = false → AW mX8_counted (gq 0 0 Q) 18 [some (.ref m), some (.int s), some (.int k), none, none] [] 0 0 n (mh h0 m A) := by
    intro hb
    refine aw_iconst (v := (-1)) dX8_counted_18 (by decide +kernel) ?_
    refine aw_ireturn dX8_counted_19 rfl rfl (Nat.le_of_ble_eq_true rfl) (Nat.le_of_ble_eq_true rfl) ?_
    refine hQ _ _ _ (bad_ret hR ?_)
    unfold opCounted; rw [hb]; rfl
  refine aw_aload_n (i := 0) dX8_counted_0 rfl rfl ?_
  refine aw_iload_n (i := 1) dX8_counted_1 rfl rfl ?_
  refine aw_invokevirtual kX8_205 dX8_counted_2 (by rw [mh_0]; exact B.1) (ct_isS n h0 m A S bo ki mo wt s B hI) rfl rfl (Nat.le_of_ble_eq_true rfl) ⟨Nat.le_of_ble_eq_true rfl, Nat.le_of_ble_eq_true rfl⟩ ⟨Nat.le_of_ble_eq_true rfl, Nat.le_of_ble_eq_true rfl⟩ ?_
  rintro _ _ _ ⟨rfl, rfl, rfl⟩
  by_cases h1 : isS S s = true
  case neg =>
    refine aw_if_eq (tgt := 18) dX8_counted_5 (by decide) (fun _ => ?_) (fun c => (c (bI_eq0.mpr (by simpa using h1))).elim)
    exact bad (by simp [h1])
  refine aw_if_eq (tgt := 18) dX8_counted_5 (by decide) (fun c => absurd c (bI_ne0.mpr h1)) (fun _ => ?_)
  refine aw_iload_n (i := 2) dX8_counted_8 rfl rfl ?_
  refine aw_iconst (v := 0) dX8_counted_9 (by decide +kernel) ?_
  refine aw_bipush (v := 120) dX8_counted_10 (by decide +kernel) ?_
  refine aw_invokestatic kX8_153 dX8_counted_12 (ct_in n (mh h0 m A) k 0 120 toInt_lit0 toInt_120) rfl rfl (Nat.le_of_ble_eq_true rfl) ⟨Nat.le_of_ble_eq_true rfl, Nat.le_of_ble_eq_true rfl⟩ ⟨Nat.le_of_ble_eq_true rfl, Nat.le_of_ble_eq_true rfl⟩ ?_
  rintro _ _ _ ⟨rfl, rfl, rfl⟩
  by_cases h2 : rg k 0 120 = true
  case neg =>
    refine aw_if_ne (tgt := 20) dX8_counted_15 (by decide) (fun c => absurd c (fun c => c (bI_eq0.mpr (by simpa using h2)))) (fun _ => ?_)
    exact bad (by simp [h2])
  obtain ⟨es, hs⟩ := isS_N h1
  obtain ⟨ek, -, -, hk⟩ := rg_N h2 (by decide)
  have hop : opCounted S s k = (if (sK S (tN s) = 0 ∨ sK S (tN s) = 2) ∧ stot S (tN s) ≤ 20000 then (nI (sg (fun i => sC S (tN s) (tN k + i)) (sT S (tN s) + 1 - tN k)), S) else (-5, S)) := by unfold opCounted; rw [h1, h2]; rfl
  rw [hop] at hQ
  generalize tN s = X at *
  generalize tN k = K at *
  subst es ek
  have hn16 := hI.2.1.1
  have hTx := (hI.2.1.2 X hs).2.1
  have hKx := (hI.2.1.2 X hs).1
  have hmx := (B.2.2.2.2.2.2 X hs)
  have hmoC : ∀ A' : Nat → Nat → Nat, mh h0 m A' (m + 18) = some (iar 16 mo) := fun A' => by rw [mh_no h0 m A' rfl]; exact B.2.2.2.1
  have hkiC : ∀ A' : Nat → Nat → Nat, mh h0 m A' (m + 17) = some (iar 16 ki) := fun A' => by rw [mh_no h0 m A' rfl]; exact B.2.2.1
  refine aw_if_ne (tgt := 20) dX8_counted_15 (by decide) (fun _ => ?_) (fun c => ((bI_ne0.mpr h2) c).elim)
  refine aw_aload_n (i := 0) dX8_counted_20 rfl rfl ?_
  refine aw_getfield fX8_75 dX8_counted_21 (by rw [mh_0]; exact B.1) rfl ?_
  refine aw_aload_n (i := 0) dX8_counted_24 rfl rfl ?_
  refine aw_getfield fX8_69 dX8_counted_25 (by rw [mh_0]; exact B.1) rfl ?_
  refine aw_bipush (v := 10) dX8_counted_28 (by decide +kernel) ?_
  refine aw_iload_n (i := 1) dX8_counted_30 rfl rfl ?_
  refine aw_imul dX8_counted_31 ?_
  rw [c10]
  refine aw_bipush (v := 10) dX8_counted_32 (by decide +kernel) ?_
  refine aw_invokestatic kX8_170 dX8_counted_34 (mc_loadT n h0 m A S bo 22 X rfl rfl (by decide) hA hI hs) rfl rfl (Nat.le_of_ble_eq_true rfl) ⟨Nat.le_of_ble_eq_true rfl, Nat.le_of_ble_eq_true rfl⟩ ⟨Nat.le_of_ble_eq_true rfl, Nat.le_of_ble_eq_true rfl⟩ ?_
  rintro _ _ _ ⟨rfl, rfl, A1, rfl, d1, f1⟩
  refine aw_aload_n (i := 0) dX8_counted_37 rfl rfl ?_
  refine aw_getfield fX8_78 dX8_counted_38 (by rw [mh_0]; exact B.1) rfl ?_
  refine aw_ldc2_w qX8_209 dX8_counted_41 ?_
  refine aw_invokestatic kX8_124 dX8_counted_44 (mc_become n h0 m A1 23 20000 rfl rfl (by decide)) rfl rfl (Nat.le_of_ble_eq_true rfl) ⟨Nat.le_of_ble_eq_true rfl, Nat.le_of_ble_eq_true rfl⟩ ⟨Nat.le_of_ble_eq_true rfl, Nat.le_of_ble_eq_true rfl⟩ ?_
  rintro _ _ _ ⟨rfl, rfl, A2, rfl, d2, f2⟩
  have fr : ∀ k, k ≠ 22 → k ≠ 23 → A2 k = A k := fun k k1 k2 => by rw [f2 k k2, f1 k k1]
  have hA2 : MA A2 S bo := hA.keep (fr 6 (by decide) (by decide)) (fr 7 (by decide) (by decide)) (fr 19 (by decide) (by decide)) (fr 20 (by decide) (by decide))
  have none5 : ¬ ((sK S X = 0 ∨ sK S X = 2) ∧ stot S X ≤ 20000) → AW mX8_counted (gq 0 0 Q) 80 [some (.ref m), some (.int (nI X)), some (.int (nI K)), none, none] [] 0 0 n (mh h0 m A2) := by
    intro hc
    refine aw_bipush (v := (-5)) dX8_counted_80 (by decide +kernel) ?_
    refine aw_ireturn dX8_counted_82 rfl rfl (Nat.le_of_ble_eq_true rfl) (Nat.le_of_ble_eq_true rfl) ?_
    refine hQ _ _ _ ?_
    rw [if_neg hc]
    exact ⟨rfl, rfl, ⟨h0, A2, bo, ki, mo, wt, rfl, B, hA2⟩, mfr_mh (fun _ _ => rfl)⟩
  have go : (sK S X = 0 ∨ sK S X = 2) → AW mX8_counted (gq 0 0 Q) 66 [some (.ref m), some (.int (nI X)), some (.int (nI K)), none, none] [] 0 0 n (mh h0 m A2) := by
    intro hkd
    refine aw_aload_n (i := 0) dX8_counted_66 rfl rfl ?_
    refine aw_getfield fX8_75 dX8_counted_67 (by rw [mh_0]; exact B.1) rfl ?_
    refine aw_aload_n (i := 0) dX8_counted_70 rfl rfl ?_
    refine aw_getfield fX8_78 dX8_counted_71 (by rw [mh_0]; exact B.1) rfl ?_
    refine aw_invokestatic kX8_136 dX8_counted_74 (mc_compare n h0 m A2 22 23 _ _ rfl rfl rfl rfl (by rw [f2 22 (by decide)]; exact d1) d2) rfl rfl (Nat.le_of_ble_eq_true rfl) ⟨Nat.le_of_ble_eq_true rfl, Nat.le_of_ble_eq_true rfl⟩ ⟨Nat.le_of_ble_eq_true rfl, Nat.le_of_ble_eq_true rfl⟩ ?_
    rintro _ _ _ ⟨rfl, rfl, rfl⟩
    by_cases h2w : stot S X ≤ 20000
    case neg =>
      refine aw_if_le (tgt := 83) dX8_counted_77 (by decide) (fun c => absurd c (fun q => h2w (cmp_le0.mp q))) (fun _ => ?_)
      exact none5 (fun q => h2w q.2)
    refine aw_if_le (tgt := 83) dX8_counted_77 (by decide) (fun _ => ?_) (fun c => (c (cmp_le0.mpr h2w)).elim)
    refine aw_iconst (v := 0) dX8_counted_83 (by decide +kernel) ?_
    refine aw_istore_3 dX8_counted_84 (by decide) rfl ?_
    refine aw_iload_n (i := 2) dX8_counted_85 rfl rfl ?_
    refine aw_istore_4 dX8_counted_86 (by decide) rfl ?_
    have loop : ∀ (j i : Nat), i + j = sT S X + 1 - K → AW mX8_counted (gq 0 0 Q) 88 [some (.ref m), some (.int (nI X)), some (.int (nI K)), some (.int (nI (sg (fun i => sC S X (K + i)) i))), some (.int (nI (K + i)))] [] 0 0 n (mh h0 m A2) := by
      intro j
      induction j with
      | zero =>
        intro i hi
        obtain rfl : i = sT S X + 1 - K := by omega
        refine aw_iload dX8_counted_88 rfl ?_
        refine aw_aload_n (i := 0) dX8_counted_90 rfl rfl ?_
        refine aw_getfield fX8_63 dX8_counted_91 (by rw [mh_0]; exact B.1) rfl ?_
        refine aw_iload_n (i := 1) dX8_counted_94 rfl rfl ?_
        refine aw_iald dX8_counted_95 X (hmoC _) (nI_toInt (by omega)) (by omega) ?_
        rw [hmx.2]
        refine aw_icmp_gt (tgt := 120) dX8_counted_96 (by decide) (fun _ => ?_) (fun c => (c (nI_lt (by omega) (by omega))).elim)
        refine aw_iload_n (i := 3) dX8_counted_120 rfl rfl ?_
        refine aw_ireturn dX8_counted_121 rfl rfl (Nat.le_of_ble_eq_true rfl) (Nat.le_of_ble_eq_true rfl) ?_
        refine hQ _ _ _ ?_
        rw [if_pos ⟨hkd, h2w⟩]
        exact ⟨rfl, rfl, ⟨h0, A2, bo, ki, mo, wt, rfl, B, hA2⟩, mfr_mh (fun _ _ => rfl)⟩
      | succ j ih =>
        intro i hi
        have hc := cnt_le (S := S) (s := X) (v := K + i) (by omega)
        have hg := mD_digit0 ((hA2.1 X hs).2 (K + i) (by omega)) (by omega)
        refine aw_iload dX8_counted_88 rfl ?_
        refine aw_aload_n (i := 0) dX8_counted_90 rfl rfl ?_
        refine aw_getfield fX8_63 dX8_counted_91 (by rw [mh_0]; exact B.1) rfl ?_
        refine aw_iload_n (i := 1) dX8_counted_94 rfl rfl ?_
        refine aw_iald dX8_counted_95 X (hmoC _) (nI_toInt (by omega)) (by omega) ?_
        rw [hmx.2]
        refine aw_icmp_gt (tgt := 120) dX8_counted_96 (by decide) (fun c => absurd c (nI_nlt (by omega) (by omega))) (fun _ => ?_)
        refine aw_iload_n (i := 3) dX8_counted_99 rfl rfl ?_
        refine aw_aload_n (i := 0) dX8_counted_100 rfl rfl ?_
        refine aw_getfield fX8_66 dX8_counted_101 (by rw [mh_0]; exact B.1) rfl ?_
        refine aw_iload_n (i := 1) dX8_counted_104 rfl rfl ?_
        refine aw_iload dX8_counted_105 rfl ?_
        refine aw_invokestatic kX8_187 dX8_counted_107 (ct_X8_at n (mh h0 m A2) X (K + i)) rfl rfl (Nat.le_of_ble_eq_true rfl) ⟨Nat.le_of_ble_eq_true rfl, Nat.le_of_ble_eq_true rfl⟩ ⟨Nat.le_of_ble_eq_true rfl, Nat.le_of_ble_eq_true rfl⟩ ?_
        rintro _ _ _ ⟨rfl, rfl, rfl⟩
        refine aw_lald dX8_counted_110 (10 * (121 * X + (K + i))) (mh_at h0 m A2 (k := 19) rfl) (nI_toInt (by omega)) (show 10 * (121 * X + (K + i)) < 19360 by omega) ?_
        refine aw_l2i dX8_counted_111 rfl ?_
        refine aw_iadd dX8_counted_112 ?_
        rw [hg, lN_i, nI_add]
        refine aw_istore_3 dX8_counted_113 (by decide) rfl ?_
        refine aw_iinc_4 (c0 := 1) dX8_counted_114 (by decide) (by decide) rfl ?_
        refine aw_goto (tgt := 88) dX8_counted_117 (by decide) ?_
        rw [nI_1, Nat.add_assoc]
        exact ih (i + 1) (by omega)
    exact loop (sT S X + 1 - K) 0 (by omega)
  refine aw_aload_n (i := 0) dX8_counted_47 rfl rfl ?_
  refine aw_getfield fX8_59 dX8_counted_48 (by rw [mh_0]; exact B.1) rfl ?_
  refine aw_iload_n (i := 1) dX8_counted_51 rfl rfl ?_
  refine aw_iald dX8_counted_52 X (hkiC _) (nI_toInt (by omega)) (by omega) ?_
  rw [hmx.1]
  by_cases k0 : sK S X = 0
  · refine aw_if_eq (tgt := 66) dX8_counted_53 (by decide) (fun _ => ?_) (fun c => (c (by rw [k0]; rfl)).elim)
    exact go (Or.inl k0)
  · refine aw_if_eq (tgt := 66) dX8_counted_53 (by decide) (fun c => absurd c (nI_ne0 (by omega) (by omega))) (fun _ => ?_)
    refine aw_aload_n (i := 0) dX8_counted_56 rfl rfl ?_
    refine aw_getfield fX8_59 dX8_counted_57 (by rw [mh_0]; exact B.1) rfl ?_
    refine aw_iload_n (i := 1) dX8_counted_60 rfl rfl ?_
    refine aw_iald dX8_counted_61 X (hkiC _) (nI_toInt (by omega)) (by omega) ?_
    rw [hmx.1]
    refine aw_iconst (v := 2) dX8_counted_62 (by decide +kernel) ?_
    by_cases k2 : sK S X = 2
    · refine aw_icmp_ne (tgt := 80) dX8_counted_63 (by decide) (fun c => absurd c (fun c => c (by rw [k2]; rfl))) (fun _ => ?_)
      exact go (Or.inr k2)
    · refine aw_icmp_ne (tgt := 80) dX8_counted_63 (by decide) (fun _ => ?_) (fun c => ((fun c => k2 ((nI_eq (b := 2) (by omega) (by decide)).mp c)) c).elim)
      exact none5 (fun q => by omega)
/-- 'give' ends a call as putP says -/
theorem gave_rep {n m : Nat} {h0 h : Hp} {A A1 : Nat → Nat → Nat} {S : TS} {bo ki mo wt : Nat → Nat} {p u d : Nat} {r : Option Value} {h' : Hp} (B : MB h0 m S bo ki mo wt) (hA : MA A S bo) (hp : p < 16) (e : ∀ k, k = 6 ∨ k = 7 ∨ k = 19 ∨ k = 20 → A1 k = A k) (hh : ∀ y, (y < m ∨ m + 32 ≤ y) → h0 y = h y) (hg : gave h0 m A1 bo p (u / Nat.gcd u d) (d / Nat.gcd u d) r h') : MOK n m h (putP S p u d) r n h' := by
  unfold putP
  rcases hg with ⟨hw, hr, A2, rfl, f⟩ | ⟨hw, hr, A2, rfl, d6, d7, fo, f⟩
  · rw [if_neg hw]
    refine ⟨rfl, hr, ⟨h0, A2, bo, ki, mo, wt, rfl, B, hA.keep ?_ ?_ ?_ ?_⟩, fun y hy => by rw [mh_fr hy, hh y hy]⟩
    · rw [f 6 (by decide) (by decide) (by decide), e 6 (by decide)]
    · rw [f 7 (by decide) (by decide) (by decide), e 7 (by decide)]
    · rw [f 19 (by decide) (by decide) (by decide), e 19 (by decide)]
    · rw [f 20 (by decide) (by decide) (by decide), e 20 (by decide)]
  · rw [if_pos hw]
    refine ⟨rfl, hr, ⟨_, A2, va_up bo p 1, ki, mo, wt, rfl, ⟨?_, hup_self _ _ _, ?_, ?_, ?_, B.2.2.2.2.2.1, B.2.2.2.2.2.2⟩, ?_, ?_⟩, fun y hy => by rw [mh_fr hy, hup_ne (by omega), hh y hy]⟩
    · rw [hup_ne (by omega)]; exact B.1
    · rw [hup_ne (by omega)]; exact B.2.2.1
    · rw [hup_ne (by omega)]; exact B.2.2.2.1
    · rw [hup_ne (by omega)]; exact B.2.2.2.2.1
    · intro s hs
      have := hA.1 s hs
      rw [f 19 (by decide) (by decide) (by decide), f 20 (by decide) (by decide) (by decide), e 19 (by decide), e 20 (by decide)]
      exact this
    · intro q hq
      show plc A2 (va_up bo p 1) q (va_up (sP S) p (some (u / Nat.gcd u d, d / Nat.gcd u d)) q)
      by_cases hqp : q = p
      · subst hqp
        unfold plc
        rw [va_up_at, va_up_at]
        refine ⟨rfl, fun a b hab => ?_⟩
        cases hab
        exact ⟨d6, d7⟩
      · have := hA.2 q hq
        unfold plc at this ⊢
        rw [va_up_off hqp, va_up_off hqp]
        refine ⟨this.1, fun a b hab => ⟨mD_congr (this.2 a b hab).1 (fun i h1 h2 => ?_), mD_congr (this.2 a b hab).2 (fun i h1 h2 => ?_)⟩⟩
        · rw [(fo i (by omega)).1, e 6 (by decide)]
        · rw [(fo i (by omega)).2, e 7 (by decide)]
theorem mt_set (n : Nat) (h : Hp) (m : Nat) (S : TS) (p a b : Int32) (hR : MRep h m S) (hI : SInv S) : CT mX8_set 0 0 n h [.ref m, .int p, .int a, .int b] (MOK n m h (opSet S p a b)) := by
  obtain ⟨h0, A, bo, ki, mo, wt, rfl, B, hA⟩ := id hR
  refine CT.intro [some (.ref m), some (.int p), some (.int a), some (.int b)] 0 rfl rfl (by decide) ?_
  intro Q hQ
  have bad : (isP p && (decide (0 ≤ a.toInt) && decide (1 ≤ b.toInt))) = false → AW mX8_set (gq 0 0 Q) 16 [some (.ref m), some (.int p), some (.int a), some (.int b)] [] 0 0 n (mh h0 m A) := by
    intro hb
    refine aw_iconst (v := (-1)) dX8_set_16 (by decide +kernel) ?_
    refine aw_ireturn dX8_set_17 rfl rfl (Nat.le_of_ble_eq_true rfl) (Nat.le_of_ble_eq_true rfl) ?_
    refine hQ _ _ _ (bad_ret hR ?_)
    unfold opSet; rw [hb]; rfl
  refine aw_iload_n (i := 1) dX8_set_0 rfl rfl ?_
  refine aw_invokestatic kX8_211 dX8_set_1 (ct_isP n (mh h0 m A) p) rfl rfl (Nat.le_of_ble_eq_true rfl) ⟨Nat.le_of_ble_eq_true rfl, Nat.le_of_ble_eq_true rfl⟩ ⟨Nat.le_of_ble_eq_true rfl, Nat.le_of_ble_eq_true rfl⟩ ?_
  rintro _ _ _ ⟨rfl, rfl, rfl⟩
  by_cases h1 : isP p = true
  case neg =>
    refine aw_if_eq (tgt := 16) dX8_set_4 (by decide) (fun _ => ?_) (fun c => (c (bI_eq0.mpr (by simpa using h1))).elim)
    exact bad (by simp [h1])
  refine aw_if_eq (tgt := 16) dX8_set_4 (by decide) (fun c => absurd c (bI_ne0.mpr h1)) (fun _ => ?_)
  refine aw_iload_n (i := 2) dX8_set_7 rfl rfl ?_
  by_cases h2 : 0 ≤ a.toInt
  case neg =>
    refine aw_if_lt (tgt := 16) dX8_set_8 (by decide) (fun _ => ?_) (fun c => (c (by rw [Int32.lt_iff_toInt_lt, toInt_lit0]; omega)).elim)
    exact bad (by simp [h2])
  refine aw_if_lt (tgt := 16) dX8_set_8 (by decide) (fun c => absurd c (by rw [Int32.lt_iff_toInt_lt, toInt_lit0]; omega)) (fun _ => ?_)
  refine aw_iload_n (i := 3) dX8_set_11 rfl rfl ?_
  refine aw_iconst (v := 1) dX8_set_12 (by decide +kernel) ?_
  by_cases h3 : 1 ≤ b.toInt
  case neg =>
    refine aw_icmp_ge (tgt := 18) dX8_set_13 (by decide) (fun c => absurd c (by rw [Int32.le_iff_toInt_le, toInt_1]; omega)) (fun _ => ?_)
    exact bad (by simp [h3])
  obtain ⟨ep, hp⟩ := isP_N h1
  have ha := Int32.toInt_lt a
  have hb := Int32.toInt_lt b
  have ea : a.toInt64 = lN (tN a) := by
    apply Int64.toInt_inj.mp
    have : ((tN a : Nat) : Int) = a.toInt := by unfold tN; omega
    rw [Int32.toInt_toInt64, pk_lT (by omega)]; omega
  have eb : b.toInt64 = lN (tN b) := by
    apply Int64.toInt_inj.mp
    have : ((tN b : Nat) : Int) = b.toInt := by unfold tN; omega
    rw [Int32.toInt_toInt64, pk_lT (by omega)]; omega
  have hta : ((tN a : Nat) : Int) = a.toInt := by unfold tN; omega
  have htb : ((tN b : Nat) : Int) = b.toInt := by unfold tN; omega
  have hop : opSet S p a b = putP S (tN p) (tN a) (tN b) := by unfold opSet; rw [h1]; simp [h2, h3]
  rw [hop] at hQ
  rw [ep]
  refine aw_icmp_ge (tgt := 18) dX8_set_13 (by decide) (fun _ => ?_) (fun c => (c (by rw [Int32.le_iff_toInt_le, toInt_1]; omega)).elim)
  refine aw_aload_n (i := 0) dX8_set_18 rfl rfl ?_
  refine aw_getfield fX8_35 dX8_set_19 (by rw [mh_0]; exact B.1) rfl ?_
  refine aw_iload_n (i := 2) dX8_set_22 rfl rfl ?_
  refine aw_i2l dX8_set_23 rfl ?_
  rw [ea]
  refine aw_invokestatic kX8_124 dX8_set_24 (mc_become n h0 m A 9 (tN a) rfl rfl (by omega)) rfl rfl (Nat.le_of_ble_eq_true rfl) ⟨Nat.le_of_ble_eq_true rfl, Nat.le_of_ble_eq_true rfl⟩ ⟨Nat.le_of_ble_eq_true rfl, Nat.le_of_ble_eq_true rfl⟩ ?_
  rintro _ _ _ ⟨rfl, rfl, A1, rfl, d1, f1⟩
  refine aw_aload_n (i := 0) dX8_set_27 rfl rfl ?_
  refine aw_getfield fX8_38 dX8_set_28 (by rw [mh_0]; exact B.1) rfl ?_
  refine aw_iload_n (i := 3) dX8_set_31 rfl rfl ?_
  refine aw_i2l dX8_set_32 rfl ?_
  rw [eb]
  refine aw_invokestatic kX8_124 dX8_set_33 (mc_become n h0 m A1 10 (tN b) rfl rfl (by omega)) rfl rfl (Nat.le_of_ble_eq_true rfl) ⟨Nat.le_of_ble_eq_true rfl, Nat.le_of_ble_eq_true rfl⟩ ⟨Nat.le_of_ble_eq_true rfl, Nat.le_of_ble_eq_true rfl⟩ ?_
  rintro _ _ _ ⟨rfl, rfl, A2, rfl, d2, f2⟩
  refine aw_aload_n (i := 0) dX8_set_36 rfl rfl ?_
  refine aw_iload_n (i := 1) dX8_set_37 rfl rfl ?_
  refine aw_invokevirtual kX8_214 dX8_set_38 (by rw [mh_0]; exact B.1) (ct_X8_give n h0 m A2 bo (tN p) (tN a) (tN b) hp B.ob B.2.1 (by rw [f2 9 (by decide)]; exact d1) d2 (by omega)) rfl rfl (Nat.le_of_ble_eq_true rfl) ⟨Nat.le_of_ble_eq_true rfl, Nat.le_of_ble_eq_true rfl⟩ ⟨Nat.le_of_ble_eq_true rfl, Nat.le_of_ble_eq_true rfl⟩ ?_
  rintro r _ h' ⟨rfl, hg⟩
  have hOK := gave_rep (n := n) (h := mh h0 m A) B hA hp (fun k hk => by rw [f2 k (by omega), f1 k (by omega)]) (fun y hy => (mh_fr hy).symm) hg
  obtain ⟨-, hr, -⟩ := id hOK
  subst hr
  refine aw_ireturn dX8_set_41 rfl rfl (Nat.le_of_ble_eq_true rfl) (Nat.le_of_ble_eq_true rfl) ?_
  exact hQ _ _ _ hOK
