theorem mt_moment (n : Nat) (h : Hp) (m : Nat) (S : TS) (p s e : Int32) (hR : MRep h m S) (hI : SInv S) : CT mX8_moment 0 0 n h [.ref m, .int p, .int s, .int e] (MOK n m h (opMoment S p s e)) := by
  obtain ⟨h0, A, bo, ki, mo, wt, rfl, B, hA⟩ := id hR
  refine CT.intro [some (.ref m), some (.int p), some (.int s), some (.int e), none] 1 rfl rfl (by decide) ?_
  intro Q hQ
  have bad : (isP p && (isS S s && (decide (e = 2) || decide (e = 4)))) = false → AW mX8_moment (gq 0 0 Q) 25 [some (.ref m), some (.int p), some (.int s), some (.int e), none] [] 0 0 n (mh h0 m A) := by
    intro hb
    refine aw_iconst (v := (-1)) dX8_moment_25 (by decide +kernel) ?_
    refine aw_ireturn dX8_moment_26 rfl rfl (Nat.le_of_ble_eq_true rfl) (Nat.le_of_ble_eq_true rfl) ?_
    refine hQ _ _ _ (bad_ret hR ?_)
    unfold opMoment; rw [hb]; rfl
  refine aw_iload_n (i := 1) dX8_moment_0 rfl rfl ?_
  refine aw_invokestatic kX8_211 dX8_moment_1 (ct_isP n (mh h0 m A) p) rfl rfl (Nat.le_of_ble_eq_true rfl) ⟨Nat.le_of_ble_eq_true rfl, Nat.le_of_ble_eq_true rfl⟩ ⟨Nat.le_of_ble_eq_true rfl, Nat.le_of_ble_eq_true rfl⟩ ?_
  rintro _ _ _ ⟨rfl, rfl, rfl⟩
  by_cases h1 : isP p = true
  case neg =>
    refine aw_if_eq (tgt := 25) dX8_moment_4 (by decide) (fun _ => ?_) (fun c => (c (bI_eq0.mpr (by simpa using h1))).elim)
    exact bad (by simp [h1])
  refine aw_if_eq (tgt := 25) dX8_moment_4 (by decide) (fun c => absurd c (bI_ne0.mpr h1)) (fun _ => ?_)
  refine aw_aload_n (i := 0) dX8_moment_7 rfl rfl ?_
  refine aw_iload_n (i := 2) dX8_moment_8 rfl rfl ?_
  refine aw_invokevirtual kX8_205 dX8_moment_9 (by rw [mh_0]; exact B.1) (ct_isS n h0 m A S bo ki mo wt s B hI) rfl rfl (Nat.le_of_ble_eq_true rfl) ⟨Nat.le_of_ble_eq_true rfl, Nat.le_of_ble_eq_true rfl⟩ ⟨Nat.le_of_ble_eq_true rfl, Nat.le_of_ble_eq_true rfl⟩ ?_
  rintro _ _ _ ⟨rfl, rfl, rfl⟩
  by_cases h2 : isS S s = true
  case neg =>
    refine aw_if_eq (tgt := 25) dX8_moment_12 (by decide) (fun _ => ?_) (fun c => (c (bI_eq0.mpr (by simpa using h2))).elim)
    exact bad (by simp [h2])
  obtain ⟨ep, hp⟩ := isP_N h1
  obtain ⟨es, hs⟩ := isS_N h2
  -- the order is 2 or 4
  have go : ∀ E : Nat, (E = 2 ∨ E = 4) → e = nI E → AW mX8_moment (gq 0 0 Q) 27 [some (.ref m), some (.int p), some (.int s), some (.int e), none] [] 0 0 n (mh h0 m A) := by
    intro E hE eE
    have hop : opMoment S p s e = putP S (tN p) (smom S (tN s) E) (stot S (tN s) ^ (E + 1)) := by
      unfold opMoment
      rw [h1, h2]
      rcases hE with rfl | rfl
      · rw [eE]; rfl
      · rw [eE]; rfl
    rw [hop] at hQ
    clear hop bad
    generalize tN p = p' at *
    generalize tN s = X at *
    subst ep es eE
    have htot := (hI.2.1.2 X hs).2.2.2
    have w6 : 2 ^ 256 ≤ 2 ^ (28 * 10) := Nat.pow_le_pow_right (by decide) (by decide)
    have hpw : ∀ t, t ≤ 5 → stot S X ^ t < 2 ^ (28 * 48) := by
      intro t ht
      have a2 : stot S X ^ t ≤ (2 ^ 256) ^ t := Nat.pow_le_pow_left (Nat.le_of_lt htot) t
      have a3 : (2 ^ 256) ^ t ≤ (2 ^ 256) ^ 5 := Nat.pow_le_pow_right (by decide) ht
      have a4 : (2 ^ 256) ^ 5 < 2 ^ (28 * 48) := by rw [← Nat.pow_mul]; exact Nat.pow_lt_pow_right (by decide) (by decide)
      omega
    refine aw_aload_n (i := 0) dX8_moment_27 rfl rfl ?_
    refine aw_iload_n (i := 2) dX8_moment_28 rfl rfl ?_
    refine aw_invokevirtual kX8_218 dX8_moment_29 (by rw [mh_0]; exact B.1) (ct_X8_weighs n h0 m A S bo ki mo wt X B hA hI hs) rfl rfl (Nat.le_of_ble_eq_true rfl) ⟨Nat.le_of_ble_eq_true rfl, Nat.le_of_ble_eq_true rfl⟩ ⟨Nat.le_of_ble_eq_true rfl, Nat.le_of_ble_eq_true rfl⟩ ?_
    rintro _ _ _ ⟨rfl, rfl, A1, rfl, d28, d29, f1⟩
    have hA1 : MA A1 S bo := hA.keep (f1 6 (by decide) (by decide) (by decide)) (f1 7 (by decide) (by decide) (by decide)) (f1 19 (by decide) (by decide) (by decide)) (f1 20 (by decide) (by decide) (by decide))
    refine aw_aload_n (i := 0) dX8_moment_32 rfl rfl ?_
    refine aw_iload_n (i := 2) dX8_moment_33 rfl rfl ?_
    refine aw_iload_n (i := 3) dX8_moment_34 rfl rfl ?_
    refine aw_invokevirtual kX8_226 dX8_moment_35 (by rw [mh_0]; exact B.1) (ct_X8_moments n h0 m A1 S bo ki mo wt X E B hA1 hI hs hE d28 d29) rfl rfl (Nat.le_of_ble_eq_true rfl) ⟨Nat.le_of_ble_eq_true rfl, Nat.le_of_ble_eq_true rfl⟩ ⟨Nat.le_of_ble_eq_true rfl, Nat.le_of_ble_eq_true rfl⟩ ?_
    rintro _ _ _ ⟨rfl, rfl, A2, rfl, d25, f2⟩
    refine aw_aload_n (i := 0) dX8_moment_38 rfl rfl ?_
    refine aw_getfield fX8_35 dX8_moment_39 (by rw [mh_0]; exact B.1) rfl ?_
    refine aw_aload_n (i := 0) dX8_moment_42 rfl rfl ?_
    refine aw_getfield fX8_84 dX8_moment_43 (by rw [mh_0]; exact B.1) rfl ?_
    refine aw_invokestatic kX8_128 dX8_moment_46 (mc_copy n h0 m A2 9 25 _ rfl rfl rfl rfl (by decide) d25) rfl rfl (Nat.le_of_ble_eq_true rfl) ⟨Nat.le_of_ble_eq_true rfl, Nat.le_of_ble_eq_true rfl⟩ ⟨Nat.le_of_ble_eq_true rfl, Nat.le_of_ble_eq_true rfl⟩ ?_
    rintro _ _ _ ⟨rfl, rfl, A3, rfl, d3, f3⟩
    have e28 : dg (A3 28) (stot S X) := by rw [f3 28 (by decide), f2 28 (by decide) (by decide) (by decide) (by decide)]; exact d28
    refine aw_aload_n (i := 0) dX8_moment_49 rfl rfl ?_
    refine aw_getfield fX8_38 dX8_moment_50 (by rw [mh_0]; exact B.1) rfl ?_
    refine aw_aload_n (i := 0) dX8_moment_53 rfl rfl ?_
    refine aw_getfield fX8_93 dX8_moment_54 (by rw [mh_0]; exact B.1) rfl ?_
    refine aw_invokestatic kX8_128 dX8_moment_57 (mc_copy n h0 m A3 10 28 _ rfl rfl rfl rfl (by decide) e28) rfl rfl (Nat.le_of_ble_eq_true rfl) ⟨Nat.le_of_ble_eq_true rfl, Nat.le_of_ble_eq_true rfl⟩ ⟨Nat.le_of_ble_eq_true rfl, Nat.le_of_ble_eq_true rfl⟩ ?_
    rintro _ _ _ ⟨rfl, rfl, A4, rfl, d4, f4⟩
    refine aw_iconst (v := 0) dX8_moment_60 (by decide +kernel) ?_
    refine aw_istore_4 dX8_moment_61 (by decide) rfl ?_
    have loop : ∀ (j t : Nat) (A' : Nat → Nat → Nat), t + j = E → dg (A' 9) (smom S X E) → dg (A' 10) (stot S X ^ (t + 1)) → dg (A' 28) (stot S X) → (∀ k, k = 6 ∨ k = 7 ∨ k = 19 ∨ k = 20 → A' k = A k) → AW mX8_moment (gq 0 0 Q) 63 [some (.ref m), some (.int (nI p')), some (.int (nI X)), some (.int (nI E)), some (.int (nI t))] [] 0 0 n (mh h0 m A') := by
      intro j
      induction j with
      | zero =>
        intro t A' ht d9 d10 d28' fr
        obtain rfl : t = E := by omega
        refine aw_iload dX8_moment_63 rfl ?_
        refine aw_iload_n (i := 3) dX8_moment_65 rfl rfl ?_
        refine aw_icmp_ge (tgt := 101) dX8_moment_66 (by decide) (fun _ => ?_) (fun c => (c (nI_le (Nat.le_refl _) (by omega))).elim)
        refine aw_aload_n (i := 0) dX8_moment_101 rfl rfl ?_
        refine aw_iload_n (i := 1) dX8_moment_102 rfl rfl ?_
        refine aw_invokevirtual kX8_214 dX8_moment_103 (by rw [mh_0]; exact B.1) (ct_X8_give n h0 m A' bo p' _ _ hp B.ob B.2.1 d9 d10 (Nat.pow_pos (hI.2.1.2 X hs).2.2.1)) rfl rfl (Nat.le_of_ble_eq_true rfl) ⟨Nat.le_of_ble_eq_true rfl, Nat.le_of_ble_eq_true rfl⟩ ⟨Nat.le_of_ble_eq_true rfl, Nat.le_of_ble_eq_true rfl⟩ ?_
        rintro r _ h' ⟨rfl, hg⟩
        have hOK := gave_rep (n := n) (h := mh h0 m A) B hA hp fr (fun y hy => (mh_fr hy).symm) hg
        obtain ⟨-, hr, -⟩ := id hOK
        subst hr
        refine aw_ireturn dX8_moment_106 rfl rfl (Nat.le_of_ble_eq_true rfl) (Nat.le_of_ble_eq_true rfl) ?_
        exact hQ _ _ _ hOK
      | succ j ih =>
        intro t A' ht d9 d10 d28' fr
        refine aw_iload dX8_moment_63 rfl ?_
        refine aw_iload_n (i := 3) dX8_moment_65 rfl rfl ?_
        refine aw_icmp_ge (tgt := 101) dX8_moment_66 (by decide) (fun c => absurd c (nI_ge (by omega) (by omega))) (fun _ => ?_)
        refine aw_aload_n (i := 0) dX8_moment_69 rfl rfl ?_
        refine aw_getfield fX8_81 dX8_moment_70 (by rw [mh_0]; exact B.1) rfl ?_
        refine aw_aload_n (i := 0) dX8_moment_73 rfl rfl ?_
        refine aw_getfield fX8_38 dX8_moment_74 (by rw [mh_0]; exact B.1) rfl ?_
        refine aw_aload_n (i := 0) dX8_moment_77 rfl rfl ?_
        refine aw_getfield fX8_93 dX8_moment_78 (by rw [mh_0]; exact B.1) rfl ?_
        refine aw_invokestatic kX8_174 dX8_moment_81 (mc_times n h0 m A' 24 10 28 _ _ 48 10 rfl rfl rfl rfl rfl rfl (by decide) (by decide) d10 d28' (hpw _ (by omega)) (Nat.lt_of_lt_of_le htot w6) (by decide)) rfl rfl (Nat.le_of_ble_eq_true rfl) ⟨Nat.le_of_ble_eq_true rfl, Nat.le_of_ble_eq_true rfl⟩ ⟨Nat.le_of_ble_eq_true rfl, Nat.le_of_ble_eq_true rfl⟩ ?_
        rintro _ _ _ ⟨rfl, rfl, A5, rfl, d5, f5⟩
        refine aw_aload_n (i := 0) dX8_moment_84 rfl rfl ?_
        refine aw_getfield fX8_38 dX8_moment_85 (by rw [mh_0]; exact B.1) rfl ?_
        refine aw_aload_n (i := 0) dX8_moment_88 rfl rfl ?_
        refine aw_getfield fX8_81 dX8_moment_89 (by rw [mh_0]; exact B.1) rfl ?_
        refine aw_invokestatic kX8_128 dX8_moment_92 (mc_copy n h0 m A5 10 24 _ rfl rfl rfl rfl (by decide) d5) rfl rfl (Nat.le_of_ble_eq_true rfl) ⟨Nat.le_of_ble_eq_true rfl, Nat.le_of_ble_eq_true rfl⟩ ⟨Nat.le_of_ble_eq_true rfl, Nat.le_of_ble_eq_true rfl⟩ ?_
        rintro _ _ _ ⟨rfl, rfl, A6, rfl, d6, f6⟩
        refine aw_iinc_4 (c0 := 1) dX8_moment_95 (by decide) (by decide) rfl ?_
        refine aw_goto (tgt := 63) dX8_moment_98 (by decide) ?_
        rw [nI_1]
        exact ih (t + 1) A6 (by omega) (by rw [f6 9 (by decide), f5 9 (by decide)]; exact d9) (by rw [Nat.pow_succ]; exact d6) (by rw [f6 28 (by decide), f5 28 (by decide)]; exact d28') (fun k hk => by rw [f6 k (by omega), f5 k (by omega)]; exact fr k hk)
    exact loop E 0 A4 (by omega) (by rw [f4 9 (by decide)]; exact d3) (by rw [Nat.zero_add, Nat.pow_one]; exact d4) (by rw [f4 28 (by decide)]; exact e28) (fun k hk => by rw [f4 k (by omega), f3 k (by omega), f2 k (by omega) (by omega) (by omega) (by omega), f1 k (by omega) (by omega) (by omega)])
  refine aw_if_eq (tgt := 25) dX8_moment_12 (by decide) (fun c => absurd c (bI_ne0.mpr h2)) (fun _ => ?_)
  refine aw_iload_n (i := 3) dX8_moment_15 rfl rfl ?_
  refine aw_iconst (v := 2) dX8_moment_16 (by decide +kernel) ?_
  by_cases h3 : e = 2
  · refine aw_icmp_eq (tgt := 27) dX8_moment_17 (by decide) (fun _ => ?_) (fun c => (c h3).elim)
    exact go 2 (Or.inl rfl) h3
  · refine aw_icmp_eq (tgt := 27) dX8_moment_17 (by decide) (fun c => absurd c h3) (fun _ => ?_)
    refine aw_iload_n (i := 3) dX8_moment_20 rfl rfl ?_
    refine aw_iconst (v := 4) dX8_moment_21 (by decide +kernel) ?_
    by_cases h4 : e = 4
    · refine aw_icmp_eq (tgt := 27) dX8_moment_22 (by decide) (fun _ => ?_) (fun c => (c h4).elim)
      exact go 4 (Or.inr rfl) h4
    · refine aw_icmp_eq (tgt := 27) dX8_moment_22 (by decide) (fun c => absurd c h4) (fun _ => ?_)
      exact bad (by simp [h3, h4])
theorem mt_tail (n : Nat) (h : Hp) (m : Nat) (S : TS) (p s k sd : Int32) (hR : MRep h m S) (hI : SInv S) : CT mX8_tail 0 0 n h [.ref m, .int p, .int s, .int k, .int sd] (MOK n m h (opTail S p s k sd)) := by
  obtain ⟨h0, A, bo, ki, mo, wt, rfl, B, hA⟩ := id hR
  refine CT.intro [some (.ref m), some (.int p), some (.int s), some (.int k), some (.int sd), none, none, none, none] 4 rfl rfl (by decide) ?_
  intro Q hQ
  have bad : (isP p && (isS S s && (rg k 0 120 && rg sd 0 2))) = false → AW mX8_tail (gq 0 0 Q) 35 [some (.ref m), some (.int p), some (.int s), some (.int k), some (.int sd), none, none, none, none] [] 0 0 n (mh h0 m A) := by
    intro hb
    refine aw_iconst (v := (-1)) dX8_tail_35 (by decide +kernel) ?_
    refine aw_ireturn dX8_tail_36 rfl rfl (Nat.le_of_ble_eq_true rfl) (Nat.le_of_ble_eq_true rfl) ?_
    refine hQ _ _ _ (bad_ret hR ?_)
    unfold opTail; rw [hb]; rfl
  refine aw_iload_n (i := 1) dX8_tail_0 rfl rfl ?_
  refine aw_invokestatic kX8_211 dX8_tail_1 (ct_isP n (mh h0 m A) p) rfl rfl (Nat.le_of_ble_eq_true rfl) ⟨Nat.le_of_ble_eq_true rfl, Nat.le_of_ble_eq_true rfl⟩ ⟨Nat.le_of_ble_eq_true rfl, Nat.le_of_ble_eq_true rfl⟩ ?_
  rintro _ _ _ ⟨rfl, rfl, rfl⟩
  by_cases h1 : isP p = true
  case neg =>
    refine aw_if_eq (tgt := 35) dX8_tail_4 (by decide) (fun _ => ?_) (fun c => (c (bI_eq0.mpr (by simpa using h1))).elim)
    exact bad (by simp [h1])
  refine aw_if_eq (tgt := 35) dX8_tail_4 (by decide) (fun c => absurd c (bI_ne0.mpr h1)) (fun _ => ?_)
  refine aw_aload_n (i := 0) dX8_tail_7 rfl rfl ?_
  refine aw_iload_n (i := 2) dX8_tail_8 rfl rfl ?_
  refine aw_invokevirtual kX8_205 dX8_tail_9 (by rw [mh_0]; exact B.1) (ct_isS n h0 m A S bo ki mo wt s B hI) rfl rfl (Nat.le_of_ble_eq_true rfl) ⟨Nat.le_of_ble_eq_true rfl, Nat.le_of_ble_eq_true rfl⟩ ⟨Nat.le_of_ble_eq_true rfl, Nat.le_of_ble_eq_true rfl⟩ ?_
  rintro _ _ _ ⟨rfl, rfl, rfl⟩
  by_cases h2 : isS S s = true
  case neg =>
    refine aw_if_eq (tgt := 35) dX8_tail_12 (by decide) (fun _ => ?_) (fun c => (c (bI_eq0.mpr (by simpa using h2))).elim)
    exact bad (by simp [h2])
  refine aw_if_eq (tgt := 35) dX8_tail_12 (by decide) (fun c => absurd c (bI_ne0.mpr h2)) (fun _ => ?_)
  refine aw_iload_n (i := 3) dX8_tail_15 rfl rfl ?_
  refine aw_iconst (v := 0) dX8_tail_16 (by decide +kernel) ?_
  refine aw_bipush (v := 120) dX8_tail_17 (by decide +kernel) ?_
  refine aw_invokestatic kX8_153 dX8_tail_19 (ct_in n (mh h0 m A) k 0 120 toInt_lit0 toInt_120) rfl rfl (Nat.le_of_ble_eq_true rfl) ⟨Nat.le_of_ble_eq_true rfl, Nat.le_of_ble_eq_true rfl⟩ ⟨Nat.le_of_ble_eq_true rfl, Nat.le_of_ble_eq_true rfl⟩ ?_
  rintro _ _ _ ⟨rfl, rfl, rfl⟩
  by_cases h3 : rg k 0 120 = true
  case neg =>
    refine aw_if_eq (tgt := 35) dX8_tail_22 (by decide) (fun _ => ?_) (fun c => (c (bI_eq0.mpr (by simpa using h3))).elim)
    exact bad (by simp [h3])
  refine aw_if_eq (tgt := 35) dX8_tail_22 (by decide) (fun c => absurd c (bI_ne0.mpr h3)) (fun _ => ?_)
  refine aw_iload dX8_tail_25 rfl ?_
  refine aw_iconst (v := 0) dX8_tail_27 (by decide +kernel) ?_
  refine aw_iconst (v := 2) dX8_tail_28 (by decide +kernel) ?_
  refine aw_invokestatic kX8_153 dX8_tail_29 (ct_in n (mh h0 m A) sd 0 2 toInt_lit0 toInt_2) rfl rfl (Nat.le_of_ble_eq_true rfl) ⟨Nat.le_of_ble_eq_true rfl, Nat.le_of_ble_eq_true rfl⟩ ⟨Nat.le_of_ble_eq_true rfl, Nat.le_of_ble_eq_true rfl⟩ ?_
  rintro _ _ _ ⟨rfl, rfl, rfl⟩
  by_cases h4 : rg sd 0 2 = true
  case neg =>
    refine aw_if_ne (tgt := 37) dX8_tail_32 (by decide) (fun c => absurd c (fun c => c (bI_eq0.mpr (by simpa using h4)))) (fun _ => ?_)
    exact bad (by simp [h4])
  obtain ⟨ep, hp⟩ := isP_N h1
  obtain ⟨es, hs⟩ := isS_N h2
  obtain ⟨ek, -, -, hk⟩ := rg_N h3 (by decide)
  obtain ⟨ed, -, -, hd⟩ := rg_N h4 (by decide)
  have hop : opTail S p s k sd = putP S (tN p) (stail S (tN s) (tN k) (tN sd)) (stot S (tN s)) := by unfold opTail; rw [h1, h2, h3, h4]; rfl
  rw [hop] at hQ
  clear bad hop
  generalize tN p = p' at *
  generalize tN s = X at *
  generalize tN k = K at *
  generalize tN sd = D at *
  subst ep es ek ed
  have hn16 := hI.2.1.1
  have hT := (hI.2.1.2 X hs).2.1
  have htot := (hI.2.1.2 X hs).2.2.2
  have hmx := (B.2.2.2.2.2.2 X hs).2
  have hmoC : ∀ A' : Nat → Nat → Nat, mh h0 m A' (m + 18) = some (iar 16 mo) := fun A' => by rw [mh_no h0 m A' rfl]; exact B.2.2.2.1
  have w1 : 2 ^ 256 < 2 ^ 263 := Nat.pow_lt_pow_right (by decide) (by decide)
  have w2 : 2 ^ 256 < 2 ^ 2688 := Nat.pow_lt_pow_right (by decide) (by decide)
  refine aw_if_ne (tgt := 37) dX8_tail_32 (by decide) (fun _ => ?_) (fun c => ((bI_ne0.mpr h4) c).elim)
  refine aw_aload_n (i := 0) dX8_tail_37 rfl rfl ?_
  refine aw_iload_n (i := 2) dX8_tail_38 rfl rfl ?_
  refine aw_invokevirtual kX8_218 dX8_tail_39 (by rw [mh_0]; exact B.1) (ct_X8_weighs n h0 m A S bo ki mo wt X B hA hI hs) rfl rfl (Nat.le_of_ble_eq_true rfl) ⟨Nat.le_of_ble_eq_true rfl, Nat.le_of_ble_eq_true rfl⟩ ⟨Nat.le_of_ble_eq_true rfl, Nat.le_of_ble_eq_true rfl⟩ ?_
  rintro _ _ _ ⟨rfl, rfl, A1, rfl, d28, d29, f1⟩
  refine aw_aload_n (i := 0) dX8_tail_42 rfl rfl ?_
  refine aw_aload_n (i := 0) dX8_tail_43 rfl rfl ?_
  refine aw_getfield fX8_53 dX8_tail_44 (by rw [mh_0]; exact B.1) rfl ?_
  refine aw_iload_n (i := 3) dX8_tail_47 rfl rfl ?_
  refine aw_invokevirtual kX8_222 dX8_tail_48 (by rw [mh_0]; exact B.1) (ct_X8_away n h0 m A1 15 _ _ K B.ob rfl rfl (by decide) (by decide) (by decide) (by omega) d28 d29 (by omega)) rfl rfl (Nat.le_of_ble_eq_true rfl) ⟨Nat.le_of_ble_eq_true rfl, Nat.le_of_ble_eq_true rfl⟩ ⟨Nat.le_of_ble_eq_true rfl, Nat.le_of_ble_eq_true rfl⟩ ?_
  rintro _ _ _ ⟨rfl, rfl, A2, rfl, d15, f2⟩
  rw [awG_S] at d15
  refine aw_istore_5 dX8_tail_51 (by decide) rfl ?_
  generalize bI (decide (smean S X < stot S X * K)) = yv
  refine aw_aload_n (i := 0) dX8_tail_53 rfl rfl ?_
  refine aw_getfield fX8_84 dX8_tail_54 (by rw [mh_0]; exact B.1) rfl ?_
  refine aw_lconst (v := 0) dX8_tail_57 (by decide) ?_
  refine aw_invokestatic kX8_124 dX8_tail_58 (mc_become n h0 m A2 25 0 rfl rfl (by decide)) rfl rfl (Nat.le_of_ble_eq_true rfl) ⟨Nat.le_of_ble_eq_true rfl, Nat.le_of_ble_eq_true rfl⟩ ⟨Nat.le_of_ble_eq_true rfl, Nat.le_of_ble_eq_true rfl⟩ ?_
  rintro _ _ _ ⟨rfl, rfl, A3, rfl, d25, f3⟩
  refine aw_iconst (v := 0) dX8_tail_61 (by decide +kernel) ?_
  refine aw_istore_6 dX8_tail_62 (by decide) rfl ?_
  have loop : ∀ (j v : Nat) (A' : Nat → Nat → Nat) (y7 y8 : Option Value), v + j = sT S X + 1 → dg (A' 25) (sg (fun v => if inTail S X K D v then sC S X v else 0) v) → dg (A' 28) (stot S X) → dg (A' 29) (smean S X) → dg (A' 15) (awayN S X K) → (∀ k, k = 6 ∨ k = 7 ∨ k = 19 ∨ k = 20 → A' k = A k) → AW mX8_tail (gq 0 0 Q) 64 [some (.ref m), some (.int (nI p')), some (.int (nI X)), some (.int (nI K)), some (.int (nI D)), some (.int yv), some (.int (nI v)), y7, y8] [] 0 0 n (mh h0 m A') := by
    intro j
    induction j with
    | zero =>
      intro v A' y7 y8 hv d25 d28 d29 d15 fr
      obtain rfl : v = sT S X + 1 := by omega
      refine aw_iload dX8_tail_64 rfl ?_
      refine aw_aload_n (i := 0) dX8_tail_66 rfl rfl ?_
      refine aw_getfield fX8_63 dX8_tail_67 (by rw [mh_0]; exact B.1) rfl ?_
      refine aw_iload_n (i := 2) dX8_tail_70 rfl rfl ?_
      refine aw_iald dX8_tail_71 X (hmoC _) (nI_toInt (by omega)) (by omega) ?_
      rw [hmx]
      refine aw_icmp_gt (tgt := 187) dX8_tail_72 (by decide) (fun _ => ?_) (fun c => (c (nI_lt (by omega) (by omega))).elim)
      refine aw_aload_n (i := 0) dX8_tail_187 rfl rfl ?_
      refine aw_getfield fX8_35 dX8_tail_188 (by rw [mh_0]; exact B.1) rfl ?_
      refine aw_aload_n (i := 0) dX8_tail_191 rfl rfl ?_
      refine aw_getfield fX8_84 dX8_tail_192 (by rw [mh_0]; exact B.1) rfl ?_
      refine aw_invokestatic kX8_128 dX8_tail_195 (mc_copy n h0 m A' 9 25 _ rfl rfl rfl rfl (by decide) d25) rfl rfl (Nat.le_of_ble_eq_true rfl) ⟨Nat.le_of_ble_eq_true rfl, Nat.le_of_ble_eq_true rfl⟩ ⟨Nat.le_of_ble_eq_true rfl, Nat.le_of_ble_eq_true rfl⟩ ?_
      rintro _ _ _ ⟨rfl, rfl, A4, rfl, d4, f4⟩
      refine aw_aload_n (i := 0) dX8_tail_198 rfl rfl ?_
      refine aw_getfield fX8_38 dX8_tail_199 (by rw [mh_0]; exact B.1) rfl ?_
      refine aw_aload_n (i := 0) dX8_tail_202 rfl rfl ?_
      refine aw_getfield fX8_93 dX8_tail_203 (by rw [mh_0]; exact B.1) rfl ?_
      refine aw_invokestatic kX8_128 dX8_tail_206 (mc_copy n h0 m A4 10 28 _ rfl rfl rfl rfl (by decide) (by rw [f4 28 (by decide)]; exact d28)) rfl rfl (Nat.le_of_ble_eq_true rfl) ⟨Nat.le_of_ble_eq_true rfl, Nat.le_of_ble_eq_true rfl⟩ ⟨Nat.le_of_ble_eq_true rfl, Nat.le_of_ble_eq_true rfl⟩ ?_
      rintro _ _ _ ⟨rfl, rfl, A5, rfl, d5, f5⟩
      refine aw_aload_n (i := 0) dX8_tail_209 rfl rfl ?_
      refine aw_iload_n (i := 1) dX8_tail_210 rfl rfl ?_
      refine aw_invokevirtual kX8_214 dX8_tail_211 (by rw [mh_0]; exact B.1) (ct_X8_give n h0 m A5 bo p' _ _ hp B.ob B.2.1 (by rw [f5 9 (by decide)]; exact d4) d5 (hI.2.1.2 X hs).2.2.1) rfl rfl (Nat.le_of_ble_eq_true rfl) ⟨Nat.le_of_ble_eq_true rfl, Nat.le_of_ble_eq_true rfl⟩ ⟨Nat.le_of_ble_eq_true rfl, Nat.le_of_ble_eq_true rfl⟩ ?_
      rintro r _ h' ⟨rfl, hg⟩
      have hOK := gave_rep (n := n) (h := mh h0 m A) B hA hp (fun k hk => by rw [f5 k (by omega), f4 k (by omega)]; exact fr k hk) (fun y hy => (mh_fr hy).symm) hg
      obtain ⟨-, hr, -⟩ := id hOK
      subst hr
      refine aw_ireturn dX8_tail_214 rfl rfl (Nat.le_of_ble_eq_true rfl) (Nat.le_of_ble_eq_true rfl) ?_
      exact hQ _ _ _ hOK
    | succ j ih =>
      intro v A' y7 y8 hv d25 d28 d29 d15 fr
      have hle : sg (fun v => if inTail S X K D v then sC S X v else 0) (v + 1) ≤ stot S X := Nat.le_trans (sg_le (show v + 1 ≤ sT S X + 1 by omega)) (sg_mono (fun i _ => by split <;> omega))
      rw [sg_s] at hle
      -- behind the test
      have fin : ∀ (A4 : Nat → Nat → Nat) (y8 : Option Value), dg (A4 25) (sg (fun v => if inTail S X K D v then sC S X v else 0) v) → dg (A4 28) (stot S X) → dg (A4 29) (smean S X) → dg (A4 15) (awayN S X K) → (∀ k, k = 6 ∨ k = 7 ∨ k = 19 ∨ k = 20 → A4 k = A k) → AW mX8_tail (gq 0 0 Q) 146 [some (.ref m), some (.int (nI p')), some (.int (nI X)), some (.int (nI K)), some (.int (nI D)), some (.int yv), some (.int (nI v)), some (.int (bI (inTail S X K D v))), y8] [] 0 0 n (mh h0 m A4) := by
        intro A4 y8 e25 e28 e29 e15 fr4
        have hA4 : MA A4 S bo := hA.keep (fr4 6 (by decide)) (fr4 7 (by decide)) (fr4 19 (by decide)) (fr4 20 (by decide))
        refine aw_iload dX8_tail_146 rfl ?_
        by_cases hin : inTail S X K D v = true
        · rw [if_pos hin] at hle
          refine aw_if_eq (tgt := 181) dX8_tail_148 (by decide) (fun c => absurd c (bI_ne0.mpr hin)) (fun _ => ?_)
          refine aw_aload_n (i := 0) dX8_tail_151 rfl rfl ?_
          refine aw_getfield fX8_75 dX8_tail_152 (by rw [mh_0]; exact B.1) rfl ?_
          refine aw_aload_n (i := 0) dX8_tail_155 rfl rfl ?_
          refine aw_getfield fX8_66 dX8_tail_156 (by rw [mh_0]; exact B.1) rfl ?_
          refine aw_iload_n (i := 2) dX8_tail_159 rfl rfl ?_
          refine aw_iload dX8_tail_160 rfl ?_
          refine aw_invokestatic kX8_187 dX8_tail_162 (ct_X8_at n (mh h0 m A4) X v) rfl rfl (Nat.le_of_ble_eq_true rfl) ⟨Nat.le_of_ble_eq_true rfl, Nat.le_of_ble_eq_true rfl⟩ ⟨Nat.le_of_ble_eq_true rfl, Nat.le_of_ble_eq_true rfl⟩ ?_
          rintro _ _ _ ⟨rfl, rfl, rfl⟩
          refine aw_bipush (v := 10) dX8_tail_165 (by decide +kernel) ?_
          refine aw_invokestatic kX8_170 dX8_tail_167 (mc_loadC n h0 m A4 S bo 22 X v rfl rfl (by decide) hA4 hI hs (by omega)) rfl rfl (Nat.le_of_ble_eq_true rfl) ⟨Nat.le_of_ble_eq_true rfl, Nat.le_of_ble_eq_true rfl⟩ ⟨Nat.le_of_ble_eq_true rfl, Nat.le_of_ble_eq_true rfl⟩ ?_
          rintro _ _ _ ⟨rfl, rfl, A5, rfl, d5, f5⟩
          refine aw_aload_n (i := 0) dX8_tail_170 rfl rfl ?_
          refine aw_getfield fX8_84 dX8_tail_171 (by rw [mh_0]; exact B.1) rfl ?_
          refine aw_aload_n (i := 0) dX8_tail_174 rfl rfl ?_
          refine aw_getfield fX8_75 dX8_tail_175 (by rw [mh_0]; exact B.1) rfl ?_
          refine aw_invokestatic kX8_191 dX8_tail_178 (mc_plus n h0 m A5 25 22 _ _ rfl rfl rfl rfl (by decide) (by rw [f5 25 (by decide)]; exact e25) d5 (by omega)) rfl rfl (Nat.le_of_ble_eq_true rfl) ⟨Nat.le_of_ble_eq_true rfl, Nat.le_of_ble_eq_true rfl⟩ ⟨Nat.le_of_ble_eq_true rfl, Nat.le_of_ble_eq_true rfl⟩ ?_
          rintro _ _ _ ⟨rfl, rfl, A6, rfl, d6, f6⟩
          refine aw_iinc_6 (c0 := 1) dX8_tail_181 (by decide) (by decide) rfl ?_
          refine aw_goto (tgt := 64) dX8_tail_184 (by decide) ?_
          rw [nI_1]
          exact ih (v + 1) A6 _ _ (by omega) (by rw [sg_s, if_pos hin]; exact d6) (by rw [f6 28 (by decide), f5 28 (by decide)]; exact e28) (by rw [f6 29 (by decide), f5 29 (by decide)]; exact e29) (by rw [f6 15 (by decide), f5 15 (by decide)]; exact e15) (fun k hk => by rw [f6 k (by omega), f5 k (by omega)]; exact fr4 k hk)
        · refine aw_if_eq (tgt := 181) dX8_tail_148 (by decide) (fun _ => ?_) (fun c => (c (bI_eq0.mpr (by simpa using hin))).elim)
          refine aw_iinc_6 (c0 := 1) dX8_tail_181 (by decide) (by decide) rfl ?_
          refine aw_goto (tgt := 64) dX8_tail_184 (by decide) ?_
          rw [nI_1]
          exact ih (v + 1) A4 _ _ (by omega) (by rw [sg_s, if_neg hin]; exact e25) e28 e29 e15 fr4
      have mid : ∀ b : Bool, (D ≠ 2 → b = inTail S X K D v) → AW mX8_tail (gq 0 0 Q) 105 [some (.ref m), some (.int (nI p')), some (.int (nI X)), some (.int (nI K)), some (.int (nI D)), some (.int yv), some (.int (nI v)), y7, y8] [.int (bI b)] 0 0 n (mh h0 m A') := by
        intro b hb
        refine aw_istore_7 dX8_tail_105 (by decide) rfl ?_
        refine aw_iload dX8_tail_107 rfl ?_
        refine aw_iconst (v := 2) dX8_tail_109 (by decide +kernel) ?_
        by_cases hD : D = 2
        · refine aw_icmp_ne (tgt := 146) dX8_tail_110 (by decide) (fun c => absurd c (fun c => c (by rw [hD]; rfl))) (fun _ => ?_)
          refine aw_aload_n (i := 0) dX8_tail_113 rfl rfl ?_
          refine aw_aload_n (i := 0) dX8_tail_114 rfl rfl ?_
          refine aw_getfield fX8_56 dX8_tail_115 (by rw [mh_0]; exact B.1) rfl ?_
          refine aw_iload dX8_tail_118 rfl ?_
          refine aw_invokevirtual kX8_222 dX8_tail_120 (by rw [mh_0]; exact B.1) (ct_X8_away n h0 m A' 16 _ _ v B.ob rfl rfl (by decide) (by decide) (by decide) (by omega) d28 d29 (by omega)) rfl rfl (Nat.le_of_ble_eq_true rfl) ⟨Nat.le_of_ble_eq_true rfl, Nat.le_of_ble_eq_true rfl⟩ ⟨Nat.le_of_ble_eq_true rfl, Nat.le_of_ble_eq_true rfl⟩ ?_
          rintro _ _ _ ⟨rfl, rfl, A4, rfl, d16, f4⟩
          rw [awG_S] at d16
          refine aw_istore_8 dX8_tail_123 (by decide) rfl ?_
          refine aw_aload_n (i := 0) dX8_tail_125 rfl rfl ?_
          refine aw_getfield fX8_56 dX8_tail_126 (by rw [mh_0]; exact B.1) rfl ?_
          refine aw_aload_n (i := 0) dX8_tail_129 rfl rfl ?_
          refine aw_getfield fX8_53 dX8_tail_130 (by rw [mh_0]; exact B.1) rfl ?_
          refine aw_invokestatic kX8_136 dX8_tail_133 (mc_compare n h0 m A4 16 15 _ _ rfl rfl rfl rfl d16 (by rw [f4 15 (by decide) (by decide)]; exact d15)) rfl rfl (Nat.le_of_ble_eq_true rfl) ⟨Nat.le_of_ble_eq_true rfl, Nat.le_of_ble_eq_true rfl⟩ ⟨Nat.le_of_ble_eq_true rfl, Nat.le_of_ble_eq_true rfl⟩ ?_
          rintro _ _ _ ⟨rfl, rfl, rfl⟩
          have hfin := fin A4 (some (.int (bI (decide (smean S X < stot S X * v))))) (by rw [f4 25 (by decide) (by decide)]; exact d25) (by rw [f4 28 (by decide) (by decide)]; exact d28) (by rw [f4 29 (by decide) (by decide)]; exact d29) (by rw [f4 15 (by decide) (by decide)]; exact d15) (fun k hk => by rw [f4 k (by omega) (by omega)]; exact fr k hk)
          have ein : inTail S X K D v = decide (awayN S X K ≤ awayN S X v) := by unfold inTail; rw [if_neg (by omega), if_neg (by omega)]
          rw [ein] at hfin
          by_cases hc : awayN S X v < awayN S X K
          · refine aw_if_lt (tgt := 143) dX8_tail_136 (by decide) (fun _ => ?_) (fun c => (c (cmp_lt0.mpr hc)).elim)
            refine aw_iconst (v := 0) dX8_tail_143 (by decide +kernel) ?_
            refine aw_istore_7 dX8_tail_144 (by decide) rfl ?_
            rw [decide_eq_false (by omega)] at hfin
            exact hfin
          · refine aw_if_lt (tgt := 143) dX8_tail_136 (by decide) (fun c => absurd c (fun q => hc (cmp_lt0.mp q))) (fun _ => ?_)
            refine aw_iconst (v := 1) dX8_tail_139 (by decide +kernel) ?_
            refine aw_goto (tgt := 144) dX8_tail_140 (by decide) ?_
            refine aw_istore_7 dX8_tail_144 (by decide) rfl ?_
            rw [decide_eq_true (by omega)] at hfin
            exact hfin
        · refine aw_icmp_ne (tgt := 146) dX8_tail_110 (by decide) (fun _ => ?_) (fun c => ((fun c => hD ((nI_eq (b := 2) (by omega) (by decide)).mp c)) c).elim)
          rw [hb hD]
          exact fin A' y8 d25 d28 d29 d15 fr
      refine aw_iload dX8_tail_64 rfl ?_
      refine aw_aload_n (i := 0) dX8_tail_66 rfl rfl ?_
      refine aw_getfield fX8_63 dX8_tail_67 (by rw [mh_0]; exact B.1) rfl ?_
      refine aw_iload_n (i := 2) dX8_tail_70 rfl rfl ?_
      refine aw_iald dX8_tail_71 X (hmoC _) (nI_toInt (by omega)) (by omega) ?_
      rw [hmx]
      refine aw_icmp_gt (tgt := 187) dX8_tail_72 (by decide) (fun c => absurd c (nI_nlt (by omega) (by omega))) (fun _ => ?_)
      refine aw_iload dX8_tail_75 rfl ?_
      by_cases hD0 : D = 0
      · have ein : inTail S X K D v = decide (K ≤ v) := by unfold inTail; rw [if_pos hD0]
        refine aw_if_ne (tgt := 94) dX8_tail_77 (by decide) (fun c => absurd c (fun c => c (by rw [hD0]; rfl))) (fun _ => ?_)
        refine aw_iload dX8_tail_80 rfl ?_
        refine aw_iload_n (i := 3) dX8_tail_82 rfl rfl ?_
        by_cases hc : v < K
        · refine aw_icmp_lt (tgt := 90) dX8_tail_83 (by decide) (fun _ => ?_) (fun c => (c (nI_lt hc (by omega))).elim)
          refine aw_iconst (v := 0) dX8_tail_90 (by decide +kernel) ?_
          refine aw_goto (tgt := 105) dX8_tail_91 (by decide) ?_
          exact mid false (fun _ => by rw [ein, decide_eq_false (by omega)])
        · refine aw_icmp_lt (tgt := 90) dX8_tail_83 (by decide) (fun c => absurd c (nI_nlt (by omega) (by omega))) (fun _ => ?_)
          refine aw_iconst (v := 1) dX8_tail_86 (by decide +kernel) ?_
          refine aw_goto (tgt := 105) dX8_tail_87 (by decide) ?_
          exact mid true (fun _ => by rw [ein, decide_eq_true (by omega)])
      · have ein : D ≠ 2 → inTail S X K D v = decide (v ≤ K) := fun q => by unfold inTail; rw [if_neg hD0, if_pos (by omega)]
        refine aw_if_ne (tgt := 94) dX8_tail_77 (by decide) (fun _ => ?_) (fun c => ((nI_ne0 (by omega) (by omega)) c).elim)
        refine aw_iload dX8_tail_94 rfl ?_
        refine aw_iload_n (i := 3) dX8_tail_96 rfl rfl ?_
        by_cases hc : K < v
        · refine aw_icmp_gt (tgt := 104) dX8_tail_97 (by decide) (fun _ => ?_) (fun c => (c (nI_lt hc (by omega))).elim)
          refine aw_iconst (v := 0) dX8_tail_104 (by decide +kernel) ?_
          exact mid false (fun q => by rw [ein q, decide_eq_false (by omega)])
        · refine aw_icmp_gt (tgt := 104) dX8_tail_97 (by decide) (fun c => absurd c (nI_nlt (by omega) (by omega))) (fun _ => ?_)
          refine aw_iconst (v := 1) dX8_tail_100 (by decide +kernel) ?_
          refine aw_goto (tgt := 105) dX8_tail_101 (by decide) ?_
          exact mid true (fun q => by rw [ein q, decide_eq_true (by omega)])
  exact loop (sT S X + 1) 0 A3 none none (by omega) d25 (by rw [f3 28 (by decide), f2 28 (by decide) (by decide)]; exact d28) (by rw [f3 29 (by decide), f2 29 (by decide) (by decide)]; exact d29) (by rw [f3 15 (by decide)]; exact d15) (fun k hk => by rw [f3 k (by omega), f2 k (by omega) (by omega), f1 k (by omega) (by omega) (by omega)])
