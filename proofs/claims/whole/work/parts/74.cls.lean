theorem ck_digits (h : Hp) (X : Nat) (S : TS) (p e : Int32) (hR : CRep h X S) (hI : SInv S) : CT mX7_digits 0 0 (cn X S) h [.ref X, .int p, .int e] (COKl X h (opDigits S p e)) := by
  obtain ⟨hc, N, rfl, hS⟩ := hR
  refine CT.intro [some (.ref X), some (.int p), some (.int e), none, none] 2 rfl rfl (by decide) ?_
  intro Q hQ
  have w := LC_W X (sN S)
  have cp := hS.placeAt (cn X S) N p
  have bad : ∀ y3 : Option Value, (isP p && rg e 0 18) = false → AW mX7_digits (gq 0 0 Q) 20 [some (.ref X), some (.int p), some (.int e), y3, none] [] 0 0 (cn X S) (nh hc (LC X (sN S)) N) := by
    intro y3 hb
    refine aw_ldc2_w qX7_259 dX7_digits_20 ?_
    refine aw_lreturn dX7_digits_23 rfl (Nat.le_of_ble_eq_true rfl) (Nat.le_of_ble_eq_true rfl) ?_
    exact hQ _ _ _ (cbadl hS _ (by unfold opDigits; rw [hb]; rfl))
  refine aw_aload_n (i := 0) dX7_digits_0 rfl rfl ?_
  refine aw_iload_n (i := 1) dX7_digits_1 rfl rfl ?_
  refine aw_invokevirtual kX7_191 dX7_digits_2 (hS.X0 N) cp rfl rfl (Nat.le_of_ble_eq_true rfl) ⟨Nat.le_of_ble_eq_true rfl, Nat.le_of_ble_eq_true rfl⟩ ⟨Nat.le_of_ble_eq_true rfl, Nat.le_of_ble_eq_true rfl⟩ ?_
  rintro _ _ _ ⟨rfl, rfl, rfl⟩
  by_cases h1 : isP p = true
  case neg =>
    rw [if_neg h1]
    refine aw_astore_3N dX7_digits_5 (by decide) rfl ?_
    refine aw_aload_nN (i := 3) dX7_digits_6 rfl rfl ?_
    refine aw_ifnullN (tgt := 20) dX7_digits_7 (by decide) ?_
    exact bad _ (by simp [h1])
  rw [if_pos h1]
  refine aw_astore_3 dX7_digits_5 (by decide) rfl ?_
  refine aw_aload_n (i := 3) dX7_digits_6 rfl rfl ?_
  refine aw_ifnull dX7_digits_7 ?_
  refine aw_iload_n (i := 2) dX7_digits_10 rfl rfl ?_
  refine aw_iconst (v := 0) dX7_digits_11 (by decide +kernel) ?_
  refine aw_bipush (v := 18) dX7_digits_12 (by decide +kernel) ?_
  refine aw_invokestatic kX7_88 dX7_digits_14 (ct_out _ (nh hc (LC X (sN S)) N) e 0 18 toInt_lit0 toInt_18) rfl rfl (Nat.le_of_ble_eq_true rfl) ⟨Nat.le_of_ble_eq_true rfl, Nat.le_of_ble_eq_true rfl⟩ ⟨Nat.le_of_ble_eq_true rfl, Nat.le_of_ble_eq_true rfl⟩ ?_
  rintro _ _ _ ⟨rfl, rfl, rfl⟩
  by_cases h2 : rg e 0 18 = true
  case neg =>
    refine aw_if_eq (tgt := 24) dX7_digits_17 (by decide) (fun c => absurd c (bn0 h2)) (fun _ => ?_)
    exact bad _ (by simp [h2])
  obtain ⟨ep, hp⟩ := isP_N h1
  obtain ⟨et, -, -, ht⟩ := rg_N h2 (by decide)
  have hop : opDigits S p e = (match sP S (tN p) with
    | some (u, d) => if nb (u * 10 ^ tN e / d) ≤ 63 then (lN (u * 10 ^ tN e / d), S) else (-4, S)
    | none => (-2, S)) := by unfold opDigits; rw [h1, h2]; rfl
  rw [hop] at hQ
  generalize tN p = p' at *
  generalize tN e = t at *
  subst et
  have hP := hS.pl hp
  refine aw_if_eq (tgt := 24) dX7_digits_17 (by decide) (fun _ => ?_) (fun c => (c (bn1 h2)).elim)
  refine aw_aload_n (i := 3) dX7_digits_24 rfl rfl ?_
  refine aw_getfield fX7_236 dX7_digits_25 (hP.at N) rfl ?_
  by_cases s1 : (sP S p').isSome = true
  case neg =>
    rw [if_neg s1]
    refine aw_if_ne (tgt := 35) dX7_digits_28 (by decide) (fun c => absurd c (fun c => c rfl)) (fun _ => ?_)
    refine aw_ldc2_w qX7_261 dX7_digits_31 ?_
    refine aw_lreturn dX7_digits_34 rfl (Nat.le_of_ble_eq_true rfl) (Nat.le_of_ble_eq_true rfl) ?_
    refine hQ _ _ _ (cbadl hS _ ?_)
    cases hh : sP S p' with
    | none => rfl
    | some x => rw [hh] at s1; exact absurd rfl s1
  rw [if_pos s1]
  obtain ⟨u, d, e1⟩ := sP_iss s1
  rw [e1] at hQ
  dsimp only at hQ
  obtain ⟨n1, n2⟩ := (hS.2.2.1 p' hp).2 u d e1
  obtain ⟨hd0, -, -, -⟩ := hI.2.2.1 p' u d e1
  obtain ⟨a1, a3⟩ := L32 (X := X) (k := sN S) hp
  have l10 : LC X (sN S) (X + 10) = 72 := L72 rfl
  have k10 : LC X (sN S) (X + 10) ≠ 0 := by rw [l10]; decide
  obtain ⟨z10, m10⟩ := hS.1 _ k10
  have eX : plb X p' = X + (46 + 5 * p') := rfl
  have hul := raw_lt n1.1
  have hus := n1.1.1
  have hds := n2.1.1
  have huB : u < (2 ^ 32) ^ 32 := Nat.lt_of_lt_of_le hul (Nat.pow_le_pow_right (by decide) hus)
  have hmul : ∀ i, i ≤ 18 → u * 10 ^ i < (2 ^ 32) ^ 34 := fun i hi => by
    have r1 : 10 ^ i ≤ 10 ^ 18 := Nat.pow_le_pow_right (by decide) hi
    have r2 : u * 10 ^ i ≤ (2 ^ 32) ^ 32 * 10 ^ 18 := Nat.mul_le_mul (Nat.le_of_lt huB) r1
    have r3 : ((2 : Nat) ^ 32) ^ 32 * 10 ^ 18 < (2 ^ 32) ^ 34 := by decide +kernel
    exact Nat.lt_of_le_of_lt r2 r3
  have h34 : ((2 : Nat) ^ 32) ^ 34 ≤ (2 ^ 32) ^ 72 := Nat.pow_le_pow_right (by decide) (by decide)
  refine aw_if_ne (tgt := 35) dX7_digits_28 (by decide) (fun _ => ?_) (fun c => ((show ¬ nI 1 = 0 by decide +kernel) c).elim)
  refine aw_aload_n (i := 0) dX7_digits_35 rfl rfl ?_
  refine aw_getfield fX7_38 dX7_digits_36 (hS.X0 N) rfl ?_
  refine aw_aload_n (i := 3) dX7_digits_39 rfl rfl ?_
  refine aw_getfield fX7_108 dX7_digits_40 (hP.at N) rfl ?_
  refine aw_invokevirtual kX7_265 dX7_digits_43 (nh_o hc N k10) (ct_X3_copy (cn X S) hc (LC X (sN S)) N (X + 10) (plb X p' + 1) z10 u w k10 (by rw [a1]; decide) (by omega) m10 (by rw [a1]; exact n1) (by rw [l10]; exact Nat.lt_of_lt_of_le huB (Nat.pow_le_pow_right (by decide) (by decide)))) rfl rfl (Nat.le_of_ble_eq_true rfl) ⟨Nat.le_of_ble_eq_true rfl, Nat.le_of_ble_eq_true rfl⟩ ⟨Nat.le_of_ble_eq_true rfl, Nat.le_of_ble_eq_true rfl⟩ ?_
  rintro _ _ _ ⟨rfl, rfl, N1, rfl, d1, f1⟩
  refine aw_iconst (v := 0) dX7_digits_46 (by decide +kernel) ?_
  refine aw_istore_4 dX7_digits_47 (by decide) rfl ?_
  have loop : ∀ (j i : Nat) (N2 : NC), i + j = t → num 72 (N2 (X + 10)) (u * 10 ^ i) → (∀ k, k ≠ X + 10 → N2 k = N k) → AW mX7_digits (gq 0 0 Q) 49 [some (.ref X), some (.int p), some (.int (nI t)), some (.ref (plb X p')), some (.int (nI i))] [] 0 0 (cn X S) (nh hc (LC X (sN S)) N2) := by
    intro j
    induction j with
    | zero =>
      intro i N2 hi k1 k2
      obtain rfl : i = t := by omega
      have A2 : NA (LC X (sN S)) N2 := hS.1.one (a := X + 10) (v := u * 10 ^ i) ⟨by rw [l10]; exact k1, k2⟩
      obtain ⟨R, H, W, hD⟩ := hS.2.2.2.2
      obtain ⟨aa, bb, cc, dd, hDV⟩ := hD.1
      obtain ⟨hD0, ⟨hLD, hLD1⟩, ⟨q1, q2, q3, q4, q5⟩, ⟨p1, p2, p3, p4⟩, ⟨p5, p6, p7⟩, ⟨p8, p9⟩, p10⟩ := id hDV
      obtain ⟨dR, dH, dW⟩ := hD.mem
      have rR := dn_X dR
      have dR' : R = X + 12 + 5 ∨ R = X + 12 + 7 ∨ R = X + 12 + 9 := (hD.2 R).mp (Or.inl rfl)
      have hDn : ∀ {N' : NC}, nh hc (LC X (sN S)) N' (X + 12) = some (dobj (X + 12 + 1) (X + 12 + 3) R H W aa bb cc dd) := by intro N'; rw [nh_no hc _ hLD hLD1]; exact hD0
      obtain ⟨v1, w1⟩ := A2 (X + 12 + 1) (by omega)
      obtain ⟨v2, w2⟩ := A2 (X + 12 + 3) (by omega)
      obtain ⟨v3, w3⟩ := A2 R (by omega)
      have g3 : N2 (plb X p' + 3) = N (plb X p' + 3) := k2 _ (by omega)
      have sz := num_le k1 (hmul i (by omega))
      refine aw_iload dX7_digits_49 rfl ?_
      refine aw_iload_n (i := 2) dX7_digits_51 rfl rfl ?_
      refine aw_icmp_ge (tgt := 71) dX7_digits_52 (by decide) (fun _ => ?_) (fun c => (c (nI_le (Nat.le_refl _) (by omega))).elim)
      refine aw_aload_n (i := 0) dX7_digits_71 rfl rfl ?_
      refine aw_getfield fX7_45 dX7_digits_72 (hS.X0 _) rfl ?_
      refine aw_aload_n (i := 0) dX7_digits_75 rfl rfl ?_
      refine aw_getfield fX7_38 dX7_digits_76 (hS.X0 _) rfl ?_
      refine aw_aload_n (i := 3) dX7_digits_79 rfl rfl ?_
      refine aw_getfield fX7_273 dX7_digits_80 (hP.at N2) rfl ?_
      refine aw_invokevirtual kX7_276 dX7_digits_83 hDn (ct_X0_divide (cn X S) hc (LC X (sN S)) N2 (X + 12) (X + 12 + 1) (X + 12 + 3) R H W (X + 10) (plb X p' + 3) (u * 10 ^ i) d v1 v2 v3 aa bb cc dd w hD0 hLD hLD1 q1 q2 q3 k10 (by rw [a3]; decide) p1 p2 p5 (by omega) (by omega) (by omega) (by omega) (by omega) (by omega) w1 w2 w3 (by rw [l10]; exact k1) (by rw [a3, g3]; exact n2) hd0 (by omega) (by rw [g3]; omega)) rfl rfl (Nat.le_of_ble_eq_true rfl) ⟨Nat.le_of_ble_eq_true rfl, Nat.le_of_ble_eq_true rfl⟩ ⟨Nat.le_of_ble_eq_true rfl, Nat.le_of_ble_eq_true rfl⟩ ?_
      rintro _ _ _ ⟨rfl, rfl, N3, rfl, c1, c2, ⟨cv, c3⟩, f3⟩
      have A3 : NA (LC X (sN S)) N3 := by
        intro k hk
        by_cases e1 : k = X + 12 + 1
        · rw [e1]; exact ⟨_, c1⟩
        · by_cases e2 : k = X + 12 + 3
          · rw [e2]; exact ⟨_, c3⟩
          · by_cases e3 : k = R
            · rw [e3]; exact ⟨_, c2⟩
            · rw [f3 k e1 e2 e3]; exact A2 k hk
      have hS3 : CS hc N3 X S := hS.numK A3 (fun k hk => by rw [f3 k (by omega) (by omega) (by omega)]; exact k2 k (by omega))
      have kq : LC X (sN S) (X + 12 + 1) ≠ 0 := by omega
      refine aw_astore_4 dX7_digits_86 (by decide) rfl ?_
      refine aw_aload dX7_digits_88 rfl ?_
      refine aw_invokevirtual kX7_153 dX7_digits_90 (nh_o hc N3 kq) (ct_X3_bits (cn X S) hc (LC X (sN S)) N3 (X + 12 + 1) _ w kq c1) rfl rfl (Nat.le_of_ble_eq_true rfl) ⟨Nat.le_of_ble_eq_true rfl, Nat.le_of_ble_eq_true rfl⟩ ⟨Nat.le_of_ble_eq_true rfl, Nat.le_of_ble_eq_true rfl⟩ ?_
      rintro _ _ _ ⟨rfl, rfl, rfl⟩
      refine aw_bipush (v := 63) dX7_digits_93 (by decide +kernel) ?_
      by_cases hb : nb (u * 10 ^ i / d) ≤ 63
      · rw [if_pos hb] at hQ
        have hl63 := nb_le.mp hb
        refine aw_icmp_le (tgt := 104) dX7_digits_95 (by decide) (fun _ => ?_) (fun c => (c (nI_le (b := 63) hb (by decide))).elim)
        refine aw_aload dX7_digits_104 rfl ?_
        refine aw_invokevirtual kX7_282 dX7_digits_106 (nh_o hc N3 kq) (ct_X3_toLong (cn X S) hc (LC X (sN S)) N3 (X + 12 + 1) _ w kq c1 (by omega)) rfl rfl (Nat.le_of_ble_eq_true rfl) ⟨Nat.le_of_ble_eq_true rfl, Nat.le_of_ble_eq_true rfl⟩ ⟨Nat.le_of_ble_eq_true rfl, Nat.le_of_ble_eq_true rfl⟩ ?_
        rintro _ _ _ ⟨rfl, rfl, rfl⟩
        refine aw_lreturn dX7_digits_109 rfl (Nat.le_of_ble_eq_true rfl) (Nat.le_of_ble_eq_true rfl) ?_
        exact hQ _ _ _ ⟨rfl, rfl, ⟨hc, N3, rfl, hS3⟩, cfr_nh (fun _ _ _ => rfl)⟩
      · rw [if_neg hb] at hQ
        have hnb : nb (u * 10 ^ i / d) < 2 ^ 31 := by
          have r1 := raw_lt c1.1
          have r2 := c1.1.1
          rw [p32] at r1
          have := nb_le.mpr r1
          omega
        refine aw_icmp_le (tgt := 104) dX7_digits_95 (by decide) (fun c => absurd c (nI_ge (a := 63) (by omega) hnb)) (fun _ => ?_)
        refine aw_ldc2_w qX7_280 dX7_digits_98 ?_
        refine aw_goto (tgt := 109) dX7_digits_101 (by decide) ?_
        refine aw_lreturn dX7_digits_109 rfl (Nat.le_of_ble_eq_true rfl) (Nat.le_of_ble_eq_true rfl) ?_
        exact hQ _ _ _ ⟨rfl, rfl, ⟨hc, N3, rfl, hS3⟩, cfr_nh (fun _ _ _ => rfl)⟩
    | succ j ih =>
      intro i N2 hi k1 k2
      have hm := hmul (i + 1) (by omega)
      rw [Nat.pow_succ, ← Nat.mul_assoc] at hm
      refine aw_iload dX7_digits_49 rfl ?_
      refine aw_iload_n (i := 2) dX7_digits_51 rfl rfl ?_
      refine aw_icmp_ge (tgt := 71) dX7_digits_52 (by decide) (fun c => absurd c (nI_ge (by omega) (by omega))) (fun _ => ?_)
      refine aw_aload_n (i := 0) dX7_digits_55 rfl rfl ?_
      refine aw_getfield fX7_38 dX7_digits_56 (hS.X0 _) rfl ?_
      refine aw_ldc2_w qX7_268 dX7_digits_59 ?_
      refine aw_invokevirtual kX7_270 dX7_digits_62 (nh_o hc N2 k10) (ct_X3_scale (cn X S) hc (LC X (sN S)) N2 (X + 10) (u * 10 ^ i) 10 w k10 (by rw [l10]; exact k1) (by decide) (by rw [l10]; omega)) rfl rfl (Nat.le_of_ble_eq_true rfl) ⟨Nat.le_of_ble_eq_true rfl, Nat.le_of_ble_eq_true rfl⟩ ⟨Nat.le_of_ble_eq_true rfl, Nat.le_of_ble_eq_true rfl⟩ ?_
      rintro _ _ _ ⟨rfl, rfl, N3, rfl, d3, f3⟩
      rw [l10] at d3
      refine aw_iinc_4 (c0 := 1) dX7_digits_65 (by decide) (by decide) rfl ?_
      refine aw_goto (tgt := 49) dX7_digits_68 (by decide) ?_
      rw [nI_1]
      exact ih (i + 1) N3 (by omega) (by rw [Nat.pow_succ, ← Nat.mul_assoc]; exact d3) (fun k hk => by rw [f3 k hk]; exact k2 k hk)
  rw [l10] at d1
  exact loop t 0 N1 (by omega) (by rw [Nat.pow_zero, Nat.mul_one]; exact d1) f1
