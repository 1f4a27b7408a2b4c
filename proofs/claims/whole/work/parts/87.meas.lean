theorem cp_settle (n : Nat) (hc : Hp) (N : NC) (X : Nat) (S : TS) (p A B pa pb : Nat) (h : CS hc N X S) (hp : p < 16) (hA : nv (LC X (sN S)) N (X + 6) pa A) (hB : nv (LC X (sN S)) N (X + 8) pb B) (hB0 : 0 < B) (lA : pa ≤ 70) (lB : pb ≤ 70) : CT mX7_settle 0 0 n (nh hc (LC X (sN S)) N) [.ref X, .ref (plb X p)] (fun r n' h' => n = n' ∧ r = some (.int (putP S p A B).1) ∧ CRep h' X (putP S p A B).2 ∧ cfr X (nh hc (LC X (sN S)) N) h') := by
  have l6 : LC X (sN S) (X + 6) = 72 := L72 rfl
  have l8 : LC X (sN S) (X + 8) = 72 := L72 rfl
  have q6 := hA.2.1
  have q8 := hB.2.1
  rw [l6] at q6
  rw [l8] at q8
  exact ct_X7_settle n hc N X S p A B h hp q6 q8 hB0 (Nat.lt_of_lt_of_le hA.2.2 (Bp_le lA)) (Nat.lt_of_lt_of_le hB.2.2 (Bp_le lB))
theorem ct_X2_findMoment (n : Nat) (hc : Hp) (N : NC) (X j e : Nat) (S : TS) (h : CS hc N X S) (hI : SInv S) (hj : j < sN S) (he : e = 2 ∨ e = 4) : CT mX2_findMoment 0 0 n (nh hc (LC X (sN S)) N) [.ref (X + 23), .ref (sob X j + 2), .int (nI e), .ref (X + 5)] (mpo n hc (LC X (sN S)) N X (fun N' => nv (LC X (sN S)) N' (X + 6) 45 (spr S j e) ∧ nv (LC X (sN S)) N' (X + 8) 40 (tS S j ^ e * stot S j))) := by
  refine CT.intro [some (.ref (X + 23)), some (.ref (sob X j + 2)), some (.int (nI e)), some (.ref (X + 5))] 0 rfl rfl (by decide) ?_
  intro Q hQ
  have W := LC_W X (sN S)
  have ej : sob X j = X + (158 + 10 * j) := rfl
  have n3 := h.nv3 hI hj
  have n8 := h.nv8 hI hj
  have l8 : LC X (sN S) (X + 8) = 72 := L72 rfl
  have l26 : LC X (sN S) (X + 26) = 72 := L72 rfl
  have z8 : LC X (sN S) (X + 8) ≠ 0 := by rw [l8]; decide
  have z26 : LC X (sN S) (X + 26) ≠ 0 := by rw [l26]; decide
  have hO := h.ou
  have after : ∀ N1 : NC, nv (LC X (sN S)) N1 (X + 6) 45 (spr S j e) → NA (LC X (sN S)) N1 → (∀ k, k < X + 6 ∨ X + 46 ≤ k → N1 k = N k) → AW mX2_findMoment (gq 0 0 Q) 26 [some (.ref (X + 23)), some (.ref (sob X j + 2)), some (.int (nI e)), some (.ref (X + 5))] [] 0 0 n (nh hc (LC X (sN S)) N1) := by
    intro N1 v1 A1 f1
    refine aw_aload_n (i := 0) dX2_findMoment_26 rfl rfl ?_
    refine aw_getfield fX2_20 dX2_findMoment_27 (h.mm _) rfl ?_
    refine aw_aload_n (i := 1) dX2_findMoment_30 rfl rfl ?_
    refine aw_getfield fX2_43 dX2_findMoment_31 (h.so hj _) rfl ?_
    refine aw_getfield fX2_71 dX2_findMoment_34 ((h.me hj).at _) rfl ?_
    refine aw_invokevirtual kX2_77 dX2_findMoment_37 (nh_o hc N1 z26) (cp_copy n hc (LC X (sN S)) N1 (X + 26) (sob X j + 8) _ 8 W A1 z26 (n8.fr (f1 _ (by omega))) (by omega) (by rw [l26]; decide)) rfl rfl (Nat.le_of_ble_eq_true rfl) ⟨Nat.le_of_ble_eq_true rfl, Nat.le_of_ble_eq_true rfl⟩ ⟨Nat.le_of_ble_eq_true rfl, Nat.le_of_ble_eq_true rfl⟩ ?_
    rintro _ _ _ ⟨rfl, rfl, N2, rfl, v2, A2, f2⟩
    refine aw_aload_n (i := 0) dX2_findMoment_40 rfl rfl ?_
    refine aw_aload_n (i := 0) dX2_findMoment_41 rfl rfl ?_
    refine aw_getfield fX2_20 dX2_findMoment_42 (h.mm _) rfl ?_
    refine aw_iload_n (i := 2) dX2_findMoment_45 rfl rfl ?_
    refine aw_invokevirtual kX2_96 dX2_findMoment_46 (h.mm N2) (ct_X2_raise n hc N2 N X e _ 8 S h A2 he v2 (by omega)) rfl rfl (Nat.le_of_ble_eq_true rfl) ⟨Nat.le_of_ble_eq_true rfl, Nat.le_of_ble_eq_true rfl⟩ ⟨Nat.le_of_ble_eq_true rfl, Nat.le_of_ble_eq_true rfl⟩ ?_
    rintro _ _ _ ⟨rfl, rfl, N3, rfl, v3, A3, f3⟩
    refine aw_aload_n (i := 3) dX2_findMoment_49 rfl rfl ?_
    refine aw_getfield fX2_71 dX2_findMoment_50 (hO.at _) rfl ?_
    refine aw_aload_n (i := 0) dX2_findMoment_53 rfl rfl ?_
    refine aw_getfield fX2_20 dX2_findMoment_54 (h.mm _) rfl ?_
    refine aw_aload_n (i := 1) dX2_findMoment_57 rfl rfl ?_
    refine aw_getfield fX2_74 dX2_findMoment_58 (h.so hj _) rfl ?_
    refine aw_invokevirtual kX2_99 dX2_findMoment_61 (nh_o hc N3 z8) (cp_prod n hc (LC X (sN S)) N3 (X + 8) (X + 26) (sob X j + 3) _ _ (e * 8) 8 W A3 z8 v3 (n3.fr (by rw [f3 _ (by omega) (by omega), f2 _ (by omega), f1 _ (by omega)])) (by omega) (by omega) (by rw [l8]; omega)) rfl rfl (Nat.le_of_ble_eq_true rfl) ⟨Nat.le_of_ble_eq_true rfl, Nat.le_of_ble_eq_true rfl⟩ ⟨Nat.le_of_ble_eq_true rfl, Nat.le_of_ble_eq_true rfl⟩ ?_
    rintro _ _ _ ⟨rfl, rfl, N4, rfl, v4, A4, f4⟩
    refine aw_return dX2_findMoment_64 rfl (Nat.le_of_ble_eq_true rfl) (Nat.le_of_ble_eq_true rfl) ?_
    refine hQ _ _ _ ⟨rfl, rfl, N4, rfl, ⟨v1.fr (by rw [f4 _ (by omega), f3 _ (by omega) (by omega), f2 _ (by omega)]), v4.up (Nat.lt_of_lt_of_le v4.2.2 (Bp_le (by omega)))⟩, A4, fun k hk => by rw [f4 _ (by omega), f3 _ (by omega) (by omega), f2 _ (by omega), f1 _ hk]⟩
  rcases he with rfl | rfl
  · refine aw_iload_n (i := 2) dX2_findMoment_0 rfl rfl ?_
    refine aw_iconst (v := 2) dX2_findMoment_1 (by decide +kernel) ?_
    refine aw_icmp_ne (tgt := 17) dX2_findMoment_2 (by decide) (fun c => absurd c (fun c => c rfl)) (fun _ => ?_)
    refine aw_aload_n (i := 0) dX2_findMoment_5 rfl rfl ?_
    refine aw_aload_n (i := 1) dX2_findMoment_6 rfl rfl ?_
    refine aw_aload_n (i := 3) dX2_findMoment_7 rfl rfl ?_
    refine aw_getfield fX2_35 dX2_findMoment_8 (hO.at _) rfl ?_
    refine aw_invokevirtual kX2_89 dX2_findMoment_11 (h.mm N) (ct_X2_spreadOfTwo n hc N X j S h hI hj) rfl rfl (Nat.le_of_ble_eq_true rfl) ⟨Nat.le_of_ble_eq_true rfl, Nat.le_of_ble_eq_true rfl⟩ ⟨Nat.le_of_ble_eq_true rfl, Nat.le_of_ble_eq_true rfl⟩ ?_
    rintro _ _ _ ⟨rfl, rfl, N1, rfl, v1, A1, f1⟩
    refine aw_goto (tgt := 26) dX2_findMoment_14 (by decide) ?_
    exact after N1 v1 A1 f1
  · refine aw_iload_n (i := 2) dX2_findMoment_0 rfl rfl ?_
    refine aw_iconst (v := 2) dX2_findMoment_1 (by decide +kernel) ?_
    refine aw_icmp_ne (tgt := 17) dX2_findMoment_2 (by decide) (fun _ => ?_) (fun c => ((show ¬ nI 4 = 2 by decide +kernel) c).elim)
    refine aw_aload_n (i := 0) dX2_findMoment_17 rfl rfl ?_
    refine aw_aload_n (i := 1) dX2_findMoment_18 rfl rfl ?_
    refine aw_aload_n (i := 3) dX2_findMoment_19 rfl rfl ?_
    refine aw_getfield fX2_35 dX2_findMoment_20 (hO.at _) rfl ?_
    refine aw_invokevirtual kX2_93 dX2_findMoment_23 (h.mm N) (ct_X2_spreadOfFour n hc N X j S h hI hj) rfl rfl (Nat.le_of_ble_eq_true rfl) ⟨Nat.le_of_ble_eq_true rfl, Nat.le_of_ble_eq_true rfl⟩ ⟨Nat.le_of_ble_eq_true rfl, Nat.le_of_ble_eq_true rfl⟩ ?_
    rintro _ _ _ ⟨rfl, rfl, N1, rfl, v1, A1, f1⟩
    exact after N1 v1 A1 f1
theorem tS_pow (S : TS) (j e : Nat) : stot S j ^ e = tS S j ^ e * gS S j ^ e := by rw [← Nat.mul_pow, ← tS_m]
theorem mom_eq {S : TS} {j p e : Nat} (h : 0 < stot S j) : putP S p (spr S j e) (tS S j ^ e * stot S j) = putP S p (smom S j e) (stot S j ^ (e + 1)) := by
  refine putP_eq (Nat.mul_pos (Nat.pow_pos (tS_pos h)) h) (Nat.pow_pos h) ?_
  rw [Nat.pow_succ, tS_pow, smom_spr h]
  simp only [Nat.mul_assoc, Nat.mul_comm, Nat.mul_left_comm]
theorem ck_moment (h : Hp) (X : Nat) (S : TS) (p s e : Int32) (hR : CRep h X S) (hI : SInv S) : CT mX7_moment 0 0 (cn X S) h [.ref X, .int p, .int s, .int e] (COK X h (opMoment S p s e)) := by
  obtain ⟨hc, N, rfl, hS⟩ := hR
  refine CT.intro [some (.ref X), some (.int p), some (.int s), some (.int e), none, none] 2 rfl rfl (by decide) ?_
  intro Q hQ
  have bad : ∀ y4 y5 : Option Value, (isP p && (isS S s && (decide (e = 2) || decide (e = 4)))) = false → AW mX7_moment (gq 0 0 Q) 34 [some (.ref X), some (.int p), some (.int s), some (.int e), y4, y5] [] 0 0 (cn X S) (nh hc (LC X (sN S)) N) := by
    intro y4 y5 hb
    refine aw_iconst (v := (-1)) dX7_moment_34 (by decide +kernel) ?_
    refine aw_ireturn dX7_moment_35 rfl rfl (Nat.le_of_ble_eq_true rfl) (Nat.le_of_ble_eq_true rfl) ?_
    exact hQ _ _ _ (cbad hS _ (by unfold opMoment; rw [hb]; rfl))
  refine aw_aload_n (i := 0) dX7_moment_0 rfl rfl ?_
  refine aw_iload_n (i := 1) dX7_moment_1 rfl rfl ?_
  refine aw_invokevirtual kX7_191 dX7_moment_2 (hS.X0 N) (hS.placeAt (cn X S) N p) rfl rfl (Nat.le_of_ble_eq_true rfl) ⟨Nat.le_of_ble_eq_true rfl, Nat.le_of_ble_eq_true rfl⟩ ⟨Nat.le_of_ble_eq_true rfl, Nat.le_of_ble_eq_true rfl⟩ ?_
  rintro _ _ _ ⟨rfl, rfl, rfl⟩
  by_cases h1 : isP p = true
  case neg =>
    rw [if_neg h1]
    refine aw_astore_4N dX7_moment_5 (by decide) rfl ?_
    refine aw_aload_n (i := 0) dX7_moment_7 rfl rfl ?_
    refine aw_iload_n (i := 2) dX7_moment_8 rfl rfl ?_
    refine aw_invokevirtual kX7_135 dX7_moment_9 (hS.X0 N) (hS.sourceAt hI (cn X S) N s) rfl rfl (Nat.le_of_ble_eq_true rfl) ⟨Nat.le_of_ble_eq_true rfl, Nat.le_of_ble_eq_true rfl⟩ ⟨Nat.le_of_ble_eq_true rfl, Nat.le_of_ble_eq_true rfl⟩ ?_
    rintro _ _ _ ⟨rfl, rfl, rfl⟩
    by_cases h2 : isS S s = true
    · rw [if_pos h2]
      refine aw_astore_5 dX7_moment_12 (by decide) rfl ?_
      refine aw_aloadN dX7_moment_14 rfl ?_
      refine aw_ifnullN (tgt := 34) dX7_moment_16 (by decide) ?_
      exact bad _ _ (by simp [h1])
    · rw [if_neg h2]
      refine aw_astore_5N dX7_moment_12 (by decide) rfl ?_
      refine aw_aloadN dX7_moment_14 rfl ?_
      refine aw_ifnullN (tgt := 34) dX7_moment_16 (by decide) ?_
      exact bad _ _ (by simp [h1])
  rw [if_pos h1]
  refine aw_astore_4 dX7_moment_5 (by decide) rfl ?_
  refine aw_aload_n (i := 0) dX7_moment_7 rfl rfl ?_
  refine aw_iload_n (i := 2) dX7_moment_8 rfl rfl ?_
  refine aw_invokevirtual kX7_135 dX7_moment_9 (hS.X0 N) (hS.sourceAt hI (cn X S) N s) rfl rfl (Nat.le_of_ble_eq_true rfl) ⟨Nat.le_of_ble_eq_true rfl, Nat.le_of_ble_eq_true rfl⟩ ⟨Nat.le_of_ble_eq_true rfl, Nat.le_of_ble_eq_true rfl⟩ ?_
  rintro _ _ _ ⟨rfl, rfl, rfl⟩
  by_cases h2 : isS S s = true
  case neg =>
    rw [if_neg h2]
    refine aw_astore_5N dX7_moment_12 (by decide) rfl ?_
    refine aw_aload dX7_moment_14 rfl ?_
    refine aw_ifnull dX7_moment_16 ?_
    refine aw_aloadN dX7_moment_19 rfl ?_
    refine aw_ifnullN (tgt := 34) dX7_moment_21 (by decide) ?_
    exact bad _ _ (by simp [h2])
  rw [if_pos h2]
  obtain ⟨ep, hp⟩ := isP_N h1
  obtain ⟨es, -, -, hs⟩ := rg_N h2 (by decide)
  have hj : tN s < sN S := by omega
  have p1 := (hI.2.1.2 _ hj).2.2.1
  have go36 : ∀ e' : Nat, e = nI e' → (e' = 2 ∨ e' = 4) → AW mX7_moment (gq 0 0 Q) 36 [some (.ref X), some (.int p), some (.int s), some (.int e), some (.ref (plb X (tN p))), some (.ref (sob X (tN s) + 2))] [] 0 0 (cn X S) (nh hc (LC X (sN S)) N) := by
    intro e' ee he
    have hop : opMoment S p s e = putP S (tN p) (smom S (tN s) e') (stot S (tN s) ^ (e' + 1)) := by
      have et : tN e = e' := by rw [ee]; rcases he with rfl | rfl <;> decide +kernel
      have eb : (decide (e = 2) || decide (e = 4)) = true := by rw [ee]; rcases he with rfl | rfl <;> decide +kernel
      unfold opMoment; rw [h1, h2, eb, et]; rfl
    rw [hop, ← mom_eq p1] at hQ
    subst ee
    refine aw_aload_n (i := 0) dX7_moment_36 rfl rfl ?_
    refine aw_getfield fX7_52 dX7_moment_37 (hS.X0 N) rfl ?_
    refine aw_aload dX7_moment_40 rfl ?_
    refine aw_iload_n (i := 3) dX7_moment_42 rfl rfl ?_
    refine aw_aload_n (i := 0) dX7_moment_43 rfl rfl ?_
    refine aw_getfield fX7_31 dX7_moment_44 (hS.X0 N) rfl ?_
    refine aw_invokevirtual kX7_211 dX7_moment_47 (hS.mm N) (ct_X2_findMoment (cn X S) hc N X (tN s) e' S hS hI hj he) rfl rfl (Nat.le_of_ble_eq_true rfl) ⟨Nat.le_of_ble_eq_true rfl, Nat.le_of_ble_eq_true rfl⟩ ⟨Nat.le_of_ble_eq_true rfl, Nat.le_of_ble_eq_true rfl⟩ ?_
    rintro _ _ _ ⟨rfl, rfl, N1, rfl, ⟨v6, v8⟩, A1, f1⟩
    have hS1 := hS.numK A1 f1
    refine aw_aload_n (i := 0) dX7_moment_50 rfl rfl ?_
    refine aw_aload dX7_moment_51 rfl ?_
    refine aw_invokevirtual kX7_197 dX7_moment_53 (hS1.X0 N1) (cp_settle (cn X S) hc N1 X S (tN p) _ _ 45 40 hS1 hp v6 v8 (Nat.mul_pos (Nat.pow_pos (tS_pos p1)) p1) (by decide) (by decide)) rfl rfl (Nat.le_of_ble_eq_true rfl) ⟨Nat.le_of_ble_eq_true rfl, Nat.le_of_ble_eq_true rfl⟩ ⟨Nat.le_of_ble_eq_true rfl, Nat.le_of_ble_eq_true rfl⟩ ?_
    rintro _ _ h' ⟨rfl, rfl, hR', hF⟩
    refine aw_ireturn dX7_moment_56 rfl rfl (Nat.le_of_ble_eq_true rfl) (Nat.le_of_ble_eq_true rfl) ?_
    refine hQ _ _ _ ⟨?_, rfl, hR', fun y h1 h2 => by rw [hF y h1 h2]; exact cfr_nh (fun _ _ _ => rfl) y h1 h2⟩
    unfold cn; rw [putP_N]
  by_cases h3 : e = 2
  · refine aw_astore_5 dX7_moment_12 (by decide) rfl ?_
    refine aw_aload dX7_moment_14 rfl ?_
    refine aw_ifnull dX7_moment_16 ?_
    refine aw_aload dX7_moment_19 rfl ?_
    refine aw_ifnull dX7_moment_21 ?_
    refine aw_iload_n (i := 3) dX7_moment_24 rfl rfl ?_
    refine aw_iconst (v := 2) dX7_moment_25 (by decide +kernel) ?_
    refine aw_icmp_eq (tgt := 36) dX7_moment_26 (by decide) (fun _ => ?_) (fun c => (c h3).elim)
    exact go36 2 h3 (Or.inl rfl)
  · by_cases h4 : e = 4
    · refine aw_astore_5 dX7_moment_12 (by decide) rfl ?_
      refine aw_aload dX7_moment_14 rfl ?_
      refine aw_ifnull dX7_moment_16 ?_
      refine aw_aload dX7_moment_19 rfl ?_
      refine aw_ifnull dX7_moment_21 ?_
      refine aw_iload_n (i := 3) dX7_moment_24 rfl rfl ?_
      refine aw_iconst (v := 2) dX7_moment_25 (by decide +kernel) ?_
      refine aw_icmp_eq (tgt := 36) dX7_moment_26 (by decide) (fun c => absurd c h3) (fun _ => ?_)
      refine aw_iload_n (i := 3) dX7_moment_29 rfl rfl ?_
      refine aw_iconst (v := 4) dX7_moment_30 (by decide +kernel) ?_
      refine aw_icmp_eq (tgt := 36) dX7_moment_31 (by decide) (fun _ => ?_) (fun c => (c h4).elim)
      exact go36 4 h4 (Or.inr rfl)
    · refine aw_astore_5 dX7_moment_12 (by decide) rfl ?_
      refine aw_aload dX7_moment_14 rfl ?_
      refine aw_ifnull dX7_moment_16 ?_
      refine aw_aload dX7_moment_19 rfl ?_
      refine aw_ifnull dX7_moment_21 ?_
      refine aw_iload_n (i := 3) dX7_moment_24 rfl rfl ?_
      refine aw_iconst (v := 2) dX7_moment_25 (by decide +kernel) ?_
      refine aw_icmp_eq (tgt := 36) dX7_moment_26 (by decide) (fun c => absurd c h3) (fun _ => ?_)
      refine aw_iload_n (i := 3) dX7_moment_29 rfl rfl ?_
      refine aw_iconst (v := 4) dX7_moment_30 (by decide +kernel) ?_
      refine aw_icmp_eq (tgt := 36) dX7_moment_31 (by decide) (fun c => absurd c h4) (fun _ => ?_)
      exact bad _ _ (by simp [h3, h4])
