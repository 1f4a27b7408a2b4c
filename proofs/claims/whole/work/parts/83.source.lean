theorem ck_source (h : Hp) (X : Nat) (S : TS) (s w : Int32) (hR : CRep h X S) (hI : SInv S) : CT mX7_source 0 0 (cn X S) h [.ref X, .int s, .int w] (COK X h (opSource S s w)) := by
  obtain ⟨hc, N, rfl, hS⟩ := hR
  refine CT.intro [some (.ref X), some (.int s), some (.int w), none] 1 rfl rfl (by decide) ?_
  intro Q hQ
  refine aw_aload_n (i := 0) dX7_source_0 rfl rfl ?_
  refine aw_iload_n (i := 1) dX7_source_1 rfl rfl ?_
  refine aw_invokevirtual kX7_135 dX7_source_2 (hS.X0 N) (hS.sourceAt hI (cn X S) N s) rfl rfl (Nat.le_of_ble_eq_true rfl) ⟨Nat.le_of_ble_eq_true rfl, Nat.le_of_ble_eq_true rfl⟩ ⟨Nat.le_of_ble_eq_true rfl, Nat.le_of_ble_eq_true rfl⟩ ?_
  rintro _ _ _ ⟨rfl, rfl, rfl⟩
  by_cases h1 : isS S s = true
  case neg =>
    rw [if_neg h1]
    refine aw_astore_3N dX7_source_5 (by decide) rfl ?_
    refine aw_aload_nN (i := 3) dX7_source_6 rfl rfl ?_
    refine aw_ifnonnullN dX7_source_7 ?_
    refine aw_iconst (v := (-1)) dX7_source_10 (by decide +kernel) ?_
    refine aw_ireturn dX7_source_11 rfl rfl (Nat.le_of_ble_eq_true rfl) (Nat.le_of_ble_eq_true rfl) ?_
    exact hQ _ _ _ (cbad hS _ (by unfold opSource; rw [Bool.eq_false_iff.mpr h1]; rfl))
  rw [if_pos h1]
  obtain ⟨ex, -, -, hx⟩ := rg_N h1 (by decide)
  have hj : tN s < sN S := by omega
  obtain ⟨-, ht, p1, l1⟩ := hI.2.1.2 _ hj
  have n3 := hS.tt hj
  obtain ⟨g, Rj, kj⟩ := hS.rw hj
  have lj3 : LC X (sN S) (sob X (tN s) + 3) = 8 := L_so (c := 3) hj (by decide)
  have W := LC_W X (sN S)
  refine aw_astore_3 dX7_source_5 (by decide) rfl ?_
  refine aw_aload_n (i := 3) dX7_source_6 rfl rfl ?_
  refine aw_ifnonnull (tgt := 12) dX7_source_7 (by decide) ?_
  refine aw_iload_n (i := 2) dX7_source_12 rfl rfl ?_
  by_cases h2 : rg w 0 3 = true
  case neg =>
    have hne : w.toInt < 0 ∨ 3 < w.toInt := by
      have : ¬ (0 ≤ w.toInt ∧ w.toInt ≤ 3) := fun q => h2 (rg_iff.mpr q)
      omega
    refine aw_tableOut (tgt := 73) dX7_source_13 hne (by decide) ?_
    refine aw_iconst (v := (-1)) dX7_source_73 (by decide +kernel) ?_
    refine aw_ireturn dX7_source_74 rfl rfl (Nat.le_of_ble_eq_true rfl) (Nat.le_of_ble_eq_true rfl) ?_
    exact hQ _ _ _ (cbad hS _ (by unfold opSource; rw [h1, Bool.eq_false_iff.mpr h2]; rfl))
  obtain ⟨ew, -, -, hw⟩ := rg_N h2 (by decide)
  have hop : opSource S s w = (nI (aSource S (tN s) (tN w)), S) := by unfold opSource; rw [h1, h2]; rfl
  rw [hop] at hQ
  generalize tN s = j at *
  generalize tN w = w' at *
  subst ew
  unfold aSource at hQ
  by_cases w0 : w' = 0
  · subst w0
    rw [if_pos rfl] at hQ
    refine aw_tableIn (off := 31) (tgt := 44) dX7_source_13 (by decide +kernel) (by decide +kernel) (by decide +kernel) (by decide) ?_
    refine aw_aload_n (i := 3) dX7_source_44 rfl rfl ?_
    refine aw_getfield fX7_177 dX7_source_45 (hS.so hj N) rfl ?_
    refine aw_ireturn dX7_source_48 rfl rfl (Nat.le_of_ble_eq_true rfl) (Nat.le_of_ble_eq_true rfl) ?_
    exact hQ _ _ _ (cbad hS _ rfl)
  · rw [if_neg w0] at hQ
    by_cases w1 : w' = 1
    · subst w1
      rw [if_pos rfl] at hQ
      refine aw_tableIn (off := 36) (tgt := 49) dX7_source_13 (by decide +kernel) (by decide +kernel) (by decide +kernel) (by decide) ?_
      refine aw_aload_n (i := 3) dX7_source_49 rfl rfl ?_
      refine aw_getfield fX7_139 dX7_source_50 (hS.so hj N) rfl ?_
      refine aw_getfield fX7_143 dX7_source_53 (hS.ro hj N) rfl ?_
      refine aw_ireturn dX7_source_56 rfl rfl (Nat.le_of_ble_eq_true rfl) (Nat.le_of_ble_eq_true rfl) ?_
      exact hQ _ _ _ (cbad hS _ rfl)
    · rw [if_neg w1] at hQ
      by_cases w2 : w' = 2
      · subst w2
        rw [if_pos rfl] at hQ
        refine aw_tableIn (off := 44) (tgt := 57) dX7_source_13 (by decide +kernel) (by decide +kernel) (by decide +kernel) (by decide) ?_
        refine aw_aload_n (i := 3) dX7_source_57 rfl rfl ?_
        refine aw_getfield fX7_146 dX7_source_58 (hS.so hj N) rfl ?_
        refine aw_invokevirtual kX7_153 dX7_source_61 (nh_o hc N (by rw [lj3]; decide)) (ct_X3_bits (cn X S) hc (LC X (sN S)) N (sob X j + 3) (stot S j) W (by rw [lj3]; decide) (by rw [lj3]; exact n3)) rfl rfl (Nat.le_of_ble_eq_true rfl) ⟨Nat.le_of_ble_eq_true rfl, Nat.le_of_ble_eq_true rfl⟩ ⟨Nat.le_of_ble_eq_true rfl, Nat.le_of_ble_eq_true rfl⟩ ?_
        rintro _ _ _ ⟨rfl, rfl, rfl⟩
        refine aw_ireturn dX7_source_64 rfl rfl (Nat.le_of_ble_eq_true rfl) (Nat.le_of_ble_eq_true rfl) ?_
        exact hQ _ _ _ (cbad hS _ rfl)
      · rw [if_neg w2] at hQ
        obtain rfl : w' = 3 := by omega
        refine aw_tableIn (off := 52) (tgt := 65) dX7_source_13 (by decide +kernel) (by decide +kernel) (by decide +kernel) (by decide) ?_
        refine aw_aload_n (i := 3) dX7_source_65 rfl rfl ?_
        refine aw_getfield fX7_139 dX7_source_66 (hS.so hj N) rfl ?_
        refine aw_invokevirtual kX7_180 dX7_source_69 (hS.ro hj N) (ct_X4_zeros (cn X S) _ (sob X j) (sT S j) _ g (sC S j) (Rj.nh (nr_so hj) N) kj) rfl rfl (Nat.le_of_ble_eq_true rfl) ⟨Nat.le_of_ble_eq_true rfl, Nat.le_of_ble_eq_true rfl⟩ ⟨Nat.le_of_ble_eq_true rfl, Nat.le_of_ble_eq_true rfl⟩ ?_
        rintro _ _ _ ⟨rfl, rfl, rfl⟩
        refine aw_ireturn dX7_source_72 rfl rfl (Nat.le_of_ble_eq_true rfl) (Nat.le_of_ble_eq_true rfl) ?_
        exact hQ _ _ _ (cbad hS _ rfl)
theorem bv_1 (g : Nat → Nat) : bv (2 ^ 32) g 1 = g 0 := by rw [bv_s _ _ 0, bv_0]; simp
theorem ck_counted (h : Hp) (X : Nat) (S : TS) (s k : Int32) (hR : CRep h X S) (hI : SInv S) : CT mX7_counted 0 0 (cn X S) h [.ref X, .int s, .int k] (COK X h (opCounted S s k)) := by
  obtain ⟨hc, N, rfl, hS⟩ := hR
  refine CT.intro [some (.ref X), some (.int s), some (.int k), none, none, none, none] 4 rfl rfl (by decide) ?_
  intro Q hQ
  have bad : ∀ y3 : Option Value, (isS S s && rg k 0 120) = false → AW mX7_counted (gq 0 0 Q) 20 [some (.ref X), some (.int s), some (.int k), y3, none, none, none] [] 0 0 (cn X S) (nh hc (LC X (sN S)) N) := by
    intro y3 hb
    refine aw_iconst (v := (-1)) dX7_counted_20 (by decide +kernel) ?_
    refine aw_ireturn dX7_counted_21 rfl rfl (Nat.le_of_ble_eq_true rfl) (Nat.le_of_ble_eq_true rfl) ?_
    exact hQ _ _ _ (cbad hS _ (by unfold opCounted; rw [hb]; rfl))
  refine aw_aload_n (i := 0) dX7_counted_0 rfl rfl ?_
  refine aw_iload_n (i := 1) dX7_counted_1 rfl rfl ?_
  refine aw_invokevirtual kX7_135 dX7_counted_2 (hS.X0 N) (hS.sourceAt hI (cn X S) N s) rfl rfl (Nat.le_of_ble_eq_true rfl) ⟨Nat.le_of_ble_eq_true rfl, Nat.le_of_ble_eq_true rfl⟩ ⟨Nat.le_of_ble_eq_true rfl, Nat.le_of_ble_eq_true rfl⟩ ?_
  rintro _ _ _ ⟨rfl, rfl, rfl⟩
  by_cases h1 : isS S s = true
  case neg =>
    rw [if_neg h1]
    refine aw_astore_3N dX7_counted_5 (by decide) rfl ?_
    refine aw_aload_nN (i := 3) dX7_counted_6 rfl rfl ?_
    refine aw_ifnullN (tgt := 20) dX7_counted_7 (by decide) ?_
    exact bad _ (by simp [h1])
  rw [if_pos h1]
  obtain ⟨ex, -, -, hx⟩ := rg_N h1 (by decide)
  have hj : tN s < sN S := by omega
  obtain ⟨hkd, ht, p1, l1⟩ := hI.2.1.2 _ hj
  have n3 := hS.tt hj
  obtain ⟨g, Rj, kj⟩ := hS.rw hj
  have lj3 : LC X (sN S) (sob X (tN s) + 3) = 8 := L_so (c := 3) hj (by decide)
  have W := LC_W X (sN S)
  refine aw_astore_3 dX7_counted_5 (by decide) rfl ?_
  refine aw_aload_n (i := 3) dX7_counted_6 rfl rfl ?_
  refine aw_ifnull dX7_counted_7 ?_
  refine aw_iload_n (i := 2) dX7_counted_10 rfl rfl ?_
  refine aw_iconst (v := 0) dX7_counted_11 (by decide +kernel) ?_
  refine aw_bipush (v := 120) dX7_counted_12 (by decide +kernel) ?_
  refine aw_invokestatic kX7_88 dX7_counted_14 (ct_out (b := 120) _ (nh hc (LC X (sN S)) N) k 0 120 toInt_lit0 (by decide +kernel)) rfl rfl (Nat.le_of_ble_eq_true rfl) ⟨Nat.le_of_ble_eq_true rfl, Nat.le_of_ble_eq_true rfl⟩ ⟨Nat.le_of_ble_eq_true rfl, Nat.le_of_ble_eq_true rfl⟩ ?_
  rintro _ _ _ ⟨rfl, rfl, rfl⟩
  by_cases h2 : rg k 0 120 = true
  case neg =>
    refine aw_if_eq (tgt := 22) dX7_counted_17 (by decide) (fun c => absurd c (bn0 h2)) (fun _ => ?_)
    exact bad _ (by simp [h2])
  have hop : opCounted S s k = (if (sK S (tN s) = 0 ∨ sK S (tN s) = 2) ∧ stot S (tN s) ≤ 20000 then (nI (sg (fun i => sC S (tN s) (tN k + i)) (sT S (tN s) + 1 - tN k)), S) else (-5, S)) := by unfold opCounted; rw [h1, h2]; rfl
  rw [hop] at hQ
  obtain ⟨ek, -, -, hk⟩ := rg_N h2 (by decide)
  clear bad
  generalize tN s = j at *
  generalize tN k = k' at *
  subst ek
  have none1 : ¬ ((sK S j = 0 ∨ sK S j = 2) ∧ stot S j ≤ 20000) → COK X (nh hc (LC X (sN S)) N) (if (sK S j = 0 ∨ sK S j = 2) ∧ stot S j ≤ 20000 then (nI (sg (fun i => sC S j (k' + i)) (sT S j + 1 - k')), S) else (-5, S)) (some (.int (-5))) (cn X S) (nh hc (LC X (sN S)) N) := fun q => cbad hS _ (if_neg q)
  have go40 : (sK S j = 0 ∨ sK S j = 2) → AW mX7_counted (gq 0 0 Q) 40 [some (.ref X), some (.int s), some (.int (nI k')), some (.ref (sob X j + 2)), none, none, none] [] 0 0 (cn X S) (nh hc (LC X (sN S)) N) := by
    intro hq
    have none2 : ¬ stot S j ≤ 20000 → AW mX7_counted (gq 0 0 Q) 66 [some (.ref X), some (.int s), some (.int (nI k')), some (.ref (sob X j + 2)), none, none, none] [] 0 0 (cn X S) (nh hc (LC X (sN S)) N) := by
      intro hz
      refine aw_bipush (v := (-5)) dX7_counted_66 (by decide +kernel) ?_
      refine aw_ireturn dX7_counted_68 rfl rfl (Nat.le_of_ble_eq_true rfl) (Nat.le_of_ble_eq_true rfl) ?_
      exact hQ _ _ _ (none1 (fun q => hz q.2))
    have hsz := n3.1.1
    refine aw_aload_n (i := 3) dX7_counted_40 rfl rfl ?_
    refine aw_getfield fX7_146 dX7_counted_41 (hS.so hj N) rfl ?_
    refine aw_getfield fX7_121 dX7_counted_44 (nh_o hc N (by rw [lj3]; decide)) rfl ?_
    refine aw_iconst (v := 1) dX7_counted_47 (by decide +kernel) ?_
    by_cases hs1 : (N (sob X j + 3)).1 ≤ 1
    case neg =>
      refine aw_icmp_gt (tgt := 66) dX7_counted_48 (by decide) (fun _ => ?_) (fun c => (c (nI_lt (a := 1) (by omega) (by omega))).elim)
      refine none2 (fun q => ?_)
      have := num_le n3 (k := 1) (Nat.lt_of_le_of_lt q (by decide))
      omega
    have hv32 : stot S j < 2 ^ 32 := by
      have := raw_lt n3.1
      exact Nat.lt_of_lt_of_le this (Nat.le_trans (Nat.pow_le_pow_right (by decide) hs1) (by decide))
    have hwd : wd (N (sob X j + 3)) 0 = stot S j := by rw [wd_eq n3.1, Nat.pow_zero, Nat.div_one, Nat.mod_eq_of_lt hv32]
    refine aw_icmp_gt (tgt := 66) dX7_counted_48 (by decide) (fun c => absurd c (nI_nlt (a := 1) hs1 (by omega))) (fun _ => ?_)
    refine aw_aload_n (i := 3) dX7_counted_51 rfl rfl ?_
    refine aw_getfield fX7_146 dX7_counted_52 (hS.so hj N) rfl ?_
    refine aw_iconst (v := 0) dX7_counted_55 (by decide +kernel) ?_
    refine aw_invokevirtual kX7_183 dX7_counted_56 (nh_o hc N (by rw [lj3]; decide)) (nc_word (cn X S) hc (LC X (sN S)) N (sob X j + 3) 0 (stot S j) W (by rw [lj3]; decide) (by rw [lj3]; exact n3.1) (by decide)) rfl rfl (Nat.le_of_ble_eq_true rfl) ⟨Nat.le_of_ble_eq_true rfl, Nat.le_of_ble_eq_true rfl⟩ ⟨Nat.le_of_ble_eq_true rfl, Nat.le_of_ble_eq_true rfl⟩ ?_
    rintro _ _ _ ⟨rfl, rfl, rfl⟩
    rw [hwd]
    refine aw_ldc2_w qX7_187 dX7_counted_59 ?_
    refine aw_lcmp dX7_counted_62 ?_
    by_cases h3 : stot S j ≤ 20000
    case neg =>
      refine aw_if_le (tgt := 69) dX7_counted_63 (by decide) (fun c => absurd c (fun q => h3 ((pk_lLE (b := 20000) (by omega) (by decide)).mp ((lg_cmp_le _ _).mp q)))) (fun _ => ?_)
      exact none2 h3
    rw [if_pos ⟨hq, h3⟩] at hQ
    have hw1 : wdt (stot S j) = 1 := by
      have a := nb_pos p1
      have b := nb_le (b := 15).mpr (Nat.lt_of_le_of_lt h3 (by decide))
      unfold wdt; omega
    have hro : nh hc (LC X (sN S)) N (sob X j) = some (robj (sob X j) (sT S j) (wdt (stot S j))) := hS.ro hj N
    rw [hw1] at Rj kj hro
    have hwv : ∀ v, v ≤ sT S j → g (v * 1 + 0) = sC S j v := fun v hv => by have := kj.2 v hv; rw [bv_1] at this; exact this
    have loop : ∀ (z i : Nat), i + z = sT S j + 1 - k' → AW mX7_counted (gq 0 0 Q) 75 [some (.ref X), some (.int s), some (.int (nI k')), some (.ref (sob X j + 2)), some (.long (lN (sg (fun i => sC S j (k' + i)) i))), none, some (.int (nI (k' + i)))] [] 0 0 (cn X S) (nh hc (LC X (sN S)) N) := by
      intro z
      induction z with
      | zero =>
        intro i hi
        obtain rfl : i = sT S j + 1 - k' := by omega
        refine aw_iload dX7_counted_75 rfl ?_
        refine aw_aload_n (i := 3) dX7_counted_77 rfl rfl ?_
        refine aw_getfield fX7_139 dX7_counted_78 (hS.so hj N) rfl ?_
        refine aw_getfield fX7_143 dX7_counted_81 hro rfl ?_
        refine aw_icmp_gt (tgt := 108) dX7_counted_84 (by decide) (fun _ => ?_) (fun c => (c (nI_lt (by omega) (by omega))).elim)
        refine aw_lload dX7_counted_108 rfl ?_
        refine aw_l2i dX7_counted_110 rfl ?_
        rw [lN_i]
        refine aw_ireturn dX7_counted_111 rfl rfl (Nat.le_of_ble_eq_true rfl) (Nat.le_of_ble_eq_true rfl) ?_
        exact hQ _ _ _ (cbad hS _ rfl)
      | succ z ih =>
        intro i hi
        have := ih (i + 1) (by omega)
        rw [sg_s, ← Nat.add_assoc] at this
        refine aw_iload dX7_counted_75 rfl ?_
        refine aw_aload_n (i := 3) dX7_counted_77 rfl rfl ?_
        refine aw_getfield fX7_139 dX7_counted_78 (hS.so hj N) rfl ?_
        refine aw_getfield fX7_143 dX7_counted_81 hro rfl ?_
        refine aw_icmp_gt (tgt := 108) dX7_counted_84 (by decide) (fun c => absurd c (nI_nlt (by omega) (by omega))) (fun _ => ?_)
        refine aw_lload dX7_counted_87 rfl ?_
        refine aw_aload_n (i := 3) dX7_counted_89 rfl rfl ?_
        refine aw_getfield fX7_139 dX7_counted_90 (hS.so hj N) rfl ?_
        refine aw_iload dX7_counted_93 rfl ?_
        refine aw_iconst (v := 0) dX7_counted_95 (by decide +kernel) ?_
        refine aw_invokevirtual kX7_189 dX7_counted_96 hro (ct_X4_word (cn X S) _ (sob X j) (sT S j) 1 (k' + i) 0 g (Rj.nh (nr_so hj) N) kj.1 (by omega) (by decide)) rfl rfl (Nat.le_of_ble_eq_true rfl) ⟨Nat.le_of_ble_eq_true rfl, Nat.le_of_ble_eq_true rfl⟩ ⟨Nat.le_of_ble_eq_true rfl, Nat.le_of_ble_eq_true rfl⟩ ?_
        rintro _ _ _ ⟨rfl, rfl, rfl⟩
        rw [if_pos (by decide), hwv _ (by omega)]
        refine aw_ladd dX7_counted_99 ?_
        rw [lN_add]
        refine aw_lstore_4 dX7_counted_100 (by decide) rfl ?_
        refine aw_iinc_6 (c0 := 1) dX7_counted_102 (by decide) (by decide) rfl ?_
        refine aw_goto (tgt := 75) dX7_counted_105 (by decide) ?_
        rw [nI_1]
        exact this
    refine aw_if_le (tgt := 69) dX7_counted_63 (by decide) (fun _ => ?_) (fun c => (c ((lg_cmp_le _ _).mpr ((pk_lLE (b := 20000) (by omega) (by decide)).mpr h3))).elim)
    refine aw_lconst (v := 0) dX7_counted_69 (by decide) ?_
    refine aw_lstore_4 dX7_counted_70 (by decide) rfl ?_
    refine aw_iload_n (i := 2) dX7_counted_72 rfl rfl ?_
    refine aw_istore_6 dX7_counted_73 (by decide) rfl ?_
    exact loop (sT S j + 1 - k') 0 (Nat.zero_add _)
  refine aw_if_eq (tgt := 22) dX7_counted_17 (by decide) (fun _ => ?_) (fun c => (c (bn1 h2)).elim)
  refine aw_aload_n (i := 3) dX7_counted_22 rfl rfl ?_
  refine aw_getfield fX7_177 dX7_counted_23 (hS.so hj N) rfl ?_
  by_cases k0 : sK S j = 0
  · refine aw_if_eq (tgt := 40) dX7_counted_26 (by decide) (fun _ => ?_) (fun c => (c (by rw [k0]; rfl)).elim)
    exact go40 (Or.inl k0)
  · refine aw_if_eq (tgt := 40) dX7_counted_26 (by decide) (fun c => absurd c (nI_ne0 (by omega) (by omega))) (fun _ => ?_)
    refine aw_aload_n (i := 3) dX7_counted_29 rfl rfl ?_
    refine aw_getfield fX7_177 dX7_counted_30 (hS.so hj N) rfl ?_
    refine aw_iconst (v := 2) dX7_counted_33 (by decide +kernel) ?_
    by_cases k2 : sK S j = 2
    · refine aw_icmp_eq (tgt := 40) dX7_counted_34 (by decide) (fun _ => ?_) (fun c => (c (by rw [k2]; rfl)).elim)
      exact go40 (Or.inr k2)
    · refine aw_icmp_eq (tgt := 40) dX7_counted_34 (by decide) (fun c => absurd c (fun e => k2 ((nI_eq (b := 2) (by omega) (by decide)).mp e))) (fun _ => ?_)
      refine aw_bipush (v := (-5)) dX7_counted_37 (by decide +kernel) ?_
      refine aw_ireturn dX7_counted_39 rfl rfl (Nat.le_of_ble_eq_true rfl) (Nat.le_of_ble_eq_true rfl) ?_
      exact hQ _ _ _ (none1 (fun q => by omega))
