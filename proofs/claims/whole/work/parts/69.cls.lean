theorem ct_out (n : Nat) (h : Hp) (v lo hi : Int32) {a b : Int} (ha : lo.toInt = a) (hb : hi.toInt = b) : CT mX7_outside 0 0 n h [.int v, .int lo, .int hi] (pint n h (bI (!rg v a b))) := by
  refine CT.intro [some (.int v), some (.int lo), some (.int hi)] 0 rfl rfl (by decide) ?_
  intro Q hQ
  subst ha hb
  refine aw_iload_n (i := 0) dX7_outside_0 rfl rfl ?_
  refine aw_iload_n (i := 1) dX7_outside_1 rfl rfl ?_
  by_cases h1 : v < lo
  · refine aw_icmp_lt (tgt := 10) dX7_outside_2 (by decide) (fun _ => ?_) (fun c => (c h1).elim)
    refine aw_iconst (v := 1) dX7_outside_10 (by decide +kernel) ?_
    refine aw_goto (tgt := 15) dX7_outside_11 (by decide) ?_
    refine aw_ireturn dX7_outside_15 rfl rfl (Nat.le_of_ble_eq_true rfl) (Nat.le_of_ble_eq_true rfl) ?_
    refine hQ _ _ _ ⟨?_, rfl, rfl⟩
    rw [Int32.lt_iff_toInt_lt] at h1
    rw [show rg v lo.toInt hi.toInt = false by rw [Bool.eq_false_iff]; intro q; have := (rg_iff.mp q).1; omega]
    rfl
  · refine aw_icmp_lt (tgt := 10) dX7_outside_2 (by decide) (fun c => absurd c h1) (fun _ => ?_)
    refine aw_iload_n (i := 0) dX7_outside_5 rfl rfl ?_
    refine aw_iload_n (i := 2) dX7_outside_6 rfl rfl ?_
    by_cases h2 : v ≤ hi
    · refine aw_icmp_le (tgt := 14) dX7_outside_7 (by decide) (fun _ => ?_) (fun c => (c h2).elim)
      refine aw_iconst (v := 0) dX7_outside_14 (by decide +kernel) ?_
      refine aw_ireturn dX7_outside_15 rfl rfl (Nat.le_of_ble_eq_true rfl) (Nat.le_of_ble_eq_true rfl) ?_
      refine hQ _ _ _ ⟨?_, rfl, rfl⟩
      rw [Int32.lt_iff_toInt_lt] at h1
      rw [Int32.le_iff_toInt_le] at h2
      rw [rg_iff.mpr ⟨by omega, h2⟩]
      rfl
    · refine aw_icmp_le (tgt := 14) dX7_outside_7 (by decide) (fun c => absurd c h2) (fun _ => ?_)
      refine aw_iconst (v := 1) dX7_outside_10 (by decide +kernel) ?_
      refine aw_goto (tgt := 15) dX7_outside_11 (by decide) ?_
      refine aw_ireturn dX7_outside_15 rfl rfl (Nat.le_of_ble_eq_true rfl) (Nat.le_of_ble_eq_true rfl) ?_
      refine hQ _ _ _ ⟨?_, rfl, rfl⟩
      rw [Int32.le_iff_toInt_le] at h2
      rw [show rg v lo.toInt hi.toInt = false by rw [Bool.eq_false_iff]; intro q; have := (rg_iff.mp q).2; omega]
      rfl
theorem bn1 {b : Bool} (h : b = true) : bI (!b) = 0 := by rw [h]; rfl
theorem bn0 {b : Bool} (h : ¬ b = true) : ¬ bI (!b) = 0 := by rw [Bool.eq_false_iff.mpr h]; decide
theorem ct_X7_notOdds (n : Nat) (h : Hp) (a b : Int32) : CT mX7_notOdds 0 0 n h [.int a, .int b] (pint n h (bI (!(rg b 1 60 && rg a 0 b.toInt)))) := by
  refine CT.intro [some (.int a), some (.int b)] 0 rfl rfl (by decide) ?_
  intro Q hQ
  refine aw_iload_n (i := 1) dX7_notOdds_0 rfl rfl ?_
  refine aw_iconst (v := 1) dX7_notOdds_1 (by decide +kernel) ?_
  refine aw_bipush (v := 60) dX7_notOdds_2 (by decide +kernel) ?_
  refine aw_invokestatic kX7_88 dX7_notOdds_4 (ct_out n h b 1 60 toInt_1 toInt_60) rfl rfl (Nat.le_of_ble_eq_true rfl) ⟨Nat.le_of_ble_eq_true rfl, Nat.le_of_ble_eq_true rfl⟩ ⟨Nat.le_of_ble_eq_true rfl, Nat.le_of_ble_eq_true rfl⟩ ?_
  rintro _ _ _ ⟨rfl, rfl, rfl⟩
  by_cases h1 : rg b 1 60 = true
  · refine aw_if_ne (tgt := 19) dX7_notOdds_7 (by decide) (fun c => absurd c (fun c => c (bn1 h1))) (fun _ => ?_)
    refine aw_iload_n (i := 0) dX7_notOdds_10 rfl rfl ?_
    refine aw_iconst (v := 0) dX7_notOdds_11 (by decide +kernel) ?_
    refine aw_iload_n (i := 1) dX7_notOdds_12 rfl rfl ?_
    refine aw_invokestatic kX7_88 dX7_notOdds_13 (ct_out n h a 0 b toInt_lit0 rfl) rfl rfl (Nat.le_of_ble_eq_true rfl) ⟨Nat.le_of_ble_eq_true rfl, Nat.le_of_ble_eq_true rfl⟩ ⟨Nat.le_of_ble_eq_true rfl, Nat.le_of_ble_eq_true rfl⟩ ?_
    rintro _ _ _ ⟨rfl, rfl, rfl⟩
    by_cases h2 : rg a 0 b.toInt = true
    · refine aw_if_eq (tgt := 23) dX7_notOdds_16 (by decide) (fun _ => ?_) (fun c => (c (bn1 h2)).elim)
      refine aw_iconst (v := 0) dX7_notOdds_23 (by decide +kernel) ?_
      refine aw_ireturn dX7_notOdds_24 rfl rfl (Nat.le_of_ble_eq_true rfl) (Nat.le_of_ble_eq_true rfl) ?_
      exact hQ _ _ _ ⟨by rw [h1, h2]; rfl, rfl, rfl⟩
    · refine aw_if_eq (tgt := 23) dX7_notOdds_16 (by decide) (fun c => absurd c (bn0 h2)) (fun _ => ?_)
      refine aw_iconst (v := 1) dX7_notOdds_19 (by decide +kernel) ?_
      refine aw_goto (tgt := 24) dX7_notOdds_20 (by decide) ?_
      refine aw_ireturn dX7_notOdds_24 rfl rfl (Nat.le_of_ble_eq_true rfl) (Nat.le_of_ble_eq_true rfl) ?_
      exact hQ _ _ _ ⟨by rw [h1, Bool.eq_false_iff.mpr h2]; rfl, rfl, rfl⟩
  · refine aw_if_ne (tgt := 19) dX7_notOdds_7 (by decide) (fun _ => ?_) (fun c => ((bn0 h1) c).elim)
    refine aw_iconst (v := 1) dX7_notOdds_19 (by decide +kernel) ?_
    refine aw_goto (tgt := 24) dX7_notOdds_20 (by decide) ?_
    refine aw_ireturn dX7_notOdds_24 rfl rfl (Nat.le_of_ble_eq_true rfl) (Nat.le_of_ble_eq_true rfl) ?_
    exact hQ _ _ _ ⟨by rw [Bool.eq_false_iff.mpr h1]; rfl, rfl, rfl⟩
theorem ct_X7_isFull (n : Nat) (h : Hp) (X : Nat) (S : TS) (fs : Nat → Option Nat) (hX : h X = some (cob X S)) (h2 : h (X + 2) = some (oar "TailBounds$Source" 16 fs)) (hn : sN S ≤ 16) : CT mX7_isFull 0 0 n h [.ref X] (pint n h (bI (decide (sN S = 16)))) := by
  refine CT.intro [some (.ref X)] 0 rfl rfl (by decide) ?_
  intro Q hQ
  refine aw_aload_n (i := 0) dX7_isFull_0 rfl rfl ?_
  refine aw_getfield fX7_67 dX7_isFull_1 hX rfl ?_
  refine aw_if_lt (tgt := 19) dX7_isFull_4 (by decide) (fun c => absurd c (nI_pos (by omega))) (fun _ => ?_)
  refine aw_aload_n (i := 0) dX7_isFull_7 rfl rfl ?_
  refine aw_getfield fX7_67 dX7_isFull_8 hX rfl ?_
  refine aw_aload_n (i := 0) dX7_isFull_11 rfl rfl ?_
  refine aw_getfield fX7_15 dX7_isFull_12 hX rfl ?_
  refine aw_arraylength dX7_isFull_15 h2 ?_
  dsimp only
  by_cases h16 : sN S = 16
  · refine aw_icmp_lt (tgt := 23) dX7_isFull_16 (by decide) (fun c => absurd c (by rw [h16]; decide)) (fun _ => ?_)
    refine aw_iconst (v := 1) dX7_isFull_19 (by decide +kernel) ?_
    refine aw_goto (tgt := 24) dX7_isFull_20 (by decide) ?_
    refine aw_ireturn dX7_isFull_24 rfl rfl (Nat.le_of_ble_eq_true rfl) (Nat.le_of_ble_eq_true rfl) ?_
    exact hQ _ _ _ ⟨by rw [decide_eq_true h16]; rfl, rfl, rfl⟩
  · refine aw_icmp_lt (tgt := 23) dX7_isFull_16 (by decide) (fun _ => ?_) (fun c => (c (nI_lt (b := 16) (by omega) (by decide))).elim)
    refine aw_iconst (v := 0) dX7_isFull_23 (by decide +kernel) ?_
    refine aw_ireturn dX7_isFull_24 rfl rfl (Nat.le_of_ble_eq_true rfl) (Nat.le_of_ble_eq_true rfl) ?_
    exact hQ _ _ _ ⟨by rw [decide_eq_false h16]; rfl, rfl, rfl⟩
/-- a place, or none -/
theorem ct_X7_placeAt (n : Nat) (h : Hp) (X : Nat) (S : TS) (p : Int32) (fp : Nat → Option Nat) (hX : h X = some (cob X S)) (h3 : h (X + 3) = some (oar "TailBounds$Fraction" 16 fp)) (hfp : ∀ p, p < 16 → fp p = some (plb X p)) : CT mX7_placeAt 0 0 n h [.ref X, .int p] (fun r n' h' => n = n' ∧ h = h' ∧ r = some (if isP p then .ref (plb X (tN p)) else .null)) := by
  refine CT.intro [some (.ref X), some (.int p)] 0 rfl rfl (by decide) ?_
  intro Q hQ
  have hiff : isP p = true ↔ 0 ≤ p.toInt ∧ p.toInt ≤ 15 := rg_iff
  refine aw_iload_n (i := 1) dX7_placeAt_0 rfl rfl ?_
  by_cases hneg : p < 0
  · refine aw_if_lt (tgt := 13) dX7_placeAt_1 (by decide) (fun _ => ?_) (fun c => (c hneg).elim)
    refine aw_null dX7_placeAt_13 ?_
    refine aw_goto (tgt := 23) dX7_placeAt_14 (by decide) ?_
    refine aw_areturn dX7_placeAt_23 rfl (Or.inl rfl) (Nat.le_of_ble_eq_true rfl) (Nat.le_of_ble_eq_true rfl) ?_
    rw [Int32.lt_iff_toInt_lt, toInt_lit0] at hneg
    exact hQ _ _ _ ⟨rfl, rfl, by rw [if_neg (by rw [hiff]; omega)]⟩
  · refine aw_if_lt (tgt := 13) dX7_placeAt_1 (by decide) (fun c => absurd c hneg) (fun _ => ?_)
    refine aw_iload_n (i := 1) dX7_placeAt_4 rfl rfl ?_
    refine aw_aload_n (i := 0) dX7_placeAt_5 rfl rfl ?_
    refine aw_getfield fX7_21 dX7_placeAt_6 hX rfl ?_
    refine aw_arraylength dX7_placeAt_9 h3 ?_
    rw [Int32.lt_iff_toInt_lt, toInt_lit0] at hneg
    dsimp only
    by_cases hp : isP p = true
    · obtain ⟨ep, hp16⟩ := isP_N hp
      have hf := hfp (tN p) hp16
      refine aw_icmp_lt (tgt := 17) dX7_placeAt_10 (by decide) (fun _ => ?_) (fun c => (c (by rw [ep]; exact nI_lt (b := 16) hp16 (by decide))).elim)
      refine aw_aload_n (i := 0) dX7_placeAt_17 rfl rfl ?_
      refine aw_getfield fX7_21 dX7_placeAt_18 hX rfl ?_
      refine aw_iload_n (i := 1) dX7_placeAt_21 rfl rfl ?_
      refine aw_aaload dX7_placeAt_22 h3 (show p.toInt = ((tN p : Nat) : Int) by rw [ep, nI_toInt (by omega)]; rw [← ep]) hp16 ?_
      rw [hf]
      refine aw_areturn dX7_placeAt_23 rfl (Or.inr ⟨_, rfl⟩) (Nat.le_of_ble_eq_true rfl) (Nat.le_of_ble_eq_true rfl) ?_
      exact hQ _ _ _ ⟨rfl, rfl, by rw [if_pos hp]; rfl⟩
    · have hlt : ¬ p.toInt ≤ 15 := fun q => hp (hiff.mpr ⟨by omega, q⟩)
      refine aw_icmp_lt (tgt := 17) dX7_placeAt_10 (by decide) (fun c => absurd c (by rw [Int32.lt_iff_toInt_lt, show (nI 16).toInt = 16 by decide +kernel]; omega)) (fun _ => ?_)
      refine aw_null dX7_placeAt_13 ?_
      refine aw_goto (tgt := 23) dX7_placeAt_14 (by decide) ?_
      refine aw_areturn dX7_placeAt_23 rfl (Or.inl rfl) (Nat.le_of_ble_eq_true rfl) (Nat.le_of_ble_eq_true rfl) ?_
      exact hQ _ _ _ ⟨rfl, rfl, by rw [if_neg hp]⟩
/-- a source, or none -/
theorem ct_X7_sourceAt (n : Nat) (h : Hp) (X : Nat) (S : TS) (s : Int32) (fs : Nat → Option Nat) (hX : h X = some (cob X S)) (h2 : h (X + 2) = some (oar "TailBounds$Source" 16 fs)) (hfs : ∀ j, j < sN S → fs j = some (sob X j + 2)) (hn : sN S ≤ 16) : CT mX7_sourceAt 0 0 n h [.ref X, .int s] (fun r n' h' => n = n' ∧ h = h' ∧ r = some (if isS S s then .ref (sob X (tN s) + 2) else .null)) := by
  refine CT.intro [some (.ref X), some (.int s)] 0 rfl rfl (by decide) ?_
  intro Q hQ
  have hiff : isS S s = true ↔ 0 ≤ s.toInt ∧ s.toInt ≤ (sN S : Int) - 1 := rg_iff
  refine aw_iload_n (i := 1) dX7_sourceAt_0 rfl rfl ?_
  by_cases hneg : s < 0
  · refine aw_if_lt (tgt := 21) dX7_sourceAt_1 (by decide) (fun _ => ?_) (fun c => (c hneg).elim)
    refine aw_null dX7_sourceAt_21 ?_
    refine aw_goto (tgt := 31) dX7_sourceAt_22 (by decide) ?_
    refine aw_areturn dX7_sourceAt_31 rfl (Or.inl rfl) (Nat.le_of_ble_eq_true rfl) (Nat.le_of_ble_eq_true rfl) ?_
    rw [Int32.lt_iff_toInt_lt, toInt_lit0] at hneg
    exact hQ _ _ _ ⟨rfl, rfl, by rw [if_neg (by rw [hiff]; omega)]⟩
  · refine aw_if_lt (tgt := 21) dX7_sourceAt_1 (by decide) (fun c => absurd c hneg) (fun _ => ?_)
    refine aw_iload_n (i := 1) dX7_sourceAt_4 rfl rfl ?_
    refine aw_aload_n (i := 0) dX7_sourceAt_5 rfl rfl ?_
    refine aw_getfield fX7_67 dX7_sourceAt_6 hX rfl ?_
    rw [Int32.lt_iff_toInt_lt, toInt_lit0] at hneg
    by_cases hp : isS S s = true
    · obtain ⟨ep, e2, -, e4⟩ := rg_N hp (by decide)
      have hlt : tN s < sN S := by omega
      have hf := hfs (tN s) hlt
      refine aw_icmp_ge (tgt := 21) dX7_sourceAt_9 (by decide) (fun c => absurd c (by rw [ep]; exact nI_ge hlt (by omega))) (fun _ => ?_)
      refine aw_iload_n (i := 1) dX7_sourceAt_12 rfl rfl ?_
      refine aw_aload_n (i := 0) dX7_sourceAt_13 rfl rfl ?_
      refine aw_getfield fX7_15 dX7_sourceAt_14 hX rfl ?_
      refine aw_arraylength dX7_sourceAt_17 h2 ?_
      dsimp only
      refine aw_icmp_lt (tgt := 25) dX7_sourceAt_18 (by decide) (fun _ => ?_) (fun c => (c (by rw [ep]; exact nI_lt (b := 16) (by omega) (by decide))).elim)
      refine aw_aload_n (i := 0) dX7_sourceAt_25 rfl rfl ?_
      refine aw_getfield fX7_15 dX7_sourceAt_26 hX rfl ?_
      refine aw_iload_n (i := 1) dX7_sourceAt_29 rfl rfl ?_
      refine aw_aaload dX7_sourceAt_30 h2 (show s.toInt = ((tN s : Nat) : Int) by omega) (show tN s < 16 by omega) ?_
      rw [hf]
      refine aw_areturn dX7_sourceAt_31 rfl (Or.inr ⟨_, rfl⟩) (Nat.le_of_ble_eq_true rfl) (Nat.le_of_ble_eq_true rfl) ?_
      exact hQ _ _ _ ⟨rfl, rfl, by rw [if_pos hp]; rfl⟩
    · have hlt : ¬ s.toInt ≤ (sN S : Int) - 1 := fun q => hp (hiff.mpr ⟨by omega, q⟩)
      refine aw_icmp_ge (tgt := 21) dX7_sourceAt_9 (by decide) (fun _ => ?_) (fun c => (c (by rw [Int32.le_iff_toInt_le, nI_toInt (by omega)]; omega)).elim)
      refine aw_null dX7_sourceAt_21 ?_
      refine aw_goto (tgt := 31) dX7_sourceAt_22 (by decide) ?_
      refine aw_areturn dX7_sourceAt_31 rfl (Or.inl rfl) (Nat.le_of_ble_eq_true rfl) (Nat.le_of_ble_eq_true rfl) ?_
      exact hQ _ _ _ ⟨rfl, rfl, by rw [if_neg hp]⟩
/-- the same from the class's state -/
theorem CS.placeAt {hc : Hp} {N : NC} {X : Nat} {S : TS} (h : CS hc N X S) (n : Nat) (N' : NC) (p : Int32) : CT mX7_placeAt 0 0 n (nh hc (LC X (sN S)) N') [.ref X, .int p] (fun r n' h' => n = n' ∧ nh hc (LC X (sN S)) N' = h' ∧ r = some (if isP p then .ref (plb X (tN p)) else .null)) := by
  obtain ⟨fp, h3, hfp⟩ := h.2.1.2.2.2.1
  exact ct_X7_placeAt n _ X S p fp (h.X0 N') (by rw [nh_X (c := 3) N' rfl (Or.inr rfl)]; exact h3) hfp
theorem CS.sourceAt {hc : Hp} {N : NC} {X : Nat} {S : TS} (h : CS hc N X S) (hI : SInv S) (n : Nat) (N' : NC) (s : Int32) : CT mX7_sourceAt 0 0 n (nh hc (LC X (sN S)) N') [.ref X, .int s] (fun r n' h' => n = n' ∧ nh hc (LC X (sN S)) N' = h' ∧ r = some (if isS S s then .ref (sob X (tN s) + 2) else .null)) := by
  obtain ⟨fs, h2, hfs⟩ := h.2.1.2.2.1
  exact ct_X7_sourceAt n _ X S s fs (h.X0 N') (by rw [nh_X (c := 2) N' rfl (Or.inr rfl)]; exact h2) hfs hI.2.1.1
theorem CS.isFull {hc : Hp} {N : NC} {X : Nat} {S : TS} (h : CS hc N X S) (hI : SInv S) (n : Nat) (N' : NC) : CT mX7_isFull 0 0 n (nh hc (LC X (sN S)) N') [.ref X] (pint n (nh hc (LC X (sN S)) N') (bI (decide (sN S = 16)))) := by
  obtain ⟨fs, h2, hfs⟩ := h.2.1.2.2.1
  exact ct_X7_isFull n _ X S fs (h.X0 N') (by rw [nh_X (c := 2) N' rfl (Or.inr rfl)]; exact h2) hI.2.1.1
theorem ct_X7_together (n : Nat) (h : Hp) (q ls k : Nat) (sh : Nat → Nat) (hq : h q = some (iar ls sh)) (hk : k ≤ ls) (hls : ls ≤ 8) : CT mX7_together 0 0 n h [.ref q, .int (nI k)] (pint n h (nI (sg sh k))) := by
  refine CT.intro [some (.ref q), some (.int (nI k)), none, none] 2 rfl rfl (by decide) ?_
  intro Q hQ
  refine aw_iconst (v := 0) dX7_together_0 (by decide +kernel) ?_
  refine aw_istore_2 dX7_together_1 (by decide) rfl ?_
  refine aw_iconst (v := 0) dX7_together_2 (by decide +kernel) ?_
  refine aw_istore_3 dX7_together_3 (by decide) rfl ?_
  have loop : ∀ (j i : Nat), i + j = k → AW mX7_together (gq 0 0 Q) 4 [some (.ref q), some (.int (nI k)), some (.int (nI (sg sh i))), some (.int (nI i))] [] 0 0 n h := by
    intro j
    induction j with
    | zero =>
      intro i hi
      obtain rfl : i = k := by omega
      refine aw_iload_n (i := 3) dX7_together_4 rfl rfl ?_
      refine aw_iload_n (i := 1) dX7_together_5 rfl rfl ?_
      refine aw_icmp_ge (tgt := 27) dX7_together_6 (by decide) (fun _ => ?_) (fun c => (c (nI_le (Nat.le_refl _) (by omega))).elim)
      refine aw_iload_n (i := 2) dX7_together_27 rfl rfl ?_
      refine aw_ireturn dX7_together_28 rfl rfl (Nat.le_of_ble_eq_true rfl) (Nat.le_of_ble_eq_true rfl) ?_
      exact hQ _ _ _ ⟨rfl, rfl, rfl⟩
    | succ j ih =>
      intro i hi
      have := ih (i + 1) (by omega)
      rw [sg_s] at this
      refine aw_iload_n (i := 3) dX7_together_4 rfl rfl ?_
      refine aw_iload_n (i := 1) dX7_together_5 rfl rfl ?_
      refine aw_icmp_ge (tgt := 27) dX7_together_6 (by decide) (fun c => absurd c (nI_ge (by omega) (by omega))) (fun _ => ?_)
      refine aw_iload_n (i := 3) dX7_together_9 rfl rfl ?_
      refine aw_aload_n (i := 0) dX7_together_10 rfl rfl ?_
      refine aw_arraylength dX7_together_11 hq ?_
      dsimp only
      refine aw_icmp_ge (tgt := 27) dX7_together_12 (by decide) (fun c => absurd c (nI_ge (by omega) (by omega))) (fun _ => ?_)
      refine aw_iload_n (i := 2) dX7_together_15 rfl rfl ?_
      refine aw_aload_n (i := 0) dX7_together_16 rfl rfl ?_
      refine aw_iload_n (i := 3) dX7_together_17 rfl rfl ?_
      refine aw_iald dX7_together_18 i hq (nI_toInt (by omega)) (by omega) ?_
      refine aw_iadd dX7_together_19 ?_
      rw [nI_add]
      refine aw_istore_2 dX7_together_20 (by decide) rfl ?_
      refine aw_iinc_3 (c0 := 1) dX7_together_21 (by decide) (by decide) rfl ?_
      refine aw_goto (tgt := 4) dX7_together_24 (by decide) ?_
      rw [nI_1]
      exact this
  exact loop k 0 (by omega)
theorem ct_X7_ways (n : Nat) (h : Hp) (m k : Nat) (hm : m ≤ 60) (hk : k ≤ 60) : CT mX7_ways 0 0 n h [.int (nI m), .int (nI k)] (plong n h (lN (cho m k))) := by
  refine CT.intro [some (.int (nI m)), some (.int (nI k)), none, none, none] 3 rfl rfl (by decide) ?_
  intro Q hQ
  refine aw_iload_n (i := 1) dX7_ways_0 rfl rfl ?_
  refine aw_if_lt (tgt := 9) dX7_ways_1 (by decide) (fun c => absurd c (nI_pos (by omega))) (fun _ => ?_)
  refine aw_iload_n (i := 1) dX7_ways_4 rfl rfl ?_
  refine aw_iload_n (i := 0) dX7_ways_5 rfl rfl ?_
  by_cases hkm : k ≤ m
  · refine aw_icmp_le (tgt := 11) dX7_ways_6 (by decide) (fun _ => ?_) (fun c => (c (nI_le hkm (by omega))).elim)
    refine aw_lconst (v := 1) dX7_ways_11 (by decide) ?_
    refine aw_lstore_2 dX7_ways_12 (by decide) rfl ?_
    refine aw_iconst (v := 0) dX7_ways_13 (by decide +kernel) ?_
    refine aw_istore_4 dX7_ways_14 (by decide) rfl ?_
    have loop : ∀ (j i : Nat), i + j = k → AW mX7_ways (gq 0 0 Q) 16 [some (.int (nI m)), some (.int (nI k)), some (.long (lN (cho m i))), none, some (.int (nI i))] [] 0 0 n h := by
      intro j
      induction j with
      | zero =>
        intro i hi
        obtain rfl : i = k := by omega
        refine aw_iload dX7_ways_16 rfl ?_
        refine aw_iload_n (i := 1) dX7_ways_18 rfl rfl ?_
        refine aw_icmp_ge (tgt := 42) dX7_ways_19 (by decide) (fun _ => ?_) (fun c => (c (nI_le (Nat.le_refl _) (by omega))).elim)
        refine aw_lload_n (i := 2) dX7_ways_42 rfl rfl ?_
        refine aw_lreturn dX7_ways_43 rfl (Nat.le_of_ble_eq_true rfl) (Nat.le_of_ble_eq_true rfl) ?_
        exact hQ _ _ _ ⟨rfl, rfl, rfl⟩
      | succ j ih =>
        intro i hi
        have hb := cho_bd (n := m) (by omega) i
        have hm2 : cho m i * (m - i) ≤ 2 ^ 57 * 60 := Nat.mul_le_mul (Nat.le_of_lt hb) (by omega)
        have he := cho_right m i (by omega)
        refine aw_iload dX7_ways_16 rfl ?_
        refine aw_iload_n (i := 1) dX7_ways_18 rfl rfl ?_
        refine aw_icmp_ge (tgt := 42) dX7_ways_19 (by decide) (fun c => absurd c (nI_ge (by omega) (by omega))) (fun _ => ?_)
        refine aw_lload_n (i := 2) dX7_ways_22 rfl rfl ?_
        refine aw_iload_n (i := 0) dX7_ways_23 rfl rfl ?_
        refine aw_iload dX7_ways_24 rfl ?_
        refine aw_isub dX7_ways_26 ?_
        rw [pk_sub (by omega)]
        refine aw_i2l dX7_ways_27 rfl ?_
        refine aw_lmul dX7_ways_28 ?_
        refine aw_iload dX7_ways_29 rfl ?_
        refine aw_iconst (v := 1) dX7_ways_31 (by decide +kernel) ?_
        refine aw_iadd dX7_ways_32 ?_
        rw [nI_l (show m - i < 2 ^ 31 by omega), lN_mul, nI_1]
        refine aw_i2l dX7_ways_33 rfl ?_
        rw [nI_l (show i + 1 < 2 ^ 31 by omega)]
        refine aw_ldiv dX7_ways_34 (fun q => by have := (pk_lEQ (a := i + 1) (b := 0) (by omega) (by decide)).mp q; omega) ?_
        rw [pk_lDiv (by omega) (by omega) (by omega), ← he, Nat.mul_div_cancel _ (by omega)]
        refine aw_lstore_2 dX7_ways_35 (by decide) rfl ?_
        refine aw_iinc_4 (c0 := 1) dX7_ways_36 (by decide) (by decide) rfl ?_
        refine aw_goto (tgt := 16) dX7_ways_39 (by decide) ?_
        rw [nI_1]
        exact ih (i + 1) (by omega)
    have := loop k 0 (by omega)
    rw [cho_0] at this
    exact this
  · refine aw_icmp_le (tgt := 11) dX7_ways_6 (by decide) (fun c => absurd c (nI_ge (by omega) (by omega))) (fun _ => ?_)
    refine aw_lconst (v := 0) dX7_ways_9 (by decide) ?_
    refine aw_lreturn dX7_ways_10 rfl (Nat.le_of_ble_eq_true rfl) (Nat.le_of_ble_eq_true rfl) ?_
    exact hQ _ _ _ ⟨by rw [cho_big (by omega)]; rfl, rfl, rfl⟩
