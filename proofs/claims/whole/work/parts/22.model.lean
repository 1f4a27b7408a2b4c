theorem lN_and1' (x : Nat) : lN x &&& 1 = lN (x % 2) := lN_and1 x
theorem ct_X8_half (n : Nat) (h : Hp) (a va f : Nat) (ga : Nat → Nat) (ha : h a = some (lar 96 ga)) (hva : dg ga va) (hf : f < 96) (hz0 : ∀ i, f < i → i < 96 → ga i = 0) : CT mX8_half 0 0 n h [.ref a, .int (nI f)] (pv n (fun h' => ∃ g', h' = hup h a (lar 96 g') ∧ dg g' (va / 2) ∧ ∀ i, f < i → i < 96 → g' i = 0)) := by
  refine CT.intro [some (.ref a), some (.int (nI f)), none, none, none] 3 rfl rfl (by decide) ?_
  intro Q hQ
  refine aw_iconst (v := 0) dX8_half_0 (by decide +kernel) ?_
  refine aw_istore_2 dX8_half_1 (by decide) rfl ?_
  have up : ∀ i, i ≤ f → ∃ u, u = (if i + 1 < 96 then ga (i + 1) else 0) := fun i _ => ⟨_, rfl⟩
  have loop : ∀ (k m : Nat) (g' : Nat → Nat) (h1 : Hp) (x : Option Value), m + k = f + 1 → h1 = hup h a (lar 96 g') → (∀ i, m ≤ i → i < 96 → g' i = ga i) → (∀ i, i < m → g' i < 2 ^ 28) → bv (2 ^ 28) g' m * 2 + ga 0 % 2 = bv (2 ^ 28) ga m + ((if m < 96 then ga m else 0) % 2) * (2 ^ 28) ^ m → AW mX8_half (gq 0 0 Q) 2 [some (.ref a), some (.int (nI f)), some (.int (nI m)), x, none] [] 0 0 n h1 := by
    intro k
    induction k with
    | zero =>
      intro m g' h1 x hm e hz hd hv
      subst e
      obtain rfl : m = f + 1 := by omega
      refine aw_iload_n (i := 2) dX8_half_2 rfl rfl ?_
      refine aw_iload_n (i := 1) dX8_half_3 rfl rfl ?_
      refine aw_icmp_gt (tgt := 46) dX8_half_4 (by decide) (fun _ => ?_) (fun c => (c (nI_lt (by omega) (by omega))).elim)
      refine aw_return dX8_half_46 rfl (Nat.le_of_ble_eq_true rfl) (Nat.le_of_ble_eq_true rfl) ?_
      have e0 : (if f + 1 < 96 then ga (f + 1) else 0) = 0 := by
        split
        · exact hz0 _ (by omega) (by assumption)
        · rfl
      rw [e0] at hv
      have e1 : bv (2 ^ 28) g' 96 = bv (2 ^ 28) g' (f + 1) := bv_high (by omega) (fun i h1 h2 => by rw [hz i h1 h2]; exact hz0 i (by omega) h2)
      have e2 : va = bv (2 ^ 28) ga (f + 1) := by rw [← hva.2]; exact bv_high (by omega) (fun i h1 h2 => hz0 i (by omega) h2)
      refine hQ _ _ _ ⟨rfl, rfl, g', rfl, ⟨fun i hi => ?_, ?_⟩, fun i h1 h2 => ?_⟩
      · by_cases hm : i < f + 1
        · exact hd i hm
        · rw [hz i (by omega) hi]; exact hva.1 i hi
      · rw [e1]; rw [← e2] at hv; omega
      · rw [hz i (by omega) h2]; exact hz0 i h1 h2
    | succ k ih =>
      intro m g' h1 x hm e hz hd hv
      subst e
      have b1 := hva.1 m (by omega)
      have e1 := hz m (by omega) (by omega)
      rw [if_pos (by omega)] at hv
      refine aw_iload_n (i := 2) dX8_half_2 rfl rfl ?_
      refine aw_iload_n (i := 1) dX8_half_3 rfl rfl ?_
      refine aw_icmp_gt (tgt := 46) dX8_half_4 (by decide) (fun c => absurd c (nI_nlt (by omega) (by omega))) (fun _ => ?_)
      refine aw_iload_n (i := 2) dX8_half_7 rfl rfl ?_
      refine aw_iconst (v := 1) dX8_half_8 (by decide +kernel) ?_
      refine aw_iadd dX8_half_9 ?_
      rw [nI_1]
      refine aw_bipush (v := 96) dX8_half_10 (by decide +kernel) ?_
      -- what is above
      have body : ∀ u : Nat, u < 2 ^ 28 → u = (if m + 1 < 96 then ga (m + 1) else 0) → AW mX8_half (gq 0 0 Q) 24 [some (.ref a), some (.int (nI f)), some (.int (nI m)), x, none] [.long (lN u)] 0 0 n (hup h a (lar 96 g')) := by
        intro u hu eu
        refine aw_lstore_3 dX8_half_24 (by decide) rfl ?_
        refine aw_aload_n (i := 0) dX8_half_25 rfl rfl ?_
        refine aw_iload_n (i := 2) dX8_half_26 rfl rfl ?_
        refine aw_aload_n (i := 0) dX8_half_27 rfl rfl ?_
        refine aw_iload_n (i := 2) dX8_half_28 rfl rfl ?_
        refine aw_lald dX8_half_29 m (hup_self _ _ _) (nI_toInt (by omega)) (by omega) ?_
        refine aw_iconst (v := 1) dX8_half_30 (by decide +kernel) ?_
        refine aw_lshr dX8_half_31 rfl ?_
        refine aw_lload_n (i := 3) dX8_half_32 rfl rfl ?_
        refine aw_lconst (v := 1) dX8_half_33 (by decide) ?_
        refine aw_land dX8_half_34 ?_
        refine aw_bipush (v := 27) dX8_half_35 (by decide +kernel) ?_
        refine aw_lshl dX8_half_37 rfl ?_
        refine aw_lor dX8_half_38 ?_
        rw [lN_shr1 (by omega), lN_and1, lN_shl _ 27 (by decide +kernel), lN_or (by omega)]
        refine aw_last dX8_half_39 m (g' m / 2 + u % 2 * 2 ^ 27) rfl (hup_self _ _ _) (nI_toInt (by omega)) (by omega) ?_
        refine aw_iinc_2 (c0 := 1) dX8_half_40 (by decide) (by decide) rfl ?_
        refine aw_goto (tgt := 2) dX8_half_43 (by decide) ?_
        rw [nI_1]
        refine ih (m + 1) _ _ _ (by omega) (hup_hup _ _ _ _) (fun i h1 h2 => by rw [va_up_off (by omega)]; exact hz i (by omega) h2) (fun i hi => ?_) ?_
        · by_cases hm : i = m
          · rw [hm, va_up_at]; omega
          · rw [va_up_off hm]; exact hd i (by omega)
        · rw [bv_s _ _ m, bv_s _ _ m, va_up_at, bv_up_ge (Nat.le_refl _), p28, ← eu, e1]
          generalize (2 ^ 28) ^ m = P at hv ⊢
          have q1 : ga m * P = 2 * (ga m / 2 * P) + ga m % 2 * P := by rw [← Nat.mul_assoc, ← Nat.add_mul]; congr 1; omega
          have q2 : (ga m / 2 + u % 2 * 2 ^ 27) * P = ga m / 2 * P + 2 ^ 27 * (u % 2 * P) := by rw [Nat.add_mul, Nat.mul_comm (u % 2) (2 ^ 27), Nat.mul_assoc]
          have q3 : u % 2 * (P * 2 ^ 28) = 2 ^ 28 * (u % 2 * P) := by rw [← Nat.mul_assoc, Nat.mul_comm]
          rw [q2, q3]
          omega
      refine aw_icmp_ge (tgt := 23) dX8_half_12 (by decide) (fun c12 => ?_) (fun c12 => ?_)
      · have c12 : 96 ≤ m + 1 := (nI_leI (a := 96) (by decide) (by omega)).mp c12
        refine aw_lconst (v := 0) dX8_half_23 (by decide) ?_
        exact body 0 (by decide) (by rw [if_neg (by omega)])
      · have c12 : ¬ 96 ≤ m + 1 := fun q => c12 ((nI_leI (a := 96) (by decide) (by omega)).mpr q)
        refine aw_aload_n (i := 0) dX8_half_15 rfl rfl ?_
        refine aw_iload_n (i := 2) dX8_half_16 rfl rfl ?_
        refine aw_iconst (v := 1) dX8_half_17 (by decide +kernel) ?_
        refine aw_iadd dX8_half_18 ?_
        refine aw_lald dX8_half_19 (m + 1) (hup_self _ _ _) (by rw [nI_1]; exact nI_toInt (by omega)) (by omega) ?_
        refine aw_goto (tgt := 24) dX8_half_20 (by decide) ?_
        rw [hz (m + 1) (by omega) (by omega)]
        exact body _ (hva.1 (m + 1) (by omega)) (by rw [if_pos (by omega)])
  exact loop (f + 1) 0 ga h none (by omega) (hup_id ha).symm (fun i _ _ => rfl) (fun i hi => by omega) (by simp [bv_0])
theorem ct_X8_times (n : Nat) (h : Hp) (r a b va vb pa pb : Nat) (gr ga gb : Nat → Nat) (hr : h r = some (lar 96 gr)) (ha : h a = some (lar 96 ga)) (hb : h b = some (lar 96 gb)) (hra : a ≠ r) (hrb : b ≠ r) (hva : dg ga va) (hvb : dg gb vb) (hpa : va < 2 ^ (28 * pa)) (hpb : vb < 2 ^ (28 * pb)) (hpp : pa + pb ≤ 96) : CT mX8_times 0 0 n h [.ref r, .ref a, .ref b] (pv n (fun h' => ∃ g', h' = hup h r (lar 96 g') ∧ dg g' (va * vb))) := by
  refine CT.intro [some (.ref r), some (.ref a), some (.ref b), none, none, none, none, none, none, none, none] 8 rfl rfl (by decide) ?_
  intro Q hQ
  have w1 : ∀ i, i < 96 → ga i < 2 ^ 63 := fun i hi => Nat.lt_of_lt_of_le (hva.1 i hi) (by decide)
  have w2 : ∀ i, i < 96 → gb i < 2 ^ 63 := fun i hi => Nat.lt_of_lt_of_le (hvb.1 i hi) (by decide)
  refine aw_aload_n (i := 0) dX8_times_0 rfl rfl ?_
  refine aw_lconst (v := 0) dX8_times_1 (by decide) ?_
  refine aw_invokestatic kX8_124 dX8_times_2 (ct_X8_become n h r 0 gr hr (by decide)) rfl rfl (Nat.le_of_ble_eq_true rfl) ⟨Nat.le_of_ble_eq_true rfl, Nat.le_of_ble_eq_true rfl⟩ ⟨Nat.le_of_ble_eq_true rfl, Nat.le_of_ble_eq_true rfl⟩ ?_
  rintro _ _ _ ⟨rfl, rfl, g0, rfl, hg0⟩
  have zero : ∀ i, i < 96 → g0 i = 0 := bv_eq_zero (by decide) hg0.2
  refine aw_aload_n (i := 2) dX8_times_5 rfl rfl ?_
  refine aw_invokestatic kX8_120 dX8_times_6 (ct_X8_top n (hup h r (lar 96 g0)) b gb (by rw [hup_ne hrb]; exact hb) w2) rfl rfl (Nat.le_of_ble_eq_true rfl) ⟨Nat.le_of_ble_eq_true rfl, Nat.le_of_ble_eq_true rfl⟩ ⟨Nat.le_of_ble_eq_true rfl, Nat.le_of_ble_eq_true rfl⟩ ?_
  rintro _ _ _ ⟨rfl, rfl, tb, rfl, htb⟩
  refine aw_istore_3 dX8_times_9 (by decide) rfl ?_
  refine aw_aload_n (i := 1) dX8_times_10 rfl rfl ?_
  refine aw_invokestatic kX8_120 dX8_times_11 (ct_X8_top n (hup h r (lar 96 g0)) a ga (by rw [hup_ne hra]; exact ha) w1) rfl rfl (Nat.le_of_ble_eq_true rfl) ⟨Nat.le_of_ble_eq_true rfl, Nat.le_of_ble_eq_true rfl⟩ ⟨Nat.le_of_ble_eq_true rfl, Nat.le_of_ble_eq_true rfl⟩ ?_
  rintro _ _ _ ⟨rfl, rfl, ta, rfl, hta⟩
  refine aw_istore_4 dX8_times_14 (by decide) rfl ?_
  refine aw_iconst (v := 0) dX8_times_16 (by decide +kernel) ?_
  refine aw_istore_5 dX8_times_17 (by decide) rfl ?_
  have lta := tpp_le hta hva hpa
  have ltb := tpp_le htb hvb hpb
  have inner : ∀ (Q0 : Prop) (i : Nat) (gs : Nat → Nat) (y1 y2 : Option Value), i < ta → (∀ j, j < 96 → gs j < 2 ^ 28) → (∀ j, i + tb ≤ j → j < 96 → gs j = 0) →
      (∀ (c : Nat) (g' : Nat → Nat) (y : Option Value), c < 2 ^ 28 → (∀ j, j < 96 → g' j < 2 ^ 28) → (∀ j, i + tb ≤ j → j < 96 → g' j = 0) → bv (2 ^ 28) g' 96 + c * (2 ^ 28) ^ (i + tb) = bv (2 ^ 28) gs 96 + ga i * bv (2 ^ 28) gb tb * (2 ^ 28) ^ i → AW mX8_times (gq 0 0 Q) 86 [some (.ref r), some (.ref a), some (.ref b), some (.int (pI tb)), some (.int (pI ta)), some (.int (nI i)), some (.long (lN c)), none, some (.int (nI tb)), y, none] [] 0 0 n (hup h r (lar 96 g'))) →
      ∀ (k m c : Nat) (g' : Nat → Nat) (h1 : Hp) (y : Option Value), m + k = tb → h1 = hup h r (lar 96 g') → c < 2 ^ 28 → (∀ j, j < 96 → g' j < 2 ^ 28) → (∀ j, i + tb ≤ j → j < 96 → g' j = 0) → (bv (2 ^ 28) g' 96 + c * (2 ^ 28) ^ (i + m) = bv (2 ^ 28) gs 96 + ga i * bv (2 ^ 28) gb m * (2 ^ 28) ^ i) → AW mX8_times (gq 0 0 Q) 32 [some (.ref r), some (.ref a), some (.ref b), some (.int (pI tb)), some (.int (pI ta)), some (.int (nI i)), some (.long (lN c)), none, some (.int (nI m)), y, none] [] 0 0 n h1 := by
    intro _ i gs y1 y2 hi hgs hgz kend k
    induction k with
    | zero =>
      intro m c g' h1 y hm e hc hd hz hv
      subst e
      obtain rfl : m = tb := by omega
      refine aw_iload dX8_times_32 rfl ?_
      refine aw_iload_n (i := 3) dX8_times_34 rfl rfl ?_
      refine aw_icmp_gt (tgt := 86) dX8_times_35 (by decide) (fun _ => ?_) (fun c => (c (by rw [Int32.lt_iff_toInt_lt, pI_T (by omega), nI_T (by omega)]; omega)).elim)
      exact kend c g' y hc hd hz hv
    | succ k ih =>
      intro m c g' h1 y hm e hc hd hz hv
      subst e
      have b1 := hva.1 i (by omega)
      have b2 := hvb.1 m (by omega)
      have b3 := hd (i + m) (by omega)
      have b4 : ga i * gb m ≤ (2 ^ 28 - 1) * (2 ^ 28 - 1) := Nat.mul_le_mul (by omega) (by omega)
      refine aw_iload dX8_times_32 rfl ?_
      refine aw_iload_n (i := 3) dX8_times_34 rfl rfl ?_
      refine aw_icmp_gt (tgt := 86) dX8_times_35 (by decide) (fun c => absurd c (by rw [Int32.lt_iff_toInt_lt, pI_T (by omega), nI_T (by omega)]; omega)) (fun _ => ?_)
      refine aw_aload_n (i := 0) dX8_times_38 rfl rfl ?_
      refine aw_iload dX8_times_39 rfl ?_
      refine aw_iload dX8_times_41 rfl ?_
      refine aw_iadd dX8_times_43 ?_
      refine aw_lald dX8_times_44 (i + m) (hup_self _ _ _) (by rw [nI_add]; exact nI_toInt (by omega)) (by omega) ?_
      refine aw_aload_n (i := 1) dX8_times_45 rfl rfl ?_
      refine aw_iload dX8_times_46 rfl ?_
      refine aw_lald dX8_times_48 i (by rw [hup_ne hra]; exact ha) (nI_toInt (by omega)) (by omega) ?_
      refine aw_aload_n (i := 2) dX8_times_49 rfl rfl ?_
      refine aw_iload dX8_times_50 rfl ?_
      refine aw_lald dX8_times_52 m (by rw [hup_ne hrb]; exact hb) (nI_toInt (by omega)) (by omega) ?_
      refine aw_lmul dX8_times_53 ?_
      refine aw_ladd dX8_times_54 ?_
      refine aw_lload dX8_times_55 rfl ?_
      refine aw_ladd dX8_times_57 ?_
      rw [lN_mul, lN_add, lN_add]
      refine aw_lstore_9 dX8_times_58 (by decide) rfl ?_
      refine aw_aload_n (i := 0) dX8_times_60 rfl rfl ?_
      refine aw_iload dX8_times_61 rfl ?_
      refine aw_iload dX8_times_63 rfl ?_
      refine aw_iadd dX8_times_65 ?_
      refine aw_lload dX8_times_66 rfl ?_
      refine aw_ldc2_w qX8_118 dX8_times_68 ?_
      refine aw_land dX8_times_71 ?_
      refine aw_last dX8_times_72 (i + m) ((g' (i + m) + ga i * gb m + c) % 2 ^ 28) (lN_mask28 _) (hup_self _ _ _) (by rw [nI_add]; exact nI_toInt (by omega)) (by omega) ?_
      refine aw_lload dX8_times_73 rfl ?_
      refine aw_bipush (v := 28) dX8_times_75 (by decide +kernel) ?_
      refine aw_lshr dX8_times_77 rfl ?_
      refine aw_lstore_6 dX8_times_78 (by decide) rfl ?_
      refine aw_iinc_8 (c0 := 1) dX8_times_80 (by decide) (by decide) rfl ?_
      refine aw_goto (tgt := 32) dX8_times_83 (by decide) ?_
      rw [nI_1, lN_shr28 (by omega)]
      refine ih (m + 1) _ _ _ _ (by omega) (hup_hup _ _ _ _) (by omega) (fun j hj => ?_) (fun j h1 h2 => by rw [va_up_off (by omega)]; exact hz j h1 h2) ?_
      · by_cases hm : j = i + m
        · rw [hm, va_up_at]; exact Nat.mod_lt _ (by decide)
        · rw [va_up_off hm]; exact hd j hj
      · have u1 := bv_up (B := 2 ^ 28) (g := g') (j := i + m) (x := (g' (i + m) + ga i * gb m + c) % 2 ^ 28) (n := 96) (by omega)
        have u2 := carry_step (B := 2 ^ 28) (P := (2 ^ 28) ^ (i + m)) (s := g' (i + m) + ga i * gb m + c) rfl rfl
        rw [← Nat.add_assoc, p28, bv_s _ gb m]
        rw [Nat.add_mul, Nat.add_mul] at u2
        rw [Nat.mul_add, Nat.add_mul]
        have u3 : ga i * (gb m * (2 ^ 28) ^ m) * (2 ^ 28) ^ i = ga i * gb m * (2 ^ 28) ^ (i + m) := by
          rw [Nat.pow_add, Nat.mul_assoc, Nat.mul_assoc, Nat.mul_assoc, Nat.mul_comm ((2 ^ 28) ^ i)]
        rw [u3]
        omega
  have outer : ∀ (k i : Nat) (g' : Nat → Nat) (h1 : Hp) (y1 y2 y3 : Option Value), i + k = ta → h1 = hup h r (lar 96 g') → (∀ j, j < 96 → g' j < 2 ^ 28) → (∀ j, i + tb ≤ j → j < 96 → g' j = 0) → bv (2 ^ 28) g' 96 = bv (2 ^ 28) ga i * bv (2 ^ 28) gb tb → AW mX8_times (gq 0 0 Q) 19 [some (.ref r), some (.ref a), some (.ref b), some (.int (pI tb)), some (.int (pI ta)), some (.int (nI i)), y1, none, y2, y3, none] [] 0 0 n h1 := by
    intro k
    induction k with
    | zero =>
      intro i g' h1 y1 y2 y3 hi e hd hz hv
      subst e
      obtain rfl : i = ta := by omega
      refine aw_iload dX8_times_19 rfl ?_
      refine aw_iload dX8_times_21 rfl ?_
      refine aw_icmp_gt (tgt := 105) dX8_times_23 (by decide) (fun _ => ?_) (fun c => (c (by rw [Int32.lt_iff_toInt_lt, pI_T (by omega), nI_T (by omega)]; omega)).elim)
      refine aw_return dX8_times_105 rfl (Nat.le_of_ble_eq_true rfl) (Nat.le_of_ble_eq_true rfl) ?_
      exact hQ _ _ _ ⟨rfl, rfl, g', rfl, hd, by rw [hv, ← tpp_val hta hva, ← tpp_val htb hvb]⟩
    | succ k ih =>
      intro i g' h1 y1 y2 y3 hi e hd hz hv
      subst e
      refine aw_iload dX8_times_19 rfl ?_
      refine aw_iload dX8_times_21 rfl ?_
      refine aw_icmp_gt (tgt := 105) dX8_times_23 (by decide) (fun c => absurd c (by rw [Int32.lt_iff_toInt_lt, pI_T (by omega), nI_T (by omega)]; omega)) (fun _ => ?_)
      refine aw_lconst (v := 0) dX8_times_26 (by decide) ?_
      refine aw_lstore_6 dX8_times_27 (by decide) rfl ?_
      refine aw_iconst (v := 0) dX8_times_29 (by decide +kernel) ?_
      refine aw_istore_8 dX8_times_30 (by decide) rfl ?_
      refine inner True i g' none none (by omega) hd hz ?_ tb 0 0 g' _ _ (by omega) rfl (by decide) hd hz (by rw [bv_0]; simp)
      intro c g2 y hc hd2 hz2 hv2
      have ei : nI i + pI tb + 1 = nI (i + tb) := by rw [Int32.add_assoc, pI_u, nI_add]
      refine aw_aload_n (i := 0) dX8_times_86 rfl rfl ?_
      refine aw_iload dX8_times_87 rfl ?_
      refine aw_iload_n (i := 3) dX8_times_89 rfl rfl ?_
      refine aw_iadd dX8_times_90 ?_
      refine aw_iconst (v := 1) dX8_times_91 (by decide +kernel) ?_
      refine aw_iadd dX8_times_92 ?_
      rw [ei]
      refine aw_dup2_11 dX8_times_93 rfl rfl ?_
      refine aw_lald dX8_times_94 (i + tb) (hup_self _ _ _) (nI_toInt (by omega)) (by omega) ?_
      refine aw_lload dX8_times_95 rfl ?_
      refine aw_ladd dX8_times_97 ?_
      rw [hz2 (i + tb) (by omega) (by omega), lN_add, Nat.zero_add]
      refine aw_last dX8_times_98 (i + tb) c rfl (hup_self _ _ _) (nI_toInt (by omega)) (by omega) ?_
      refine aw_iinc_5 (c0 := 1) dX8_times_99 (by decide) (by decide) rfl ?_
      refine aw_goto (tgt := 19) dX8_times_102 (by decide) ?_
      rw [nI_1]
      refine ih (i + 1) _ _ _ _ _ (by omega) (hup_hup _ _ _ _) (fun j hj => ?_) (fun j h1 h2 => by rw [va_up_off (by omega)]; exact hz2 j (by omega) h2) ?_
      · by_cases hm : j = i + tb
        · rw [hm, va_up_at]; exact hc
        · rw [va_up_off hm]; exact hd2 j hj
      · have u1 := bv_up (B := 2 ^ 28) (g := g2) (j := i + tb) (x := c) (n := 96) (by omega)
        rw [hz2 (i + tb) (by omega) (by omega)] at u1
        rw [bv_s _ ga i, Nat.add_mul, ← hv, Nat.mul_right_comm (ga i)]
        omega
  exact outer ta 0 g0 _ none none none (by omega) rfl hg0.1 (fun j _ hj => zero j hj) (by rw [hg0.2, bv_0]; simp)
