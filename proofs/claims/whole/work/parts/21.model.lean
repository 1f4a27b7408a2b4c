theorem p28 (m : Nat) : ((2 : Nat) ^ 28) ^ (m + 1) = (2 ^ 28) ^ m * 2 ^ 28 := Nat.pow_succ _ _
theorem ct_X8_plus (n : Nat) (h : Hp) (a b va vb : Nat) (ga gb : Nat → Nat) (ha : h a = some (lar 96 ga)) (hb : h b = some (lar 96 gb)) (hba : b ≠ a) (hva : dg ga va) (hvb : dg gb vb) (hs : va + vb < 2 ^ 2688) : CT mX8_plus 0 0 n h [.ref a, .ref b] (pv n (fun h' => ∃ g', h' = hup h a (lar 96 g') ∧ dg g' (va + vb))) := by
  refine CT.intro [some (.ref a), some (.ref b), none, none, none, none, none] 5 rfl rfl (by decide) ?_
  intro Q hQ
  refine aw_lconst (v := 0) dX8_plus_0 (by decide) ?_
  refine aw_lstore_2 dX8_plus_1 (by decide) rfl ?_
  refine aw_iconst (v := 0) dX8_plus_2 (by decide +kernel) ?_
  refine aw_istore_4 dX8_plus_3 (by decide) rfl ?_
  have loop : ∀ (k m c : Nat) (g' : Nat → Nat) (h1 : Hp) (x : Option Value), m + k = 96 → h1 = hup h a (lar 96 g') → c ≤ 1 → (∀ i, m ≤ i → i < 96 → g' i = ga i) → (∀ i, i < m → g' i < 2 ^ 28) → bv (2 ^ 28) g' m + c * (2 ^ 28) ^ m = bv (2 ^ 28) ga m + bv (2 ^ 28) gb m → AW mX8_plus (gq 0 0 Q) 5 [some (.ref a), some (.ref b), some (.long (lN c)), none, some (.int (nI m)), x, none] [] 0 0 n h1 := by
    intro k
    induction k with
    | zero =>
      intro m c g' h1 x hm e hc hz hd hv
      subst e
      obtain rfl : m = 96 := by omega
      refine aw_iload dX8_plus_5 rfl ?_
      refine aw_bipush (v := 96) dX8_plus_7 (by decide +kernel) ?_
      refine aw_icmp_ge (tgt := 47) dX8_plus_9 (by decide) (fun _ => ?_) (fun c => (c (by decide)).elim)
      refine aw_return dX8_plus_47 rfl (Nat.le_of_ble_eq_true rfl) (Nat.le_of_ble_eq_true rfl) ?_
      rw [hva.2, hvb.2, ← Nat.pow_mul] at hv
      have hc0 : c = 0 := by
        rcases (show c = 0 ∨ c = 1 by omega) with h | h
        · exact h
        · subst h; omega
      subst hc0
      exact hQ _ _ _ ⟨rfl, rfl, g', rfl, hd, by omega⟩
    | succ k ih =>
      intro m c g' h1 x hm e hc hz hd hv
      subst e
      have b1 := hva.1 m (by omega)
      have b2 := hvb.1 m (by omega)
      have e1 := hz m (by omega) (by omega)
      refine aw_iload dX8_plus_5 rfl ?_
      refine aw_bipush (v := 96) dX8_plus_7 (by decide +kernel) ?_
      refine aw_icmp_ge (tgt := 47) dX8_plus_9 (by decide) (fun c => absurd c (nI_ge (b := 96) (by omega) (by decide))) (fun _ => ?_)
      refine aw_aload_n (i := 0) dX8_plus_12 rfl rfl ?_
      refine aw_iload dX8_plus_13 rfl ?_
      refine aw_lald dX8_plus_15 m (hup_self _ _ _) (nI_toInt (by omega)) (by omega) ?_
      refine aw_aload_n (i := 1) dX8_plus_16 rfl rfl ?_
      refine aw_iload dX8_plus_17 rfl ?_
      refine aw_lald dX8_plus_19 m (by rw [hup_ne hba]; exact hb) (nI_toInt (by omega)) (by omega) ?_
      refine aw_ladd dX8_plus_20 ?_
      refine aw_lload_n (i := 2) dX8_plus_21 rfl rfl ?_
      refine aw_ladd dX8_plus_22 ?_
      rw [lN_add, lN_add]
      refine aw_lstore_5 dX8_plus_23 (by decide) rfl ?_
      refine aw_aload_n (i := 0) dX8_plus_25 rfl rfl ?_
      refine aw_iload dX8_plus_26 rfl ?_
      refine aw_lload dX8_plus_28 rfl ?_
      refine aw_ldc2_w qX8_118 dX8_plus_30 ?_
      refine aw_land dX8_plus_33 ?_
      refine aw_last dX8_plus_34 m ((g' m + gb m + c) % 2 ^ 28) (lN_mask28 _) (hup_self _ _ _) (nI_toInt (by omega)) (by omega) ?_
      refine aw_lload dX8_plus_35 rfl ?_
      refine aw_bipush (v := 28) dX8_plus_37 (by decide +kernel) ?_
      refine aw_lshr dX8_plus_39 rfl ?_
      refine aw_lstore_2 dX8_plus_40 (by decide) rfl ?_
      refine aw_iinc_4 (c0 := 1) dX8_plus_41 (by decide) (by decide) rfl ?_
      refine aw_goto (tgt := 5) dX8_plus_44 (by decide) ?_
      rw [nI_1, lN_shr28 (by omega)]
      refine ih (m + 1) _ _ _ _ (by omega) (hup_hup _ _ _ _) (by omega) (fun i h1 h2 => by rw [va_up_off (by omega)]; exact hz i (by omega) h2) (fun i hi => ?_) ?_
      · by_cases hm : i = m
        · rw [hm, va_up_at]; exact Nat.mod_lt _ (by decide)
        · rw [va_up_off hm]; exact hd i (by omega)
      · simp only [bv_s]
        rw [va_up_at, bv_up_ge (Nat.le_refl _), p28]
        have := carry_step (B := 2 ^ 28) (P := (2 ^ 28) ^ m) (s := g' m + gb m + c) rfl rfl
        rw [Nat.add_mul, Nat.add_mul, e1] at this
        rw [e1]
        omega
  exact loop 96 0 0 ga h none (by omega) (hup_id ha).symm (by omega) (fun i _ _ => rfl) (fun i hi => by omega) (by simp [bv_0])
theorem ct_X8_minus (n : Nat) (h : Hp) (a b va vb : Nat) (ga gb : Nat → Nat) (ha : h a = some (lar 96 ga)) (hb : h b = some (lar 96 gb)) (hba : b ≠ a) (hva : dg ga va) (hvb : dg gb vb) (hs : vb ≤ va) : CT mX8_minus 0 0 n h [.ref a, .ref b] (pv n (fun h' => ∃ g', h' = hup h a (lar 96 g') ∧ dg g' (va - vb))) := by
  refine CT.intro [some (.ref a), some (.ref b), none, none, none, none, none] 5 rfl rfl (by decide) ?_
  intro Q hQ
  refine aw_lconst (v := 0) dX8_minus_0 (by decide) ?_
  refine aw_lstore_2 dX8_minus_1 (by decide) rfl ?_
  refine aw_iconst (v := 0) dX8_minus_2 (by decide +kernel) ?_
  refine aw_istore_4 dX8_minus_3 (by decide) rfl ?_
  have loop : ∀ (k m c : Nat) (g' : Nat → Nat) (h1 : Hp) (x : Option Value), m + k = 96 → h1 = hup h a (lar 96 g') → c ≤ 1 → (∀ i, m ≤ i → i < 96 → g' i = ga i) → (∀ i, i < m → g' i < 2 ^ 28) → bv (2 ^ 28) g' m + bv (2 ^ 28) gb m = bv (2 ^ 28) ga m + c * (2 ^ 28) ^ m → AW mX8_minus (gq 0 0 Q) 5 [some (.ref a), some (.ref b), some (.long (lN c)), none, some (.int (nI m)), x, none] [] 0 0 n h1 := by
    intro k
    induction k with
    | zero =>
      intro m c g' h1 x hm e hc hz hd hv
      subst e
      obtain rfl : m = 96 := by omega
      refine aw_iload dX8_minus_5 rfl ?_
      refine aw_bipush (v := 96) dX8_minus_7 (by decide +kernel) ?_
      refine aw_icmp_ge (tgt := 54) dX8_minus_9 (by decide) (fun _ => ?_) (fun c => (c (by decide)).elim)
      refine aw_return dX8_minus_54 rfl (Nat.le_of_ble_eq_true rfl) (Nat.le_of_ble_eq_true rfl) ?_
      have hl := bv_lt hd
      rw [hva.2, hvb.2] at hv
      have hc0 : c = 0 := by
        rcases (show c = 0 ∨ c = 1 by omega) with h | h
        · exact h
        · subst h; omega
      subst hc0
      exact hQ _ _ _ ⟨rfl, rfl, g', rfl, hd, by omega⟩
    | succ k ih =>
      intro m c g' h1 x hm e hc hz hd hv
      subst e
      have b1 := hva.1 m (by omega)
      have b2 := hvb.1 m (by omega)
      have e1 := hz m (by omega) (by omega)
      refine aw_iload dX8_minus_5 rfl ?_
      refine aw_bipush (v := 96) dX8_minus_7 (by decide +kernel) ?_
      refine aw_icmp_ge (tgt := 54) dX8_minus_9 (by decide) (fun c => absurd c (nI_ge (b := 96) (by omega) (by decide))) (fun _ => ?_)
      refine aw_aload_n (i := 0) dX8_minus_12 rfl rfl ?_
      refine aw_iload dX8_minus_13 rfl ?_
      refine aw_lald dX8_minus_15 m (hup_self _ _ _) (nI_toInt (by omega)) (by omega) ?_
      refine aw_aload_n (i := 1) dX8_minus_16 rfl rfl ?_
      refine aw_iload dX8_minus_17 rfl ?_
      refine aw_lald dX8_minus_19 m (by rw [hup_ne hba]; exact hb) (nI_toInt (by omega)) (by omega) ?_
      refine aw_lsub dX8_minus_20 ?_
      refine aw_lload_n (i := 2) dX8_minus_21 rfl rfl ?_
      refine aw_lsub dX8_minus_22 ?_
      rw [lI_N, lI_N, lI_N, lI_sub, lI_sub]
      obtain ⟨z, hz0⟩ : ∃ z : Int, z = (g' m : Int) - gb m - c := ⟨_, rfl⟩
      rw [← hz0]
      refine aw_lstore_5 dX8_minus_23 (by decide) rfl ?_
      refine aw_aload_n (i := 0) dX8_minus_25 rfl rfl ?_
      refine aw_iload dX8_minus_26 rfl ?_
      refine aw_lload dX8_minus_28 rfl ?_
      refine aw_ldc2_w qX8_118 dX8_minus_30 ?_
      refine aw_land dX8_minus_33 ?_
      refine aw_last dX8_minus_34 m (z % 2 ^ 28).toNat (lI_mask28 _) (hup_self _ _ _) (nI_toInt (by omega)) (by omega) ?_
      refine aw_lload dX8_minus_35 rfl ?_
      refine aw_lconst (v := 0) dX8_minus_37 (by decide) ?_
      refine aw_lcmp dX8_minus_38 ?_
      have key : ∀ c' : Nat, (c' = if z < 0 then 1 else 0) → bv (2 ^ 28) (va_up g' m (z % 2 ^ 28).toNat) (m + 1) + bv (2 ^ 28) gb (m + 1) = bv (2 ^ 28) ga (m + 1) + c' * (2 ^ 28) ^ (m + 1) := by
        intro c' hc'
        simp only [bv_s]
        rw [va_up_at, bv_up_ge (Nat.le_refl _), p28]
        have e2 : (z % 2 ^ 28).toNat + gb m + c = ga m + c' * 2 ^ 28 := by
          rw [hc']; split <;> omega
        have e3 : ((z % 2 ^ 28).toNat + gb m + c) * (2 ^ 28) ^ m = (ga m + c' * 2 ^ 28) * (2 ^ 28) ^ m := by rw [e2]
        rw [Nat.add_mul, Nat.add_mul, Nat.add_mul, Nat.mul_assoc c', Nat.mul_comm (2 ^ 28) ((2 ^ 28) ^ m)] at e3
        omega
      have hd' : ∀ i, i < m + 1 → va_up g' m (z % 2 ^ 28).toNat i < 2 ^ 28 := by
        intro i hi
        by_cases hm : i = m
        · rw [hm, va_up_at]; omega
        · rw [va_up_off hm]; exact hd i (by omega)
      refine aw_if_ge (tgt := 46) dX8_minus_39 (by decide) (fun c39 => ?_) (fun c39 => ?_)
      · refine aw_lconst (v := 0) dX8_minus_46 (by decide) ?_
        refine aw_lstore_2 dX8_minus_47 (by decide) rfl ?_
        refine aw_iinc_4 (c0 := 1) dX8_minus_48 (by decide) (by decide) rfl ?_
        refine aw_goto (tgt := 5) dX8_minus_51 (by decide) ?_
        rw [lg_cmp_ge, show (0 : Int64) = lI 0 from rfl, lI_le (by decide) (by decide) (by omega) (by omega)] at c39
        rw [nI_1]
        exact ih (m + 1) 0 _ _ _ (by omega) (hup_hup _ _ _ _) (by omega) (fun i h1 h2 => by rw [va_up_off (by omega)]; exact hz i (by omega) h2) hd' (key 0 (by rw [if_neg (by omega)]))
      · refine aw_lconst (v := 1) dX8_minus_42 (by decide) ?_
        refine aw_goto (tgt := 47) dX8_minus_43 (by decide) ?_
        refine aw_lstore_2 dX8_minus_47 (by decide) rfl ?_
        refine aw_iinc_4 (c0 := 1) dX8_minus_48 (by decide) (by decide) rfl ?_
        refine aw_goto (tgt := 5) dX8_minus_51 (by decide) ?_
        rw [lg_cmp_ge, show (0 : Int64) = lI 0 from rfl, lI_le (by decide) (by decide) (by omega) (by omega)] at c39
        rw [nI_1]
        exact ih (m + 1) 1 _ _ _ (by omega) (hup_hup _ _ _ _) (by omega) (fun i h1 h2 => by rw [va_up_off (by omega)]; exact hz i (by omega) h2) hd' (key 1 (by rw [if_pos (by omega)]))
  exact loop 96 0 0 ga h none (by omega) (hup_id ha).symm (by omega) (fun i _ _ => rfl) (fun i hi => by omega) (by simp [bv_0])
theorem ct_X8_by (n : Nat) (h : Hp) (a va m0 : Nat) (ga : Nat → Nat) (ha : h a = some (lar 96 ga)) (hva : dg ga va) (hm0 : m0 < 2 ^ 32) (hs : va * m0 < 2 ^ 2688) : CT mX8_by 0 0 n h [.ref a, .long (lN m0)] (pv n (fun h' => ∃ g', h' = hup h a (lar 96 g') ∧ dg g' (va * m0))) := by
  refine CT.intro [some (.ref a), some (.long (lN m0)), none, none, none, none, none, none] 5 rfl rfl (by decide) ?_
  intro Q hQ
  refine aw_lconst (v := 0) dX8_by_0 (by decide) ?_
  refine aw_lstore_3 dX8_by_1 (by decide) rfl ?_
  refine aw_iconst (v := 0) dX8_by_2 (by decide +kernel) ?_
  refine aw_istore_5 dX8_by_3 (by decide) rfl ?_
  have loop : ∀ (k m c : Nat) (g' : Nat → Nat) (h1 : Hp) (x : Option Value), m + k = 96 → h1 = hup h a (lar 96 g') → c ≤ m0 → (∀ i, m ≤ i → i < 96 → g' i = ga i) → (∀ i, i < m → g' i < 2 ^ 28) → bv (2 ^ 28) g' m + c * (2 ^ 28) ^ m = bv (2 ^ 28) ga m * m0 → AW mX8_by (gq 0 0 Q) 5 [some (.ref a), some (.long (lN m0)), none, some (.long (lN c)), none, some (.int (nI m)), x, none] [] 0 0 n h1 := by
    intro k
    induction k with
    | zero =>
      intro m c g' h1 x hm e hc hz hd hv
      subst e
      obtain rfl : m = 96 := by omega
      refine aw_iload dX8_by_5 rfl ?_
      refine aw_bipush (v := 96) dX8_by_7 (by decide +kernel) ?_
      refine aw_icmp_ge (tgt := 44) dX8_by_9 (by decide) (fun _ => ?_) (fun c => (c (by decide)).elim)
      refine aw_return dX8_by_44 rfl (Nat.le_of_ble_eq_true rfl) (Nat.le_of_ble_eq_true rfl) ?_
      rw [hva.2, ← Nat.pow_mul] at hv
      have hc0 : c = 0 := by
        rcases Nat.eq_zero_or_pos c with h | h
        · exact h
        · have : 1 * 2 ^ (28 * 96) ≤ c * 2 ^ (28 * 96) := Nat.mul_le_mul_right _ h
          omega
      subst hc0
      exact hQ _ _ _ ⟨rfl, rfl, g', rfl, hd, by omega⟩
    | succ k ih =>
      intro m c g' h1 x hm e hc hz hd hv
      subst e
      have b1 := hva.1 m (by omega)
      have e1 := hz m (by omega) (by omega)
      have b3 : ga m * m0 ≤ (2 ^ 28 - 1) * m0 := Nat.mul_le_mul_right _ (by omega)
      rw [Nat.sub_mul, Nat.one_mul] at b3
      refine aw_iload dX8_by_5 rfl ?_
      refine aw_bipush (v := 96) dX8_by_7 (by decide +kernel) ?_
      refine aw_icmp_ge (tgt := 44) dX8_by_9 (by decide) (fun c => absurd c (nI_ge (b := 96) (by omega) (by decide))) (fun _ => ?_)
      refine aw_aload_n (i := 0) dX8_by_12 rfl rfl ?_
      refine aw_iload dX8_by_13 rfl ?_
      refine aw_lald dX8_by_15 m (hup_self _ _ _) (nI_toInt (by omega)) (by omega) ?_
      refine aw_lload_n (i := 1) dX8_by_16 rfl rfl ?_
      refine aw_lmul dX8_by_17 ?_
      refine aw_lload_n (i := 3) dX8_by_18 rfl rfl ?_
      refine aw_ladd dX8_by_19 ?_
      rw [lN_mul, lN_add, e1]
      refine aw_lstore_6 dX8_by_20 (by decide) rfl ?_
      refine aw_aload_n (i := 0) dX8_by_22 rfl rfl ?_
      refine aw_iload dX8_by_23 rfl ?_
      refine aw_lload dX8_by_25 rfl ?_
      refine aw_ldc2_w qX8_118 dX8_by_27 ?_
      refine aw_land dX8_by_30 ?_
      refine aw_last dX8_by_31 m ((ga m * m0 + c) % 2 ^ 28) (lN_mask28 _) (hup_self _ _ _) (nI_toInt (by omega)) (by omega) ?_
      refine aw_lload dX8_by_32 rfl ?_
      refine aw_bipush (v := 28) dX8_by_34 (by decide +kernel) ?_
      refine aw_lshr dX8_by_36 rfl ?_
      refine aw_lstore_3 dX8_by_37 (by decide) rfl ?_
      refine aw_iinc_5 (c0 := 1) dX8_by_38 (by decide) (by decide) rfl ?_
      refine aw_goto (tgt := 5) dX8_by_41 (by decide) ?_
      rw [nI_1, lN_shr28 (by omega)]
      refine ih (m + 1) _ _ _ _ (by omega) (hup_hup _ _ _ _) (by omega) (fun i h1 h2 => by rw [va_up_off (by omega)]; exact hz i (by omega) h2) (fun i hi => ?_) ?_
      · by_cases hm : i = m
        · rw [hm, va_up_at]; exact Nat.mod_lt _ (by decide)
        · rw [va_up_off hm]; exact hd i (by omega)
      · simp only [bv_s]
        rw [va_up_at, bv_up_ge (Nat.le_refl _), p28]
        have := carry_step (B := 2 ^ 28) (P := (2 ^ 28) ^ m) (s := ga m * m0 + c) rfl rfl
        rw [Nat.add_mul, Nat.mul_right_comm] at this
        rw [Nat.add_mul]
        omega
  exact loop 96 0 0 ga h none (by omega) (hup_id ha).symm (by omega) (fun i _ _ => rfl) (fun i hi => by omega) (by simp [bv_0])
theorem ct_X8_twice (n : Nat) (h : Hp) (a va b0 : Nat) (ga : Nat → Nat) (ha : h a = some (lar 96 ga)) (hva : dg ga va) (hb0 : b0 ≤ 1) (hs : va * 2 + b0 < 2 ^ 2688) : CT mX8_twice 0 0 n h [.ref a, .long (lN b0)] (pv n (fun h' => ∃ g', h' = hup h a (lar 96 g') ∧ dg g' (va * 2 + b0))) := by
  refine CT.intro [some (.ref a), some (.long (lN b0)), none, none, none, none, none, none] 5 rfl rfl (by decide) ?_
  intro Q hQ
  refine aw_lload_n (i := 1) dX8_twice_0 rfl rfl ?_
  refine aw_lstore_3 dX8_twice_1 (by decide) rfl ?_
  refine aw_iconst (v := 0) dX8_twice_2 (by decide +kernel) ?_
  refine aw_istore_5 dX8_twice_3 (by decide) rfl ?_
  have loop : ∀ (k m c : Nat) (g' : Nat → Nat) (h1 : Hp) (x : Option Value), m + k = 96 → h1 = hup h a (lar 96 g') → c ≤ 1 → (∀ i, m ≤ i → i < 96 → g' i = ga i) → (∀ i, i < m → g' i < 2 ^ 28) → bv (2 ^ 28) g' m + c * (2 ^ 28) ^ m = bv (2 ^ 28) ga m * 2 + b0 → AW mX8_twice (gq 0 0 Q) 5 [some (.ref a), some (.long (lN b0)), none, some (.long (lN c)), none, some (.int (nI m)), x, none] [] 0 0 n h1 := by
    intro k
    induction k with
    | zero =>
      intro m c g' h1 x hm e hc hz hd hv
      subst e
      obtain rfl : m = 96 := by omega
      refine aw_iload dX8_twice_5 rfl ?_
      refine aw_bipush (v := 96) dX8_twice_7 (by decide +kernel) ?_
      refine aw_icmp_ge (tgt := 44) dX8_twice_9 (by decide) (fun _ => ?_) (fun c => (c (by decide)).elim)
      refine aw_return dX8_twice_44 rfl (Nat.le_of_ble_eq_true rfl) (Nat.le_of_ble_eq_true rfl) ?_
      rw [hva.2, ← Nat.pow_mul] at hv
      have hc0 : c = 0 := by
        rcases (show c = 0 ∨ c = 1 by omega) with h | h
        · exact h
        · subst h; omega
      subst hc0
      exact hQ _ _ _ ⟨rfl, rfl, g', rfl, hd, by omega⟩
    | succ k ih =>
      intro m c g' h1 x hm e hc hz hd hv
      subst e
      have b1 := hva.1 m (by omega)
      have e1 := hz m (by omega) (by omega)
      refine aw_iload dX8_twice_5 rfl ?_
      refine aw_bipush (v := 96) dX8_twice_7 (by decide +kernel) ?_
      refine aw_icmp_ge (tgt := 44) dX8_twice_9 (by decide) (fun c => absurd c (nI_ge (b := 96) (by omega) (by decide))) (fun _ => ?_)
      refine aw_aload_n (i := 0) dX8_twice_12 rfl rfl ?_
      refine aw_iload dX8_twice_13 rfl ?_
      refine aw_lald dX8_twice_15 m (hup_self _ _ _) (nI_toInt (by omega)) (by omega) ?_
      refine aw_iconst (v := 1) dX8_twice_16 (by decide +kernel) ?_
      refine aw_lshl dX8_twice_17 rfl ?_
      refine aw_lload_n (i := 3) dX8_twice_18 rfl rfl ?_
      refine aw_lor dX8_twice_19 ?_
      have eo : lN (g' m) <<< ((1 : Int32).toInt64 &&& 63) ||| lN c = lN (c + ga m * 2) := by
        rw [lN_shl _ 1 (by decide +kernel), e1]
        have := lN_or (x := c) (c := ga m) (k := 1) (by omega)
        rw [← this]
        apply Int64.toBitVec.inj
        rw [Int64.toBitVec_or, Int64.toBitVec_or, BitVec.or_comm]
      rw [eo]
      refine aw_lstore_6 dX8_twice_20 (by decide) rfl ?_
      refine aw_aload_n (i := 0) dX8_twice_22 rfl rfl ?_
      refine aw_iload dX8_twice_23 rfl ?_
      refine aw_lload dX8_twice_25 rfl ?_
      refine aw_ldc2_w qX8_118 dX8_twice_27 ?_
      refine aw_land dX8_twice_30 ?_
      refine aw_last dX8_twice_31 m ((c + ga m * 2) % 2 ^ 28) (lN_mask28 _) (hup_self _ _ _) (nI_toInt (by omega)) (by omega) ?_
      refine aw_lload dX8_twice_32 rfl ?_
      refine aw_bipush (v := 28) dX8_twice_34 (by decide +kernel) ?_
      refine aw_lshr dX8_twice_36 rfl ?_
      refine aw_lstore_3 dX8_twice_37 (by decide) rfl ?_
      refine aw_iinc_5 (c0 := 1) dX8_twice_38 (by decide) (by decide) rfl ?_
      refine aw_goto (tgt := 5) dX8_twice_41 (by decide) ?_
      rw [nI_1, lN_shr28 (by omega)]
      refine ih (m + 1) _ _ _ _ (by omega) (hup_hup _ _ _ _) (by omega) (fun i h1 h2 => by rw [va_up_off (by omega)]; exact hz i (by omega) h2) (fun i hi => ?_) ?_
      · by_cases hm : i = m
        · rw [hm, va_up_at]; exact Nat.mod_lt _ (by decide)
        · rw [va_up_off hm]; exact hd i (by omega)
      · simp only [bv_s]
        rw [va_up_at, bv_up_ge (Nat.le_refl _), p28]
        have := carry_step (B := 2 ^ 28) (P := (2 ^ 28) ^ m) (s := c + ga m * 2) rfl rfl
        rw [Nat.add_mul, Nat.mul_right_comm] at this
        rw [Nat.add_mul]
        omega
  exact loop 96 0 b0 ga h none (by omega) (hup_id ha).symm (by omega) (fun i _ _ => rfl) (fun i hi => by omega) (by simp [bv_0])
theorem ct_X8_bitOf (n : Nat) (h : Hp) (a va k : Nat) (ga : Nat → Nat) (ha : h a = some (lar 96 ga)) (hva : dg ga va) (hk : k < 2688) : CT mX8_bitOf 0 0 n h [.ref a, .int (nI k)] (plong n h (lN (va / 2 ^ k % 2))) := by
  refine CT.intro [some (.ref a), some (.int (nI k))] 0 rfl rfl (by decide) ?_
  intro Q hQ
  have b1 := hva.1 (k / 28) (by omega)
  have e1 : nI k / 28 = nI (k / 28) := pk_div (d := 28) (by omega) (by decide) (by decide)
  have e2 : nI k - nI k / 28 * 28 = nI (k % 28) := pk_rem (d := 28) (by omega) (by decide) (by decide)
  refine aw_aload_n (i := 0) dX8_bitOf_0 rfl rfl ?_
  refine aw_iload_n (i := 1) dX8_bitOf_1 rfl rfl ?_
  refine aw_bipush (v := 28) dX8_bitOf_2 (by decide +kernel) ?_
  refine aw_idiv dX8_bitOf_4 (by decide +kernel) ?_
  refine aw_lald dX8_bitOf_5 (k / 28) ha (by rw [e1]; exact nI_toInt (by omega)) (by omega) ?_
  refine aw_iload_n (i := 1) dX8_bitOf_6 rfl rfl ?_
  refine aw_bipush (v := 28) dX8_bitOf_7 (by decide +kernel) ?_
  refine aw_irem dX8_bitOf_9 (by decide +kernel) ?_
  refine aw_lshr dX8_bitOf_10 rfl ?_
  refine aw_lconst (v := 1) dX8_bitOf_11 (by decide) ?_
  refine aw_land dX8_bitOf_12 ?_
  rw [e2, lN_shr (by omega) (by omega), lN_and1]
  refine aw_lreturn dX8_bitOf_13 rfl (Nat.le_of_ble_eq_true rfl) (Nat.le_of_ble_eq_true rfl) ?_
  refine hQ _ _ _ ⟨?_, rfl, rfl⟩
  congr 3
  have hd := bv_digit (i := k / 28) (n := 96) (by omega) hva.1
  rw [hva.2, ← Nat.pow_mul] at hd
  have e3 : va / 2 ^ k = va / 2 ^ (28 * (k / 28)) / 2 ^ (k % 28) := by
    rw [Nat.div_div_eq_div_mul, ← Nat.pow_add, Nat.div_add_mod]
  rw [e3, ← hd]
  generalize va / 2 ^ (28 * (k / 28)) = w
  have hr : k % 28 < 28 := Nat.mod_lt _ (by decide)
  generalize k % 28 = r at hr ⊢
  have e4 : (2 : Nat) ^ 28 = 2 ^ r * 2 ^ (28 - r) := by rw [← Nat.pow_add]; congr 1; omega
  rw [e4, Nat.mod_mul_right_div_self]
  have e5 : (2 : Nat) ∣ 2 ^ (28 - r) := ⟨2 ^ (27 - r), by rw [← Nat.pow_succ']; congr 1; omega⟩
  exact Nat.mod_mod_of_dvd _ e5
