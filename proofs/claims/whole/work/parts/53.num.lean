theorem mmaxN {x y : Nat} (hx : x < 2 ^ 31) (hy : y < 2 ^ 31) : (if nI x < nI y then nI y else nI x) = nI (max x y) := by
  by_cases h : x < y
  · rw [if_pos (nI_lt h hy), Nat.max_eq_right (by omega)]
  · rw [if_neg (nI_nlt (by omega) hx), Nat.max_eq_left (by omega)]
theorem mminN {x y : Nat} (hx : x < 2 ^ 31) (hy : y < 2 ^ 31) : (if nI y < nI x then nI y else nI x) = nI (min x y) := by
  by_cases h : y < x
  · rw [if_pos (nI_lt h hx), Nat.min_eq_right (by omega)]
  · rw [if_neg (nI_nlt (by omega) hy), Nat.min_eq_left (by omega)]
theorem bv_tail {B : Nat} {g g' : Nat → Nat} {i : Nat} : ∀ {n : Nat}, i ≤ n → (∀ k, i ≤ k → k < n → g' k = g k) → bv B g' n + bv B g i = bv B g n + bv B g' i
  | 0, h, _ => by
    obtain rfl : i = 0 := by omega
    exact Nat.add_comm _ _
  | n + 1, h, he => by
    by_cases hi : i = n + 1
    · subst hi; omega
    · have := bv_tail (B := B) (g := g) (g' := g') (i := i) (n := n) (by omega) (fun k h1 h2 => he k h1 (by omega))
      rw [bv_s, bv_s, he n (by omega) (by omega)]
      omega
theorem ct_X3_addScaled (n : Nat) (h : Hp) (L : Nat → Nat) (C : NC) (a v at' r lc fr many f x : Nat) (gc : Nat → Nat) (w : LW L) (ha : L a ≠ 0) (hv : num (L a) (C a) v) (hc : ∀ s g, nu h L C a s g r = some (iar lc gc)) (hlc : lc < 2 ^ 31) (hfr : fr + many ≤ lc) (hat : at' + many ≤ L a) (hd : ∀ i, i < many → gc (fr + i) < 2 ^ 32) (hx : bv (2 ^ 32) (fun i => gc (fr + i)) many = x) (hff : f ≤ 2 ^ 31) (hT : v + x * f * (2 ^ 32) ^ at' < (2 ^ 32) ^ L a) : CT mX3_addScaled 0 0 n (nh h L C) [.ref a, .int (nI at'), .ref r, .int (nI fr), .int (nI many), .long (lN f)] (nto n h L C a (v + x * f * (2 ^ 32) ^ at')) := by
  refine CT.intro [some (.ref a), some (.int (nI at')), some (.ref r), some (.int (nI fr)), some (.int (nI many)), some (.long (lN f)), none, none, none, none, none] 4 rfl rfl (by decide) ?_
  intro Q hQ
  have hla := (w a).1
  have hsa := hv.1.1
  have hg := hv.1.2.1
  have hvv := hv.1.2.2
  have hvl := raw_lt hv.1
  refine AW.hp (nu_id h L C a) ?_
  generalize (C a).1 = s at *
  generalize (C a).2 = g at *
  refine aw_iload_n (i := 1) dX3_addScaled_0 rfl rfl ?_
  refine aw_if_lt (tgt := 17) dX3_addScaled_1 (by decide) (fun c => absurd c (nI_pos (by omega))) (fun _ => ?_)
  refine aw_iload_n (i := 3) dX3_addScaled_4 rfl rfl ?_
  refine aw_if_lt (tgt := 17) dX3_addScaled_5 (by decide) (fun c => absurd c (nI_pos (by omega))) (fun _ => ?_)
  refine aw_iload_n (i := 3) dX3_addScaled_8 rfl rfl ?_
  refine aw_aload_n (i := 2) dX3_addScaled_9 rfl rfl ?_
  refine aw_arraylength dX3_addScaled_10 (hc _ _) ?_
  refine aw_iload dX3_addScaled_11 rfl ?_
  refine aw_isub dX3_addScaled_13 ?_
  dsimp only
  rw [pk_sub (show many ≤ lc by omega)]
  refine aw_icmp_le (tgt := 18) dX3_addScaled_14 (by decide) (fun _ => ?_) (fun c => (c (nI_le (by omega) (by omega))).elim)
  refine aw_iload_n (i := 1) dX3_addScaled_18 rfl rfl ?_
  refine aw_iload dX3_addScaled_19 rfl ?_
  refine aw_iadd dX3_addScaled_21 ?_
  rw [nI_add]
  refine aw_istore_7 dX3_addScaled_22 (by decide) rfl ?_
  refine aw_aload_n (i := 0) dX3_addScaled_24 rfl rfl ?_
  refine aw_aload_n (i := 0) dX3_addScaled_25 rfl rfl ?_
  refine aw_getfield fX3_9 dX3_addScaled_26 (nu_o ha) rfl ?_
  refine aw_iload dX3_addScaled_29 rfl ?_
  refine aw_iconst (v := 1) dX3_addScaled_31 (by decide +kernel) ?_
  refine aw_iadd dX3_addScaled_32 ?_
  refine aw_mmax kX3_15 mathmax_s math_i mathmax_c dX3_addScaled_33 (by decide) (Nat.le_of_ble_eq_true rfl) (Nat.le_of_ble_eq_true rfl) (Nat.le_of_ble_eq_true rfl) ?_
  rw [nI_1, mmaxN (by omega) (by omega)]
  refine aw_iconst (v := 1) dX3_addScaled_36 (by decide +kernel) ?_
  refine aw_iadd dX3_addScaled_37 ?_
  rw [nI_1]
  refine aw_invokevirtual kX3_43 dX3_addScaled_38 (nu_o ha) (ct_X3_widenTo n h L C a s (max s (at' + many + 1) + 1) g w ha hsa (by omega)) rfl rfl (Nat.le_of_ble_eq_true rfl) ⟨Nat.le_of_ble_eq_true rfl, Nat.le_of_ble_eq_true rfl⟩ ⟨Nat.le_of_ble_eq_true rfl, Nat.le_of_ble_eq_true rfl⟩ ?_
  rintro _ _ _ ⟨rfl, rfl, rfl⟩
  have hG : ∀ i, i < L a → wid g s (max s (min (max s (at' + many + 1) + 1) (L a))) i < 2 ^ 32 := wid_lt hg
  have hGv : bv (2 ^ 32) (wid g s (max s (min (max s (at' + many + 1) + 1) (L a)))) (max s (min (max s (at' + many + 1) + 1) (L a))) = v := by rw [wid_bv (by omega), hvv]
  generalize wid g s (max s (min (max s (at' + many + 1) + 1) (L a))) = G at *
  -- all fits into the new size
  have hTs : v + x * f * (2 ^ 32) ^ at' < (2 ^ 32) ^ (max s (min (max s (at' + many + 1) + 1) (L a))) := by
    by_cases hq : max s (at' + many + 1) + 1 < L a
    · rw [show max s (min (max s (at' + many + 1) + 1) (L a)) = max s (at' + many + 1) + 1 by omega, p32s]
      have h1 : v < (2 ^ 32) ^ max s (at' + many + 1) := Nat.lt_of_lt_of_le hvl (Nat.pow_le_pow_right (by decide) (by omega))
      have h2 : x < (2 ^ 32) ^ many := by rw [← hx]; exact bv_lt hd
      have h3 : x * f ≤ (2 ^ 32) ^ many * 2 ^ 32 := Nat.mul_le_mul (by omega) (by omega)
      have h4 : x * f * (2 ^ 32) ^ at' ≤ (2 ^ 32) ^ many * 2 ^ 32 * (2 ^ 32) ^ at' := Nat.mul_le_mul_right _ h3
      have h5 : (2 ^ 32) ^ many * 2 ^ 32 * (2 ^ 32) ^ at' = (2 ^ 32) ^ (at' + many + 1) := by rw [p32s, Nat.pow_add]; ac_rfl
      have h6 : ((2 : Nat) ^ 32) ^ (at' + many + 1) ≤ (2 ^ 32) ^ max s (at' + many + 1) := Nat.pow_le_pow_right (by decide) (by omega)
      generalize ((2 : Nat) ^ 32) ^ max s (at' + many + 1) = P at *
      omega
    · rw [show max s (min (max s (at' + many + 1) + 1) (L a)) = L a by omega]; exact hT
  have hS1 : at' + many ≤ max s (min (max s (at' + many + 1) + 1) (L a)) := by omega
  have hS2 : max s (min (max s (at' + many + 1) + 1) (L a)) ≤ L a := by omega
  generalize max s (min (max s (at' + many + 1) + 1) (L a)) = t at *
  obtain ⟨e, he⟩ : ∃ e : Nat → Nat, e = fun k => if at' ≤ k ∧ k < at' + many then gc (fr + (k - at')) else 0 := ⟨_, rfl⟩
  have e_lo : bv (2 ^ 32) e at' = 0 := bv_zero (fun i hi => by rw [he]; exact if_neg (by omega))
  have e_hi : ∀ k, at' + many ≤ k → e k = 0 := fun k hk => by rw [he]; exact if_neg (by omega)
  have e_lt : ∀ k, e k < 2 ^ 32 := fun k => by
    rw [he]
    show (if at' ≤ k ∧ k < at' + many then gc (fr + (k - at')) else 0) < 2 ^ 32
    split
    · exact hd _ (by omega)
    · decide
  have e_v : bv (2 ^ 32) e (at' + many) = x * (2 ^ 32) ^ at' := by
    rw [bv_add, e_lo, Nat.zero_add, Nat.mul_comm, ← hx]
    congr 1
    exact bv_congr (fun i hi => by rw [he]; show (if at' ≤ at' + i ∧ at' + i < at' + many then gc (fr + (at' + i - at')) else 0) = _; rw [if_pos (by omega), Nat.add_sub_cancel_left])
  have e_t : ∀ k, at' + many ≤ k → bv (2 ^ 32) e k = x * (2 ^ 32) ^ at' := fun k hk => by
    rw [bv_high hk (fun i h1 _ => e_hi i h1), e_v]
  have fin : ∀ (G' : Nat → Nat) (y8 y10 : Option Value), (∀ k, k < L a → G' k < 2 ^ 32) → bv (2 ^ 32) G' t = v + x * f * (2 ^ 32) ^ at' → AW mX3_addScaled (gq 0 0 Q) 138 [some (.ref a), some (.int (nI at')), some (.ref r), some (.int (nI fr)), some (.int (nI many)), some (.long (lN f)), none, some (.int (nI (at' + many))), y8, none, y10] [] 0 0 n (nu h L C a t G') := by
    intro G' y8 y10 hG' hb
    refine aw_aload_n (i := 0) dX3_addScaled_138 rfl rfl ?_
    refine aw_invokevirtual kX3_25 dX3_addScaled_139 (nu_o ha) (ct_X3_trim n h L C a t _ _ w ha ⟨hS2, hG', hb⟩) rfl rfl (Nat.le_of_ble_eq_true rfl) ⟨Nat.le_of_ble_eq_true rfl, Nat.le_of_ble_eq_true rfl⟩ ⟨Nat.le_of_ble_eq_true rfl, Nat.le_of_ble_eq_true rfl⟩ ?_
    rintro _ _ _ ⟨rfl, rfl, hC⟩
    refine aw_return dX3_addScaled_142 rfl (Nat.le_of_ble_eq_true rfl) (Nat.le_of_ble_eq_true rfl) ?_
    exact hQ _ _ _ ⟨rfl, rfl, hC⟩
  have exf : x * (2 ^ 32) ^ at' * f = x * f * (2 ^ 32) ^ at' := by ac_rfl
  have loop : ∀ (j i : Nat) (G' : Nat → Nat) (c : Nat), i + j = t → at' ≤ i → (∀ k, k < L a → G' k < 2 ^ 32) → (∀ k, i ≤ k → G' k = G k) → c < 2 ^ 32 → bv (2 ^ 32) G' i + c * (2 ^ 32) ^ i = bv (2 ^ 32) G i + bv (2 ^ 32) e i * f → AW mX3_addScaled (gq 0 0 Q) 47 [some (.ref a), some (.int (nI at')), some (.ref r), some (.int (nI fr)), some (.int (nI many)), some (.long (lN f)), none, some (.int (nI (at' + many))), some (.long (lN c)), none, some (.int (nI i))] [] 0 0 n (nu h L C a t G') := by
    intro j
    induction j with
    | zero =>
      intro i G' c hi hai hG' hR hc2 hb
      obtain rfl : i = t := by omega
      rw [e_t i (by omega), exf, hGv] at hb
      have hc0 : c = 0 := by
        rcases Nat.eq_zero_or_pos c with q | q
        · exact q
        · have h4 : (2 ^ 32) ^ i ≤ c * (2 ^ 32) ^ i := Nat.le_mul_of_pos_left _ q
          omega
      rw [hc0, Nat.zero_mul, Nat.add_zero] at hb
      refine aw_iload dX3_addScaled_47 rfl ?_
      refine aw_aload_n (i := 0) dX3_addScaled_49 rfl rfl ?_
      refine aw_getfield fX3_9 dX3_addScaled_50 (nu_o ha) rfl ?_
      refine aw_icmp_ge (tgt := 138) dX3_addScaled_53 (by decide) (fun _ => ?_) (fun c => (c (nI_le (Nat.le_refl _) (by omega))).elim)
      exact fin G' _ _ hG' hb
    | succ j ih =>
      intro i G' c hi hai hG' hR hc2 hb
      -- one step
      have hGi := hG' i (by omega)
      have step : AW mX3_addScaled (gq 0 0 Q) 70 [some (.ref a), some (.int (nI at')), some (.ref r), some (.int (nI fr)), some (.int (nI many)), some (.long (lN f)), none, some (.int (nI (at' + many))), some (.long (lN c)), none, some (.int (nI i))] [] 0 0 n (nu h L C a t G') := by
        have hei := e_lt i
        have hef : e i * f ≤ (2 ^ 32 - 1) * 2 ^ 31 := Nat.mul_le_mul (by omega) hff
        have st2 : ∀ y, y = c + G' i + e i * f → AW mX3_addScaled (gq 0 0 Q) 115 [some (.ref a), some (.int (nI at')), some (.ref r), some (.int (nI fr)), some (.int (nI many)), some (.long (lN f)), none, some (.int (nI (at' + many))), some (.long (lN y)), none, some (.int (nI i))] [] 0 0 n (nu h L C a t G') := by
          intro y hy
          have hy2 : y < 2 ^ 64 := by omega
          refine aw_aload_n (i := 0) dX3_addScaled_115 rfl rfl ?_
          refine aw_getfield fX3_21 dX3_addScaled_116 (nu_o ha) rfl ?_
          refine aw_iload dX3_addScaled_119 rfl ?_
          refine aw_lload dX3_addScaled_121 rfl ?_
          refine aw_l2i dX3_addScaled_123 rfl ?_
          rw [lN_l2i]
          refine aw_iast dX3_addScaled_124 i _ rfl (nu_a w ha) (nI_toInt (by omega)) (by omega) ?_
          refine AW.hp (nu_upa w ha) ?_
          refine aw_lload dX3_addScaled_125 rfl ?_
          refine aw_bipush (v := 32) dX3_addScaled_127 (by decide +kernel) ?_
          refine aw_lushr dX3_addScaled_129 rfl ?_
          rw [lN_u32 hy2]
          refine aw_lstore_8 dX3_addScaled_130 (by decide) rfl ?_
          refine aw_iinc_10 (c0 := 1) dX3_addScaled_132 (by decide) (by decide) rfl ?_
          refine aw_goto (tgt := 47) dX3_addScaled_135 (by decide) ?_
          rw [nI_1]
          refine ih (i + 1) _ _ (by omega) (by omega) (raw_up (s := 0) hG' (Nat.mod_lt _ (by decide))) (fun k hk => by rw [va_up_off (by omega)]; exact hR k (by omega)) (by omega) ?_
          rw [bv_s, bv_s, bv_s, va_up_at, Nat.add_mul]
          have e1 : bv (2 ^ 32) (va_up G' i (y % 2 ^ 32)) i = bv (2 ^ 32) G' i := bv_up_ge (Nat.le_refl _)
          have e2 := carry_step (B := 2 ^ 32) (P := (2 ^ 32) ^ i) (s := y) rfl rfl
          rw [e1, p32s, Nat.add_assoc, e2, hy, ← hR i (Nat.le_refl _), Nat.add_mul, Nat.add_mul]
          have e3 : e i * (2 ^ 32) ^ i * f = e i * f * (2 ^ 32) ^ i := by ac_rfl
          omega
        refine aw_lload dX3_addScaled_70 rfl ?_
        refine aw_aload_n (i := 0) dX3_addScaled_72 rfl rfl ?_
        refine aw_getfield fX3_21 dX3_addScaled_73 (nu_o ha) rfl ?_
        refine aw_iload dX3_addScaled_76 rfl ?_
        refine aw_iald dX3_addScaled_78 i (nu_a w ha) (nI_toInt (by omega)) (by omega) ?_
        refine aw_i2l dX3_addScaled_79 rfl ?_
        refine aw_ldc2_w qX3_37 dX3_addScaled_80 ?_
        refine aw_land dX3_addScaled_83 ?_
        rw [lo32 hGi]
        refine aw_ladd dX3_addScaled_84 ?_
        rw [lN_add]
        refine aw_lstore_8 dX3_addScaled_85 (by decide) rfl ?_
        refine aw_iload dX3_addScaled_87 rfl ?_
        refine aw_iload dX3_addScaled_89 rfl ?_
        by_cases hie : i < at' + many
        · have he2 : e i = gc (fr + (i - at')) := by rw [he]; exact if_pos ⟨hai, hie⟩
          refine aw_icmp_ge (tgt := 115) dX3_addScaled_91 (by decide) (fun c => absurd c (nI_ge hie (by omega))) (fun _ => ?_)
          refine aw_lload dX3_addScaled_94 rfl ?_
          refine aw_aload_n (i := 2) dX3_addScaled_96 rfl rfl ?_
          refine aw_iload_n (i := 3) dX3_addScaled_97 rfl rfl ?_
          refine aw_iload dX3_addScaled_98 rfl ?_
          refine aw_iadd dX3_addScaled_100 ?_
          refine aw_iload_n (i := 1) dX3_addScaled_101 rfl rfl ?_
          refine aw_isub dX3_addScaled_102 ?_
          rw [nI_add, pk_sub (by omega), show fr + i - at' = fr + (i - at') by omega]
          refine aw_iald dX3_addScaled_103 (fr + (i - at')) (hc _ _) (nI_toInt (by omega)) (by omega) ?_
          refine aw_i2l dX3_addScaled_104 rfl ?_
          refine aw_ldc2_w qX3_37 dX3_addScaled_105 ?_
          refine aw_land dX3_addScaled_108 ?_
          rw [← he2, lo32 hei]
          refine aw_lload dX3_addScaled_109 rfl ?_
          refine aw_lmul dX3_addScaled_111 ?_
          rw [lN_mul]
          refine aw_ladd dX3_addScaled_112 ?_
          rw [lN_add]
          refine aw_lstore_8 dX3_addScaled_113 (by decide) rfl ?_
          exact st2 _ rfl
        · refine aw_icmp_ge (tgt := 115) dX3_addScaled_91 (by decide) (fun _ => ?_) (fun c => (c (nI_le (by omega) (by omega))).elim)
          exact st2 _ (by rw [e_hi i (by omega), Nat.zero_mul, Nat.add_zero])
      refine aw_iload dX3_addScaled_47 rfl ?_
      refine aw_aload_n (i := 0) dX3_addScaled_49 rfl rfl ?_
      refine aw_getfield fX3_9 dX3_addScaled_50 (nu_o ha) rfl ?_
      refine aw_icmp_ge (tgt := 138) dX3_addScaled_53 (by decide) (fun c => absurd c (nI_ge (by omega) (by omega))) (fun _ => ?_)
      refine aw_iload dX3_addScaled_56 rfl ?_
      refine aw_iload dX3_addScaled_58 rfl ?_
      by_cases hie : i < at' + many
      · refine aw_icmp_lt (tgt := 70) dX3_addScaled_60 (by decide) (fun _ => ?_) (fun c => (c (nI_lt hie (by omega))).elim)
        exact step
      · refine aw_icmp_lt (tgt := 70) dX3_addScaled_60 (by decide) (fun c => absurd c (nI_nlt (by omega) (by omega))) (fun _ => ?_)
        refine aw_lload dX3_addScaled_63 rfl ?_
        refine aw_lconst (v := 0) dX3_addScaled_65 (by decide) ?_
        refine aw_lcmp dX3_addScaled_66 ?_
        by_cases hc0 : c = 0
        · refine aw_if_eq (tgt := 138) dX3_addScaled_67 (by decide) (fun _ => ?_) (fun c => (c ((lc0u (by omega)).mpr hc0)).elim)
          refine fin G' _ _ hG' ?_
          rw [hc0, Nat.zero_mul, Nat.add_zero, e_t i (by omega), exf] at hb
          have := bv_tail (B := 2 ^ 32) (g := G) (g' := G') (i := i) (n := t) (by omega) (fun k h1 _ => hR k h1)
          omega
        · refine aw_if_eq (tgt := 138) dX3_addScaled_67 (by decide) (fun c => absurd c (fun q => hc0 ((lc0u (by omega)).mp q))) (fun _ => ?_)
          exact step
  refine aw_lconst (v := 0) dX3_addScaled_41 (by decide) ?_
  refine aw_lstore_8 dX3_addScaled_42 (by decide) rfl ?_
  refine aw_iload_n (i := 1) dX3_addScaled_44 rfl rfl ?_
  refine aw_istore_10 dX3_addScaled_45 (by decide) rfl ?_
  refine AW.forget [some (.ref a), some (.int (nI at')), some (.ref r), some (.int (nI fr)), some (.int (nI many)), some (.long (lN f)), none, some (.int (nI (at' + many))), some (.long (lN 0)), none, some (.int (nI at'))] ⟨rfl, rfl, rfl, rfl, rfl, rfl, rfl, rfl, rfl, trivial⟩ ?_
  exact loop (t - at') at' G 0 (by omega) (Nat.le_refl _) hG (fun _ _ => rfl) (by decide) (by rw [e_lo]; simp)
theorem ct_X3_add (n : Nat) (h : Hp) (L : Nat → Nat) (C : NC) (a b u v : Nat) (w : LW L) (ha : L a ≠ 0) (hb : L b ≠ 0) (hab : b ≠ a) (hu : num (L a) (C a) u) (hv : num (L b) (C b) v) (hf : u + v < (2 ^ 32) ^ L a) : CT mX3_add 0 0 n (nh h L C) [.ref a, .ref b] (nto n h L C a (u + v)) := by
  refine CT.intro [some (.ref a), some (.ref b)] 0 rfl rfl (by decide) ?_
  intro Q hQ
  have hlb := (w b).1
  have hx : bv (2 ^ 32) (fun i => (C b).2 (0 + i)) (C b).1 = v := by rw [← hv.1.2.2]; exact bv_congr (fun i _ => by rw [Nat.zero_add])
  have key := ct_X3_addScaled n h L C a u 0 (b + 1) (L b) 0 (C b).1 1 v (C b).2 w ha hu (fun s g => nu_xa w hb hab) (by omega) (by have := hv.1.1; omega) (by rw [Nat.zero_add]; exact num_le hv (by omega)) (fun i hi => hv.1.2.1 _ (by have := hv.1.1; omega)) hx (by decide) (by rw [Nat.mul_one, Nat.mul_one]; exact hf)
  rw [Nat.mul_one, Nat.mul_one] at key
  refine aw_aload_n (i := 0) dX3_add_0 rfl rfl ?_
  refine aw_iconst (v := 0) dX3_add_1 (by decide +kernel) ?_
  refine aw_aload_n (i := 1) dX3_add_2 rfl rfl ?_
  refine aw_getfield fX3_21 dX3_add_3 (nh_o h C hb) rfl ?_
  refine aw_iconst (v := 0) dX3_add_6 (by decide +kernel) ?_
  refine aw_aload_n (i := 1) dX3_add_7 rfl rfl ?_
  refine aw_getfield fX3_9 dX3_add_8 (nh_o h C hb) rfl ?_
  refine aw_lconst (v := 1) dX3_add_11 (by decide) ?_
  refine aw_invokevirtual kX3_47 dX3_add_12 (nh_o h C ha) key rfl rfl (Nat.le_of_ble_eq_true rfl) ⟨Nat.le_of_ble_eq_true rfl, Nat.le_of_ble_eq_true rfl⟩ ⟨Nat.le_of_ble_eq_true rfl, Nat.le_of_ble_eq_true rfl⟩ ?_
  rintro _ _ _ ⟨rfl, rfl, hC⟩
  refine aw_return dX3_add_15 rfl (Nat.le_of_ble_eq_true rfl) (Nat.le_of_ble_eq_true rfl) ?_
  exact hQ _ _ _ ⟨rfl, rfl, hC⟩
/-- one step of a subtraction -/
def sbY (g x b : Nat) : Nat := (g + 2 ^ 32 - x - b) % 2 ^ 32
def sbB (g x b : Nat) : Nat := 1 - (g + 2 ^ 32 - x - b) / 2 ^ 32
theorem sb_eq {g x b : Nat} (hg : g < 2 ^ 32) (hx : x < 2 ^ 32) (hb : b ≤ 1) : sbY g x b + x + b = g + sbB g x b * 2 ^ 32 ∧ sbY g x b < 2 ^ 32 ∧ sbB g x b ≤ 1 := by
  unfold sbY sbB
  omega
theorem sb_long {g x b : Nat} (hg : g < 2 ^ 32) (hx : x < 2 ^ 32) (hb : b ≤ 1) : lI (-(b : Int)) + (lN g - lN x) = lI ((sbY g x b : Int) - (sbB g x b : Int) * 2 ^ 32) := by
  have := (sb_eq hg hx hb).1
  rw [lI_N, lI_N, lI_sub, lI_add]
  congr 1
  omega
theorem sb_int {y b : Nat} (hy : y < 2 ^ 32) : (lI ((y : Int) - (b : Int) * 2 ^ 32)).toInt32 = nI y := by
  rw [lI_i, iI_mod, iI_N]
  congr 1
  omega
theorem shr32 {z : Int} (h1 : -2 ^ 63 ≤ z) (h2 : z < 2 ^ 63) : lI z >>> ((32 : Int32).toInt64 &&& 63) = lI (z / 2 ^ 32) := lI_shr h1 h2 32 (by decide +kernel)
theorem sb_shr {y b : Nat} (hy : y < 2 ^ 32) (hb : b ≤ 1) : lI ((y : Int) - (b : Int) * 2 ^ 32) >>> ((32 : Int32).toInt64 &&& 63) = lI (-(b : Int)) := by
  rw [shr32 (by omega) (by omega)]
  congr 1
  omega
theorem sb_c0 {b : Nat} (hb : b ≤ 1) : lg_cmp (lI (-(b : Int))) 0 = 0 ↔ b = 0 := by
  rw [lg_cmp_eq, show (0 : Int64) = lI 0 from rfl, lI_eq (by omega) (by omega) (by decide) (by decide)]
  omega
theorem ct_X3_subtract (n : Nat) (h : Hp) (L : Nat → Nat) (C : NC) (a b u v : Nat) (w : LW L) (ha : L a ≠ 0) (hb : L b ≠ 0) (hab : b ≠ a) (hu : num (L a) (C a) u) (hv : num (L b) (C b) v) (hf : v ≤ u) : CT mX3_subtract 0 0 n (nh h L C) [.ref a, .ref b] (nto n h L C a (u - v)) := by
  refine CT.intro [some (.ref a), some (.ref b), none, none, none] 3 rfl rfl (by decide) ?_
  intro Q hQ
  have hla := (w a).1
  have hlb := (w b).1
  have hsa := hu.1.1
  have hsb := hv.1.1
  have hg := hu.1.2.1
  have huu := hu.1.2.2
  have hul := raw_lt hu.1
  have hsz := num_le hv (show v < (2 ^ 32) ^ (C a).1 by omega)
  refine AW.hp (nu_id h L C a) ?_
  generalize (C a).1 = s at *
  generalize (C a).2 = G at *
  have hwv : bv (2 ^ 32) (wd (C b)) s = v := bv_wd hv.1 hsz
  refine aw_lconst (v := 0) dX3_subtract_0 (by decide) ?_
  refine aw_lstore_2 dX3_subtract_1 (by decide) rfl ?_
  refine aw_iconst (v := 0) dX3_subtract_2 (by decide +kernel) ?_
  refine aw_istore_4 dX3_subtract_3 (by decide) rfl ?_
  have fin : ∀ (G' : Nat → Nat) (y2 y4 : Option Value), (∀ k, k < L a → G' k < 2 ^ 32) → bv (2 ^ 32) G' s + v = u → AW mX3_subtract (gq 0 0 Q) 74 [some (.ref a), some (.ref b), y2, none, y4] [] 0 0 n (nu h L C a s G') := by
    intro G' y2 y4 hG' hb
    refine aw_aload_n (i := 0) dX3_subtract_74 rfl rfl ?_
    refine aw_invokevirtual kX3_25 dX3_subtract_75 (nu_o ha) (ct_X3_trim n h L C a s (u - v) _ w ha ⟨hsa, hG', by show bv (2 ^ 32) G' s = u - v; omega⟩) rfl rfl (Nat.le_of_ble_eq_true rfl) ⟨Nat.le_of_ble_eq_true rfl, Nat.le_of_ble_eq_true rfl⟩ ⟨Nat.le_of_ble_eq_true rfl, Nat.le_of_ble_eq_true rfl⟩ ?_
    rintro _ _ _ ⟨rfl, rfl, hC⟩
    refine aw_return dX3_subtract_78 rfl (Nat.le_of_ble_eq_true rfl) (Nat.le_of_ble_eq_true rfl) ?_
    exact hQ _ _ _ ⟨rfl, rfl, hC⟩
  have loop : ∀ (j i : Nat) (G' : Nat → Nat) (c : Nat), i + j = s → (∀ k, k < L a → G' k < 2 ^ 32) → (∀ k, i ≤ k → G' k = G k) → c ≤ 1 → bv (2 ^ 32) G' i + bv (2 ^ 32) (wd (C b)) i = bv (2 ^ 32) G i + c * (2 ^ 32) ^ i → AW mX3_subtract (gq 0 0 Q) 5 [some (.ref a), some (.ref b), some (.long (lI (-(c : Int)))), none, some (.int (nI i))] [] 0 0 n (nu h L C a s G') := by
    intro j
    induction j with
    | zero =>
      intro i G' c hi hG' hR hc hb2
      obtain rfl : i = s := by omega
      have hlt : bv (2 ^ 32) G' i < (2 ^ 32) ^ i := bv_lt (fun k hk => hG' k (by omega))
      have hc0 : c = 0 := by
        rcases Nat.eq_zero_or_pos c with q | q
        · exact q
        · obtain rfl : c = 1 := by omega
          omega
      rw [hc0, Nat.zero_mul, Nat.add_zero] at hb2
      refine aw_iload dX3_subtract_5 rfl ?_
      refine aw_aload_n (i := 0) dX3_subtract_7 rfl rfl ?_
      refine aw_getfield fX3_9 dX3_subtract_8 (nu_o ha) rfl ?_
      refine aw_icmp_ge (tgt := 74) dX3_subtract_11 (by decide) (fun _ => ?_) (fun c => (c (nI_le (Nat.le_refl _) (by omega))).elim)
      exact fin G' _ _ hG' (by omega)
    | succ j ih =>
      intro i G' c hi hG' hR hc hb2
      have hGi := hG' i (by omega)
      have hwl := wd_lt hv.1 i
      have step : AW mX3_subtract (gq 0 0 Q) 32 [some (.ref a), some (.ref b), some (.long (lI (-(c : Int)))), none, some (.int (nI i))] [] 0 0 n (nu h L C a s G') := by
        obtain ⟨q1, q2, q3⟩ := sb_eq hGi hwl hc
        refine aw_lload_n (i := 2) dX3_subtract_32 rfl rfl ?_
        refine aw_aload_n (i := 0) dX3_subtract_33 rfl rfl ?_
        refine aw_getfield fX3_21 dX3_subtract_34 (nu_o ha) rfl ?_
        refine aw_iload dX3_subtract_37 rfl ?_
        refine aw_iald dX3_subtract_39 i (nu_a w ha) (nI_toInt (by omega)) (by omega) ?_
        refine aw_i2l dX3_subtract_40 rfl ?_
        refine aw_ldc2_w qX3_37 dX3_subtract_41 ?_
        refine aw_land dX3_subtract_44 ?_
        rw [lo32 hGi]
        refine aw_aload_n (i := 1) dX3_subtract_45 rfl rfl ?_
        refine aw_iload dX3_subtract_46 rfl ?_
        refine aw_invokevirtual kX3_39 dX3_subtract_48 (nu_x hb hab) (nu_word n h L C a b s i v G' w hb hab hv.1 (by omega)) rfl rfl (Nat.le_of_ble_eq_true rfl) ⟨Nat.le_of_ble_eq_true rfl, Nat.le_of_ble_eq_true rfl⟩ ⟨Nat.le_of_ble_eq_true rfl, Nat.le_of_ble_eq_true rfl⟩ ?_
        rintro _ _ _ ⟨rfl, rfl, rfl⟩
        refine aw_lsub dX3_subtract_51 ?_
        refine aw_ladd dX3_subtract_52 ?_
        rw [sb_long hGi hwl hc]
        refine aw_lstore_2 dX3_subtract_53 (by decide) rfl ?_
        refine aw_aload_n (i := 0) dX3_subtract_54 rfl rfl ?_
        refine aw_getfield fX3_21 dX3_subtract_55 (nu_o ha) rfl ?_
        refine aw_iload dX3_subtract_58 rfl ?_
        refine aw_lload_n (i := 2) dX3_subtract_60 rfl rfl ?_
        refine aw_l2i dX3_subtract_61 rfl ?_
        rw [sb_int q2]
        refine aw_iast dX3_subtract_62 i _ rfl (nu_a w ha) (nI_toInt (by omega)) (by omega) ?_
        refine AW.hp (nu_upa w ha) ?_
        refine aw_lload_n (i := 2) dX3_subtract_63 rfl rfl ?_
        refine aw_bipush (v := 32) dX3_subtract_64 (by decide +kernel) ?_
        refine aw_lshr dX3_subtract_66 rfl ?_
        rw [sb_shr q2 q3]
        refine aw_lstore_2 dX3_subtract_67 (by decide) rfl ?_
        refine aw_iinc_4 (c0 := 1) dX3_subtract_68 (by decide) (by decide) rfl ?_
        refine aw_goto (tgt := 5) dX3_subtract_71 (by decide) ?_
        rw [nI_1]
        refine ih (i + 1) _ _ (by omega) (raw_up (s := 0) hG' q2) (fun k hk => by rw [va_up_off (by omega)]; exact hR k (by omega)) q3 ?_
        rw [bv_s, bv_s, bv_s, va_up_at, bv_up_ge (Nat.le_refl _), p32s, ← hR i (Nat.le_refl _)]
        generalize sbY (G' i) (wd (C b) i) c = Y at *
        generalize sbB (G' i) (wd (C b) i) c = Z at *
        have r1 : (Y + wd (C b) i + c) * (2 ^ 32) ^ i = (G' i + Z * 2 ^ 32) * (2 ^ 32) ^ i := by rw [q1]
        rw [Nat.add_mul, Nat.add_mul, Nat.add_mul] at r1
        have r2 : Z * ((2 ^ 32) ^ i * 2 ^ 32) = Z * 2 ^ 32 * (2 ^ 32) ^ i := by ac_rfl
        omega
      refine aw_iload dX3_subtract_5 rfl ?_
      refine aw_aload_n (i := 0) dX3_subtract_7 rfl rfl ?_
      refine aw_getfield fX3_9 dX3_subtract_8 (nu_o ha) rfl ?_
      refine aw_icmp_ge (tgt := 74) dX3_subtract_11 (by decide) (fun c => absurd c (nI_ge (by omega) (by omega))) (fun _ => ?_)
      refine aw_iload dX3_subtract_14 rfl ?_
      refine aw_aload_n (i := 1) dX3_subtract_16 rfl rfl ?_
      refine aw_getfield fX3_9 dX3_subtract_17 (nu_x hb hab) rfl ?_
      by_cases his : i < (C b).1
      · refine aw_icmp_lt (tgt := 32) dX3_subtract_20 (by decide) (fun _ => ?_) (fun c => (c (nI_lt his (by omega))).elim)
        exact step
      · refine aw_icmp_lt (tgt := 32) dX3_subtract_20 (by decide) (fun c => absurd c (nI_nlt (by omega) (by omega))) (fun _ => ?_)
        refine aw_lload_n (i := 2) dX3_subtract_23 rfl rfl ?_
        refine aw_lconst (v := 0) dX3_subtract_24 (by decide) ?_
        refine aw_lcmp dX3_subtract_25 ?_
        by_cases hc0 : c = 0
        · refine aw_if_ne (tgt := 32) dX3_subtract_26 (by decide) (fun c => absurd c (fun q => q ((sb_c0 hc).mpr hc0))) (fun _ => ?_)
          refine aw_goto (tgt := 74) dX3_subtract_29 (by decide) ?_
          refine fin G' _ _ hG' ?_
          rw [hc0, Nat.zero_mul, Nat.add_zero] at hb2
          have e1 := bv_tail (B := 2 ^ 32) (g := G) (g' := G') (i := i) (n := s) (by omega) (fun k h1 _ => hR k h1)
          have e2 := bv_wd hv.1 (k := i) (by omega)
          omega
        · refine aw_if_ne (tgt := 32) dX3_subtract_26 (by decide) (fun _ => ?_) (fun c => ((fun q => hc0 ((sb_c0 hc).mp q)) c).elim)
          exact step
  refine AW.forget [some (.ref a), some (.ref b), some (.long (lI (-((0 : Nat) : Int)))), none, some (.int (nI 0))] ⟨rfl, rfl, rfl, rfl, trivial⟩ ?_
  exact loop s 0 G 0 (by omega) hg (fun _ _ => rfl) (by decide) (by simp [bv_0])
theorem ct_X3_scale (n : Nat) (h : Hp) (L : Nat → Nat) (C : NC) (a u f : Nat) (w : LW L) (ha : L a ≠ 0) (hu : num (L a) (C a) u) (hff : f < 2 ^ 32) (hf : u * f < (2 ^ 32) ^ L a) : CT mX3_scale 0 0 n (nh h L C) [.ref a, .long (lN f)] (nto n h L C a (u * f)) := by
  refine CT.intro [some (.ref a), some (.long (lN f)), none, none, none, none] 3 rfl rfl (by decide) ?_
  intro Q hQ
  have hla := (w a).1
  have hsa := hu.1.1
  have hg := hu.1.2.1
  have huu := hu.1.2.2
  refine AW.hp (nu_id h L C a) ?_
  generalize (C a).1 = s at *
  generalize (C a).2 = G at *
  refine aw_lconst (v := 0) dX3_scale_0 (by decide) ?_
  refine aw_lstore_3 dX3_scale_1 (by decide) rfl ?_
  refine aw_iconst (v := 0) dX3_scale_2 (by decide +kernel) ?_
  refine aw_istore_5 dX3_scale_3 (by decide) rfl ?_
  have fin : ∀ (s' : Nat) (G' : Nat → Nat) (y3 y5 : Option Value), raw (L a) (s', G') (u * f) → AW mX3_scale (gq 0 0 Q) 90 [some (.ref a), some (.long (lN f)), none, y3, none, y5] [] 0 0 n (nu h L C a s' G') := by
    intro s' G' y2 y4 hG'
    refine aw_aload_n (i := 0) dX3_scale_90 rfl rfl ?_
    refine aw_invokevirtual kX3_25 dX3_scale_91 (nu_o ha) (ct_X3_trim n h L C a s' _ _ w ha hG') rfl rfl (Nat.le_of_ble_eq_true rfl) ⟨Nat.le_of_ble_eq_true rfl, Nat.le_of_ble_eq_true rfl⟩ ⟨Nat.le_of_ble_eq_true rfl, Nat.le_of_ble_eq_true rfl⟩ ?_
    rintro _ _ _ ⟨rfl, rfl, hC⟩
    refine aw_return dX3_scale_94 rfl (Nat.le_of_ble_eq_true rfl) (Nat.le_of_ble_eq_true rfl) ?_
    exact hQ _ _ _ ⟨rfl, rfl, hC⟩
  have loop : ∀ (j i : Nat) (G' : Nat → Nat) (c : Nat), i + j = s → (∀ k, k < L a → G' k < 2 ^ 32) → (∀ k, i ≤ k → G' k = G k) → c < 2 ^ 32 → bv (2 ^ 32) G' i + c * (2 ^ 32) ^ i = bv (2 ^ 32) G i * f → AW mX3_scale (gq 0 0 Q) 5 [some (.ref a), some (.long (lN f)), none, some (.long (lN c)), none, some (.int (nI i))] [] 0 0 n (nu h L C a s G') := by
    intro j
    induction j with
    | zero =>
      intro i G' c hi hG' hR hc hb2
      obtain rfl : i = s := by omega
      rw [huu] at hb2
      refine aw_iload dX3_scale_5 rfl ?_
      refine aw_aload_n (i := 0) dX3_scale_7 rfl rfl ?_
      refine aw_getfield fX3_9 dX3_scale_8 (nu_o ha) rfl ?_
      refine aw_icmp_ge (tgt := 51) dX3_scale_11 (by decide) (fun _ => ?_) (fun c => (c (nI_le (Nat.le_refl _) (by omega))).elim)
      refine aw_lload_n (i := 3) dX3_scale_51 rfl rfl ?_
      refine aw_lconst (v := 0) dX3_scale_52 (by decide) ?_
      refine aw_lcmp dX3_scale_53 ?_
      by_cases hc0 : c = 0
      · rw [hc0, Nat.zero_mul, Nat.add_zero] at hb2
        refine aw_if_eq (tgt := 90) dX3_scale_54 (by decide) (fun _ => ?_) (fun c => (c ((lc0u (by omega)).mpr hc0)).elim)
        exact fin i G' _ _ ⟨hsa, hG', hb2⟩
      · have hsl : i < L a := by
          apply Decidable.byContradiction
          intro q
          have h1 : ((2 : Nat) ^ 32) ^ i ≤ c * (2 ^ 32) ^ i := Nat.le_mul_of_pos_left _ (by omega)
          have h2 : ((2 : Nat) ^ 32) ^ L a ≤ (2 ^ 32) ^ i := Nat.pow_le_pow_right (by decide) (by omega)
          omega
        refine aw_if_eq (tgt := 90) dX3_scale_54 (by decide) (fun c => absurd c (fun q => hc0 ((lc0u (by omega)).mp q))) (fun _ => ?_)
        refine aw_aload_n (i := 0) dX3_scale_57 rfl rfl ?_
        refine aw_getfield fX3_9 dX3_scale_58 (nu_o ha) rfl ?_
        refine aw_aload_n (i := 0) dX3_scale_61 rfl rfl ?_
        refine aw_getfield fX3_21 dX3_scale_62 (nu_o ha) rfl ?_
        refine aw_arraylength dX3_scale_65 (nu_a w ha) ?_
        refine aw_icmp_ge (tgt := 90) dX3_scale_66 (by decide) (fun c => absurd c (nI_ge hsl (by omega))) (fun _ => ?_)
        refine aw_aload_n (i := 0) dX3_scale_69 rfl rfl ?_
        refine aw_getfield fX3_21 dX3_scale_70 (nu_o ha) rfl ?_
        refine aw_aload_n (i := 0) dX3_scale_73 rfl rfl ?_
        refine aw_getfield fX3_9 dX3_scale_74 (nu_o ha) rfl ?_
        refine aw_lload_n (i := 3) dX3_scale_77 rfl rfl ?_
        refine aw_l2i dX3_scale_78 rfl ?_
        rw [lN_l2i]
        refine aw_iast dX3_scale_79 i _ rfl (nu_a w ha) (nI_toInt (by omega)) (by omega) ?_
        refine AW.hp (nu_upa w ha) ?_
        refine aw_aload_n (i := 0) dX3_scale_80 rfl rfl ?_
        refine aw_dup dX3_scale_81 rfl ?_
        refine aw_getfield fX3_9 dX3_scale_82 (nu_o ha) rfl ?_
        refine aw_iconst (v := 1) dX3_scale_85 (by decide +kernel) ?_
        refine aw_iadd dX3_scale_86 ?_
        rw [nI_1]
        refine aw_putfield fX3_9 dX3_scale_87 (nu_o ha) rfl rfl (Nat.le_of_ble_eq_true rfl) ?_
        dsimp only [List.set]
        refine AW.hp (nu_upo ha w) ?_
        refine fin _ _ _ _ ⟨hsl, raw_up (s := 0) hG' (Nat.mod_lt _ (by decide)), ?_⟩
        show bv (2 ^ 32) (va_up G' i (c % 2 ^ 32)) (i + 1) = u * f
        rw [bv_s, va_up_at, bv_up_ge (Nat.le_refl _), Nat.mod_eq_of_lt hc]
        exact hb2
    | succ j ih =>
      intro i G' c hi hG' hR hc hb2
      have hGi := hG' i (by omega)
      have hgf : G' i * f ≤ (2 ^ 32 - 1) * (2 ^ 32 - 1) := Nat.mul_le_mul (by omega) (by omega)
      refine aw_iload dX3_scale_5 rfl ?_
      refine aw_aload_n (i := 0) dX3_scale_7 rfl rfl ?_
      refine aw_getfield fX3_9 dX3_scale_8 (nu_o ha) rfl ?_
      refine aw_icmp_ge (tgt := 51) dX3_scale_11 (by decide) (fun c => absurd c (nI_ge (by omega) (by omega))) (fun _ => ?_)
      refine aw_lload_n (i := 3) dX3_scale_14 rfl rfl ?_
      refine aw_aload_n (i := 0) dX3_scale_15 rfl rfl ?_
      refine aw_getfield fX3_21 dX3_scale_16 (nu_o ha) rfl ?_
      refine aw_iload dX3_scale_19 rfl ?_
      refine aw_iald dX3_scale_21 i (nu_a w ha) (nI_toInt (by omega)) (by omega) ?_
      refine aw_i2l dX3_scale_22 rfl ?_
      refine aw_ldc2_w qX3_37 dX3_scale_23 ?_
      refine aw_land dX3_scale_26 ?_
      rw [lo32 hGi]
      refine aw_lload_n (i := 1) dX3_scale_27 rfl rfl ?_
      refine aw_lmul dX3_scale_28 ?_
      refine aw_ladd dX3_scale_29 ?_
      rw [lN_mul, lN_add]
      generalize hy : c + G' i * f = y
      have hy2 : y < 2 ^ 64 := by omega
      refine aw_lstore_3 dX3_scale_30 (by decide) rfl ?_
      refine aw_aload_n (i := 0) dX3_scale_31 rfl rfl ?_
      refine aw_getfield fX3_21 dX3_scale_32 (nu_o ha) rfl ?_
      refine aw_iload dX3_scale_35 rfl ?_
      refine aw_lload_n (i := 3) dX3_scale_37 rfl rfl ?_
      refine aw_l2i dX3_scale_38 rfl ?_
      rw [lN_l2i]
      refine aw_iast dX3_scale_39 i _ rfl (nu_a w ha) (nI_toInt (by omega)) (by omega) ?_
      refine AW.hp (nu_upa w ha) ?_
      refine aw_lload_n (i := 3) dX3_scale_40 rfl rfl ?_
      refine aw_bipush (v := 32) dX3_scale_41 (by decide +kernel) ?_
      refine aw_lushr dX3_scale_43 rfl ?_
      rw [lN_u32 hy2]
      refine aw_lstore_3 dX3_scale_44 (by decide) rfl ?_
      refine aw_iinc_5 (c0 := 1) dX3_scale_45 (by decide) (by decide) rfl ?_
      refine aw_goto (tgt := 5) dX3_scale_48 (by decide) ?_
      rw [nI_1]
      refine ih (i + 1) _ _ (by omega) (raw_up (s := 0) hG' (Nat.mod_lt _ (by decide))) (fun k hk => by rw [va_up_off (by omega)]; exact hR k (by omega)) (by omega) ?_
      have e2 := carry_step (B := 2 ^ 32) (P := (2 ^ 32) ^ i) (s := y) rfl rfl
      rw [bv_s, bv_s, va_up_at, Nat.add_mul, bv_up_ge (Nat.le_refl _), p32s, Nat.add_assoc, e2, ← hy, ← hR i (Nat.le_refl _), Nat.add_mul]
      have e3 : G' i * (2 ^ 32) ^ i * f = G' i * f * (2 ^ 32) ^ i := by ac_rfl
      omega
  refine AW.forget [some (.ref a), some (.long (lN f)), none, some (.long (lN 0)), none, some (.int (nI 0))] ⟨rfl, rfl, rfl, rfl, trivial⟩ ?_
  exact loop s 0 G 0 (by omega) hg (fun _ _ => rfl) (by decide) (by simp [bv_0])
theorem ct_X3_power (n : Nat) (h : Hp) (L : Nat → Nat) (C : NC) (a u f e : Nat) (w : LW L) (ha : L a ≠ 0) (hu : num (L a) (C a) u) (hff : f < 2 ^ 31) (he : e < 2 ^ 31) (hf : f ^ e < (2 ^ 32) ^ L a) : CT mX3_power 0 0 n (nh h L C) [.ref a, .int (nI f), .int (nI e)] (nto n h L C a (f ^ e)) := by
  refine CT.intro [some (.ref a), some (.int (nI f)), some (.int (nI e)), none] 1 rfl rfl (by decide) ?_
  intro Q hQ
  have hl2 := ((w a).2 ha).1
  have hp : ∀ i, i ≤ e → f ^ i < (2 ^ 32) ^ L a := fun i hi => by
    rcases Nat.eq_zero_or_pos f with q | q
    · have h1 : f ^ i ≤ 1 := by rw [q]; cases i <;> simp
      have h2 : ((2 : Nat) ^ 32) ^ 1 ≤ (2 ^ 32) ^ L a := Nat.pow_le_pow_right (by decide) (by omega)
      omega
    · exact Nat.lt_of_le_of_lt (Nat.pow_le_pow_right q hi) hf
  refine aw_aload_n (i := 0) dX3_power_0 rfl rfl ?_
  refine aw_lconst (v := 1) dX3_power_1 (by decide) ?_
  refine aw_invokevirtual kX3_51 dX3_power_2 (nh_o h C ha) (ct_X3_put n h L C a u 1 w ha hu (by decide)) rfl rfl (Nat.le_of_ble_eq_true rfl) ⟨Nat.le_of_ble_eq_true rfl, Nat.le_of_ble_eq_true rfl⟩ ⟨Nat.le_of_ble_eq_true rfl, Nat.le_of_ble_eq_true rfl⟩ ?_
  rintro _ _ _ ⟨rfl, rfl, C1, rfl, d1, f1⟩
  refine aw_iconst (v := 0) dX3_power_5 (by decide +kernel) ?_
  refine aw_istore_3 dX3_power_6 (by decide) rfl ?_
  have loop : ∀ (j i : Nat) (C' : NC), i + j = e → num (L a) (C' a) (f ^ i) → (∀ k, k ≠ a → C' k = C k) → AW mX3_power (gq 0 0 Q) 7 [some (.ref a), some (.int (nI f)), some (.int (nI e)), some (.int (nI i))] [] 0 0 n (nh h L C') := by
    intro j
    induction j with
    | zero =>
      intro i C' hi hd hfr
      obtain rfl : i = e := by omega
      refine aw_iload_n (i := 3) dX3_power_7 rfl rfl ?_
      refine aw_iload_n (i := 2) dX3_power_8 rfl rfl ?_
      refine aw_icmp_ge (tgt := 24) dX3_power_9 (by decide) (fun _ => ?_) (fun c => (c (nI_le (Nat.le_refl _) he)).elim)
      refine aw_return dX3_power_24 rfl (Nat.le_of_ble_eq_true rfl) (Nat.le_of_ble_eq_true rfl) ?_
      exact hQ _ _ _ ⟨rfl, rfl, C', rfl, hd, hfr⟩
    | succ j ih =>
      intro i C' hi hd hfr
      have := hp (i + 1) (by omega)
      rw [Nat.pow_succ] at this
      refine aw_iload_n (i := 3) dX3_power_7 rfl rfl ?_
      refine aw_iload_n (i := 2) dX3_power_8 rfl rfl ?_
      refine aw_icmp_ge (tgt := 24) dX3_power_9 (by decide) (fun c => absurd c (nI_ge (by omega) he)) (fun _ => ?_)
      refine aw_aload_n (i := 0) dX3_power_12 rfl rfl ?_
      refine aw_iload_n (i := 1) dX3_power_13 rfl rfl ?_
      refine aw_i2l dX3_power_14 rfl ?_
      rw [nI_l hff]
      refine aw_invokevirtual kX3_55 dX3_power_15 (nh_o h C' ha) (ct_X3_scale n h L C' a _ f w ha hd (by omega) this) rfl rfl (Nat.le_of_ble_eq_true rfl) ⟨Nat.le_of_ble_eq_true rfl, Nat.le_of_ble_eq_true rfl⟩ ⟨Nat.le_of_ble_eq_true rfl, Nat.le_of_ble_eq_true rfl⟩ ?_
      rintro _ _ _ ⟨rfl, rfl, C2, rfl, d2, f2⟩
      refine aw_iinc_3 (c0 := 1) dX3_power_18 (by decide) (by decide) rfl ?_
      refine aw_goto (tgt := 7) dX3_power_21 (by decide) ?_
      rw [nI_1]
      exact ih (i + 1) C2 (by omega) (by rw [Nat.pow_succ]; exact d2) (fun k hk => by rw [f2 k hk]; exact hfr k hk)
  exact loop e 0 C1 (by omega) d1 f1
