theorem ct_X3_product (n : Nat) (h : Hp) (L : Nat → Nat) (C : NC) (a b d u v z : Nat) (w : LW L) (ha : L a ≠ 0) (hb : L b ≠ 0) (hd : L d ≠ 0) (hab : b ≠ a) (had : d ≠ a) (hz : num (L a) (C a) z) (hu : num (L b) (C b) u) (hv : num (L d) (C d) v) (hf : (C b).1 + (C d).1 ≤ L a) : CT mX3_product 0 0 n (nh h L C) [.ref a, .ref b, .ref d] (nto n h L C a (u * v)) := by
  refine CT.intro [some (.ref a), some (.ref b), some (.ref d), none, none, none, none, none, none] 6 rfl rfl (by decide) ?_
  intro Q hQ
  have hla := (w a).1
  have hlb := (w b).1
  have hld := (w d).1
  have hsb := hu.1.1
  have hsd := hv.1.1
  have hg := hz.1.2.1
  have hX := hu.1.2.1
  have hY := hv.1.2.1
  have hXv := hu.1.2.2
  have hYv := hv.1.2.2
  refine AW.hp (nu_id h L C a) ?_
  generalize (C a).1 = s
  generalize (C a).2 = g at *
  have nb' : ∀ {s : Nat} {g : Nat → Nat}, nu h L C a s g b = some (nobj b (C b).1) := nu_x hb hab
  have nba : ∀ {s : Nat} {g : Nat → Nat}, nu h L C a s g (b + 1) = some (iar (L b) (C b).2) := nu_xa w hb hab
  have nd' : ∀ {s : Nat} {g : Nat → Nat}, nu h L C a s g d = some (nobj d (C d).1) := nu_x hd had
  have nda : ∀ {s : Nat} {g : Nat → Nat}, nu h L C a s g (d + 1) = some (iar (L d) (C d).2) := nu_xa w hd had
  generalize (C b).1 = sb at *
  generalize (C b).2 = X at *
  generalize (C d).1 = sd at *
  generalize (C d).2 = Y at *
  refine aw_aload_n (i := 0) dX3_product_0 rfl rfl ?_
  refine aw_iconst (v := 0) dX3_product_1 (by decide +kernel) ?_
  refine aw_putfield fX3_9 dX3_product_2 (nu_o ha) rfl rfl (Nat.le_of_ble_eq_true rfl) ?_
  dsimp only [List.set]
  refine AW.hp (nu_upo (s' := 0) ha w) ?_
  refine aw_aload_n (i := 0) dX3_product_5 rfl rfl ?_
  refine aw_aload_n (i := 1) dX3_product_6 rfl rfl ?_
  refine aw_getfield fX3_9 dX3_product_7 nb' rfl ?_
  refine aw_aload_n (i := 2) dX3_product_10 rfl rfl ?_
  refine aw_getfield fX3_9 dX3_product_11 nd' rfl ?_
  refine aw_iadd dX3_product_14 ?_
  rw [nI_add]
  refine aw_invokevirtual kX3_43 dX3_product_15 (nu_o ha) (ct_X3_widenTo n h L C a 0 (sb + sd) g w ha (Nat.zero_le _) (by omega)) rfl rfl (Nat.le_of_ble_eq_true rfl) ⟨Nat.le_of_ble_eq_true rfl, Nat.le_of_ble_eq_true rfl⟩ ⟨Nat.le_of_ble_eq_true rfl, Nat.le_of_ble_eq_true rfl⟩ ?_
  rintro _ _ _ ⟨rfl, rfl, rfl⟩
  rw [show max 0 (min (sb + sd) (L a)) = sb + sd by omega]
  have hG : ∀ i, i < L a → wid g 0 (sb + sd) i < 2 ^ 32 := wid_lt hg
  have hZ : ∀ i, i < sb + sd → wid g 0 (sb + sd) i = 0 := fun i hi => wid_z (Nat.zero_le _) hi
  generalize wid g 0 (sb + sd) = G at *
  refine aw_iconst (v := 0) dX3_product_18 (by decide +kernel) ?_
  refine aw_istore_3 dX3_product_19 (by decide) rfl ?_
  have outer : ∀ (j i : Nat) (G : Nat → Nat) (y4 y6 y8 : Option Value), i + j = sb → (∀ k, k < L a → G k < 2 ^ 32) → (∀ k, i + sd ≤ k → k < sb + sd → G k = 0) → bv (2 ^ 32) G (sb + sd) = bv (2 ^ 32) X i * v → AW mX3_product (gq 0 0 Q) 20 [some (.ref a), some (.ref b), some (.ref d), some (.int (nI i)), y4, none, y6, none, y8] [] 0 0 n (nu h L C a (sb + sd) G) := by
    intro j
    induction j with
    | zero =>
      intro i G y4 y6 y8 hi hG hZ hb2
      obtain rfl : i = sb := by omega
      rw [hXv] at hb2
      refine aw_iload_n (i := 3) dX3_product_20 rfl rfl ?_
      refine aw_aload_n (i := 1) dX3_product_21 rfl rfl ?_
      refine aw_getfield fX3_9 dX3_product_22 nb' rfl ?_
      refine aw_icmp_ge (tgt := 160) dX3_product_25 (by decide) (fun _ => ?_) (fun c => (c (nI_le (Nat.le_refl _) (by omega))).elim)
      refine aw_aload_n (i := 0) dX3_product_160 rfl rfl ?_
      refine aw_invokevirtual kX3_25 dX3_product_161 (nu_o ha) (ct_X3_trim n h L C a (i + sd) _ _ w ha ⟨hf, hG, hb2⟩) rfl rfl (Nat.le_of_ble_eq_true rfl) ⟨Nat.le_of_ble_eq_true rfl, Nat.le_of_ble_eq_true rfl⟩ ⟨Nat.le_of_ble_eq_true rfl, Nat.le_of_ble_eq_true rfl⟩ ?_
      rintro _ _ _ ⟨rfl, rfl, hC⟩
      refine aw_return dX3_product_164 rfl (Nat.le_of_ble_eq_true rfl) (Nat.le_of_ble_eq_true rfl) ?_
      exact hQ _ _ _ ⟨rfl, rfl, hC⟩
    | succ j ih =>
      intro i G y4 y6 y8 hi hG hZ hb2
      have hXi := hX i (by omega)
      refine aw_iload_n (i := 3) dX3_product_20 rfl rfl ?_
      refine aw_aload_n (i := 1) dX3_product_21 rfl rfl ?_
      refine aw_getfield fX3_9 dX3_product_22 nb' rfl ?_
      refine aw_icmp_ge (tgt := 160) dX3_product_25 (by decide) (fun c => absurd c (nI_ge (by omega) (by omega))) (fun _ => ?_)
      refine aw_aload_n (i := 1) dX3_product_28 rfl rfl ?_
      refine aw_getfield fX3_21 dX3_product_29 nb' rfl ?_
      refine aw_iload_n (i := 3) dX3_product_32 rfl rfl ?_
      refine aw_iald dX3_product_33 i nba (nI_toInt (by omega)) (by omega) ?_
      refine aw_i2l dX3_product_34 rfl ?_
      refine aw_ldc2_w qX3_37 dX3_product_35 ?_
      refine aw_land dX3_product_38 ?_
      rw [lo32 hXi]
      refine aw_lstore_4 dX3_product_39 (by decide) rfl ?_
      refine aw_lconst (v := 0) dX3_product_41 (by decide) ?_
      refine aw_lstore_6 dX3_product_42 (by decide) rfl ?_
      refine aw_iconst (v := 0) dX3_product_44 (by decide +kernel) ?_
      refine aw_istore_8 dX3_product_45 (by decide) rfl ?_
      have inner : ∀ (m q : Nat) (G' : Nat → Nat) (c : Nat), q + m = sd → (∀ k, k < L a → G' k < 2 ^ 32) → (∀ k, i + sd ≤ k → k < sb + sd → G' k = 0) → c < 2 ^ 32 → bv (2 ^ 32) G' (sb + sd) + c * (2 ^ 32) ^ (i + q) = bv (2 ^ 32) X i * v + X i * bv (2 ^ 32) Y q * (2 ^ 32) ^ i → AW mX3_product (gq 0 0 Q) 47 [some (.ref a), some (.ref b), some (.ref d), some (.int (nI i)), some (.long (lN (X i))), none, some (.long (lN c)), none, some (.int (nI q))] [] 0 0 n (nu h L C a (sb + sd) G') := by
        intro m
        induction m with
        | zero =>
          intro q G' c hq hG' hZ' hc hb3
          obtain rfl : q = sd := by omega
          refine aw_iload dX3_product_47 rfl ?_
          refine aw_aload_n (i := 2) dX3_product_49 rfl rfl ?_
          refine aw_getfield fX3_9 dX3_product_50 nd' rfl ?_
          refine aw_icmp_ge (tgt := 127) dX3_product_53 (by decide) (fun _ => ?_) (fun c => (c (nI_le (Nat.le_refl _) (by omega))).elim)
          refine aw_iload_n (i := 3) dX3_product_127 rfl rfl ?_
          refine aw_aload_n (i := 2) dX3_product_128 rfl rfl ?_
          refine aw_getfield fX3_9 dX3_product_129 nd' rfl ?_
          refine aw_iadd dX3_product_132 ?_
          refine aw_aload_n (i := 0) dX3_product_133 rfl rfl ?_
          refine aw_getfield fX3_9 dX3_product_134 (nu_o ha) rfl ?_
          rw [nI_add]
          refine aw_icmp_ge (tgt := 154) dX3_product_137 (by decide) (fun c => absurd c (nI_ge (by omega) (by omega))) (fun _ => ?_)
          refine aw_aload_n (i := 0) dX3_product_140 rfl rfl ?_
          refine aw_getfield fX3_21 dX3_product_141 (nu_o ha) rfl ?_
          refine aw_iload_n (i := 3) dX3_product_144 rfl rfl ?_
          refine aw_aload_n (i := 2) dX3_product_145 rfl rfl ?_
          refine aw_getfield fX3_9 dX3_product_146 nd' rfl ?_
          refine aw_iadd dX3_product_149 ?_
          rw [nI_add]
          refine aw_lload dX3_product_150 rfl ?_
          refine aw_l2i dX3_product_152 rfl ?_
          rw [lN_l2i]
          refine aw_iast dX3_product_153 (i + q) _ rfl (nu_a w ha) (nI_toInt (by omega)) (by omega) ?_
          refine AW.hp (nu_upa w ha) ?_
          refine aw_iinc_3 (c0 := 1) dX3_product_154 (by decide) (by decide) rfl ?_
          refine aw_goto (tgt := 20) dX3_product_157 (by decide) ?_
          rw [nI_1]
          refine ih (i + 1) _ _ _ _ (by omega) (raw_up (s := 0) hG' (Nat.mod_lt _ (by decide))) (fun k h1 h2 => by rw [va_up_off (by omega)]; exact hZ' k (by omega) h2) ?_
          have e1 := bv_up (B := 2 ^ 32) (g := G') (j := i + q) (x := c % 2 ^ 32) (n := sb + q) (by omega)
          rw [hZ' (i + q) (by omega) (by omega), Nat.zero_mul, Nat.add_zero, Nat.mod_eq_of_lt hc] at e1
          rw [Nat.mod_eq_of_lt hc, e1, hb3, bv_s, Nat.add_mul, hYv]
          congr 1
          ac_rfl
        | succ m ihm =>
          intro q G' c hq hG' hZ' hc hb3
          have hYq := hY q (by omega)
          have hGq := hG' (i + q) (by omega)
          have hyx : Y q * X i ≤ (2 ^ 32 - 1) * (2 ^ 32 - 1) := Nat.mul_le_mul (by omega) (by omega)
          refine aw_iload dX3_product_47 rfl ?_
          refine aw_aload_n (i := 2) dX3_product_49 rfl rfl ?_
          refine aw_getfield fX3_9 dX3_product_50 nd' rfl ?_
          refine aw_icmp_ge (tgt := 127) dX3_product_53 (by decide) (fun c => absurd c (nI_ge (by omega) (by omega))) (fun _ => ?_)
          refine aw_iload_n (i := 3) dX3_product_56 rfl rfl ?_
          refine aw_iload dX3_product_57 rfl ?_
          refine aw_iadd dX3_product_59 ?_
          refine aw_aload_n (i := 0) dX3_product_60 rfl rfl ?_
          refine aw_getfield fX3_9 dX3_product_61 (nu_o ha) rfl ?_
          rw [nI_add]
          refine aw_icmp_ge (tgt := 127) dX3_product_64 (by decide) (fun c => absurd c (nI_ge (by omega) (by omega))) (fun _ => ?_)
          refine aw_lload dX3_product_67 rfl ?_
          refine aw_aload_n (i := 2) dX3_product_69 rfl rfl ?_
          refine aw_getfield fX3_21 dX3_product_70 nd' rfl ?_
          refine aw_iload dX3_product_73 rfl ?_
          refine aw_iald dX3_product_75 q nda (nI_toInt (by omega)) (by omega) ?_
          refine aw_i2l dX3_product_76 rfl ?_
          refine aw_ldc2_w qX3_37 dX3_product_77 ?_
          refine aw_land dX3_product_80 ?_
          rw [lo32 hYq]
          refine aw_lload dX3_product_81 rfl ?_
          refine aw_lmul dX3_product_83 ?_
          refine aw_aload_n (i := 0) dX3_product_84 rfl rfl ?_
          refine aw_getfield fX3_21 dX3_product_85 (nu_o ha) rfl ?_
          refine aw_iload_n (i := 3) dX3_product_88 rfl rfl ?_
          refine aw_iload dX3_product_89 rfl ?_
          refine aw_iadd dX3_product_91 ?_
          rw [nI_add]
          refine aw_iald dX3_product_92 (i + q) (nu_a w ha) (nI_toInt (by omega)) (by omega) ?_
          refine aw_i2l dX3_product_93 rfl ?_
          refine aw_ldc2_w qX3_37 dX3_product_94 ?_
          refine aw_land dX3_product_97 ?_
          rw [lo32 hGq]
          refine aw_ladd dX3_product_98 ?_
          refine aw_ladd dX3_product_99 ?_
          rw [lN_mul, lN_add, lN_add]
          generalize hy : c + (Y q * X i + G' (i + q)) = y
          have hy2 : y < 2 ^ 64 := by omega
          refine aw_lstore_6 dX3_product_100 (by decide) rfl ?_
          refine aw_aload_n (i := 0) dX3_product_102 rfl rfl ?_
          refine aw_getfield fX3_21 dX3_product_103 (nu_o ha) rfl ?_
          refine aw_iload_n (i := 3) dX3_product_106 rfl rfl ?_
          refine aw_iload dX3_product_107 rfl ?_
          refine aw_iadd dX3_product_109 ?_
          rw [nI_add]
          refine aw_lload dX3_product_110 rfl ?_
          refine aw_l2i dX3_product_112 rfl ?_
          rw [lN_l2i]
          refine aw_iast dX3_product_113 (i + q) _ rfl (nu_a w ha) (nI_toInt (by omega)) (by omega) ?_
          refine AW.hp (nu_upa w ha) ?_
          refine aw_lload dX3_product_114 rfl ?_
          refine aw_bipush (v := 32) dX3_product_116 (by decide +kernel) ?_
          refine aw_lushr dX3_product_118 rfl ?_
          rw [lN_u32 hy2]
          refine aw_lstore_6 dX3_product_119 (by decide) rfl ?_
          refine aw_iinc_8 (c0 := 1) dX3_product_121 (by decide) (by decide) rfl ?_
          refine aw_goto (tgt := 47) dX3_product_124 (by decide) ?_
          rw [nI_1]
          refine ihm (q + 1) _ _ (by omega) (raw_up (s := 0) hG' (Nat.mod_lt _ (by decide))) (fun k h1 h2 => by rw [va_up_off (by omega)]; exact hZ' k h1 h2) (by omega) ?_
          have e1 := bv_up (B := 2 ^ 32) (g := G') (j := i + q) (x := y % 2 ^ 32) (n := sb + sd) (by omega)
          have e2 := carry_step (B := 2 ^ 32) (P := (2 ^ 32) ^ (i + q)) (s := y) rfl rfl
          rw [← Nat.add_assoc, p32s, bv_s, Nat.mul_add, Nat.add_mul]
          have e4 : X i * (Y q * (2 ^ 32) ^ q) * (2 ^ 32) ^ i = Y q * X i * (2 ^ 32) ^ (i + q) := by rw [Nat.pow_add]; ac_rfl
          rw [e4]
          have e5 : y * (2 ^ 32) ^ (i + q) = c * (2 ^ 32) ^ (i + q) + Y q * X i * (2 ^ 32) ^ (i + q) + G' (i + q) * (2 ^ 32) ^ (i + q) := by rw [← hy, Nat.add_mul, Nat.add_mul, Nat.add_assoc]
          omega
      refine AW.forget [some (.ref a), some (.ref b), some (.ref d), some (.int (nI i)), some (.long (lN (X i))), none, some (.long (lN 0)), none, some (.int (nI 0))] ⟨rfl, rfl, rfl, rfl, rfl, rfl, rfl, trivial⟩ ?_
      exact inner sd 0 G 0 (by omega) hG hZ (by decide) (by rw [hb2]; simp [bv_0])
  exact outer sb 0 G none none none (by omega) hG (fun k _ h2 => hZ k h2) (by rw [bv_zero hZ]; simp [bv_0])
theorem div_step (v B p : Nat) : v / B ^ p = v / B ^ p % B + v / B ^ (p + 1) * B := by
  rw [Nat.pow_succ, ← Nat.div_div_eq_div_mul]
  have := Nat.mod_add_div (v / B ^ p) B
  rw [Nat.mul_comm] at this
  omega
/-- two parts side by side, moved down -/
theorem two_parts {l : Nat} {c : Nat × (Nat → Nat)} {v : Nat} (h : raw l c v) (i : Nat) : wd c i + wd c (i + 1) * 2 ^ 32 = v / (2 ^ 32) ^ i % 2 ^ 64 := by
  rw [wd_eq h, wd_eq h]
  have h1 := div_step v (2 ^ 32) i
  have h2 := div_step v (2 ^ 32) (i + 1)
  generalize v / (2 ^ 32) ^ i = x at *
  generalize v / (2 ^ 32) ^ (i + 1) = y at *
  generalize v / (2 ^ 32) ^ (i + 1 + 1) = z at *
  omega
theorem ct_X3_shiftDown (n : Nat) (h : Hp) (L : Nat → Nat) (C : NC) (a u R : Nat) (w : LW L) (ha : L a ≠ 0) (hu : raw (L a) (C a) u) (hR : R < 32) : CT mX3_shiftDown 0 0 n (nh h L C) [.ref a, .int (nI R)] (nto n h L C a (u / 2 ^ R)) := by
  refine CT.intro [some (.ref a), some (.int (nI R)), none] 1 rfl rfl (by decide) ?_
  intro Q hQ
  have hla := (w a).1
  have hsa := hu.1
  have hg := hu.2.1
  have huu := hu.2.2
  refine AW.hp (nu_id h L C a) ?_
  generalize (C a).1 = s at *
  generalize (C a).2 = G at *
  have hru : raw (L a) (s, G) u := ⟨hsa, hg, huu⟩
  have hRp := Nat.two_pow_pos R
  refine aw_iconst (v := 0) dX3_shiftDown_0 (by decide +kernel) ?_
  refine aw_istore_2 dX3_shiftDown_1 (by decide) rfl ?_
  have loop : ∀ (j i : Nat) (G' : Nat → Nat), i + j = s → (∀ k, k < L a → G' k < 2 ^ 32) → (∀ k, i ≤ k → G' k = G k) → (∀ k, k < i → G' k = u / 2 ^ R / (2 ^ 32) ^ k % 2 ^ 32) → AW mX3_shiftDown (gq 0 0 Q) 2 [some (.ref a), some (.int (nI R)), some (.int (nI i))] [] 0 0 n (nu h L C a s G') := by
    intro j
    induction j with
    | zero =>
      intro i G' hi hG' hR2 hd
      obtain rfl : i = s := by omega
      have hb : bv (2 ^ 32) G' i = u / 2 ^ R := by
        have h1 : u / 2 ^ R < (2 ^ 32) ^ i := Nat.lt_of_le_of_lt (Nat.div_le_self _ _) (raw_lt hru)
        have h2 : ∀ k, k ≤ i → bv (2 ^ 32) G' k = u / 2 ^ R % (2 ^ 32) ^ k := by
          intro k
          induction k with
          | zero => intro _; rw [bv_0, Nat.pow_zero, Nat.mod_one]
          | succ k ihk =>
            intro hk
            rw [bv_s, ihk (by omega), hd k (by omega), p32s, Nat.mod_mul, Nat.mul_comm]
        rw [h2 i (Nat.le_refl _), Nat.mod_eq_of_lt h1]
      refine aw_iload_n (i := 2) dX3_shiftDown_2 rfl rfl ?_
      refine aw_aload_n (i := 0) dX3_shiftDown_3 rfl rfl ?_
      refine aw_getfield fX3_9 dX3_shiftDown_4 (nu_o ha) rfl ?_
      refine aw_icmp_ge (tgt := 41) dX3_shiftDown_7 (by decide) (fun _ => ?_) (fun c => (c (nI_le (Nat.le_refl _) (by omega))).elim)
      refine aw_aload_n (i := 0) dX3_shiftDown_41 rfl rfl ?_
      refine aw_invokevirtual kX3_25 dX3_shiftDown_42 (nu_o ha) (ct_X3_trim n h L C a i _ _ w ha ⟨hsa, hG', hb⟩) rfl rfl (Nat.le_of_ble_eq_true rfl) ⟨Nat.le_of_ble_eq_true rfl, Nat.le_of_ble_eq_true rfl⟩ ⟨Nat.le_of_ble_eq_true rfl, Nat.le_of_ble_eq_true rfl⟩ ?_
      rintro _ _ _ ⟨rfl, rfl, hC⟩
      refine aw_return dX3_shiftDown_45 rfl (Nat.le_of_ble_eq_true rfl) (Nat.le_of_ble_eq_true rfl) ?_
      exact hQ _ _ _ ⟨rfl, rfl, hC⟩
    | succ j ih =>
      intro i G' hi hG' hR2 hd
      have e0 : wd (s, G') i = wd (s, G) i := by unfold wd; dsimp only; rw [hR2 i (Nat.le_refl _)]
      have e1 : wd (s, G') (i + 1) = wd (s, G) (i + 1) := by unfold wd; dsimp only; rw [hR2 (i + 1) (by omega)]
      have tp := two_parts hru i
      have hwl := wd_lt hru i
      have hwl2 := wd_lt hru (i + 1)
      refine aw_iload_n (i := 2) dX3_shiftDown_2 rfl rfl ?_
      refine aw_aload_n (i := 0) dX3_shiftDown_3 rfl rfl ?_
      refine aw_getfield fX3_9 dX3_shiftDown_4 (nu_o ha) rfl ?_
      refine aw_icmp_ge (tgt := 41) dX3_shiftDown_7 (by decide) (fun c => absurd c (nI_ge (by omega) (by omega))) (fun _ => ?_)
      refine aw_aload_n (i := 0) dX3_shiftDown_10 rfl rfl ?_
      refine aw_getfield fX3_21 dX3_shiftDown_11 (nu_o ha) rfl ?_
      refine aw_iload_n (i := 2) dX3_shiftDown_14 rfl rfl ?_
      refine aw_aload_n (i := 0) dX3_shiftDown_15 rfl rfl ?_
      refine aw_iload_n (i := 2) dX3_shiftDown_16 rfl rfl ?_
      refine aw_invokevirtual kX3_39 dX3_shiftDown_17 (nu_o ha) (ct_X3_word n h L C a s i G' w ha hsa hG' (by omega)) rfl rfl (Nat.le_of_ble_eq_true rfl) ⟨Nat.le_of_ble_eq_true rfl, Nat.le_of_ble_eq_true rfl⟩ ⟨Nat.le_of_ble_eq_true rfl, Nat.le_of_ble_eq_true rfl⟩ ?_
      rintro _ _ _ ⟨rfl, rfl, rfl⟩
      refine aw_aload_n (i := 0) dX3_shiftDown_20 rfl rfl ?_
      refine aw_iload_n (i := 2) dX3_shiftDown_21 rfl rfl ?_
      refine aw_iconst (v := 1) dX3_shiftDown_22 (by decide +kernel) ?_
      refine aw_iadd dX3_shiftDown_23 ?_
      rw [nI_1]
      refine aw_invokevirtual kX3_39 dX3_shiftDown_24 (nu_o ha) (ct_X3_word n h L C a s (i + 1) G' w ha hsa hG' (by omega)) rfl rfl (Nat.le_of_ble_eq_true rfl) ⟨Nat.le_of_ble_eq_true rfl, Nat.le_of_ble_eq_true rfl⟩ ⟨Nat.le_of_ble_eq_true rfl, Nat.le_of_ble_eq_true rfl⟩ ?_
      rintro _ _ _ ⟨rfl, rfl, rfl⟩
      rw [e0, e1]
      refine aw_bipush (v := 32) dX3_shiftDown_27 (by decide +kernel) ?_
      refine aw_lshl dX3_shiftDown_29 rfl ?_
      rw [shl32]
      refine aw_lor dX3_shiftDown_30 ?_
      rw [lN_or hwl, tp]
      refine aw_iload_n (i := 1) dX3_shiftDown_31 rfl rfl ?_
      refine aw_lushr dX3_shiftDown_32 rfl ?_
      rw [lN_ushr (Nat.mod_lt _ (by decide)) (show R < 64 by omega)]
      refine aw_l2i dX3_shiftDown_33 rfl ?_
      rw [lN_l2i]
      refine aw_iast dX3_shiftDown_34 i _ rfl (nu_a w ha) (nI_toInt (by omega)) (by omega) ?_
      refine AW.hp (nu_upa w ha) ?_
      refine aw_iinc_2 (c0 := 1) dX3_shiftDown_35 (by decide) (by decide) rfl ?_
      refine aw_goto (tgt := 2) dX3_shiftDown_38 (by decide) ?_
      rw [nI_1]
      refine ih (i + 1) _ (by omega) (raw_up (s := 0) hG' (Nat.mod_lt _ (by decide))) (fun k hk => by rw [va_up_off (by omega)]; exact hR2 k (by omega)) (fun k hk => ?_)
      by_cases hki : k = i
      · rw [hki, va_up_at]
        have e2 : u / 2 ^ R / (2 ^ 32) ^ i = u / (2 ^ 32) ^ i / 2 ^ R := by rw [Nat.div_div_eq_div_mul, Nat.div_div_eq_div_mul, Nat.mul_comm]
        rw [e2]
        generalize u / (2 ^ 32) ^ i = x
        have e3 : (2 : Nat) ^ 64 = 2 ^ R * 2 ^ (64 - R) := by rw [← Nat.pow_add]; congr 1; omega
        rw [e3, Nat.mod_mul_right_div_self, Nat.mod_mod_of_dvd _ (Nat.pow_dvd_pow 2 (by omega))]
      · rw [va_up_off hki]; exact hd k (by omega)
  exact loop s 0 G (by omega) hg (fun _ _ => rfl) (fun k hk => by omega)
theorem ct_X3_window (n : Nat) (h : Hp) (L : Nat → Nat) (C : NC) (a u sh : Nat) (w : LW L) (ha : L a ≠ 0) (hu : raw (L a) (C a) u) (hsh : sh < 2304) (hw : u / 2 ^ sh < 2 ^ 63) : CT mX3_window 0 0 n (nh h L C) [.ref a, .int (nI sh)] (plong n (nh h L C) (lN (u / 2 ^ sh))) := by
  refine CT.intro [some (.ref a), some (.int (nI sh)), none, none, none, none] 4 rfl rfl (by decide) ?_
  intro Q hQ
  have hla := (w a).1
  have hr2 : sh % 32 < 32 := Nat.mod_lt _ (by decide)
  have hsum : sh = 32 * (sh / 32) + sh % 32 := by omega
  have e0 : u / 2 ^ sh = u / (2 ^ 32) ^ (sh / 32) / 2 ^ (sh % 32) := by rw [Nat.div_div_eq_div_mul, p32, ← Nat.pow_add, ← hsum]
  rw [e0] at hw hQ
  refine aw_iload_n (i := 1) dX3_window_0 rfl rfl ?_
  refine aw_iconst (v := 5) dX3_window_1 (by decide +kernel) ?_
  refine aw_ishr dX3_window_2 ?_
  rw [ishr5 (by omega)]
  refine aw_istore_2 dX3_window_3 (by decide) rfl ?_
  refine aw_iload_n (i := 1) dX3_window_4 rfl rfl ?_
  refine aw_bipush (v := 31) dX3_window_5 (by decide +kernel) ?_
  refine aw_iand dX3_window_7 ?_
  rw [iand31 (by omega)]
  generalize sh / 32 = i at *
  generalize sh % 32 = R at *
  have tp := two_parts hu i
  have hwl := wd_lt hu i
  have hRp := Nat.two_pow_pos R
  refine aw_istore_3 dX3_window_8 (by decide) rfl ?_
  refine aw_aload_n (i := 0) dX3_window_9 rfl rfl ?_
  refine aw_iload_n (i := 2) dX3_window_10 rfl rfl ?_
  refine aw_invokevirtual kX3_39 dX3_window_11 (nh_o h C ha) (nc_word n h L C a i u w ha hu (by omega)) rfl rfl (Nat.le_of_ble_eq_true rfl) ⟨Nat.le_of_ble_eq_true rfl, Nat.le_of_ble_eq_true rfl⟩ ⟨Nat.le_of_ble_eq_true rfl, Nat.le_of_ble_eq_true rfl⟩ ?_
  rintro _ _ _ ⟨rfl, rfl, rfl⟩
  refine aw_aload_n (i := 0) dX3_window_14 rfl rfl ?_
  refine aw_iload_n (i := 2) dX3_window_15 rfl rfl ?_
  refine aw_iconst (v := 1) dX3_window_16 (by decide +kernel) ?_
  refine aw_iadd dX3_window_17 ?_
  rw [nI_1]
  refine aw_invokevirtual kX3_39 dX3_window_18 (nh_o h C ha) (nc_word n h L C a (i + 1) u w ha hu (by omega)) rfl rfl (Nat.le_of_ble_eq_true rfl) ⟨Nat.le_of_ble_eq_true rfl, Nat.le_of_ble_eq_true rfl⟩ ⟨Nat.le_of_ble_eq_true rfl, Nat.le_of_ble_eq_true rfl⟩ ?_
  rintro _ _ _ ⟨rfl, rfl, rfl⟩
  refine aw_bipush (v := 32) dX3_window_21 (by decide +kernel) ?_
  refine aw_lshl dX3_window_23 rfl ?_
  rw [shl32]
  refine aw_lor dX3_window_24 ?_
  rw [lN_or hwl, tp]
  refine aw_iload_n (i := 3) dX3_window_25 rfl rfl ?_
  refine aw_lushr dX3_window_26 rfl ?_
  rw [lN_ushr (Nat.mod_lt _ (by decide)) (show R < 64 by omega)]
  refine aw_lstore_4 dX3_window_27 (by decide) rfl ?_
  refine aw_iload_n (i := 3) dX3_window_29 rfl rfl ?_
  have e2 : wd (C a) (i + 2) = u / (2 ^ 32) ^ i / 2 ^ 64 % 2 ^ 32 := by
    have q : ((2 : Nat) ^ 32) ^ (i + 2) = (2 ^ 32) ^ i * 2 ^ 64 := by rw [p32, p32, ← Nat.pow_add]; congr 1
    rw [wd_eq hu, q, Nat.div_div_eq_div_mul]
  generalize u / (2 ^ 32) ^ i = x at *
  by_cases hR0 : R = 0
  · subst hR0
    refine aw_if_ne (tgt := 38) dX3_window_30 (by decide) (fun c => absurd c (fun c => c rfl)) (fun _ => ?_)
    refine aw_lload dX3_window_33 rfl ?_
    refine aw_goto (tgt := 53) dX3_window_35 (by decide) ?_
    refine aw_lreturn dX3_window_53 rfl (Nat.le_of_ble_eq_true rfl) (Nat.le_of_ble_eq_true rfl) ?_
    refine hQ _ _ _ ⟨?_, rfl, rfl⟩
    rw [Nat.pow_zero, Nat.div_one] at hw ⊢
    rw [Nat.div_one, Nat.mod_eq_of_lt (by omega)]
  · refine aw_if_ne (tgt := 38) dX3_window_30 (by decide) (fun _ => ?_) (fun c => ((nI_ne0 (by omega) (by omega)) c).elim)
    refine aw_lload dX3_window_38 rfl ?_
    refine aw_aload_n (i := 0) dX3_window_40 rfl rfl ?_
    refine aw_iload_n (i := 2) dX3_window_41 rfl rfl ?_
    refine aw_iconst (v := 2) dX3_window_42 (by decide +kernel) ?_
    refine aw_iadd dX3_window_43 ?_
    rw [show nI i + 2 = nI (i + 2) from nI_add i 2]
    refine aw_invokevirtual kX3_39 dX3_window_44 (nh_o h C ha) (nc_word n h L C a (i + 2) u w ha hu (by omega)) rfl rfl (Nat.le_of_ble_eq_true rfl) ⟨Nat.le_of_ble_eq_true rfl, Nat.le_of_ble_eq_true rfl⟩ ⟨Nat.le_of_ble_eq_true rfl, Nat.le_of_ble_eq_true rfl⟩ ?_
    rintro _ _ _ ⟨rfl, rfl, rfl⟩
    refine aw_bipush (v := 64) dX3_window_47 (by decide +kernel) ?_
    refine aw_iload_n (i := 3) dX3_window_49 rfl rfl ?_
    refine aw_isub dX3_window_50 ?_
    rw [show (64 : Int32) - nI R = nI (64 - R) from pk_sub (a := 64) (b := R) (by omega)]
    refine aw_lshl dX3_window_51 rfl ?_
    rw [lshlN _ (show 64 - R < 64 by omega)]
    refine aw_lor dX3_window_52 ?_
    have e3 : (2 : Nat) ^ 64 = 2 ^ R * 2 ^ (64 - R) := by rw [← Nat.pow_add]; congr 1; omega
    have e4 : x % 2 ^ 64 / 2 ^ R = x / 2 ^ R % 2 ^ (64 - R) := by rw [e3, Nat.mod_mul_right_div_self]
    rw [e4, lN_or (Nat.mod_lt _ (Nat.two_pow_pos _))]
    refine aw_lreturn dX3_window_53 rfl (Nat.le_of_ble_eq_true rfl) (Nat.le_of_ble_eq_true rfl) ?_
    refine hQ _ _ _ ⟨?_, rfl, rfl⟩
    congr 3
    rw [e2]
    have e5 : x / 2 ^ 64 = x / 2 ^ R / 2 ^ (64 - R) := by rw [Nat.div_div_eq_div_mul, ← e3]
    have e6 : x / 2 ^ 64 < 2 ^ 32 := by
      rw [e5]
      have h7 : x / 2 ^ R / 2 ^ (64 - R) ≤ x / 2 ^ R / 2 ^ 32 := Nat.div_le_div_left (Nat.pow_le_pow_right (by decide) (by omega)) (by decide)
      omega
    rw [Nat.mod_eq_of_lt e6, e5]
    have := Nat.mod_add_div (x / 2 ^ R) (2 ^ (64 - R))
    rw [Nat.mul_comm] at this
    exact this
