theorem lN_low (c : Nat) : lN c &&& 4294967295 = lN (c % 2 ^ 32) := by
  have e2 : (4294967295 : Int64) = lI (2 ^ 32 - 1) := by decide +kernel
  rw [e2, lI_N, lI_and 32 (by decide), lI_N]
  norm_cast
theorem sb_long0 {g x : Nat} (hg : g < 2 ^ 32) (hx : x < 2 ^ 32) : lN g - lN x = lI ((sbY g x 0 : Int) - (sbB g x 0 : Int) * 2 ^ 32) := by
  have := (sb_eq hg hx (Nat.zero_le 1)).1
  rw [lI_N, lI_N, lI_sub]
  congr 1
  omega
theorem sb_sgn {y b : Nat} (hy : y < 2 ^ 32) (hb : b ≤ 1) : 0 ≤ lg_cmp (lI ((y : Int) - (b : Int) * 2 ^ 32)) 0 ↔ b = 0 := by
  rw [lg_cmp_ge, show (0 : Int64) = lI 0 from rfl, lI_le (by decide) (by decide) (by omega) (by omega)]
  omega
/-- a stretch of parts -/
noncomputable def sgm (g : Nat → Nat) (at' m : Nat) : Nat := bv (2 ^ 32) (fun k => g (at' + k)) m
theorem sgm_s (g : Nat → Nat) (at' m : Nat) : sgm g at' (m + 1) = sgm g at' m + g (at' + m) * (2 ^ 32) ^ m := bv_s _ _ _
theorem sgm_0 (g : Nat → Nat) (at' : Nat) : sgm g at' 0 = 0 := bv_0 _ _
theorem sgm_up {g : Nat → Nat} {at' m j x : Nat} (h : m ≤ j) : sgm (va_up g (at' + j) x) at' m = sgm g at' m := bv_congr (fun k hk => va_up_off (by omega))
theorem sgm_congr {g g' : Nat → Nat} {at' m : Nat} (h : ∀ k, k < m → g (at' + k) = g' (at' + k)) : sgm g at' m = sgm g' at' m := bv_congr h
theorem sgm_lt {g : Nat → Nat} {at' m l : Nat} (hl : at' + m ≤ l) (h : ∀ i, i < l → g i < 2 ^ 32) : sgm g at' m < (2 ^ 32) ^ m := bv_lt (fun k hk => h _ (by omega))
theorem ct_X0_takeAway (n : Nat) (h : Hp) (L : Nat → Nat) (C : NC) (D q V R H W s at' dv gs : Nat) (g : Nat → Nat) (a b c d : Int64) (w : LW L) (hD : h D = some (dobj q V R H W a b c d)) (hLD : L D = 0) (hLD1 : L (D - 1) = 0) (hV : L V ≠ 0) (hR : L R ≠ 0) (hVR : V ≠ R) (hv : num (L V) (C V) dv) (hs : s ≤ L R) (hg : ∀ i, i < L R → g i < 2 ^ 32) (hat : at' + (C V).1 < s) (hgs : gs < 2 ^ 32) : CT mX0_takeAway 0 0 n (nu h L C R s g) [.ref D, .int (nI at'), .long (lN gs)] (fun z n' h' => n = n' ∧ ∃ g' bb, h' = nu h L C R s g' ∧ bb ≤ 1 ∧ z = some (.int (bI (decide (bb = 1)))) ∧ (∀ i, i < L R → g' i < 2 ^ 32) ∧ (∀ k, k < at' ∨ at' + (C V).1 < k → g' k = g k) ∧ sgm g' at' ((C V).1 + 1) + gs * dv = sgm g at' ((C V).1 + 1) + bb * (2 ^ 32) ^ ((C V).1 + 1)) := by
  refine CT.intro [some (.ref D), some (.int (nI at')), some (.long (lN gs)), none, none, none, none, none, none, none] 6 rfl rfl (by decide) ?_
  intro Q hQ
  have hlV := (w V).1
  have hlR := (w R).1
  have hsV := hv.1.1
  have hDn : ∀ {g : Nat → Nat}, nu h L C R s g D = some (dobj q V R H W a b c d) := by intro g; unfold nu; rw [nh_no h _ hLD hLD1]; exact hD
  have nVo : ∀ {g : Nat → Nat}, nu h L C R s g V = some (nobj V (C V).1) := by intro g; exact nu_x hV hVR
  have wV : ∀ (g : Nat → Nat) i, i < 2 ^ 31 → CT mX3_word 0 0 n (nu h L C R s g) [.ref V, .int (nI i)] (plong n (nu h L C R s g) (lN (wd (C V) i))) := fun g i hi => nu_word n h L C R V s i dv g w hV hVR hv.1 hi
  have hwl := fun i => wd_lt hv.1 i
  have hwv := bv_wd hv.1 (Nat.le_refl _)
  generalize (C V).1 = m at *
  generalize wd (C V) = y at *
  refine aw_aload_n (i := 0) dX0_takeAway_0 rfl rfl ?_
  refine aw_getfield fX0_20 dX0_takeAway_1 hDn rfl ?_
  refine aw_getfield fX0_72 dX0_takeAway_4 nVo rfl ?_
  refine aw_istore_4 dX0_takeAway_7 (by decide) rfl ?_
  refine aw_iload_n (i := 1) dX0_takeAway_9 rfl rfl ?_
  refine aw_if_lt (tgt := 27) dX0_takeAway_10 (by decide) (fun c => absurd c (nI_pos (by omega))) (fun _ => ?_)
  refine aw_iload_n (i := 1) dX0_takeAway_13 rfl rfl ?_
  refine aw_iload dX0_takeAway_14 rfl ?_
  refine aw_iadd dX0_takeAway_16 ?_
  refine aw_aload_n (i := 0) dX0_takeAway_17 rfl rfl ?_
  refine aw_getfield fX0_23 dX0_takeAway_18 hDn rfl ?_
  refine aw_getfield fX0_72 dX0_takeAway_21 (nu_o hR) rfl ?_
  rw [nI_add]
  refine aw_icmp_lt (tgt := 29) dX0_takeAway_24 (by decide) (fun _ => ?_) (fun c => (c (nI_lt hat (by omega))).elim)
  refine aw_lconst (v := 0) dX0_takeAway_29 (by decide) ?_
  refine aw_lstore_5 dX0_takeAway_30 (by decide) rfl ?_
  refine aw_iconst (v := 0) dX0_takeAway_32 (by decide +kernel) ?_
  refine aw_istore_7 dX0_takeAway_33 (by decide) rfl ?_
  have loop : ∀ (j i : Nat) (g' : Nat → Nat) (x : Nat) (y8 : Option Value), i + j = m → (∀ k, k < L R → g' k < 2 ^ 32) → (∀ k, k < at' ∨ at' + i ≤ k → g' k = g k) → x ≤ 2 ^ 32 → sgm g' at' i + gs * bv (2 ^ 32) y i = sgm g at' i + x * (2 ^ 32) ^ i → AW mX0_takeAway (gq 0 0 Q) 35 [some (.ref D), some (.int (nI at')), some (.long (lN gs)), none, some (.int (nI m)), some (.long (lN x)), none, some (.int (nI i)), y8, none] [] 0 0 n (nu h L C R s g') := by
    intro j
    induction j with
    | zero =>
      intro i g' x y8 hi h1 h2 hx hb
      obtain rfl : i = m := by omega
      have d1 := h1 (at' + i) (by omega)
      rw [hwv] at hb
      refine aw_iload dX0_takeAway_35 rfl ?_
      refine aw_iload dX0_takeAway_37 rfl ?_
      refine aw_icmp_ge (tgt := 126) dX0_takeAway_39 (by decide) (fun _ => ?_) (fun c => (c (nI_le (Nat.le_refl _) (by omega))).elim)
      refine aw_aload_n (i := 0) dX0_takeAway_126 rfl rfl ?_
      refine aw_getfield fX0_23 dX0_takeAway_127 hDn rfl ?_
      refine aw_getfield fX0_84 dX0_takeAway_130 (nu_o hR) rfl ?_
      refine aw_iload_n (i := 1) dX0_takeAway_133 rfl rfl ?_
      refine aw_iload dX0_takeAway_134 rfl ?_
      refine aw_iadd dX0_takeAway_136 ?_
      rw [nI_add]
      refine aw_iald dX0_takeAway_137 (at' + i) (nu_a w hR) (nI_toInt (by omega)) (by omega) ?_
      refine aw_i2l dX0_takeAway_138 rfl ?_
      refine aw_ldc2_w qX0_111 dX0_takeAway_139 ?_
      refine aw_land dX0_takeAway_142 ?_
      rw [lo32 d1]
      refine aw_lload dX0_takeAway_143 rfl ?_
      refine aw_lsub dX0_takeAway_145 ?_
      rw [show lN (g' (at' + i)) - lN x = lI ((g' (at' + i) : Int) - (x : Int)) by rw [lI_N, lI_N, lI_sub]]
      refine aw_lstore_7 dX0_takeAway_146 (by decide) rfl ?_
      refine aw_aload_n (i := 0) dX0_takeAway_148 rfl rfl ?_
      refine aw_getfield fX0_23 dX0_takeAway_149 hDn rfl ?_
      refine aw_getfield fX0_84 dX0_takeAway_152 (nu_o hR) rfl ?_
      refine aw_iload_n (i := 1) dX0_takeAway_155 rfl rfl ?_
      refine aw_iload dX0_takeAway_156 rfl ?_
      refine aw_iadd dX0_takeAway_158 ?_
      rw [nI_add]
      refine aw_lload dX0_takeAway_159 rfl ?_
      refine aw_l2i dX0_takeAway_161 rfl ?_
      have e1 : (lI ((g' (at' + i) : Int) - (x : Int))).toInt32 = nI (((g' (at' + i) : Int) - (x : Int)) % 2 ^ 32).toNat := by
        rw [lI_i, iI_mod, iI_N]
        congr 1
        omega
      rw [e1]
      refine aw_iast dX0_takeAway_162 (at' + i) _ rfl (nu_a w hR) (nI_toInt (by omega)) (by omega) ?_
      refine AW.hp (nu_upa w hR) ?_
      refine aw_lload dX0_takeAway_163 rfl ?_
      refine aw_lconst (v := 0) dX0_takeAway_165 (by decide) ?_
      refine aw_lcmp dX0_takeAway_166 ?_
      have hdl : (((g' (at' + i) : Int) - (x : Int)) % 2 ^ 32).toNat < 2 ^ 32 := by omega
      have e2 : sgm (va_up g' (at' + i) (((g' (at' + i) : Int) - (x : Int)) % 2 ^ 32).toNat) at' i = sgm g' at' i := sgm_up (Nat.le_refl _)
      have hk : ∀ k, k < at' ∨ at' + i < k → va_up g' (at' + i) (((g' (at' + i) : Int) - (x : Int)) % 2 ^ 32).toNat k = g k := fun k hk => by rw [va_up_off (by omega)]; exact h2 k (by omega)
      have gg : g' (at' + i) = g (at' + i) := h2 _ (by omega)
      by_cases hneg : x ≤ g' (at' + i)
      · refine aw_if_ge (tgt := 174) dX0_takeAway_167 (by decide) (fun _ => ?_) (fun c => (c (by rw [lg_cmp_ge, show (0 : Int64) = lI 0 from rfl, lI_le (by decide) (by decide) (by omega) (by omega)]; omega)).elim)
        refine aw_iconst (v := 0) dX0_takeAway_174 (by decide +kernel) ?_
        refine aw_ireturn dX0_takeAway_175 rfl rfl (Nat.le_of_ble_eq_true rfl) (Nat.le_of_ble_eq_true rfl) ?_
        refine hQ _ _ _ ⟨rfl, _, 0, rfl, by decide, rfl, raw_up (s := 0) h1 hdl, hk, ?_⟩
        rw [sgm_s, sgm_s, e2, va_up_at, Nat.zero_mul, Nat.add_zero, ← gg]
        have e3 : (((g' (at' + i) : Int) - (x : Int)) % 2 ^ 32).toNat = g' (at' + i) - x := by omega
        rw [e3, Nat.sub_mul]
        have : x * (2 ^ 32) ^ i ≤ g' (at' + i) * (2 ^ 32) ^ i := Nat.mul_le_mul_right _ hneg
        omega
      · refine aw_if_ge (tgt := 174) dX0_takeAway_167 (by decide) (fun c => absurd c (by rw [lg_cmp_ge, show (0 : Int64) = lI 0 from rfl, lI_le (by decide) (by decide) (by omega) (by omega)]; omega)) (fun _ => ?_)
        refine aw_iconst (v := 1) dX0_takeAway_170 (by decide +kernel) ?_
        refine aw_goto (tgt := 175) dX0_takeAway_171 (by decide) ?_
        refine aw_ireturn dX0_takeAway_175 rfl rfl (Nat.le_of_ble_eq_true rfl) (Nat.le_of_ble_eq_true rfl) ?_
        refine hQ _ _ _ ⟨rfl, _, 1, rfl, by decide, rfl, raw_up (s := 0) h1 hdl, hk, ?_⟩
        rw [sgm_s, sgm_s, e2, va_up_at, Nat.one_mul, ← gg, p32s]
        have e3 : (((g' (at' + i) : Int) - (x : Int)) % 2 ^ 32).toNat = g' (at' + i) + 2 ^ 32 - x := by omega
        rw [e3, Nat.sub_mul, Nat.add_mul, Nat.mul_comm (2 ^ 32) ((2 ^ 32) ^ i)]
        have : x * (2 ^ 32) ^ i ≤ (2 ^ 32) ^ i * 2 ^ 32 := by rw [Nat.mul_comm]; exact Nat.mul_le_mul_left _ hx
        omega
    | succ j ih =>
      intro i g' x y8 hi h1 h2 hx hb
      have d1 := h1 (at' + i) (by omega)
      have dy := hwl i
      have hyx : y i * gs ≤ (2 ^ 32 - 1) * (2 ^ 32 - 1) := Nat.mul_le_mul (by omega) (by omega)
      refine aw_iload dX0_takeAway_35 rfl ?_
      refine aw_iload dX0_takeAway_37 rfl ?_
      refine aw_icmp_ge (tgt := 126) dX0_takeAway_39 (by decide) (fun c => absurd c (nI_ge (by omega) (by omega))) (fun _ => ?_)
      refine aw_lload dX0_takeAway_42 rfl ?_
      refine aw_aload_n (i := 0) dX0_takeAway_44 rfl rfl ?_
      refine aw_getfield fX0_20 dX0_takeAway_45 hDn rfl ?_
      refine aw_iload dX0_takeAway_48 rfl ?_
      refine aw_invokevirtual kX0_108 dX0_takeAway_50 nVo (wV g' i (by omega)) rfl rfl (Nat.le_of_ble_eq_true rfl) ⟨Nat.le_of_ble_eq_true rfl, Nat.le_of_ble_eq_true rfl⟩ ⟨Nat.le_of_ble_eq_true rfl, Nat.le_of_ble_eq_true rfl⟩ ?_
      rintro _ _ _ ⟨rfl, rfl, rfl⟩
      refine aw_lload_n (i := 2) dX0_takeAway_53 rfl rfl ?_
      refine aw_lmul dX0_takeAway_54 ?_
      refine aw_ladd dX0_takeAway_55 ?_
      rw [lN_mul, lN_add]
      generalize hy : x + y i * gs = yy
      have hyl : yy < 2 ^ 64 := by omega
      refine aw_lstore_5 dX0_takeAway_56 (by decide) rfl ?_
      refine aw_aload_n (i := 0) dX0_takeAway_58 rfl rfl ?_
      refine aw_getfield fX0_23 dX0_takeAway_59 hDn rfl ?_
      refine aw_getfield fX0_84 dX0_takeAway_62 (nu_o hR) rfl ?_
      refine aw_iload_n (i := 1) dX0_takeAway_65 rfl rfl ?_
      refine aw_iload dX0_takeAway_66 rfl ?_
      refine aw_iadd dX0_takeAway_68 ?_
      rw [nI_add]
      refine aw_iald dX0_takeAway_69 (at' + i) (nu_a w hR) (nI_toInt (by omega)) (by omega) ?_
      refine aw_i2l dX0_takeAway_70 rfl ?_
      refine aw_ldc2_w qX0_111 dX0_takeAway_71 ?_
      refine aw_land dX0_takeAway_74 ?_
      rw [lo32 d1]
      refine aw_lload dX0_takeAway_75 rfl ?_
      refine aw_ldc2_w qX0_111 dX0_takeAway_77 ?_
      refine aw_land dX0_takeAway_80 ?_
      rw [lN_low]
      have hml : yy % 2 ^ 32 < 2 ^ 32 := Nat.mod_lt _ (by decide)
      obtain ⟨s1, s2, s3⟩ := sb_eq d1 hml (Nat.zero_le 1)
      refine aw_lsub dX0_takeAway_81 ?_
      rw [sb_long0 d1 hml]
      refine aw_lstore_8 dX0_takeAway_82 (by decide) rfl ?_
      refine aw_aload_n (i := 0) dX0_takeAway_84 rfl rfl ?_
      refine aw_getfield fX0_23 dX0_takeAway_85 hDn rfl ?_
      refine aw_getfield fX0_84 dX0_takeAway_88 (nu_o hR) rfl ?_
      refine aw_iload_n (i := 1) dX0_takeAway_91 rfl rfl ?_
      refine aw_iload dX0_takeAway_92 rfl ?_
      refine aw_iadd dX0_takeAway_94 ?_
      rw [nI_add]
      refine aw_lload dX0_takeAway_95 rfl ?_
      refine aw_l2i dX0_takeAway_97 rfl ?_
      rw [sb_int s2]
      refine aw_iast dX0_takeAway_98 (at' + i) _ rfl (nu_a w hR) (nI_toInt (by omega)) (by omega) ?_
      refine AW.hp (nu_upa w hR) ?_
      refine aw_lload dX0_takeAway_99 rfl ?_
      refine aw_bipush (v := 32) dX0_takeAway_101 (by decide +kernel) ?_
      refine aw_lushr dX0_takeAway_103 rfl ?_
      rw [lN_u32 hyl]
      refine aw_lload dX0_takeAway_104 rfl ?_
      refine aw_lconst (v := 0) dX0_takeAway_106 (by decide) ?_
      refine aw_lcmp dX0_takeAway_107 ?_
      have fin : ∀ (y8 : Option Value), AW mX0_takeAway (gq 0 0 Q) 118 [some (.ref D), some (.int (nI at')), some (.long (lN gs)), none, some (.int (nI m)), some (.long (lN yy)), none, some (.int (nI i)), y8, none] [.long (lN (yy / 2 ^ 32 + sbB (g' (at' + i)) (yy % 2 ^ 32) 0))] 0 0 n (nu h L C R s (va_up g' (at' + i) (sbY (g' (at' + i)) (yy % 2 ^ 32) 0))) := by
        intro y8
        refine aw_lstore_5 dX0_takeAway_118 (by decide) rfl ?_
        refine aw_iinc_7 (c0 := 1) dX0_takeAway_120 (by decide) (by decide) rfl ?_
        refine aw_goto (tgt := 35) dX0_takeAway_123 (by decide) ?_
        rw [nI_1]
        refine ih (i + 1) _ _ _ (by omega) (raw_up (s := 0) h1 s2) (fun k hk => by rw [va_up_off (by omega)]; exact h2 k (by omega)) (by omega) ?_
        rw [sgm_s, sgm_s, bv_s, va_up_at, sgm_up (Nat.le_refl _), p32s, ← h2 (at' + i) (by omega), Nat.mul_add]
        generalize sbY (g' (at' + i)) (yy % 2 ^ 32) 0 = Y at *
        generalize sbB (g' (at' + i)) (yy % 2 ^ 32) 0 = Z at *
        have e1 : Y + yy = g' (at' + i) + (yy / 2 ^ 32 + Z) * 2 ^ 32 := by rw [Nat.add_mul]; omega
        have e2 : (Y + yy) * (2 ^ 32) ^ i = (g' (at' + i) + (yy / 2 ^ 32 + Z) * 2 ^ 32) * (2 ^ 32) ^ i := by rw [e1]
        rw [Nat.add_mul Y yy, Nat.add_mul (g' (at' + i)), ← hy, Nat.add_mul x] at e2
        rw [hy] at e2
        have e3 : (yy / 2 ^ 32 + Z) * ((2 ^ 32) ^ i * 2 ^ 32) = (yy / 2 ^ 32 + Z) * 2 ^ 32 * (2 ^ 32) ^ i := by ac_rfl
        have e4 : gs * (y i * (2 ^ 32) ^ i) = y i * gs * (2 ^ 32) ^ i := by ac_rfl
        omega
      by_cases hz : sbB (g' (at' + i)) (yy % 2 ^ 32) 0 = 0
      · refine aw_if_ge (tgt := 115) dX0_takeAway_108 (by decide) (fun _ => ?_) (fun c => (c ((sb_sgn s2 s3).mpr hz)).elim)
        refine aw_iconst (v := 0) dX0_takeAway_115 (by decide +kernel) ?_
        refine aw_i2l dX0_takeAway_116 rfl ?_
        refine aw_ladd dX0_takeAway_117 ?_
        have := fin (some (.long (lI ((sbY (g' (at' + i)) (yy % 2 ^ 32) 0 : Int) - (sbB (g' (at' + i)) (yy % 2 ^ 32) 0 : Int) * 2 ^ 32))))
        rw [hz, Nat.add_zero] at this
        rw [hz, show (0 : Int32).toInt64 = lN 0 by decide +kernel, lN_add, Nat.add_zero]
        exact this
      · refine aw_if_ge (tgt := 115) dX0_takeAway_108 (by decide) (fun c => absurd c (fun e => hz ((sb_sgn s2 s3).mp e))) (fun _ => ?_)
        refine aw_iconst (v := 1) dX0_takeAway_111 (by decide +kernel) ?_
        refine aw_goto (tgt := 116) dX0_takeAway_112 (by decide) ?_
        refine aw_i2l dX0_takeAway_116 rfl ?_
        refine aw_ladd dX0_takeAway_117 ?_
        have := fin (some (.long (lI ((sbY (g' (at' + i)) (yy % 2 ^ 32) 0 : Int) - (sbB (g' (at' + i)) (yy % 2 ^ 32) 0 : Int) * 2 ^ 32))))
        rw [show sbB (g' (at' + i)) (yy % 2 ^ 32) 0 = 1 by omega] at this
        rw [show sbB (g' (at' + i)) (yy % 2 ^ 32) 0 = 1 by omega, show (1 : Int32).toInt64 = lN 1 by decide +kernel, lN_add]
        exact this
  refine AW.forget [some (.ref D), some (.int (nI at')), some (.long (lN gs)), none, some (.int (nI m)), some (.long (lN 0)), none, some (.int (nI 0)), none, none] ⟨rfl, rfl, rfl, rfl, rfl, rfl, trivial⟩ ?_
  exact loop m 0 g 0 none (by omega) hg (fun _ _ => rfl) (by decide) (by simp [sgm_0, bv_0])
theorem ct_X0_giveBack (n : Nat) (h : Hp) (L : Nat → Nat) (C : NC) (D q V R H W s at' dv : Nat) (g : Nat → Nat) (a b c d : Int64) (w : LW L) (hD : h D = some (dobj q V R H W a b c d)) (hLD : L D = 0) (hLD1 : L (D - 1) = 0) (hV : L V ≠ 0) (hR : L R ≠ 0) (hVR : V ≠ R) (hv : num (L V) (C V) dv) (hs : s ≤ L R) (hg : ∀ i, i < L R → g i < 2 ^ 32) (hat : at' + (C V).1 < s) : CT mX0_giveBack 0 0 n (nu h L C R s g) [.ref D, .int (nI at')] (fun z n' h' => n = n' ∧ z = none ∧ ∃ g' x, h' = nu h L C R s g' ∧ x ≤ 1 ∧ (∀ i, i < L R → g' i < 2 ^ 32) ∧ (∀ k, k < at' ∨ at' + (C V).1 < k → g' k = g k) ∧ sgm g' at' ((C V).1 + 1) + x * (2 ^ 32) ^ ((C V).1 + 1) = sgm g at' ((C V).1 + 1) + dv) := by
  refine CT.intro [some (.ref D), some (.int (nI at')), none, none, none, none] 4 rfl rfl (by decide) ?_
  intro Q hQ
  have hlV := (w V).1
  have hlR := (w R).1
  have hsV := hv.1.1
  have hDn : ∀ {g : Nat → Nat}, nu h L C R s g D = some (dobj q V R H W a b c d) := by intro g; unfold nu; rw [nh_no h _ hLD hLD1]; exact hD
  have nVo : ∀ {g : Nat → Nat}, nu h L C R s g V = some (nobj V (C V).1) := by intro g; exact nu_x hV hVR
  have wV : ∀ (g : Nat → Nat) i, i < 2 ^ 31 → CT mX3_word 0 0 n (nu h L C R s g) [.ref V, .int (nI i)] (plong n (nu h L C R s g) (lN (wd (C V) i))) := fun g i hi => nu_word n h L C R V s i dv g w hV hVR hv.1 hi
  have hwl := fun i => wd_lt hv.1 i
  have hwv := bv_wd hv.1 (k := (C V).1 + 1) (by omega)
  generalize (C V).1 = m at *
  generalize wd (C V) = y at *
  refine aw_aload_n (i := 0) dX0_giveBack_0 rfl rfl ?_
  refine aw_getfield fX0_20 dX0_giveBack_1 hDn rfl ?_
  refine aw_getfield fX0_72 dX0_giveBack_4 nVo rfl ?_
  refine aw_istore_2 dX0_giveBack_7 (by decide) rfl ?_
  refine aw_iload_n (i := 1) dX0_giveBack_8 rfl rfl ?_
  refine aw_if_lt (tgt := 25) dX0_giveBack_9 (by decide) (fun c => absurd c (nI_pos (by omega))) (fun _ => ?_)
  refine aw_iload_n (i := 1) dX0_giveBack_12 rfl rfl ?_
  refine aw_iload_n (i := 2) dX0_giveBack_13 rfl rfl ?_
  refine aw_iadd dX0_giveBack_14 ?_
  refine aw_aload_n (i := 0) dX0_giveBack_15 rfl rfl ?_
  refine aw_getfield fX0_23 dX0_giveBack_16 hDn rfl ?_
  refine aw_getfield fX0_72 dX0_giveBack_19 (nu_o hR) rfl ?_
  rw [nI_add]
  refine aw_icmp_lt (tgt := 26) dX0_giveBack_22 (by decide) (fun _ => ?_) (fun c => (c (nI_lt hat (by omega))).elim)
  refine aw_lconst (v := 0) dX0_giveBack_26 (by decide) ?_
  refine aw_lstore_3 dX0_giveBack_27 (by decide) rfl ?_
  refine aw_iconst (v := 0) dX0_giveBack_28 (by decide +kernel) ?_
  refine aw_istore_5 dX0_giveBack_29 (by decide) rfl ?_
  have loop : ∀ (j i : Nat) (g' : Nat → Nat) (x : Nat), i + j = m + 1 → (∀ k, k < L R → g' k < 2 ^ 32) → (∀ k, k < at' ∨ at' + i ≤ k → g' k = g k) → x ≤ 1 → sgm g' at' i + x * (2 ^ 32) ^ i = sgm g at' i + bv (2 ^ 32) y i → AW mX0_giveBack (gq 0 0 Q) 31 [some (.ref D), some (.int (nI at')), some (.int (nI m)), some (.long (lN x)), none, some (.int (nI i))] [] 0 0 n (nu h L C R s g') := by
    intro j
    induction j with
    | zero =>
      intro i g' x hi h1 h2 hx hb
      obtain rfl : i = m + 1 := by omega
      rw [hwv] at hb
      refine aw_iload dX0_giveBack_31 rfl ?_
      refine aw_iload_n (i := 2) dX0_giveBack_33 rfl rfl ?_
      refine aw_icmp_gt (tgt := 92) dX0_giveBack_34 (by decide) (fun _ => ?_) (fun c => (c (nI_lt (by omega) (by omega))).elim)
      refine aw_return dX0_giveBack_92 rfl (Nat.le_of_ble_eq_true rfl) (Nat.le_of_ble_eq_true rfl) ?_
      exact hQ _ _ _ ⟨rfl, rfl, g', x, rfl, hx, h1, fun k hk => h2 k (by omega), hb⟩
    | succ j ih =>
      intro i g' x hi h1 h2 hx hb
      have d1 := h1 (at' + i) (by omega)
      have dy := hwl i
      refine aw_iload dX0_giveBack_31 rfl ?_
      refine aw_iload_n (i := 2) dX0_giveBack_33 rfl rfl ?_
      refine aw_icmp_gt (tgt := 92) dX0_giveBack_34 (by decide) (fun c => absurd c (nI_nlt (by omega) (by omega))) (fun _ => ?_)
      refine aw_lload_n (i := 3) dX0_giveBack_37 rfl rfl ?_
      refine aw_aload_n (i := 0) dX0_giveBack_38 rfl rfl ?_
      refine aw_getfield fX0_23 dX0_giveBack_39 hDn rfl ?_
      refine aw_getfield fX0_84 dX0_giveBack_42 (nu_o hR) rfl ?_
      refine aw_iload_n (i := 1) dX0_giveBack_45 rfl rfl ?_
      refine aw_iload dX0_giveBack_46 rfl ?_
      refine aw_iadd dX0_giveBack_48 ?_
      rw [nI_add]
      refine aw_iald dX0_giveBack_49 (at' + i) (nu_a w hR) (nI_toInt (by omega)) (by omega) ?_
      refine aw_i2l dX0_giveBack_50 rfl ?_
      refine aw_ldc2_w qX0_111 dX0_giveBack_51 ?_
      refine aw_land dX0_giveBack_54 ?_
      rw [lo32 d1]
      refine aw_aload_n (i := 0) dX0_giveBack_55 rfl rfl ?_
      refine aw_getfield fX0_20 dX0_giveBack_56 hDn rfl ?_
      refine aw_iload dX0_giveBack_59 rfl ?_
      refine aw_invokevirtual kX0_108 dX0_giveBack_61 nVo (wV g' i (by omega)) rfl rfl (Nat.le_of_ble_eq_true rfl) ⟨Nat.le_of_ble_eq_true rfl, Nat.le_of_ble_eq_true rfl⟩ ⟨Nat.le_of_ble_eq_true rfl, Nat.le_of_ble_eq_true rfl⟩ ?_
      rintro _ _ _ ⟨rfl, rfl, rfl⟩
      refine aw_ladd dX0_giveBack_64 ?_
      refine aw_ladd dX0_giveBack_65 ?_
      rw [lN_add, lN_add]
      generalize hy : x + (g' (at' + i) + y i) = yy
      refine aw_lstore_3 dX0_giveBack_66 (by decide) rfl ?_
      refine aw_aload_n (i := 0) dX0_giveBack_67 rfl rfl ?_
      refine aw_getfield fX0_23 dX0_giveBack_68 hDn rfl ?_
      refine aw_getfield fX0_84 dX0_giveBack_71 (nu_o hR) rfl ?_
      refine aw_iload_n (i := 1) dX0_giveBack_74 rfl rfl ?_
      refine aw_iload dX0_giveBack_75 rfl ?_
      refine aw_iadd dX0_giveBack_77 ?_
      rw [nI_add]
      refine aw_lload_n (i := 3) dX0_giveBack_78 rfl rfl ?_
      refine aw_l2i dX0_giveBack_79 rfl ?_
      rw [lN_l2i]
      refine aw_iast dX0_giveBack_80 (at' + i) _ rfl (nu_a w hR) (nI_toInt (by omega)) (by omega) ?_
      refine AW.hp (nu_upa w hR) ?_
      refine aw_lload_n (i := 3) dX0_giveBack_81 rfl rfl ?_
      refine aw_bipush (v := 32) dX0_giveBack_82 (by decide +kernel) ?_
      refine aw_lushr dX0_giveBack_84 rfl ?_
      rw [lN_u32 (by omega)]
      refine aw_lstore_3 dX0_giveBack_85 (by decide) rfl ?_
      refine aw_iinc_5 (c0 := 1) dX0_giveBack_86 (by decide) (by decide) rfl ?_
      refine aw_goto (tgt := 31) dX0_giveBack_89 (by decide) ?_
      rw [nI_1]
      refine ih (i + 1) _ _ (by omega) (raw_up (s := 0) h1 (Nat.mod_lt _ (by decide))) (fun k hk => by rw [va_up_off (by omega)]; exact h2 k (by omega)) (by omega) ?_
      have e2 := carry_step (B := 2 ^ 32) (P := (2 ^ 32) ^ i) (s := yy) rfl rfl
      rw [sgm_s, sgm_s, bv_s, va_up_at, sgm_up (Nat.le_refl _), p32s, ← h2 (at' + i) (by omega), Nat.add_assoc, e2, ← hy, Nat.add_mul, Nat.add_mul]
      omega
  refine AW.forget [some (.ref D), some (.int (nI at')), some (.int (nI m)), some (.long (lN 0)), none, some (.int (nI 0))] ⟨rfl, rfl, rfl, rfl, rfl, trivial⟩ ?_
  exact loop (m + 1) 0 g 0 (by omega) hg (fun _ _ => rfl) (by decide) (by simp [sgm_0, bv_0])
