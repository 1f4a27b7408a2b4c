theorem max0_sub {a b : Nat} (ha : a < 2 ^ 30) (hb : b < 2 ^ 30) : (if nI a - nI b < 0 then (0 : Int32) else nI a - nI b) = nI (a - b) := by
  by_cases h : b ≤ a
  · rw [nI_sb h, if_neg (nI_pos (by omega))]
  · have e : nI a - nI b = Int32.ofInt ((a : Int) - (b : Int)) := by rw [iI_N, iI_N]; exact (Int32.ofInt_sub _ _).symm
    have e2 : (nI a - nI b).toInt = (a : Int) - (b : Int) := by rw [e]; exact Int32.toInt_ofInt_of_le (by omega) (by omega)
    rw [if_pos (by rw [Int32.lt_iff_toInt_lt, e2]; show (a : Int) - (b : Int) < 0; omega), show a - b = 0 by omega]; rfl
theorem ct_X2_weigh (n : Nat) (hc : Hp) (N N0 : NC) (X j b : Nat) (S : TS) (h : CS hc N0 X S) (hI : SInv S) (hj : j < sN S) (hA : NA (LC X (sN S)) N) (h4 : 4 ≤ b) (hb : b ≤ 12) : CT mX2_weigh 0 0 n (nh hc (LC X (sN S)) N) [.ref (X + 23), .ref (sob X j + 2), .int (nI b), .ref (X + 6)] (npo n hc (LC X (sN S)) N (X + 6) 22 (wsm S j b)) := by
  refine CT.intro [some (.ref (X + 23)), some (.ref (sob X j + 2)), some (.int (nI b)), some (.ref (X + 6)), none] 1 rfl rfl (by decide) ?_
  intro Q hQ
  have W := LC_W X (sN S)
  obtain ⟨g, hR, hr⟩ := h.rw hj
  obtain ⟨-, ht, hp, hl⟩ := hI.2.1.2 j hj
  obtain ⟨w1, w8, -⟩ := wdt_b hp hl
  have l6 : LC X (sN S) (X + 6) = 72 := L72 rfl
  have z6 : LC X (sN S) (X + 6) ≠ 0 := by rw [l6]; decide
  have hw := wsm_lt hI hj h4 hb
  refine aw_aload_n (i := 3) dX2_weigh_0 rfl rfl ?_
  refine aw_invokevirtual kX2_40 dX2_weigh_1 (nh_o hc N z6) (cp_clear n hc (LC X (sN S)) N (X + 6) W hA z6) rfl rfl (Nat.le_of_ble_eq_true rfl) ⟨Nat.le_of_ble_eq_true rfl, Nat.le_of_ble_eq_true rfl⟩ ⟨Nat.le_of_ble_eq_true rfl, Nat.le_of_ble_eq_true rfl⟩ ?_
  rintro _ _ _ ⟨rfl, rfl, N1, rfl, v1, A1, f1⟩
  have loop : ∀ (m : Nat) (N' : NC), m ≤ sT S j + 1 → nv (LC X (sN S)) N' (X + 6) 22 (wq (sC S j) (sT S j) b (sT S j + 1 - m)) → NA (LC X (sN S)) N' → (∀ k, k ≠ X + 6 → N' k = N k) → AW mX2_weigh (gq 0 0 Q) 13 [some (.ref (X + 23)), some (.ref (sob X j + 2)), some (.int (nI b)), some (.ref (X + 6)), some (.int (pI m))] [] 0 0 n (nh hc (LC X (sN S)) N') := by
    intro m
    induction m with
    | zero =>
      intro N' hm hv A' f'
      rw [Nat.sub_zero, wq_end] at hv
      refine aw_iload dX2_weigh_13 rfl ?_
      refine aw_if_lt (tgt := 52) dX2_weigh_15 (by decide) (fun _ => ?_) (fun c => (c ((pI_lt0 (by decide)).mpr rfl)).elim)
      refine aw_return dX2_weigh_52 rfl (Nat.le_of_ble_eq_true rfl) (Nat.le_of_ble_eq_true rfl) ?_
      exact hQ _ _ _ ⟨rfl, rfl, N', rfl, hv, A', f'⟩
    | succ m ih =>
      intro N' hm hv A' f'
      rw [show sT S j + 1 - (m + 1) = sT S j - m by omega] at hv
      have q1 := wq_le2 (c := sC S j) (T := sT S j) (b := b) (i := sT S j - m) (by omega) (by omega)
      have q2 := wq_le (c := sC S j) (T := sT S j) (b := b) (i := sT S j - m + 1) (by omega) (by omega)
      have e2 : wq (sC S j) (sT S j) b (sT S j - m + 1) = wq (sC S j) (sT S j) b (sT S j - m) * b + sC S j m * 2 ^ (2 * (sT S j - m)) := by
        show wq (sC S j) (sT S j) b (sT S j - m) * b + sC S j (sT S j - (sT S j - m)) * 4 ^ (sT S j - m) = _
        rw [show sT S j - (sT S j - m) = m by omega, Nat.pow_mul]
      have hfit : wq (sC S j) (sT S j) b (sT S j - m) * b + sC S j m * 2 ^ (2 * (sT S j - m)) < (2 ^ 32) ^ 22 := by rw [← e2]; exact Nat.lt_of_le_of_lt q2 hw
      rw [pI_s]
      refine aw_iload dX2_weigh_13 rfl ?_
      refine aw_if_lt (tgt := 52) dX2_weigh_15 (by decide) (fun c => absurd c (nI_pos (by omega))) (fun _ => ?_)
      refine aw_aload_n (i := 3) dX2_weigh_18 rfl rfl ?_
      refine aw_iload_n (i := 2) dX2_weigh_19 rfl rfl ?_
      refine aw_i2l dX2_weigh_20 rfl ?_
      rw [nI_l (by omega)]
      refine aw_invokevirtual kX2_81 dX2_weigh_21 (nh_o hc N' z6) (cp_scale n hc (LC X (sN S)) N' (X + 6) _ b 22 W A' hv (by omega) (by rw [l6]; decide)) rfl rfl (Nat.le_of_ble_eq_true rfl) ⟨Nat.le_of_ble_eq_true rfl, Nat.le_of_ble_eq_true rfl⟩ ⟨Nat.le_of_ble_eq_true rfl, Nat.le_of_ble_eq_true rfl⟩ ?_
      rintro _ _ _ ⟨rfl, rfl, N2, rfl, v2, A2, f2⟩
      refine aw_aload_n (i := 1) dX2_weigh_24 rfl rfl ?_
      refine aw_getfield fX2_53 dX2_weigh_25 (h.so hj _) rfl ?_
      refine aw_aload_n (i := 3) dX2_weigh_28 rfl rfl ?_
      refine aw_iload dX2_weigh_29 rfl ?_
      refine aw_iconst (v := 2) dX2_weigh_31 (by decide +kernel) ?_
      refine aw_aload_n (i := 1) dX2_weigh_32 rfl rfl ?_
      refine aw_getfield fX2_53 dX2_weigh_33 (h.so hj _) rfl ?_
      refine aw_getfield fX2_57 dX2_weigh_36 (h.ro hj _) rfl ?_
      refine aw_iload dX2_weigh_39 rfl ?_
      refine aw_isub dX2_weigh_41 ?_
      refine aw_imul dX2_weigh_42 ?_
      rw [nI_sb (show m ≤ sT S j by omega), show (2 : Int32) = nI 2 from rfl, pk_mul]
      refine aw_invokevirtual kX2_135 dX2_weigh_43 (h.ro hj _) (npo_of A2 z6 hfit (ct_X4_addShiftedTo n hc (LC X (sN S)) N2 (sob X j) (sT S j) _ m (X + 6) _ (2 * (sT S j - m)) g (sC S j) W hR (nr_so hj) hr (by omega) z6 v2.2.1 (by omega) (by rw [l6]; omega) (by rw [l6]; exact Nat.lt_of_lt_of_le hfit (Bp_le (by decide))))) rfl rfl (Nat.le_of_ble_eq_true rfl) ⟨Nat.le_of_ble_eq_true rfl, Nat.le_of_ble_eq_true rfl⟩ ⟨Nat.le_of_ble_eq_true rfl, Nat.le_of_ble_eq_true rfl⟩ ?_
      rintro _ _ _ ⟨rfl, rfl, N3, rfl, v3, A3, f3⟩
      refine aw_iinc_4 (c0 := (-1)) dX2_weigh_46 (by decide) (by decide) rfl ?_
      refine aw_goto (tgt := 13) dX2_weigh_49 (by decide) ?_
      rw [pI_d]
      refine ih N3 (by omega) ?_ A3 (fun k hk => by rw [f3 k hk, f2 k hk, f' k hk])
      rw [show sT S j + 1 - m = sT S j - m + 1 by omega, e2]
      exact v3
  refine aw_aload_n (i := 1) dX2_weigh_4 rfl rfl ?_
  refine aw_getfield fX2_53 dX2_weigh_5 (h.so hj _) rfl ?_
  refine aw_getfield fX2_57 dX2_weigh_8 (h.ro hj _) rfl ?_
  refine aw_istore_4 dX2_weigh_11 (by decide) rfl ?_
  rw [← pI_s (sT S j)]
  refine loop (sT S j + 1) N1 (Nat.le_refl _) ?_ A1 f1
  rw [Nat.sub_self]
  exact v1.up (Nat.pow_pos (by decide))
theorem ct_X2_boundByPowers (n : Nat) (hc : Hp) (N : NC) (X j k : Nat) (S : TS) (h : CS hc N X S) (hI : SInv S) (hj : j < sN S) (hk : k ≤ 120) : CT mX2_boundByPowers 0 0 n (nh hc (LC X (sN S)) N) [.ref (X + 23), .ref (sob X j + 2), .int (nI k), .ref (X + 5)] (fun r n' h' => r = some (.int (nI (raL S j k 8))) ∧ n = n' ∧ ∃ N', h' = nh hc (LC X (sN S)) N' ∧ (nv (LC X (sN S)) N' (X + 6) 30 (wsm S j (raL S j k 8) * 2 ^ (2 * (k - sT S j))) ∧ nv (LC X (sN S)) N' (X + 8) 30 (raL S j k 8 ^ k * stot S j * 2 ^ (2 * (sT S j - k)))) ∧ NA (LC X (sN S)) N' ∧ ∀ a, a < X + 6 ∨ X + 46 ≤ a → N' a = N a) := by
  refine CT.intro [some (.ref (X + 23)), some (.ref (sob X j + 2)), some (.int (nI k)), some (.ref (X + 5)), none, none] 2 rfl rfl (by decide) ?_
  intro Q hQ
  have W := LC_W X (sN S)
  have ej : sob X j = X + (158 + 10 * j) := rfl
  have n3 := h.nv3 hI hj
  obtain ⟨-, ht, hp, hl⟩ := hI.2.1.2 j hj
  have hO := h.ou
  have l6 : LC X (sN S) (X + 6) = 72 := L72 rfl
  have l8 : LC X (sN S) (X + 8) = 72 := L72 rfl
  have l28 : LC X (sN S) (X + 28) = 72 := L72 rfl
  have l30 : LC X (sN S) (X + 30) = 72 := L72 rfl
  have l32 : LC X (sN S) (X + 32) = 72 := L72 rfl
  have l34 : LC X (sN S) (X + 34) = 72 := L72 rfl
  have z6 : LC X (sN S) (X + 6) ≠ 0 := by rw [l6]; decide
  have z8 : LC X (sN S) (X + 8) ≠ 0 := by rw [l8]; decide
  have z28 : LC X (sN S) (X + 28) ≠ 0 := by rw [l28]; decide
  have z30 : LC X (sN S) (X + 30) ≠ 0 := by rw [l30]; decide
  have z32 : LC X (sN S) (X + 32) ≠ 0 := by rw [l32]; decide
  have z34 : LC X (sN S) (X + 34) ≠ 0 := by rw [l34]; decide
  have after : ∀ (m : Nat) (y5 : Int32) (N1 : NC), raL S j k 8 = m → nv (LC X (sN S)) N1 (X + 32) 22 (wsm S j m) → nv (LC X (sN S)) N1 (X + 34) 14 (m ^ k) → NA (LC X (sN S)) N1 → (∀ a, a < X + 6 ∨ X + 46 ≤ a → N1 a = N a) → AW mX2_boundByPowers (gq 0 0 Q) 118 [some (.ref (X + 23)), some (.ref (sob X j + 2)), some (.int (nI k)), some (.ref (X + 5)), some (.int (nI m)), some (.int y5)] [] 0 0 n (nh hc (LC X (sN S)) N1) := by
    intro m y5 N1 hm v32 v34 A1 f1
    rw [hm] at hQ
    refine aw_aload_n (i := 1) dX2_boundByPowers_118 rfl rfl ?_
    refine aw_getfield fX2_53 dX2_boundByPowers_119 (h.so hj _) rfl ?_
    refine aw_getfield fX2_57 dX2_boundByPowers_122 (h.ro hj _) rfl ?_
    refine aw_istore_5 dX2_boundByPowers_125 (by decide) rfl ?_
    refine aw_aload_n (i := 0) dX2_boundByPowers_127 rfl rfl ?_
    refine aw_getfield fX2_23 dX2_boundByPowers_128 (h.mm _) rfl ?_
    refine aw_aload_n (i := 0) dX2_boundByPowers_131 rfl rfl ?_
    refine aw_getfield fX2_32 dX2_boundByPowers_132 (h.mm _) rfl ?_
    refine aw_aload_n (i := 1) dX2_boundByPowers_135 rfl rfl ?_
    refine aw_getfield fX2_74 dX2_boundByPowers_136 (h.so hj _) rfl ?_
    refine aw_invokevirtual kX2_99 dX2_boundByPowers_139 (nh_o hc N1 z28) (cp_prod n hc (LC X (sN S)) N1 (X + 28) (X + 34) (sob X j + 3) _ _ 14 8 W A1 z28 v34 (n3.fr (f1 _ (by omega))) (by omega) (by omega) (by rw [l28]; decide)) rfl rfl (Nat.le_of_ble_eq_true rfl) ⟨Nat.le_of_ble_eq_true rfl, Nat.le_of_ble_eq_true rfl⟩ ⟨Nat.le_of_ble_eq_true rfl, Nat.le_of_ble_eq_true rfl⟩ ?_
    rintro _ _ _ ⟨rfl, rfl, N2, rfl, v2, A2, f2⟩
    refine aw_aload_n (i := 3) dX2_boundByPowers_142 rfl rfl ?_
    refine aw_getfield fX2_35 dX2_boundByPowers_143 (hO.at _) rfl ?_
    refine aw_aload_n (i := 0) dX2_boundByPowers_146 rfl rfl ?_
    refine aw_getfield fX2_29 dX2_boundByPowers_147 (h.mm _) rfl ?_
    refine aw_iconst (v := 2) dX2_boundByPowers_150 (by decide +kernel) ?_
    refine aw_iload_n (i := 2) dX2_boundByPowers_151 rfl rfl ?_
    refine aw_iload dX2_boundByPowers_152 rfl ?_
    refine aw_isub dX2_boundByPowers_154 ?_
    refine aw_iconst (v := 0) dX2_boundByPowers_155 (by decide +kernel) ?_
    refine aw_mmax kX2_129 mathmax_s math_i mathmax_c dX2_boundByPowers_156 (by decide) (Nat.le_of_ble_eq_true rfl) (Nat.le_of_ble_eq_true rfl) (Nat.le_of_ble_eq_true rfl) ?_
    refine aw_imul dX2_boundByPowers_159 ?_
    rw [max0_sub (by omega) (by omega), show (2 : Int32) = nI 2 from rfl, pk_mul]
    refine aw_invokevirtual kX2_49 dX2_boundByPowers_160 (nh_o hc N2 z6) (cp_shift n hc (LC X (sN S)) N2 (X + 6) (X + 32) _ 22 (2 * (k - sT S j)) W A2 z6 (v32.fr (f2 _ (by omega))) (by omega) (by omega) (by rw [l6]; omega)) rfl rfl (Nat.le_of_ble_eq_true rfl) ⟨Nat.le_of_ble_eq_true rfl, Nat.le_of_ble_eq_true rfl⟩ ⟨Nat.le_of_ble_eq_true rfl, Nat.le_of_ble_eq_true rfl⟩ ?_
    rintro _ _ _ ⟨rfl, rfl, N3, rfl, v3, A3, f3⟩
    refine aw_aload_n (i := 3) dX2_boundByPowers_163 rfl rfl ?_
    refine aw_getfield fX2_71 dX2_boundByPowers_164 (hO.at _) rfl ?_
    refine aw_aload_n (i := 0) dX2_boundByPowers_167 rfl rfl ?_
    refine aw_getfield fX2_23 dX2_boundByPowers_168 (h.mm _) rfl ?_
    refine aw_iconst (v := 2) dX2_boundByPowers_171 (by decide +kernel) ?_
    refine aw_iload dX2_boundByPowers_172 rfl ?_
    refine aw_iload_n (i := 2) dX2_boundByPowers_174 rfl rfl ?_
    refine aw_isub dX2_boundByPowers_175 ?_
    refine aw_iconst (v := 0) dX2_boundByPowers_176 (by decide +kernel) ?_
    refine aw_mmax kX2_129 mathmax_s math_i mathmax_c dX2_boundByPowers_177 (by decide) (Nat.le_of_ble_eq_true rfl) (Nat.le_of_ble_eq_true rfl) (Nat.le_of_ble_eq_true rfl) ?_
    refine aw_imul dX2_boundByPowers_180 ?_
    rw [max0_sub (by omega) (by omega), show (2 : Int32) = nI 2 from rfl, pk_mul]
    refine aw_invokevirtual kX2_49 dX2_boundByPowers_181 (nh_o hc N3 z8) (cp_shift n hc (LC X (sN S)) N3 (X + 8) (X + 28) _ 22 (2 * (sT S j - k)) W A3 z8 (v2.fr (f3 _ (by omega))) (by omega) (by omega) (by rw [l8]; omega)) rfl rfl (Nat.le_of_ble_eq_true rfl) ⟨Nat.le_of_ble_eq_true rfl, Nat.le_of_ble_eq_true rfl⟩ ⟨Nat.le_of_ble_eq_true rfl, Nat.le_of_ble_eq_true rfl⟩ ?_
    rintro _ _ _ ⟨rfl, rfl, N4, rfl, v4, A4, f4⟩
    refine aw_iload dX2_boundByPowers_184 rfl ?_
    refine aw_ireturn dX2_boundByPowers_186 rfl rfl (Nat.le_of_ble_eq_true rfl) (Nat.le_of_ble_eq_true rfl) ?_
    exact hQ _ _ _ ⟨rfl, rfl, N4, rfl, ⟨(v3.up (Nat.lt_of_lt_of_le v3.2.2 (Bp_le (by omega)))).fr (f4 _ (by omega)), v4.up (Nat.lt_of_lt_of_le v4.2.2 (Bp_le (by omega)))⟩, A4, fun a ha => by rw [f4 _ (by omega), f3 _ (by omega), f2 _ (by omega), f1 _ ha]⟩
  have loop : ∀ (z i m : Nat) (N' : NC), i + z = 8 → ((i = 0 ∧ m = 0) ∨ (0 < i ∧ m = i + 4 ∧ raL S j k i = i + 4 ∧ nv (LC X (sN S)) N' (X + 32) 22 (wsm S j m) ∧ nv (LC X (sN S)) N' (X + 34) 14 (m ^ k))) → NA (LC X (sN S)) N' → (∀ a, a < X + 6 ∨ X + 46 ≤ a → N' a = N a) → AW mX2_boundByPowers (gq 0 0 Q) 6 [some (.ref (X + 23)), some (.ref (sob X j + 2)), some (.int (nI k)), some (.ref (X + 5)), some (.int (nI m)), some (.int (nI (i + 5)))] [] 0 0 n (nh hc (LC X (sN S)) N') := by
    intro z
    induction z with
    | zero =>
      intro i m N' hi hm A' f'
      obtain rfl : i = 8 := by omega
      obtain ⟨-, e2, e3, e4, e5⟩ := hm.resolve_left (fun q => absurd q.1 (by decide))
      refine aw_iload dX2_boundByPowers_6 rfl ?_
      refine aw_bipush (v := 12) dX2_boundByPowers_8 (by decide +kernel) ?_
      refine aw_icmp_gt (tgt := 118) dX2_boundByPowers_10 (by decide) (fun _ => ?_) (fun c => (c (by decide +kernel)).elim)
      exact after m _ N' (by rw [e2]; exact e3) e4 e5 A' f'
    | succ z ih =>
      intro i m N' hi hm A' f'
      have hb : i + 5 ≤ 12 := by omega
      have hpk : (i + 5) ^ k < (2 ^ 32) ^ 14 := bk_lt hb hk
      refine aw_iload dX2_boundByPowers_6 rfl ?_
      refine aw_bipush (v := 12) dX2_boundByPowers_8 (by decide +kernel) ?_
      refine aw_icmp_gt (tgt := 118) dX2_boundByPowers_10 (by decide) (fun c => absurd c (nI_nlt (a := 12) (by omega) (by decide))) (fun _ => ?_)
      refine aw_aload_n (i := 0) dX2_boundByPowers_13 rfl rfl ?_
      refine aw_aload_n (i := 1) dX2_boundByPowers_14 rfl rfl ?_
      refine aw_iload dX2_boundByPowers_15 rfl ?_
      refine aw_aload_n (i := 3) dX2_boundByPowers_17 rfl rfl ?_
      refine aw_getfield fX2_35 dX2_boundByPowers_18 (hO.at _) rfl ?_
      refine aw_invokevirtual kX2_122 dX2_boundByPowers_21 (h.mm N') (ct_X2_weigh n hc N' N X j (i + 5) S h hI hj A' (by omega) hb) rfl rfl (Nat.le_of_ble_eq_true rfl) ⟨Nat.le_of_ble_eq_true rfl, Nat.le_of_ble_eq_true rfl⟩ ⟨Nat.le_of_ble_eq_true rfl, Nat.le_of_ble_eq_true rfl⟩ ?_
      rintro _ _ _ ⟨rfl, rfl, N1, rfl, v1, A1, f1⟩
      obtain ⟨u8, n8⟩ := A1 (X + 8) z8
      refine aw_aload_n (i := 3) dX2_boundByPowers_24 rfl rfl ?_
      refine aw_getfield fX2_71 dX2_boundByPowers_25 (hO.at _) rfl ?_
      refine aw_iload dX2_boundByPowers_28 rfl ?_
      refine aw_iload_n (i := 2) dX2_boundByPowers_30 rfl rfl ?_
      refine aw_invokevirtual kX2_125 dX2_boundByPowers_31 (nh_o hc N1 z8) (npo_of A1 z8 hpk (ct_X3_power n hc (LC X (sN S)) N1 (X + 8) u8 (i + 5) k W z8 n8 (by omega) (by omega) (by rw [l8]; exact Nat.lt_of_lt_of_le hpk (Bp_le (by decide))))) rfl rfl (Nat.le_of_ble_eq_true rfl) ⟨Nat.le_of_ble_eq_true rfl, Nat.le_of_ble_eq_true rfl⟩ ⟨Nat.le_of_ble_eq_true rfl, Nat.le_of_ble_eq_true rfl⟩ ?_
      rintro _ _ _ ⟨rfl, rfl, N2, rfl, v2, A2, f2⟩
      have v1' := v1.fr (N' := N2) (f2 _ (by omega))
      have cont : ∀ N3 : NC, nv (LC X (sN S)) N3 (X + 6) 22 (wsm S j (i + 5)) → nv (LC X (sN S)) N3 (X + 8) 14 ((i + 5) ^ k) → NA (LC X (sN S)) N3 → (∀ a, a < X + 6 ∨ X + 46 ≤ a → N3 a = N a) → raL S j k (i + 1) = i + 5 → AW mX2_boundByPowers (gq 0 0 Q) 86 [some (.ref (X + 23)), some (.ref (sob X j + 2)), some (.int (nI k)), some (.ref (X + 5)), some (.int (nI m)), some (.int (nI (i + 5)))] [] 0 0 n (nh hc (LC X (sN S)) N3) := by
        intro N3 w6 w8 A3 f3 hL
        refine aw_iload dX2_boundByPowers_86 rfl ?_
        refine aw_istore_4 dX2_boundByPowers_88 (by decide) rfl ?_
        refine aw_aload_n (i := 0) dX2_boundByPowers_90 rfl rfl ?_
        refine aw_getfield fX2_29 dX2_boundByPowers_91 (h.mm _) rfl ?_
        refine aw_aload_n (i := 3) dX2_boundByPowers_94 rfl rfl ?_
        refine aw_getfield fX2_35 dX2_boundByPowers_95 (hO.at _) rfl ?_
        refine aw_invokevirtual kX2_77 dX2_boundByPowers_98 (nh_o hc N3 z32) (cp_copy n hc (LC X (sN S)) N3 (X + 32) (X + 6) _ 22 W A3 z32 w6 (by omega) (by rw [l32]; decide)) rfl rfl (Nat.le_of_ble_eq_true rfl) ⟨Nat.le_of_ble_eq_true rfl, Nat.le_of_ble_eq_true rfl⟩ ⟨Nat.le_of_ble_eq_true rfl, Nat.le_of_ble_eq_true rfl⟩ ?_
        rintro _ _ _ ⟨rfl, rfl, N4, rfl, v4, A4, f4⟩
        refine aw_aload_n (i := 0) dX2_boundByPowers_101 rfl rfl ?_
        refine aw_getfield fX2_32 dX2_boundByPowers_102 (h.mm _) rfl ?_
        refine aw_aload_n (i := 3) dX2_boundByPowers_105 rfl rfl ?_
        refine aw_getfield fX2_71 dX2_boundByPowers_106 (hO.at _) rfl ?_
        refine aw_invokevirtual kX2_77 dX2_boundByPowers_109 (nh_o hc N4 z34) (cp_copy n hc (LC X (sN S)) N4 (X + 34) (X + 8) _ 14 W A4 z34 (w8.fr (f4 _ (by omega))) (by omega) (by rw [l34]; decide)) rfl rfl (Nat.le_of_ble_eq_true rfl) ⟨Nat.le_of_ble_eq_true rfl, Nat.le_of_ble_eq_true rfl⟩ ⟨Nat.le_of_ble_eq_true rfl, Nat.le_of_ble_eq_true rfl⟩ ?_
        rintro _ _ _ ⟨rfl, rfl, N5, rfl, v5, A5, f5⟩
        refine aw_iinc_5 (c0 := 1) dX2_boundByPowers_112 (by decide) (by decide) rfl ?_
        refine aw_goto (tgt := 6) dX2_boundByPowers_115 (by decide) ?_
        rw [nI_1]
        exact ih (i + 1) (i + 5) N5 (by omega) (Or.inr ⟨by omega, rfl, hL, v4.fr (f5 _ (by omega)), v5⟩) A5 (fun a ha => by rw [f5 _ (by omega), f4 _ (by omega), f3 _ ha])
      have g2 : ∀ a, a < X + 6 ∨ X + 46 ≤ a → N2 a = N a := fun a ha => by rw [f2 _ (by omega), f1 _ (by omega), f' _ ha]
      rcases hm with ⟨rfl, rfl⟩ | ⟨i0, rfl, e3, e4, e5⟩
      · refine aw_iload dX2_boundByPowers_34 rfl ?_
        refine aw_if_le (tgt := 86) dX2_boundByPowers_36 (by decide) (fun _ => ?_) (fun c => (c (by decide +kernel)).elim)
        exact cont N2 v1' v2 A2 g2 (raL_go hp (Or.inl rfl))
      · have e4' := e4.fr (N' := N2) (by rw [f2 _ (by omega), f1 _ (by omega)])
        have e5' := e5.fr (N' := N2) (by rw [f2 _ (by omega), f1 _ (by omega)])
        refine aw_iload dX2_boundByPowers_34 rfl ?_
        refine aw_if_le (tgt := 86) dX2_boundByPowers_36 (by decide) (fun c => absurd c (nI_nle (by omega) (by omega))) (fun _ => ?_)
        refine aw_aload_n (i := 0) dX2_boundByPowers_39 rfl rfl ?_
        refine aw_getfield fX2_23 dX2_boundByPowers_40 (h.mm _) rfl ?_
        refine aw_aload_n (i := 3) dX2_boundByPowers_43 rfl rfl ?_
        refine aw_getfield fX2_35 dX2_boundByPowers_44 (hO.at _) rfl ?_
        refine aw_aload_n (i := 0) dX2_boundByPowers_47 rfl rfl ?_
        refine aw_getfield fX2_32 dX2_boundByPowers_48 (h.mm _) rfl ?_
        refine aw_invokevirtual kX2_99 dX2_boundByPowers_51 (nh_o hc N2 z28) (cp_prod n hc (LC X (sN S)) N2 (X + 28) (X + 6) (X + 34) _ _ 22 14 W A2 z28 v1' e5' (by omega) (by omega) (by rw [l28]; decide)) rfl rfl (Nat.le_of_ble_eq_true rfl) ⟨Nat.le_of_ble_eq_true rfl, Nat.le_of_ble_eq_true rfl⟩ ⟨Nat.le_of_ble_eq_true rfl, Nat.le_of_ble_eq_true rfl⟩ ?_
        rintro _ _ _ ⟨rfl, rfl, N3, rfl, v3, A3, f3⟩
        refine aw_aload_n (i := 0) dX2_boundByPowers_54 rfl rfl ?_
        refine aw_getfield fX2_26 dX2_boundByPowers_55 (h.mm _) rfl ?_
        refine aw_aload_n (i := 0) dX2_boundByPowers_58 rfl rfl ?_
        refine aw_getfield fX2_29 dX2_boundByPowers_59 (h.mm _) rfl ?_
        refine aw_aload_n (i := 3) dX2_boundByPowers_62 rfl rfl ?_
        refine aw_getfield fX2_71 dX2_boundByPowers_63 (hO.at _) rfl ?_
        refine aw_invokevirtual kX2_99 dX2_boundByPowers_66 (nh_o hc N3 z30) (cp_prod n hc (LC X (sN S)) N3 (X + 30) (X + 32) (X + 8) _ _ 22 14 W A3 z30 (e4'.fr (f3 _ (by omega))) (v2.fr (f3 _ (by omega))) (by omega) (by omega) (by rw [l30]; decide)) rfl rfl (Nat.le_of_ble_eq_true rfl) ⟨Nat.le_of_ble_eq_true rfl, Nat.le_of_ble_eq_true rfl⟩ ⟨Nat.le_of_ble_eq_true rfl, Nat.le_of_ble_eq_true rfl⟩ ?_
        rintro _ _ _ ⟨rfl, rfl, N4, rfl, v4, A4, f4⟩
        refine aw_aload_n (i := 0) dX2_boundByPowers_69 rfl rfl ?_
        refine aw_getfield fX2_23 dX2_boundByPowers_70 (h.mm _) rfl ?_
        refine aw_aload_n (i := 0) dX2_boundByPowers_73 rfl rfl ?_
        refine aw_getfield fX2_26 dX2_boundByPowers_74 (h.mm _) rfl ?_
        refine aw_invokevirtual kX2_85 dX2_boundByPowers_77 (nh_o hc N4 z28) (cp_against n hc (LC X (sN S)) N4 (X + 28) (X + 30) _ _ 36 36 W (v3.fr (f4 _ (by omega))) v4) rfl rfl (Nat.le_of_ble_eq_true rfl) ⟨Nat.le_of_ble_eq_true rfl, Nat.le_of_ble_eq_true rfl⟩ ⟨Nat.le_of_ble_eq_true rfl, Nat.le_of_ble_eq_true rfl⟩ ?_
        rintro _ _ _ ⟨rfl, rfl, rfl⟩
        have g4 : ∀ a, a < X + 6 ∨ X + 46 ≤ a → N4 a = N a := fun a ha => by rw [f4 _ (by omega), f3 _ (by omega), g2 _ ha]
        by_cases hlt : wsm S j (i + 5) * (i + 4) ^ k < wsm S j (i + 4) * (i + 5) ^ k
        · refine aw_if_lt (tgt := 86) dX2_boundByPowers_80 (by decide) (fun _ => ?_) (fun c => (c (cmpI_neg.mpr hlt)).elim)
          exact cont N4 (v1'.fr (by rw [f4 _ (by omega), f3 _ (by omega)])) (v2.fr (by rw [f4 _ (by omega), f3 _ (by omega)])) A4 g4 (raL_go hp (Or.inr ⟨e3, hlt⟩))
        · refine aw_if_lt (tgt := 86) dX2_boundByPowers_80 (by decide) (fun c => absurd c (fun q => hlt (cmpI_neg.mp q))) (fun _ => ?_)
          refine aw_goto (tgt := 118) dX2_boundByPowers_83 (by decide) ?_
          refine after (i + 4) _ N4 ?_ (e4'.fr (by rw [f4 _ (by omega), f3 _ (by omega)])) (e5'.fr (by rw [f4 _ (by omega), f3 _ (by omega)])) A4 g4
          have := raL_stop hp e3 hlt (8 - i)
          rwa [show i + (8 - i) = 8 by omega] at this
  refine aw_iconst (v := 0) dX2_boundByPowers_0 (by decide +kernel) ?_
  refine aw_istore_4 dX2_boundByPowers_1 (by decide) rfl ?_
  refine aw_iconst (v := 5) dX2_boundByPowers_3 (by decide +kernel) ?_
  refine aw_istore_5 dX2_boundByPowers_4 (by decide) rfl ?_
  exact loop 8 0 0 N rfl (Or.inl ⟨rfl, rfl⟩) h.1 (fun _ _ => rfl)
