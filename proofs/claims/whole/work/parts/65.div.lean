theorem lp_word {A B up : Int} {X Y : Nat} (hs : (0 ≤ A ∧ B ≤ 0) ∨ (A ≤ 0 ∧ 0 ≤ B)) (bA : A.natAbs < 2 ^ 31) (bB : B.natAbs < 2 ^ 31) (hX : X < 2 ^ 32) (hY : Y < 2 ^ 32) (hu : up.natAbs < 2 ^ 31) : -(2147483647 * 2 ^ 32) ≤ up + (A * X + B * Y) ∧ up + (A * X + B * Y) ≤ 2147483647 * 2 ^ 32 := by
  have one : ∀ (a : Int) (x : Nat), a.natAbs < 2 ^ 31 → x < 2 ^ 32 → (a * x).natAbs ≤ 2147483647 * 4294967295 := fun a x h1 h2 => by
    rw [Int.natAbs_mul]
    exact Nat.mul_le_mul (by omega) (by rw [Int.natAbs_natCast]; omega)
  have e1 := one A X bA hX
  have e2 := one B Y bB hY
  have x0 : (0 : Int) ≤ X := by omega
  have y0 : (0 : Int) ≤ Y := by omega
  rcases hs with ⟨s1, s2⟩ | ⟨s1, s2⟩
  · have f1 : 0 ≤ A * X := Int.mul_nonneg s1 x0
    have f2 : B * Y ≤ 0 := Int.mul_nonpos_of_nonpos_of_nonneg s2 y0
    omega
  · have f1 : A * X ≤ 0 := Int.mul_nonpos_of_nonpos_of_nonneg s1 x0
    have f2 : 0 ≤ B * Y := Int.mul_nonneg s2 y0
    omega
theorem up_zero {up P b Hv : Int} (hP : 0 < P) (h : b + up * P = Hv) (b0 : 0 ≤ b) (b1 : b < P) (h0 : 0 ≤ Hv) (h1 : Hv < P) : up = 0 := by
  rcases Int.lt_trichotomy up 0 with q | q | q
  · have : up * P ≤ (-1) * P := Int.mul_le_mul_of_nonneg_right (by omega) (by omega)
    omega
  · exact q
  · have : 1 * P ≤ up * P := Int.mul_le_mul_of_nonneg_right (by omega) (by omega)
    omega
/-- one digit of a leap -/
theorem lp_digit {A B up z : Int} {gi g0 y0 bg b0 by0 P : Nat} (hz : z = up + (A * (g0 : Int) + B * (y0 : Int))) (hg : (gi : Int) = z % 2 ^ 32) (hb : (bg : Int) + up * (P : Int) = A * (b0 : Int) + B * (by0 : Int)) : ((bg + gi * P : Nat) : Int) + z / 2 ^ 32 * ((P * 2 ^ 32 : Nat) : Int) = A * ((b0 + g0 * P : Nat) : Int) + B * ((by0 + y0 * P : Nat) : Int) := by
  have e0 : ((2 ^ 32 : Nat) : Int) = 2 ^ 32 := rfl
  rw [Int.natCast_add, Int.natCast_add, Int.natCast_add, Int.natCast_mul, Int.natCast_mul, Int.natCast_mul, Int.natCast_mul, e0]
  rw [hg, Int.mul_add, Int.mul_add]
  have e1 := Int.emod_add_mul_ediv z (2 ^ 32)
  have e2 : (z % 2 ^ 32 + 2 ^ 32 * (z / 2 ^ 32)) * (P : Int) = z * P := by rw [e1]
  rw [Int.add_mul] at e2
  have e3 : z * (P : Int) = up * P + (A * ((g0 : Int) * P) + B * ((y0 : Int) * P)) := by
    rw [hz, Int.add_mul, Int.add_mul, Int.mul_assoc, Int.mul_assoc]
  have e4 : z / 2 ^ 32 * ((P : Int) * 2 ^ 32) = 2 ^ 32 * (z / 2 ^ 32) * (P : Int) := by
    rw [Int.mul_comm (P : Int), ← Int.mul_assoc, Int.mul_comm (z / 2 ^ 32)]
  omega
theorem ct_X0_leap (n : Nat) (h : Hp) (L : Nat → Nat) (N : NC) (D q V R H W u v Hv Lv : Nat) (A B C E : Int) (w : LW L) (hD : DV h L D q V R H W (lI A) (lI B) (lI C) (lI E)) (hu : num (L H) (N H) u) (hv : num (L W) (N W) v) (hvu : v ≤ u) (hsg : (0 ≤ A ∧ B ≤ 0 ∧ C ≤ 0 ∧ 0 ≤ E) ∨ (A ≤ 0 ∧ 0 ≤ B ∧ 0 ≤ C ∧ E ≤ 0)) (hbd : A.natAbs < 2 ^ 31 ∧ B.natAbs < 2 ^ 31 ∧ C.natAbs < 2 ^ 31 ∧ E.natAbs < 2 ^ 31) (eH : (Hv : Int) = A * u + B * v) (eL : (Lv : Int) = C * u + E * v) (hHu : Hv ≤ u) (hLu : Lv ≤ u) : CT mX0_leap 0 0 n (nh h L N) [.ref D] (fun z n' h' => n = n' ∧ z = none ∧ ∃ N', h' = nh h L N' ∧ num (L H) (N' H) Hv ∧ num (L W) (N' W) Lv ∧ ∀ k, k ≠ H → k ≠ W → N' k = N k) := by
  refine CT.intro [some (.ref D), none, none, none, none, none, none, none, none, none, none] 10 rfl rfl (by decide) ?_
  intro Q hQ
  obtain ⟨hD0, ⟨hLD, hLD1⟩, ⟨l1, l2, l3, l4, l5⟩, -, -, -, hHW⟩ := hD
  obtain ⟨bA, bB, bC, bE⟩ := hbd
  have hH0 : L H ≠ 0 := by omega
  have hW0 : L W ≠ 0 := by omega
  have hWH : W ≠ H := Ne.symm hHW
  have hDu : ∀ {N : NC} {k s : Nat} {g : Nat → Nat}, nu h L N k s g D = some (dobj q V R H W (lI A) (lI B) (lI C) (lI E)) := by intro N k s g; unfold nu; rw [nh_no h _ hLD hLD1]; exact hD0
  have hsm : (N H).1 ≤ 72 := by have := hu.1.1; omega
  have hsw : (N W).1 ≤ (N H).1 := num_le hv (Nat.lt_of_le_of_lt hvu (raw_lt hu.1))
  have hul := raw_lt hu.1
  refine AW.hp (nu_id h L N W) ?_
  refine aw_aload_n (i := 0) dX0_leap_0 rfl rfl ?_
  refine aw_getfield fX0_26 dX0_leap_1 hDu rfl ?_
  refine aw_getfield fX0_72 dX0_leap_4 (nu_x hH0 hHW) rfl ?_
  refine aw_istore_1 dX0_leap_7 (by decide) rfl ?_
  refine aw_aload_n (i := 0) dX0_leap_8 rfl rfl ?_
  refine aw_getfield fX0_29 dX0_leap_9 hDu rfl ?_
  refine aw_iload_n (i := 1) dX0_leap_12 rfl rfl ?_
  refine aw_invokevirtual kX0_88 dX0_leap_13 (nu_o hW0) (ct_X3_widenTo n h L N W (N W).1 (N H).1 (N W).2 w hW0 (by have := hv.1.1; omega) (by omega)) rfl rfl (Nat.le_of_ble_eq_true rfl) ⟨Nat.le_of_ble_eq_true rfl, Nat.le_of_ble_eq_true rfl⟩ ⟨Nat.le_of_ble_eq_true rfl, Nat.le_of_ble_eq_true rfl⟩ ?_
  rintro _ _ _ ⟨rfl, rfl, rfl⟩
  rw [show max (N W).1 (min (N H).1 (L W)) = (N H).1 by omega]
  have hGw : ∀ i, i < L W → wid (N W).2 (N W).1 (N H).1 i < 2 ^ 32 := wid_lt hv.1.2.1
  have hGwv : bv (2 ^ 32) (wid (N W).2 (N W).1 (N H).1) (N H).1 = v := by rw [wid_bv hsw]; exact hv.1.2.2
  refine AW.hp (nu_in hHW) ?_
  have hGh := hu.1.2.1
  have hGhv := hu.1.2.2
  generalize wid (N W).2 (N W).1 (N H).1 = y at *
  generalize (N H).1 = m at *
  generalize (N H).2 = x at *
  refine aw_lconst (v := 0) dX0_leap_16 (by decide) ?_
  refine aw_lstore_2 dX0_leap_17 (by decide) rfl ?_
  refine aw_lconst (v := 0) dX0_leap_18 (by decide) ?_
  refine aw_lstore_4 dX0_leap_19 (by decide) rfl ?_
  refine aw_iconst (v := 0) dX0_leap_21 (by decide +kernel) ?_
  refine aw_istore_6 dX0_leap_22 (by decide) rfl ?_
  have loop : ∀ (j i : Nat) (gH gW : Nat → Nat) (up dn : Int) (y7 y9 : Option Value), i + j = m → (∀ k, k < L H → gH k < 2 ^ 32) → (∀ k, k < L W → gW k < 2 ^ 32) → (∀ k, i ≤ k → gH k = x k) → (∀ k, i ≤ k → gW k = y k) → up.natAbs < 2 ^ 31 → dn.natAbs < 2 ^ 31 → ((bv (2 ^ 32) gH i : Nat) : Int) + up * (((2 ^ 32) ^ i : Nat) : Int) = A * (bv (2 ^ 32) x i : Nat) + B * (bv (2 ^ 32) y i : Nat) → ((bv (2 ^ 32) gW i : Nat) : Int) + dn * (((2 ^ 32) ^ i : Nat) : Int) = C * (bv (2 ^ 32) x i : Nat) + E * (bv (2 ^ 32) y i : Nat) → AW mX0_leap (gq 0 0 Q) 24 [some (.ref D), some (.int (nI m)), some (.long (lI up)), none, some (.long (lI dn)), none, some (.int (nI i)), y7, none, y9, none] [] 0 0 n (nu h L (va_up N W (m, gW)) H m gH) := by
    intro j
    induction j with
    | zero =>
      intro i gH gW up dn y7 y9 hi k1 k2 k3 k4 k5 k6 k7 k8
      obtain rfl : i = m := by omega
      rw [hGhv, hGwv] at k7 k8
      have bl1 : bv (2 ^ 32) gH i < (2 ^ 32) ^ i := bv_lt (fun k hk => k1 k (by omega))
      have bl2 : bv (2 ^ 32) gW i < (2 ^ 32) ^ i := bv_lt (fun k hk => k2 k (by omega))
      have hP : 0 < ((2 : Nat) ^ 32) ^ i := Nat.pow_pos (by decide)
      rw [← eH] at k7
      rw [← eL] at k8
      have u0 := up_zero (by exact_mod_cast hP) k7 (by omega) (by exact_mod_cast bl1) (by omega) (by exact_mod_cast (Nat.lt_of_le_of_lt hHu hul))
      have d0 := up_zero (by exact_mod_cast hP) k8 (by omega) (by exact_mod_cast bl2) (by omega) (by exact_mod_cast (Nat.lt_of_le_of_lt hLu hul))
      rw [u0, Int.zero_mul, Int.add_zero] at k7
      rw [d0, Int.zero_mul, Int.add_zero] at k8
      have r1 : bv (2 ^ 32) gH i = Hv := by exact_mod_cast k7
      have r2 : bv (2 ^ 32) gW i = Lv := by exact_mod_cast k8
      refine aw_iload dX0_leap_24 rfl ?_
      refine aw_iload_n (i := 1) dX0_leap_26 rfl rfl ?_
      refine aw_icmp_ge (tgt := 145) dX0_leap_27 (by decide) (fun _ => ?_) (fun c => (c (nI_le (Nat.le_refl _) (by omega))).elim)
      refine aw_aload_n (i := 0) dX0_leap_145 rfl rfl ?_
      refine aw_getfield fX0_26 dX0_leap_146 hDu rfl ?_
      refine aw_invokevirtual kX0_102 dX0_leap_149 (nu_o hH0) (ct_X3_trim n h L (va_up N W (i, gW)) H i Hv gH w hH0 ⟨by omega, k1, r1⟩) rfl rfl (Nat.le_of_ble_eq_true rfl) ⟨Nat.le_of_ble_eq_true rfl, Nat.le_of_ble_eq_true rfl⟩ ⟨Nat.le_of_ble_eq_true rfl, Nat.le_of_ble_eq_true rfl⟩ ?_
      rintro _ _ _ ⟨rfl, rfl, N1, rfl, d1, f1⟩
      have e1 : N1 W = (i, gW) := by rw [f1 W hWH, va_up_at]
      refine AW.hp (nu_id h L N1 W) ?_
      rw [e1]
      refine aw_aload_n (i := 0) dX0_leap_152 rfl rfl ?_
      refine aw_getfield fX0_29 dX0_leap_153 hDu rfl ?_
      refine aw_invokevirtual kX0_102 dX0_leap_156 (nu_o hW0) (ct_X3_trim n h L N1 W i Lv gW w hW0 ⟨by omega, k2, r2⟩) rfl rfl (Nat.le_of_ble_eq_true rfl) ⟨Nat.le_of_ble_eq_true rfl, Nat.le_of_ble_eq_true rfl⟩ ⟨Nat.le_of_ble_eq_true rfl, Nat.le_of_ble_eq_true rfl⟩ ?_
      rintro _ _ _ ⟨rfl, rfl, N2, rfl, d2, f2⟩
      refine aw_return dX0_leap_159 rfl (Nat.le_of_ble_eq_true rfl) (Nat.le_of_ble_eq_true rfl) ?_
      exact hQ _ _ _ ⟨rfl, rfl, N2, rfl, by rw [f2 H hHW]; exact d1, d2, fun k e1 e2 => by rw [f2 k e2, f1 k e1, va_up_off e2]⟩
    | succ j ih =>
      intro i gH gW up dn y7 y9 hi k1 k2 k3 k4 k5 k6 k7 k8
      have dH := k1 i (by omega)
      have dW := k2 i (by omega)
      have wH : wd (m, gH) i = gH i := if_pos (by show i < m; omega)
      have wW : wd (m, gW) i = gW i := if_pos (by show i < m; omega)
      have hW1 : va_up N W (m, gW) W = (m, gW) := va_up_at _ _ _
      have cW := nu_word n h L (va_up N W (m, gW)) H W m i (bv (2 ^ 32) gW m) gH w hW0 hWH (by rw [hW1]; exact ⟨by show m ≤ L W; omega, k2, rfl⟩) (by omega)
      rw [hW1, wW] at cW
      have cH := ct_X3_word n h L (va_up N W (m, gW)) H m i gH w hH0 (by omega) k1 (by omega)
      rw [wH] at cH
      have hWo : nu h L (va_up N W (m, gW)) H m gH W = some (nobj W m) := by rw [nu_x hW0 hWH, hW1]
      refine aw_iload dX0_leap_24 rfl ?_
      refine aw_iload_n (i := 1) dX0_leap_26 rfl rfl ?_
      refine aw_icmp_ge (tgt := 145) dX0_leap_27 (by decide) (fun c => absurd c (nI_ge (by omega) (by omega))) (fun _ => ?_)
      refine aw_iload dX0_leap_30 rfl ?_
      refine aw_aload_n (i := 0) dX0_leap_32 rfl rfl ?_
      refine aw_getfield fX0_29 dX0_leap_33 hDu rfl ?_
      refine aw_getfield fX0_72 dX0_leap_36 hWo rfl ?_
      refine aw_icmp_ge (tgt := 145) dX0_leap_39 (by decide) (fun c => absurd c (nI_ge (by omega) (by omega))) (fun _ => ?_)
      refine aw_aload_n (i := 0) dX0_leap_42 rfl rfl ?_
      refine aw_getfield fX0_26 dX0_leap_43 hDu rfl ?_
      refine aw_iload dX0_leap_46 rfl ?_
      refine aw_invokevirtual kX0_108 dX0_leap_48 (nu_o hH0) cH rfl rfl (Nat.le_of_ble_eq_true rfl) ⟨Nat.le_of_ble_eq_true rfl, Nat.le_of_ble_eq_true rfl⟩ ⟨Nat.le_of_ble_eq_true rfl, Nat.le_of_ble_eq_true rfl⟩ ?_
      rintro _ _ _ ⟨rfl, rfl, rfl⟩
      refine aw_lstore_7 dX0_leap_51 (by decide) rfl ?_
      refine aw_aload_n (i := 0) dX0_leap_53 rfl rfl ?_
      refine aw_getfield fX0_29 dX0_leap_54 hDu rfl ?_
      refine aw_iload dX0_leap_57 rfl ?_
      refine aw_invokevirtual kX0_108 dX0_leap_59 hWo cW rfl rfl (Nat.le_of_ble_eq_true rfl) ⟨Nat.le_of_ble_eq_true rfl, Nat.le_of_ble_eq_true rfl⟩ ⟨Nat.le_of_ble_eq_true rfl, Nat.le_of_ble_eq_true rfl⟩ ?_
      rintro _ _ _ ⟨rfl, rfl, rfl⟩
      refine aw_lstore_9 dX0_leap_62 (by decide) rfl ?_
      refine aw_lload_n (i := 2) dX0_leap_64 rfl rfl ?_
      refine aw_aload_n (i := 0) dX0_leap_65 rfl rfl ?_
      refine aw_getfield fX0_32 dX0_leap_66 hDu rfl ?_
      refine aw_lload dX0_leap_69 rfl ?_
      refine aw_lmul dX0_leap_71 ?_
      refine aw_aload_n (i := 0) dX0_leap_72 rfl rfl ?_
      refine aw_getfield fX0_36 dX0_leap_73 hDu rfl ?_
      refine aw_lload dX0_leap_76 rfl ?_
      refine aw_lmul dX0_leap_78 ?_
      refine aw_ladd dX0_leap_79 ?_
      refine aw_ladd dX0_leap_80 ?_
      rw [show lI up + (lI A * lN (gH i) + lI B * lN (gW i)) = lI (up + (A * (gH i : Int) + B * (gW i : Int))) by rw [lI_N, lI_N, lI_mul, lI_mul, lI_add, lI_add]]
      have z1 := lp_word (A := A) (B := B) (up := up) (X := gH i) (Y := gW i) (by omega) bA bB dH dW k5
      have z2 := lp_word (A := C) (B := E) (up := dn) (X := gH i) (Y := gW i) (by omega) bC bE dH dW k6
      refine aw_lstore_2 dX0_leap_81 (by decide) rfl ?_
      refine aw_lload dX0_leap_82 rfl ?_
      refine aw_aload_n (i := 0) dX0_leap_84 rfl rfl ?_
      refine aw_getfield fX0_39 dX0_leap_85 hDu rfl ?_
      refine aw_lload dX0_leap_88 rfl ?_
      refine aw_lmul dX0_leap_90 ?_
      refine aw_aload_n (i := 0) dX0_leap_91 rfl rfl ?_
      refine aw_getfield fX0_42 dX0_leap_92 hDu rfl ?_
      refine aw_lload dX0_leap_95 rfl ?_
      refine aw_lmul dX0_leap_97 ?_
      refine aw_ladd dX0_leap_98 ?_
      refine aw_ladd dX0_leap_99 ?_
      rw [show lI dn + (lI C * lN (gH i) + lI E * lN (gW i)) = lI (dn + (C * (gH i : Int) + E * (gW i : Int))) by rw [lI_N, lI_N, lI_mul, lI_mul, lI_add, lI_add]]
      generalize hz1 : up + (A * (gH i : Int) + B * (gW i : Int)) = zu at *
      generalize hz2 : dn + (C * (gH i : Int) + E * (gW i : Int)) = zd at *
      refine aw_lstore_4 dX0_leap_100 (by decide) rfl ?_
      refine aw_aload_n (i := 0) dX0_leap_102 rfl rfl ?_
      refine aw_getfield fX0_26 dX0_leap_103 hDu rfl ?_
      refine aw_getfield fX0_84 dX0_leap_106 (nu_o hH0) rfl ?_
      refine aw_iload dX0_leap_109 rfl ?_
      refine aw_lload_n (i := 2) dX0_leap_111 rfl rfl ?_
      refine aw_l2i dX0_leap_112 rfl ?_
      have toi : ∀ z : Int, (lI z).toInt32 = nI (z % 2 ^ 32).toNat := fun z => by
        rw [lI_i, iI_mod, iI_N]
        congr 1
        omega
      rw [toi zu]
      refine aw_iast dX0_leap_113 i _ rfl (nu_a w hH0) (nI_toInt (by omega)) (by omega) ?_
      refine AW.hp (nu_upa w hH0) ?_
      refine AW.hp (nu_swap hWH) ?_
      refine aw_aload_n (i := 0) dX0_leap_114 rfl rfl ?_
      refine aw_getfield fX0_29 dX0_leap_115 hDu rfl ?_
      refine aw_getfield fX0_84 dX0_leap_118 (nu_o hW0) rfl ?_
      refine aw_iload dX0_leap_121 rfl ?_
      refine aw_lload dX0_leap_123 rfl ?_
      refine aw_l2i dX0_leap_125 rfl ?_
      rw [toi zd]
      refine aw_iast dX0_leap_126 i _ rfl (nu_a w hW0) (nI_toInt (by omega)) (by omega) ?_
      refine AW.hp (nu_upa w hW0) ?_
      refine AW.hp (nu_swap hWH).symm ?_
      refine aw_lload_n (i := 2) dX0_leap_127 rfl rfl ?_
      refine aw_bipush (v := 32) dX0_leap_128 (by decide +kernel) ?_
      refine aw_lshr dX0_leap_130 rfl ?_
      rw [shr32 (by omega) (by omega)]
      refine aw_lstore_2 dX0_leap_131 (by decide) rfl ?_
      refine aw_lload dX0_leap_132 rfl ?_
      refine aw_bipush (v := 32) dX0_leap_134 (by decide +kernel) ?_
      refine aw_lshr dX0_leap_136 rfl ?_
      rw [shr32 (by omega) (by omega)]
      refine aw_lstore_4 dX0_leap_137 (by decide) rfl ?_
      refine aw_iinc_6 (c0 := 1) dX0_leap_139 (by decide) (by decide) rfl ?_
      refine aw_goto (tgt := 24) dX0_leap_142 (by decide) ?_
      rw [nI_1]
      refine ih (i + 1) _ _ _ _ _ _ (by omega) (raw_up (s := 0) k1 (by omega)) (raw_up (s := 0) k2 (by omega)) (fun k hk => by rw [va_up_off (by omega)]; exact k3 k (by omega)) (fun k hk => by rw [va_up_off (by omega)]; exact k4 k (by omega)) (by omega) (by omega) ?_ ?_
      · rw [bv_s, bv_s, bv_s, va_up_at, bv_up_ge (Nat.le_refl _), p32s, ← k3 i (Nat.le_refl _), ← k4 i (Nat.le_refl _)]
        exact lp_digit hz1.symm (by omega) k7
      · rw [bv_s, bv_s, bv_s, va_up_at, bv_up_ge (Nat.le_refl _), p32s, ← k3 i (Nat.le_refl _), ← k4 i (Nat.le_refl _)]
        exact lp_digit hz2.symm (by omega) k8
  have eW : nu h L (va_up N W (m, y)) H m x = nu h L (va_up N W (m, y)) H m x := rfl
  have := loop m 0 x y 0 0 none none (by omega) hGh hGw (fun _ _ => rfl) (fun _ _ => rfl) (by decide) (by decide) (by simp [bv_0]) (by simp [bv_0])
  exact this
