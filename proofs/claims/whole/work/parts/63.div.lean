theorem euc_half {x y : Nat} (h : y ≤ x) (hy : 0 < y) : nb (y * (x % y)) < nb (x * y) := by
  have h1 : 2 * (x % y) < x := by
    have e1 := Nat.mod_add_div x y
    have e2 := Nat.mod_lt x hy
    have e3 : 0 < x / y := Nat.div_pos h hy
    have e4 : y ≤ y * (x / y) := Nat.le_mul_of_pos_right _ e3
    omega
  have h2 : 2 * (y * (x % y)) < x * y := by
    rw [← Nat.mul_assoc, Nat.mul_comm 2 y, Nat.mul_assoc, Nat.mul_comm x y]
    exact Nat.mul_lt_mul_of_pos_left h1 hy
  have h3 : 0 < nb (x * y) := nb_pos (Nat.mul_pos (by omega) hy)
  have h4 := nb_lt (v := x * y)
  have h5 : nb (y * (x % y)) ≤ nb (x * y) - 1 := by
    rw [nb_le]
    rw [show nb (x * y) = (nb (x * y) - 1) + 1 by omega, Nat.pow_succ] at h4
    omega
  omega
theorem nb_mul {x y a b : Nat} (hx : x < 2 ^ a) (hy : y < 2 ^ b) : nb (x * y) ≤ a + b := by
  rw [nb_le, Nat.pow_add]
  exact Nat.lt_of_le_of_lt (Nat.mul_le_mul_right _ (Nat.le_of_lt hx)) (Nat.mul_lt_mul_of_pos_left hy (Nat.two_pow_pos _))
theorem gcd_step {x y : Nat} : Nat.gcd y (x % y) = Nat.gcd x y := by rw [Nat.gcd_comm x y, Nat.gcd_rec y x, Nat.gcd_comm]
def DV (h : Hp) (L : Nat → Nat) (D q V R H W : Nat) (a b c d : Int64) : Prop := h D = some (dobj q V R H W a b c d) ∧ (L D = 0 ∧ L (D - 1) = 0) ∧ (L q = 72 ∧ L V = 72 ∧ L R = 72 ∧ L H = 72 ∧ L W = 72) ∧ (q ≠ V ∧ q ≠ R ∧ q ≠ H ∧ q ≠ W) ∧ (V ≠ R ∧ V ≠ H ∧ V ≠ W) ∧ (R ≠ H ∧ R ≠ W) ∧ H ≠ W
theorem ct_X0_finish (n : Nat) (h : Hp) (L : Nat → Nat) (C : NC) (D q V R H W u v : Nat) (a b c d : Int64) (w : LW L) (hD : DV h L D q V R H W a b c d) (hu : num (L H) (C H) u) (hv : num (L W) (C W) v) (hvu : v ≤ u) (hs : u < 2 ^ 62) : CT mX0_finish 0 0 n (nh h L C) [.ref D] (fun z n' h' => n = n' ∧ z = none ∧ ∃ C', h' = nh h L C' ∧ num (L H) (C' H) (Nat.gcd u v) ∧ num (L W) (C' W) 0 ∧ ∀ k, k ≠ H → k ≠ W → C' k = C k) := by
  refine CT.intro [some (.ref D), none, none, none, none, none, none, none] 7 rfl rfl (by decide) ?_
  intro Q hQ
  obtain ⟨hD0, ⟨hLD, hLD1⟩, ⟨l1, l2, l3, l4, l5⟩, -, -, -, hHW⟩ := hD
  have hH0 : L H ≠ 0 := by omega
  have hW0 : L W ≠ 0 := by omega
  have hDn : ∀ {C : NC}, nh h L C D = some (dobj q V R H W a b c d) := by intro C; rw [nh_no h _ hLD hLD1]; exact hD0
  refine aw_aload_n (i := 0) dX0_finish_0 rfl rfl ?_
  refine aw_getfield fX0_26 dX0_finish_1 hDn rfl ?_
  refine aw_invokevirtual kX0_136 dX0_finish_4 (nh_o h C hH0) (ct_X3_toLong n h L C H u w hH0 hu (by omega)) rfl rfl (Nat.le_of_ble_eq_true rfl) ⟨Nat.le_of_ble_eq_true rfl, Nat.le_of_ble_eq_true rfl⟩ ⟨Nat.le_of_ble_eq_true rfl, Nat.le_of_ble_eq_true rfl⟩ ?_
  rintro _ _ _ ⟨rfl, rfl, rfl⟩
  refine aw_lstore_1 dX0_finish_7 (by decide) rfl ?_
  refine aw_aload_n (i := 0) dX0_finish_8 rfl rfl ?_
  refine aw_getfield fX0_29 dX0_finish_9 hDn rfl ?_
  refine aw_invokevirtual kX0_136 dX0_finish_12 (nh_o h C hW0) (ct_X3_toLong n h L C W v w hW0 hv (by omega)) rfl rfl (Nat.le_of_ble_eq_true rfl) ⟨Nat.le_of_ble_eq_true rfl, Nat.le_of_ble_eq_true rfl⟩ ⟨Nat.le_of_ble_eq_true rfl, Nat.le_of_ble_eq_true rfl⟩ ?_
  rintro _ _ _ ⟨rfl, rfl, rfl⟩
  refine aw_lstore_3 dX0_finish_15 (by decide) rfl ?_
  refine aw_iconst (v := 0) dX0_finish_16 (by decide +kernel) ?_
  refine aw_istore_5 dX0_finish_17 (by decide) rfl ?_
  have hm := nb_mul (x := u) (y := v) (a := 62) (b := 62) hs (by omega)
  have loop : ∀ (m x y i : Nat) (y6 : Option Value), y ≤ x → x < 2 ^ 62 → Nat.gcd x y = Nat.gcd u v → nb (x * y) ≤ m → i + m ≤ 124 → AW mX0_finish (gq 0 0 Q) 19 [some (.ref D), some (.long (lN x)), none, some (.long (lN y)), none, some (.int (nI i)), y6, none] [] 0 0 n (nh h L C) := by
    intro m
    induction m with
    | zero =>
      intro x y i y6 k1 k2 k3 k4 k5
      have hy : y = 0 := by
        rcases Nat.eq_zero_or_pos y with z | z
        · exact z
        · have := nb_pos (v := x * y) (Nat.mul_pos (by omega) z); omega
      subst hy
      rw [Nat.gcd_zero_right] at k3
      refine aw_iload dX0_finish_19 rfl ?_
      refine aw_ldc qX0_123 dX0_finish_21 ?_
      refine aw_icmp_ge (tgt := 48) dX0_finish_23 (by decide) (fun c => absurd c (nI_ge (b := 1000000) (by omega) (by decide))) (fun _ => ?_)
      refine aw_lload_n (i := 3) dX0_finish_26 rfl rfl ?_
      refine aw_lconst (v := 0) dX0_finish_27 (by decide) ?_
      refine aw_lcmp dX0_finish_28 ?_
      refine aw_if_eq (tgt := 48) dX0_finish_29 (by decide) (fun _ => ?_) (fun c => (c ((lc0u (by decide)).mpr rfl)).elim)
      refine aw_aload_n (i := 0) dX0_finish_48 rfl rfl ?_
      refine aw_getfield fX0_26 dX0_finish_49 hDn rfl ?_
      refine aw_lload_n (i := 1) dX0_finish_52 rfl rfl ?_
      refine aw_invokevirtual kX0_140 dX0_finish_53 (nh_o h C hH0) (ct_X3_put n h L C H u x w hH0 hu (by omega)) rfl rfl (Nat.le_of_ble_eq_true rfl) ⟨Nat.le_of_ble_eq_true rfl, Nat.le_of_ble_eq_true rfl⟩ ⟨Nat.le_of_ble_eq_true rfl, Nat.le_of_ble_eq_true rfl⟩ ?_
      rintro _ _ _ ⟨rfl, rfl, C1, rfl, d1, f1⟩
      refine aw_aload_n (i := 0) dX0_finish_56 rfl rfl ?_
      refine aw_getfield fX0_29 dX0_finish_57 hDn rfl ?_
      refine aw_invokevirtual kX0_69 dX0_finish_60 (nh_o h C1 hW0) (ct_X3_clear n h L C1 W v w hW0 (by rw [f1 W (Ne.symm hHW)]; exact hv)) rfl rfl (Nat.le_of_ble_eq_true rfl) ⟨Nat.le_of_ble_eq_true rfl, Nat.le_of_ble_eq_true rfl⟩ ⟨Nat.le_of_ble_eq_true rfl, Nat.le_of_ble_eq_true rfl⟩ ?_
      rintro _ _ _ ⟨rfl, rfl, C2, rfl, d2, f2⟩
      refine aw_return dX0_finish_63 rfl (Nat.le_of_ble_eq_true rfl) (Nat.le_of_ble_eq_true rfl) ?_
      exact hQ _ _ _ ⟨rfl, rfl, C2, rfl, by rw [f2 H hHW, ← k3]; exact d1, d2, fun k e1 e2 => by rw [f2 k e2, f1 k e1]⟩
    | succ m ih =>
      intro x y i y6 k1 k2 k3 k4 k5
      by_cases hy : y = 0
      · exact ih x y i y6 k1 k2 k3 (by rw [hy, Nat.mul_zero, nb_zero]; omega) (by omega)
      · have hne : ¬ lN y = 0 := fun q => hy ((pk_lEQ (a := y) (b := 0) (by omega) (by decide)).mp q)
        have hml := Nat.mod_lt x (show 0 < y by omega)
        have heu := euc_half k1 (show 0 < y by omega)
        refine aw_iload dX0_finish_19 rfl ?_
        refine aw_ldc qX0_123 dX0_finish_21 ?_
        refine aw_icmp_ge (tgt := 48) dX0_finish_23 (by decide) (fun c => absurd c (nI_ge (b := 1000000) (by omega) (by decide))) (fun _ => ?_)
        refine aw_lload_n (i := 3) dX0_finish_26 rfl rfl ?_
        refine aw_lconst (v := 0) dX0_finish_27 (by decide) ?_
        refine aw_lcmp dX0_finish_28 ?_
        refine aw_if_eq (tgt := 48) dX0_finish_29 (by decide) (fun c => absurd c (fun e => hy ((lc0u (by omega)).mp e))) (fun _ => ?_)
        refine aw_lload_n (i := 1) dX0_finish_32 rfl rfl ?_
        refine aw_lload_n (i := 3) dX0_finish_33 rfl rfl ?_
        refine aw_lrem dX0_finish_34 hne ?_
        rw [pk_lRem (by omega) (by omega) (by omega)]
        refine aw_lstore_6 dX0_finish_35 (by decide) rfl ?_
        refine aw_lload_n (i := 3) dX0_finish_37 rfl rfl ?_
        refine aw_lstore_1 dX0_finish_38 (by decide) rfl ?_
        refine aw_lload dX0_finish_39 rfl ?_
        refine aw_lstore_3 dX0_finish_41 (by decide) rfl ?_
        refine aw_iinc_5 (c0 := 1) dX0_finish_42 (by decide) (by decide) rfl ?_
        refine aw_goto (tgt := 19) dX0_finish_45 (by decide) ?_
        rw [nI_1]
        exact ih y (x % y) (i + 1) _ (by omega) (by omega) (gcd_step.trans k3) (by omega) (by omega)
  refine AW.forget [some (.ref D), some (.long (lN u)), none, some (.long (lN v)), none, some (.int (nI 0)), none, none] ⟨rfl, rfl, rfl, rfl, trivial⟩ ?_
  exact loop 124 u v 0 none hvu hs rfl hm (by omega)
theorem ct_X0_moveOn (n : Nat) (h : Hp) (L : Nat → Nat) (C : NC) (D q V R H W : Nat) (a b c d : Int64) (hD : DV h L D q V R H W a b c d) : CT mX0_moveOn 0 0 n (nh h L C) [.ref D] (pv n (fun h' => h' = nh (hup h D (dobj q V H W R a b c d)) L C)) := by
  refine CT.intro [some (.ref D), none] 1 rfl rfl (by decide) ?_
  intro Q hQ
  obtain ⟨hD0, ⟨hLD, hLD1⟩, -⟩ := hD
  refine aw_aload_n (i := 0) dX0_moveOn_0 rfl rfl ?_
  refine aw_getfield fX0_26 dX0_moveOn_1 (by rw [nh_no h _ hLD hLD1]; exact hD0) rfl ?_
  refine aw_astore_1 dX0_moveOn_4 (by decide) rfl ?_
  refine aw_aload_n (i := 0) dX0_moveOn_5 rfl rfl ?_
  refine aw_aload_n (i := 0) dX0_moveOn_6 rfl rfl ?_
  refine aw_getfield fX0_29 dX0_moveOn_7 (by rw [nh_no h _ hLD hLD1]; exact hD0) rfl ?_
  refine aw_putfield fX0_26 dX0_moveOn_10 (by rw [nh_no h _ hLD hLD1]; exact hD0) rfl rfl (Nat.le_of_ble_eq_true rfl) ?_
  dsimp only [List.set]
  refine AW.hp (nh_upn h C hLD hLD1 (dobj q V R W W a b c d)) ?_
  refine aw_aload_n (i := 0) dX0_moveOn_13 rfl rfl ?_
  refine aw_aload_n (i := 0) dX0_moveOn_14 rfl rfl ?_
  refine aw_getfield fX0_23 dX0_moveOn_15 (by rw [nh_no _ _ hLD hLD1]; exact hup_self _ _ _) rfl ?_
  refine aw_putfield fX0_29 dX0_moveOn_18 (by rw [nh_no _ _ hLD hLD1]; exact hup_self _ _ _) rfl rfl (Nat.le_of_ble_eq_true rfl) ?_
  dsimp only [List.set]
  refine AW.hp (nh_upn _ C hLD hLD1 (dobj q V R W R a b c d)) ?_
  rw [hup_hup]
  refine aw_aload_n (i := 0) dX0_moveOn_21 rfl rfl ?_
  refine aw_aload_n (i := 1) dX0_moveOn_22 rfl rfl ?_
  refine aw_putfield fX0_23 dX0_moveOn_23 (by rw [nh_no _ _ hLD hLD1]; exact hup_self _ _ _) rfl rfl (Nat.le_of_ble_eq_true rfl) ?_
  dsimp only [List.set]
  refine AW.hp (nh_upn _ C hLD hLD1 (dobj q V H W R a b c d)) ?_
  rw [hup_hup]
  refine aw_return dX0_moveOn_26 rfl (Nat.le_of_ble_eq_true rfl) (Nat.le_of_ble_eq_true rfl) ?_
  exact hQ _ _ _ ⟨rfl, rfl, rfl⟩
theorem lI_div {a b : Int} (h1 : 0 ≤ a) (h2 : a < 2 ^ 63) (h3 : 0 < b) (h4 : b < 2 ^ 63) : lI a / lI b = lI (a / b) := by
  obtain ⟨x, rfl⟩ := Int.eq_ofNat_of_zero_le h1
  obtain ⟨y, rfl⟩ := Int.eq_ofNat_of_zero_le (Int.le_of_lt h3)
  have := pk_lDiv (a := x) (b := y) (by omega) (by omega) (by omega)
  rw [lI_N, lI_N, lI_N] at this
  rw [this]
  exact congrArg lI rfl
theorem lI_abs {z : Int} (h1 : -2 ^ 63 < z) (h2 : z < 2 ^ 63) : (if 0 < lI z then lI z else -lI z) = lI (z.natAbs : Int) := by
  have e : -lI z = lI (-z) := (Int64.ofInt_neg z).symm
  have hi : 0 < lI z ↔ 0 < z := by rw [show (0 : Int64) = lI 0 from rfl, lI_lt (by decide) (by decide) (by omega) (by omega)]
  rw [e]
  by_cases h : 0 < z
  · rw [if_pos (hi.mpr h)]; congr 1; omega
  · rw [if_neg (fun q => h (hi.mp q))]; congr 1; omega
/-- the quotient that both ends agree on is the quotient of all in between -/
theorem leap_q {S H Lo xl xh yl yh t : Int} (hS : 0 < S) (a1 : xl * S ≤ H) (a2 : H ≤ xh * S) (b1 : yl * S ≤ Lo) (b2 : Lo ≤ yh * S) (ht : 0 ≤ t) (h1 : t * yh ≤ xl) (h2 : xh < (t + 1) * yl) : t * Lo ≤ H ∧ H < (t + 1) * Lo := by
  constructor
  · have e1 : t * Lo ≤ t * (yh * S) := Int.mul_le_mul_of_nonneg_left b2 ht
    have e2 : t * yh * S ≤ xl * S := Int.mul_le_mul_of_nonneg_right h1 (Int.le_of_lt hS)
    rw [← Int.mul_assoc] at e1
    omega
  · have e1 : (t + 1) * (yl * S) ≤ (t + 1) * Lo := Int.mul_le_mul_of_nonneg_left b1 (by omega)
    have e2 : xh * S < (t + 1) * yl * S := Int.mul_lt_mul_of_pos_right h2 hS
    rw [← Int.mul_assoc] at e1
    omega
/-- what the factors of a leap say of the numbers -/
def LPx (u v : Nat) (x0 y0 : Nat) (A B C D x y : Int) : Prop :=
  (x = A * x0 + B * y0 ∧ y = C * x0 + D * y0) ∧
  ((0 ≤ A ∧ B ≤ 0 ∧ C ≤ 0 ∧ 0 ≤ D) ∨ (A ≤ 0 ∧ 0 ≤ B ∧ 0 ≤ C ∧ D ≤ 0)) ∧
  (A.natAbs < 2 ^ 31 ∧ B.natAbs < 2 ^ 31 ∧ C.natAbs < 2 ^ 31 ∧ D.natAbs < 2 ^ 31) ∧
  (0 ≤ x + A ∧ 0 ≤ x + B) ∧
  ∃ Hv Lv : Nat, (Hv : Int) = A * u + B * v ∧ (Lv : Int) = C * u + D * v ∧ Lv ≤ Hv ∧ Hv ≤ u ∧ 0 < Hv ∧ Nat.gcd Hv Lv = Nat.gcd u v ∧ (B = 0 ∨ nb (Hv * Lv) < nb (u * v)) ∧ nb (Hv * Lv) ≤ nb (u * v)
/-- the true numbers lie between the ends -/
theorem lp_ends {u x0 S ul vl v y0 : Nat} {A B x Hv : Int} (hu : u = x0 * S + ul) (hv : v = y0 * S + vl) (hul : ul ≤ S) (hvl : vl ≤ S) (hx : x = A * x0 + B * y0) (hH : Hv = A * u + B * v) : (0 ≤ A → B ≤ 0 → (x + B) * S ≤ Hv ∧ Hv ≤ (x + A) * S) ∧ (A ≤ 0 → 0 ≤ B → (x + A) * S ≤ Hv ∧ Hv ≤ (x + B) * S) := by
  have e : Hv = x * S + A * ul + B * vl := by
    rw [hH, hx, hu, hv]
    push_cast
    rw [Int.mul_add, Int.mul_add, Int.add_mul, ← Int.mul_assoc, ← Int.mul_assoc]
    omega
  have s1 : (0 : Int) ≤ ul := by omega
  have s2 : (0 : Int) ≤ vl := by omega
  have s3 : (ul : Int) ≤ S := by omega
  have s4 : (vl : Int) ≤ S := by omega
  refine ⟨fun hA hB => ?_, fun hA hB => ?_⟩
  · have f1 : A * ul ≤ A * S := Int.mul_le_mul_of_nonneg_left s3 hA
    have f2 : 0 ≤ A * ul := Int.mul_nonneg hA s1
    have f3 : B * S ≤ B * vl := Int.mul_le_mul_of_nonpos_left hB s4
    have f4 : B * vl ≤ 0 := Int.mul_nonpos_of_nonpos_of_nonneg hB s2
    rw [Int.add_mul, Int.add_mul]
    omega
  · have f1 : B * vl ≤ B * S := Int.mul_le_mul_of_nonneg_left s4 hB
    have f2 : 0 ≤ B * vl := Int.mul_nonneg hB s2
    have f3 : A * S ≤ A * ul := Int.mul_le_mul_of_nonpos_left hA s3
    have f4 : A * ul ≤ 0 := Int.mul_nonpos_of_nonpos_of_nonneg hA s1
    rw [Int.add_mul, Int.add_mul]
    omega
