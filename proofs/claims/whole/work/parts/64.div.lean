theorem lp_step {u v x0 y0 S ul vl : Nat} {A B C D x y t : Int} (hu : u = x0 * S + ul) (hv : v = y0 * S + vl) (hul : ul ≤ S) (hvl : vl ≤ S) (hS : 0 < S) (h : LPx u v x0 y0 A B C D x y) (hyc : 0 < y + C) (hyd : 0 < y + D) (ht1 : t = (x + A) / (y + C)) (ht2 : t = (x + B) / (y + D)) (hc : (A - t * C).natAbs < 2 ^ 31) (hd : (B - t * D).natAbs < 2 ^ 31) : LPx u v x0 y0 C D (A - t * C) (B - t * D) y (x - t * y) := by
  obtain ⟨⟨hx, hy⟩, hsg, ⟨bA, bB, bC, bD⟩, ⟨p1, p2⟩, Hv, Lv, eH, eL, k1, k2, k3, k4, k5, k6⟩ := h
  have ht : 0 ≤ t := by rw [ht1]; exact Int.ediv_nonneg p1 (Int.le_of_lt hyc)
  have a1 : t * (y + C) ≤ x + A := by rw [ht1]; exact Int.ediv_mul_le _ (by omega)
  have a2 : x + A < (t + 1) * (y + C) := by rw [ht1]; exact Int.lt_ediv_add_one_mul_self _ hyc
  have a3 : t * (y + D) ≤ x + B := by rw [ht2]; exact Int.ediv_mul_le _ (by omega)
  have a4 : x + B < (t + 1) * (y + D) := by rw [ht2]; exact Int.lt_ediv_add_one_mul_self _ hyd
  have eh := lp_ends hu hv hul hvl hx eH
  have el := lp_ends hu hv hul hvl hy eL
  have hS' : (0 : Int) < S := by omega
  have key : t * (Lv : Int) ≤ Hv ∧ (Hv : Int) < (t + 1) * Lv ∧ 0 < Lv := by
    rcases hsg with ⟨s1, s2, s3, s4⟩ | ⟨s1, s2, s3, s4⟩
    · obtain ⟨e1, e2⟩ := eh.1 s1 s2
      obtain ⟨e3, e4⟩ := el.2 s3 s4
      have e5 : 0 < (y + C) * S := Int.mul_pos hyc hS'
      have := leap_q hS' e1 e2 e3 e4 ht a3 a2
      exact ⟨this.1, this.2, by omega⟩
    · obtain ⟨e1, e2⟩ := eh.2 s1 s2
      obtain ⟨e3, e4⟩ := el.1 s3 s4
      have e5 : 0 < (y + D) * S := Int.mul_pos hyd hS'
      have := leap_q hS' e1 e2 e3 e4 ht a1 a4
      exact ⟨this.1, this.2, by omega⟩
  obtain ⟨q1, q2, q3⟩ := key
  obtain ⟨T, rfl⟩ := Int.eq_ofNat_of_zero_le ht
  have q1' : T * Lv ≤ Hv := by exact_mod_cast q1
  have q2' : Hv < (T + 1) * Lv := by exact_mod_cast q2
  have hdiv : Hv / Lv = T := Nat.div_eq_of_lt_le q1' q2'
  have hmod : Hv % Lv = Hv - T * Lv := by
    have := Nat.mod_add_div Hv Lv
    rw [hdiv, Nat.mul_comm] at this
    omega
  have hml := Nat.mod_lt Hv q3
  refine ⟨⟨hy, ?_⟩, ?_, ⟨bC, bD, hc, hd⟩, ⟨by omega, by omega⟩, Lv, Hv % Lv, eL, ?_, by omega, by omega, q3, gcd_step.trans k4, Or.inr ?_, ?_⟩
  · rw [hx, hy, Int.sub_mul, Int.sub_mul, Int.mul_add, ← Int.mul_assoc, ← Int.mul_assoc]; omega
  · rcases hsg with ⟨s1, s2, s3, s4⟩ | ⟨s1, s2, s3, s4⟩
    · have e1 : (T : Int) * C ≤ 0 := Int.mul_nonpos_of_nonneg_of_nonpos ht s3
      have e2 : 0 ≤ (T : Int) * D := Int.mul_nonneg ht s4
      exact Or.inr ⟨s3, s4, by omega, by omega⟩
    · have e1 : 0 ≤ (T : Int) * C := Int.mul_nonneg ht s3
      have e2 : (T : Int) * D ≤ 0 := Int.mul_nonpos_of_nonneg_of_nonpos ht s4
      exact Or.inl ⟨s3, s4, by omega, by omega⟩
  · have e1 : ((Hv % Lv : Nat) : Int) = Hv - T * Lv := by
      have : (Hv % Lv) + T * Lv = Hv := by omega
      have : ((Hv % Lv : Nat) : Int) + T * Lv = Hv := by exact_mod_cast this
      omega
    rw [e1, eH, eL, Int.sub_mul, Int.sub_mul, Int.mul_add, ← Int.mul_assoc, ← Int.mul_assoc]; omega
  · have := euc_half k1 q3; omega
  · have := euc_half k1 q3; omega
theorem lp_bnd {u v x0 y0 S ul vl : Nat} {A B C D x y : Int} (hu : u = x0 * S + ul) (hv : v = y0 * S + vl) (hul : ul < S) (hvl : vl < S) (hS : 0 < S) (h : LPx u v x0 y0 A B C D x y) : (-2 ^ 31 < x ∧ x < x0 + 2 ^ 32) ∧ (-2 ^ 31 < y ∧ y < x0 + 2 ^ 32) := by
  obtain ⟨⟨hx, hy⟩, hsg, ⟨bA, bB, bC, bD⟩, ⟨p1, p2⟩, Hv, Lv, eH, eL, k1, k2, k3, k4, k5, k6⟩ := h
  have eh := lp_ends hu hv (Nat.le_of_lt hul) (Nat.le_of_lt hvl) hx eH
  have el := lp_ends hu hv (Nat.le_of_lt hul) (Nat.le_of_lt hvl) hy eL
  have hS' : (0 : Int) < S := by omega
  have hub : (u : Int) < ((x0 : Int) + 1) * S := by
    have : u < (x0 + 1) * S := by rw [hu, Nat.add_mul, Nat.one_mul]; omega
    exact_mod_cast this
  have up : ∀ z : Int, z * S ≤ u → z < x0 + 1 := fun z hz => Int.lt_of_mul_lt_mul_right (Int.lt_of_le_of_lt hz hub) (Int.le_of_lt hS')
  have lo : ∀ z : Int, 0 ≤ z * S → 0 ≤ z := fun z hz => by
    apply Decidable.byContradiction
    intro q
    have : z * S < 0 := Int.mul_neg_of_neg_of_pos (by omega) hS'
    omega
  rcases hsg with ⟨s1, s2, s3, s4⟩ | ⟨s1, s2, s3, s4⟩
  · obtain ⟨e1, e2⟩ := eh.1 s1 s2
    obtain ⟨e3, e4⟩ := el.2 s3 s4
    have u1 := up (x + B) (by omega)
    have u2 := up (y + C) (by omega)
    have u3 := lo (y + D) (by omega)
    omega
  · obtain ⟨e1, e2⟩ := eh.2 s1 s2
    obtain ⟨e3, e4⟩ := el.1 s3 s4
    have u1 := up (x + A) (by omega)
    have u2 := up (y + D) (by omega)
    have u3 := lo (y + C) (by omega)
    omega
theorem tC_bnd {t C : Int} (h0 : 0 ≤ t) (h1 : t ≤ 2147483647) (h2 : C.natAbs < 2 ^ 31) : (t * C).natAbs ≤ 2147483647 * 2147483647 := by
  rw [Int.natAbs_mul]
  exact Nat.mul_le_mul (by omega) (by omega)
theorem ct_X0_findLeap (n : Nat) (h : Hp) (L : Nat → Nat) (N : NC) (D q V R H W u v : Nat) (a b c d : Int64) (w : LW L) (hD : DV h L D q V R H W a b c d) (hu : num (L H) (N H) u) (hv : num (L W) (N W) v) (hvu : v ≤ u) (hv0 : 0 < v) (hs : 62 < nb u) : CT mX0_findLeap 0 0 n (nh h L N) [.ref D] (fun z n' h' => n = n' ∧ ∃ x0 y0 A B C E x y, z = some (.int (bI (decide (B ≠ 0)))) ∧ h' = nh (hup h D (dobj q V R H W (lI A) (lI B) (lI C) (lI E))) L N ∧ LPx u v x0 y0 A B C E x y) := by
  refine CT.intro [some (.ref D), none, none, none, none, none, none, none, none, none, none, none, none, none, none] 14 rfl rfl (by decide) ?_
  intro Q hQ
  obtain ⟨hD0, ⟨hLD, hLD1⟩, ⟨l1, l2, l3, l4, l5⟩, -, -, -, hHW⟩ := hD
  have hH0 : L H ≠ 0 := by omega
  have hW0 : L W ≠ 0 := by omega
  have hun : nb u ≤ 2304 := by
    have e1 := raw_lt hu.1
    have e2 := hu.1.1
    rw [p32] at e1
    have := nb_le.mpr e1
    omega
  refine aw_aload_n (i := 0) dX0_findLeap_0 rfl rfl ?_
  refine aw_getfield fX0_26 dX0_findLeap_1 (by rw [nh_no h _ hLD hLD1]; exact hD0) rfl ?_
  refine aw_invokevirtual kX0_76 dX0_findLeap_4 (nh_o h N hH0) (ct_X3_bits n h L N H u w hH0 hu) rfl rfl (Nat.le_of_ble_eq_true rfl) ⟨Nat.le_of_ble_eq_true rfl, Nat.le_of_ble_eq_true rfl⟩ ⟨Nat.le_of_ble_eq_true rfl, Nat.le_of_ble_eq_true rfl⟩ ?_
  rintro _ _ _ ⟨rfl, rfl, rfl⟩
  refine aw_bipush (v := 62) dX0_findLeap_7 (by decide +kernel) ?_
  refine aw_isub dX0_findLeap_9 ?_
  rw [show nI (nb u) - 62 = nI (nb u - 62) from pk_sub (b := 62) (by omega)]
  generalize hsh : nb u - 62 = sh at *
  have hux : u / 2 ^ sh < 2 ^ 62 := by
    rw [Nat.div_lt_iff_lt_mul (Nat.two_pow_pos _), ← Nat.pow_add, show 62 + sh = nb u by omega]
    exact nb_lt
  have hvx : v / 2 ^ sh ≤ u / 2 ^ sh := Nat.div_le_div_right hvu
  refine aw_istore_1 dX0_findLeap_10 (by decide) rfl ?_
  refine aw_aload_n (i := 0) dX0_findLeap_11 rfl rfl ?_
  refine aw_getfield fX0_26 dX0_findLeap_12 (by rw [nh_no h _ hLD hLD1]; exact hD0) rfl ?_
  refine aw_iload_n (i := 1) dX0_findLeap_15 rfl rfl ?_
  refine aw_invokevirtual kX0_144 dX0_findLeap_16 (nh_o h N hH0) (ct_X3_window n h L N H u sh w hH0 hu.1 (by omega) (by omega)) rfl rfl (Nat.le_of_ble_eq_true rfl) ⟨Nat.le_of_ble_eq_true rfl, Nat.le_of_ble_eq_true rfl⟩ ⟨Nat.le_of_ble_eq_true rfl, Nat.le_of_ble_eq_true rfl⟩ ?_
  rintro _ _ _ ⟨rfl, rfl, rfl⟩
  refine aw_lstore_2 dX0_findLeap_19 (by decide) rfl ?_
  refine aw_aload_n (i := 0) dX0_findLeap_20 rfl rfl ?_
  refine aw_getfield fX0_29 dX0_findLeap_21 (by rw [nh_no h _ hLD hLD1]; exact hD0) rfl ?_
  refine aw_iload_n (i := 1) dX0_findLeap_24 rfl rfl ?_
  refine aw_invokevirtual kX0_144 dX0_findLeap_25 (nh_o h N hW0) (ct_X3_window n h L N W v sh w hW0 hv.1 (by omega) (by omega)) rfl rfl (Nat.le_of_ble_eq_true rfl) ⟨Nat.le_of_ble_eq_true rfl, Nat.le_of_ble_eq_true rfl⟩ ⟨Nat.le_of_ble_eq_true rfl, Nat.le_of_ble_eq_true rfl⟩ ?_
  rintro _ _ _ ⟨rfl, rfl, rfl⟩
  refine aw_lstore_4 dX0_findLeap_28 (by decide) rfl ?_
  refine aw_aload_n (i := 0) dX0_findLeap_30 rfl rfl ?_
  refine aw_lconst (v := 1) dX0_findLeap_31 (by decide) ?_
  refine aw_putfield fX0_32 dX0_findLeap_32 (by rw [nh_no h _ hLD hLD1]; exact hD0) rfl rfl (Nat.le_of_ble_eq_true rfl) ?_
  dsimp only [List.set]
  refine AW.hp (nh_upn h N hLD hLD1 (dobj q V R H W 1 b c d)) ?_
  refine aw_aload_n (i := 0) dX0_findLeap_35 rfl rfl ?_
  refine aw_lconst (v := 0) dX0_findLeap_36 (by decide) ?_
  refine aw_putfield fX0_36 dX0_findLeap_37 (by rw [nh_no _ _ hLD hLD1]; exact hup_self _ _ _) rfl rfl (Nat.le_of_ble_eq_true rfl) ?_
  dsimp only [List.set]
  refine AW.hp (nh_upn _ N hLD hLD1 (dobj q V R H W 1 0 c d)) ?_
  rw [hup_hup]
  refine aw_aload_n (i := 0) dX0_findLeap_40 rfl rfl ?_
  refine aw_lconst (v := 0) dX0_findLeap_41 (by decide) ?_
  refine aw_putfield fX0_39 dX0_findLeap_42 (by rw [nh_no _ _ hLD hLD1]; exact hup_self _ _ _) rfl rfl (Nat.le_of_ble_eq_true rfl) ?_
  dsimp only [List.set]
  refine AW.hp (nh_upn _ N hLD hLD1 (dobj q V R H W 1 0 0 d)) ?_
  rw [hup_hup]
  refine aw_aload_n (i := 0) dX0_findLeap_45 rfl rfl ?_
  refine aw_lconst (v := 1) dX0_findLeap_46 (by decide) ?_
  refine aw_putfield fX0_42 dX0_findLeap_47 (by rw [nh_no _ _ hLD hLD1]; exact hup_self _ _ _) rfl rfl (Nat.le_of_ble_eq_true rfl) ?_
  dsimp only [List.set]
  refine AW.hp (nh_upn _ N hLD hLD1 (dobj q V R H W 1 0 0 1)) ?_
  rw [hup_hup]
  refine aw_iconst (v := 0) dX0_findLeap_50 (by decide +kernel) ?_
  refine aw_istore_6 dX0_findLeap_51 (by decide) rfl ?_
  have hS := Nat.two_pow_pos sh
  have eu : u = u / 2 ^ sh * 2 ^ sh + u % 2 ^ sh := by have := Nat.mod_add_div u (2 ^ sh); rw [Nat.mul_comm] at this; omega
  have ev : v = v / 2 ^ sh * 2 ^ sh + v % 2 ^ sh := by have := Nat.mod_add_div v (2 ^ sh); rw [Nat.mul_comm] at this; omega
  have hul := Nat.mod_lt u hS
  have hvl := Nat.mod_lt v hS
  generalize u / 2 ^ sh = x0 at *
  generalize v / 2 ^ sh = y0 at *
  generalize u % 2 ^ sh = ul at *
  generalize v % 2 ^ sh = vl at *
  generalize 2 ^ sh = S at *
  -- the end
  have fin : ∀ (A B C E x y : Int) (st : Nat) (y7 y9 y11 y13 : Option Value), LPx u v x0 y0 A B C E x y → AW mX0_findLeap (gq 0 0 Q) 237 [some (.ref D), some (.int (nI sh)), some (.long (lI x)), none, some (.long (lI y)), none, some (.int (nI st)), y7, none, y9, none, y11, none, y13, none] [] 0 0 n (nh (hup h D (dobj q V R H W (lI A) (lI B) (lI C) (lI E))) L N) := by
    intro A B C E x y st y7 y9 y11 y13 hl
    have bB := hl.2.2.1.2.1
    refine aw_aload_n (i := 0) dX0_findLeap_237 rfl rfl ?_
    refine aw_getfield fX0_36 dX0_findLeap_238 (by rw [nh_no _ _ hLD hLD1]; exact hup_self _ _ _) rfl ?_
    refine aw_lconst (v := 0) dX0_findLeap_241 (by decide) ?_
    refine aw_lcmp dX0_findLeap_242 ?_
    by_cases hb : B = 0
    · refine aw_if_eq (tgt := 250) dX0_findLeap_243 (by decide) (fun _ => ?_) (fun c => (c (by rw [lg_cmp_eq, hb]; rfl)).elim)
      refine aw_iconst (v := 0) dX0_findLeap_250 (by decide +kernel) ?_
      refine aw_ireturn dX0_findLeap_251 rfl rfl (Nat.le_of_ble_eq_true rfl) (Nat.le_of_ble_eq_true rfl) ?_
      exact hQ _ _ _ ⟨rfl, x0, y0, A, B, C, E, x, y, by rw [decide_eq_false (fun e => e hb)]; rfl, rfl, hl⟩
    · refine aw_if_eq (tgt := 250) dX0_findLeap_243 (by decide) (fun c => absurd c (by rw [lg_cmp_eq, show (0 : Int64) = lI 0 from rfl, lI_eq (by omega) (by omega) (by decide) (by decide)]; exact hb)) (fun _ => ?_)
      refine aw_iconst (v := 1) dX0_findLeap_246 (by decide +kernel) ?_
      refine aw_goto (tgt := 251) dX0_findLeap_247 (by decide) ?_
      refine aw_ireturn dX0_findLeap_251 rfl rfl (Nat.le_of_ble_eq_true rfl) (Nat.le_of_ble_eq_true rfl) ?_
      exact hQ _ _ _ ⟨rfl, x0, y0, A, B, C, E, x, y, by rw [decide_eq_true hb]; rfl, rfl, hl⟩
  have loop : ∀ (j st : Nat) (A B C E x y : Int) (y7 y9 y11 y13 : Option Value), st + j = 1000000 → LPx u v x0 y0 A B C E x y → AW mX0_findLeap (gq 0 0 Q) 53 [some (.ref D), some (.int (nI sh)), some (.long (lI x)), none, some (.long (lI y)), none, some (.int (nI st)), y7, none, y9, none, y11, none, y13, none] [] 0 0 n (nh (hup h D (dobj q V R H W (lI A) (lI B) (lI C) (lI E))) L N) := by
    intro j
    induction j with
    | zero =>
      intro st A B C E x y y7 y9 y11 y13 hst hl
      obtain rfl : st = 1000000 := by omega
      refine aw_iload dX0_findLeap_53 rfl ?_
      refine aw_ldc qX0_123 dX0_findLeap_55 ?_
      refine aw_icmp_ge (tgt := 237) dX0_findLeap_57 (by decide) (fun _ => ?_) (fun c => (c (by decide)).elim)
      exact fin A B C E x y _ _ _ _ _ hl
    | succ j ih =>
      intro st A B C E x y y7 y9 y11 y13 hst hl
      obtain ⟨⟨bx1, bx2⟩, by1, by2⟩ := lp_bnd eu ev hul hvl hS hl
      obtain ⟨bA, bB, bC, bE⟩ := hl.2.2.1
      obtain ⟨pA, pB⟩ := hl.2.2.2.1
      refine aw_iload dX0_findLeap_53 rfl ?_
      refine aw_ldc qX0_123 dX0_findLeap_55 ?_
      refine aw_icmp_ge (tgt := 237) dX0_findLeap_57 (by decide) (fun c => absurd c (nI_ge (b := 1000000) (by omega) (by decide))) (fun _ => ?_)
      refine aw_lload dX0_findLeap_60 rfl ?_
      refine aw_aload_n (i := 0) dX0_findLeap_62 rfl rfl ?_
      refine aw_getfield fX0_39 dX0_findLeap_63 (by rw [nh_no _ _ hLD hLD1]; exact hup_self _ _ _) rfl ?_
      refine aw_ladd dX0_findLeap_66 ?_
      rw [lI_add]
      refine aw_lconst (v := 0) dX0_findLeap_67 (by decide) ?_
      refine aw_lcmp dX0_findLeap_68 ?_
      by_cases hyc : 0 < y + C
      case neg =>
        refine aw_if_le (tgt := 237) dX0_findLeap_69 (by decide) (fun _ => ?_) (fun c => (c (by rw [lg_cmp_le, show (0 : Int64) = lI 0 from rfl, lI_le (by omega) (by omega) (by decide) (by decide)]; omega)).elim)
        exact fin A B C E x y _ _ _ _ _ hl
      refine aw_if_le (tgt := 237) dX0_findLeap_69 (by decide) (fun c => absurd c (by rw [lg_cmp_le, show (0 : Int64) = lI 0 from rfl, lI_le (by omega) (by omega) (by decide) (by decide)]; omega)) (fun _ => ?_)
      refine aw_lload dX0_findLeap_72 rfl ?_
      refine aw_aload_n (i := 0) dX0_findLeap_74 rfl rfl ?_
      refine aw_getfield fX0_42 dX0_findLeap_75 (by rw [nh_no _ _ hLD hLD1]; exact hup_self _ _ _) rfl ?_
      refine aw_ladd dX0_findLeap_78 ?_
      rw [lI_add]
      refine aw_lconst (v := 0) dX0_findLeap_79 (by decide) ?_
      refine aw_lcmp dX0_findLeap_80 ?_
      by_cases hye : 0 < y + E
      case neg =>
        refine aw_if_le (tgt := 237) dX0_findLeap_81 (by decide) (fun _ => ?_) (fun c => (c (by rw [lg_cmp_le, show (0 : Int64) = lI 0 from rfl, lI_le (by omega) (by omega) (by decide) (by decide)]; omega)).elim)
        exact fin A B C E x y _ _ _ _ _ hl
      have hne1 : ¬ lI (y + C) = 0 := by rw [show (0 : Int64) = lI 0 from rfl, lI_eq (by omega) (by omega) (by decide) (by decide)]; omega
      have hne2 : ¬ lI (y + E) = 0 := by rw [show (0 : Int64) = lI 0 from rfl, lI_eq (by omega) (by omega) (by decide) (by decide)]; omega
      refine aw_if_le (tgt := 237) dX0_findLeap_81 (by decide) (fun c => absurd c (by rw [lg_cmp_le, show (0 : Int64) = lI 0 from rfl, lI_le (by omega) (by omega) (by decide) (by decide)]; omega)) (fun _ => ?_)
      refine aw_lload_n (i := 2) dX0_findLeap_84 rfl rfl ?_
      refine aw_aload_n (i := 0) dX0_findLeap_85 rfl rfl ?_
      refine aw_getfield fX0_32 dX0_findLeap_86 (by rw [nh_no _ _ hLD hLD1]; exact hup_self _ _ _) rfl ?_
      refine aw_ladd dX0_findLeap_89 ?_
      refine aw_lload dX0_findLeap_90 rfl ?_
      refine aw_aload_n (i := 0) dX0_findLeap_92 rfl rfl ?_
      refine aw_getfield fX0_39 dX0_findLeap_93 (by rw [nh_no _ _ hLD hLD1]; exact hup_self _ _ _) rfl ?_
      refine aw_ladd dX0_findLeap_96 ?_
      rw [lI_add, lI_add]
      refine aw_ldiv dX0_findLeap_97 hne1 ?_
      rw [lI_div pA (by omega) hyc (by omega)]
      have ht0 : 0 ≤ (x + A) / (y + C) := Int.ediv_nonneg pA (Int.le_of_lt hyc)
      have ht1 : (x + A) / (y + C) ≤ x + A := Int.ediv_le_self _ pA
      have hr0 : 0 ≤ (x + B) / (y + E) := Int.ediv_nonneg pB (Int.le_of_lt hye)
      have hr1 : (x + B) / (y + E) ≤ x + B := Int.ediv_le_self _ pB
      generalize ht : (x + A) / (y + C) = t at *
      refine aw_lstore_7 dX0_findLeap_98 (by decide) rfl ?_
      refine aw_lload dX0_findLeap_100 rfl ?_
      refine aw_ldc2_w qX0_147 dX0_findLeap_102 ?_
      refine aw_lcmp dX0_findLeap_105 ?_
      by_cases hth : 2147483647 < t
      case pos =>
        refine aw_if_gt (tgt := 237) dX0_findLeap_106 (by decide) (fun _ => ?_) (fun c => (c (by rw [lg_cmp_gt, show (2147483647 : Int64) = lI 2147483647 by decide +kernel, lI_lt (by decide) (by decide) (by omega) (by omega)]; exact hth)).elim)
        exact fin A B C E x y _ _ _ _ _ hl
      refine aw_if_gt (tgt := 237) dX0_findLeap_106 (by decide) (fun c => absurd c (by rw [lg_cmp_gt, show (2147483647 : Int64) = lI 2147483647 by decide +kernel, lI_lt (by decide) (by decide) (by omega) (by omega)]; exact hth)) (fun _ => ?_)
      refine aw_lload dX0_findLeap_109 rfl ?_
      refine aw_lload_n (i := 2) dX0_findLeap_111 rfl rfl ?_
      refine aw_aload_n (i := 0) dX0_findLeap_112 rfl rfl ?_
      refine aw_getfield fX0_36 dX0_findLeap_113 (by rw [nh_no _ _ hLD hLD1]; exact hup_self _ _ _) rfl ?_
      refine aw_ladd dX0_findLeap_116 ?_
      refine aw_lload dX0_findLeap_117 rfl ?_
      refine aw_aload_n (i := 0) dX0_findLeap_119 rfl rfl ?_
      refine aw_getfield fX0_42 dX0_findLeap_120 (by rw [nh_no _ _ hLD hLD1]; exact hup_self _ _ _) rfl ?_
      refine aw_ladd dX0_findLeap_123 ?_
      rw [lI_add, lI_add]
      refine aw_ldiv dX0_findLeap_124 hne2 ?_
      rw [lI_div pB (by omega) hye (by omega)]
      refine aw_lcmp dX0_findLeap_125 ?_
      by_cases hte : t = (x + B) / (y + E)
      case neg =>
        refine aw_if_eq (tgt := 132) dX0_findLeap_126 (by decide) (fun c => absurd c (by rw [lg_cmp_eq, lI_eq (by omega) (by omega) (by omega) (by omega)]; exact hte)) (fun _ => ?_)
        refine aw_goto (tgt := 237) dX0_findLeap_129 (by decide) ?_
        exact fin A B C E x y _ _ _ _ _ hl
      have tb1 := tC_bnd (C := C) ht0 (by omega) bC
      have tb2 := tC_bnd (C := E) ht0 (by omega) bE
      refine aw_if_eq (tgt := 132) dX0_findLeap_126 (by decide) (fun _ => ?_) (fun c => (c (by rw [lg_cmp_eq, lI_eq (by omega) (by omega) (by omega) (by omega)]; exact hte)).elim)
      refine aw_aload_n (i := 0) dX0_findLeap_132 rfl rfl ?_
      refine aw_getfield fX0_32 dX0_findLeap_133 (by rw [nh_no _ _ hLD hLD1]; exact hup_self _ _ _) rfl ?_
      refine aw_lload dX0_findLeap_136 rfl ?_
      refine aw_aload_n (i := 0) dX0_findLeap_138 rfl rfl ?_
      refine aw_getfield fX0_39 dX0_findLeap_139 (by rw [nh_no _ _ hLD hLD1]; exact hup_self _ _ _) rfl ?_
      refine aw_lmul dX0_findLeap_142 ?_
      refine aw_lsub dX0_findLeap_143 ?_
      rw [lI_mul, lI_sub]
      refine aw_lstore_9 dX0_findLeap_144 (by decide) rfl ?_
      refine aw_aload_n (i := 0) dX0_findLeap_146 rfl rfl ?_
      refine aw_getfield fX0_36 dX0_findLeap_147 (by rw [nh_no _ _ hLD hLD1]; exact hup_self _ _ _) rfl ?_
      refine aw_lload dX0_findLeap_150 rfl ?_
      refine aw_aload_n (i := 0) dX0_findLeap_152 rfl rfl ?_
      refine aw_getfield fX0_42 dX0_findLeap_153 (by rw [nh_no _ _ hLD hLD1]; exact hup_self _ _ _) rfl ?_
      refine aw_lmul dX0_findLeap_156 ?_
      refine aw_lsub dX0_findLeap_157 ?_
      rw [lI_mul, lI_sub]
      refine aw_lstore_11 dX0_findLeap_158 (by decide) rfl ?_
      refine aw_lload dX0_findLeap_160 rfl ?_
      refine aw_mabs_long kX0_149 mathabs_long_s math_i mathabs_long_c dX0_findLeap_162 (by decide) (Nat.le_of_ble_eq_true rfl) (Nat.le_of_ble_eq_true rfl) (Nat.le_of_ble_eq_true rfl) ?_
      rw [lI_abs (by omega) (by omega)]
      refine aw_ldc2_w qX0_147 dX0_findLeap_165 ?_
      refine aw_lcmp dX0_findLeap_168 ?_
      by_cases hc1 : (A - t * C).natAbs < 2 ^ 31
      case neg =>
        refine aw_if_gt (tgt := 237) dX0_findLeap_169 (by decide) (fun _ => ?_) (fun c => (c (by rw [lg_cmp_gt, show (2147483647 : Int64) = lI 2147483647 by decide +kernel, lI_lt (by decide) (by decide) (by omega) (by omega)]; omega)).elim)
        exact fin A B C E x y _ _ _ _ _ hl
      refine aw_if_gt (tgt := 237) dX0_findLeap_169 (by decide) (fun c => absurd c (by rw [lg_cmp_gt, show (2147483647 : Int64) = lI 2147483647 by decide +kernel, lI_lt (by decide) (by decide) (by omega) (by omega)]; omega)) (fun _ => ?_)
      refine aw_lload dX0_findLeap_172 rfl ?_
      refine aw_mabs_long kX0_149 mathabs_long_s math_i mathabs_long_c dX0_findLeap_174 (by decide) (Nat.le_of_ble_eq_true rfl) (Nat.le_of_ble_eq_true rfl) (Nat.le_of_ble_eq_true rfl) ?_
      rw [lI_abs (by omega) (by omega)]
      refine aw_ldc2_w qX0_147 dX0_findLeap_177 ?_
      refine aw_lcmp dX0_findLeap_180 ?_
      by_cases hc2 : (B - t * E).natAbs < 2 ^ 31
      case neg =>
        refine aw_if_le (tgt := 187) dX0_findLeap_181 (by decide) (fun c => absurd c (by rw [lg_cmp_le, show (2147483647 : Int64) = lI 2147483647 by decide +kernel, lI_le (by omega) (by omega) (by decide) (by decide)]; omega)) (fun _ => ?_)
        refine aw_goto (tgt := 237) dX0_findLeap_184 (by decide) ?_
        exact fin A B C E x y _ _ _ _ _ hl
      have hl2 := lp_step eu ev (Nat.le_of_lt hul) (Nat.le_of_lt hvl) hS hl hyc hye ht.symm hte hc1 hc2
      refine aw_if_le (tgt := 187) dX0_findLeap_181 (by decide) (fun _ => ?_) (fun c => (c (by rw [lg_cmp_le, show (2147483647 : Int64) = lI 2147483647 by decide +kernel, lI_le (by omega) (by omega) (by decide) (by decide)]; omega)).elim)
      refine aw_aload_n (i := 0) dX0_findLeap_187 rfl rfl ?_
      refine aw_aload_n (i := 0) dX0_findLeap_188 rfl rfl ?_
      refine aw_getfield fX0_39 dX0_findLeap_189 (by rw [nh_no _ _ hLD hLD1]; exact hup_self _ _ _) rfl ?_
      refine aw_putfield fX0_32 dX0_findLeap_192 (by rw [nh_no _ _ hLD hLD1]; exact hup_self _ _ _) rfl rfl (Nat.le_of_ble_eq_true rfl) ?_
      dsimp only [List.set]
      refine AW.hp (nh_upn _ N hLD hLD1 (dobj q V R H W (lI C) (lI B) (lI C) (lI E))) ?_
      rw [hup_hup]
      refine aw_aload_n (i := 0) dX0_findLeap_195 rfl rfl ?_
      refine aw_aload_n (i := 0) dX0_findLeap_196 rfl rfl ?_
      refine aw_getfield fX0_42 dX0_findLeap_197 (by rw [nh_no _ _ hLD hLD1]; exact hup_self _ _ _) rfl ?_
      refine aw_putfield fX0_36 dX0_findLeap_200 (by rw [nh_no _ _ hLD hLD1]; exact hup_self _ _ _) rfl rfl (Nat.le_of_ble_eq_true rfl) ?_
      dsimp only [List.set]
      refine AW.hp (nh_upn _ N hLD hLD1 (dobj q V R H W (lI C) (lI E) (lI C) (lI E))) ?_
      rw [hup_hup]
      refine aw_aload_n (i := 0) dX0_findLeap_203 rfl rfl ?_
      refine aw_lload dX0_findLeap_204 rfl ?_
      refine aw_putfield fX0_39 dX0_findLeap_206 (by rw [nh_no _ _ hLD hLD1]; exact hup_self _ _ _) rfl rfl (Nat.le_of_ble_eq_true rfl) ?_
      dsimp only [List.set]
      refine AW.hp (nh_upn _ N hLD hLD1 (dobj q V R H W (lI C) (lI E) (lI (A - t * C)) (lI E))) ?_
      rw [hup_hup]
      refine aw_aload_n (i := 0) dX0_findLeap_209 rfl rfl ?_
      refine aw_lload dX0_findLeap_210 rfl ?_
      refine aw_putfield fX0_42 dX0_findLeap_212 (by rw [nh_no _ _ hLD hLD1]; exact hup_self _ _ _) rfl rfl (Nat.le_of_ble_eq_true rfl) ?_
      dsimp only [List.set]
      refine AW.hp (nh_upn _ N hLD hLD1 (dobj q V R H W (lI C) (lI E) (lI (A - t * C)) (lI (B - t * E)))) ?_
      rw [hup_hup]
      refine aw_lload_n (i := 2) dX0_findLeap_215 rfl rfl ?_
      refine aw_lload dX0_findLeap_216 rfl ?_
      refine aw_lload dX0_findLeap_218 rfl ?_
      refine aw_lmul dX0_findLeap_220 ?_
      refine aw_lsub dX0_findLeap_221 ?_
      rw [lI_mul, lI_sub]
      refine aw_lstore_13 dX0_findLeap_222 (by decide) rfl ?_
      refine aw_lload dX0_findLeap_224 rfl ?_
      refine aw_lstore_2 dX0_findLeap_226 (by decide) rfl ?_
      refine aw_lload dX0_findLeap_227 rfl ?_
      refine aw_lstore_4 dX0_findLeap_229 (by decide) rfl ?_
      refine aw_iinc_6 (c0 := 1) dX0_findLeap_231 (by decide) (by decide) rfl ?_
      refine aw_goto (tgt := 53) dX0_findLeap_234 (by decide) ?_
      rw [nI_1]
      exact ih (st + 1) C E (A - t * C) (B - t * E) y (x - t * y) _ _ _ _ (by omega) hl2
  have h0 : LPx u v x0 y0 1 0 0 1 x0 y0 := by
    refine ⟨⟨by omega, by omega⟩, Or.inl (by decide), by decide, ⟨by omega, by omega⟩, u, v, by omega, by omega, hvu, Nat.le_refl _, by omega, rfl, Or.inl rfl, Nat.le_refl _⟩
  have := loop 1000000 0 1 0 0 1 x0 y0 none none none none (by omega) h0
  rw [← lI_N, ← lI_N] at this
  exact this
