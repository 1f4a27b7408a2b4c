theorem va_up_comm {α : Type} {f : Nat → α} {i j : Nat} {x y : α} (h : i ≠ j) : va_up (va_up f i x) j y = va_up (va_up f j y) i x := by
  funext k
  by_cases h1 : k = i
  · rw [h1, va_up_at, va_up_off h, va_up_at]
  · by_cases h2 : k = j
    · rw [h2, va_up_at, va_up_off (Ne.symm h), va_up_at]
    · rw [va_up_off h2, va_up_off h1, va_up_off h1, va_up_off h2]
theorem nu_swap {h : Hp} {L : Nat → Nat} {C : NC} {q R s sq : Nat} {g gq : Nat → Nat} (e : q ≠ R) : nu h L (va_up C q (sq, gq)) R s g = nu h L (va_up C R (s, g)) q sq gq := by unfold nu; rw [va_up_comm e]
theorem nu_in {h : Hp} {L : Nat → Nat} {C : NC} {q R s : Nat} {g : Nat → Nat} (e : q ≠ R) : nu h L C R s g = nu h L (va_up C R (s, g)) q (C q).1 (C q).2 := by
  have := nu_id h L (va_up C R (s, g)) q
  rw [va_up_off e] at this
  exact this
theorem seg_split (g : Nat → Nat) {at' m s : Nat} (hs : at' + m ≤ s) : bv (2 ^ 32) g s = bv (2 ^ 32) g at' + (2 ^ 32) ^ at' * sgm g at' m + (2 ^ 32) ^ (at' + m) * sgm g (at' + m) (s - (at' + m)) := by
  have e1 := bv_add (B := 2 ^ 32) (g := g) (at' + m) (s - (at' + m))
  have e2 := bv_add (B := 2 ^ 32) (g := g) at' m
  rw [show at' + m + (s - (at' + m)) = s by omega] at e1
  rw [e1, e2]
  rfl
theorem seg_div {g : Nat → Nat} {at' m s l : Nat} (hs : at' + m ≤ s) (hl : s ≤ l) (hg : ∀ i, i < l → g i < 2 ^ 32) (hlt : bv (2 ^ 32) g s < (2 ^ 32) ^ (at' + m)) : bv (2 ^ 32) g s / (2 ^ 32) ^ at' = sgm g at' m := by
  have e := seg_split g hs
  have hz : sgm g (at' + m) (s - (at' + m)) = 0 := by
    rcases Nat.eq_zero_or_pos (sgm g (at' + m) (s - (at' + m))) with z | z
    · exact z
    · have : (2 ^ 32) ^ (at' + m) ≤ (2 ^ 32) ^ (at' + m) * sgm g (at' + m) (s - (at' + m)) := Nat.le_mul_of_pos_right _ z
      omega
  rw [hz, Nat.mul_zero, Nat.add_zero] at e
  have hlo : bv (2 ^ 32) g at' < (2 ^ 32) ^ at' := bv_lt (fun i hi => hg i (by omega))
  have hp : 0 < ((2 : Nat) ^ 32) ^ at' := Nat.pow_pos (by decide)
  rw [e, Nat.add_mul_div_left _ _ hp, Nat.div_eq_of_lt hlo, Nat.zero_add]
/-- the parts outside the stretch are the same -/
theorem seg_same {g g' : Nat → Nat} {at' m s : Nat} (hs : at' + m ≤ s) (h : ∀ k, k < at' ∨ at' + m ≤ k → g' k = g k) : bv (2 ^ 32) g' s + (2 ^ 32) ^ at' * sgm g at' m = bv (2 ^ 32) g s + (2 ^ 32) ^ at' * sgm g' at' m := by
  have e1 := seg_split g hs
  have e2 := seg_split g' hs
  have e3 : bv (2 ^ 32) g' at' = bv (2 ^ 32) g at' := bv_congr (fun k hk => h k (by omega))
  have e4 : sgm g' (at' + m) (s - (at' + m)) = sgm g (at' + m) (s - (at' + m)) := sgm_congr (fun k _ => h _ (by omega))
  rw [e3, e4] at e2
  omega
/-- one place of the quotient -/
theorem div_place {dv rv r r' Qv qd P seg seg' : Nat} (hd : 0 < dv) (h1 : Qv * dv + r = rv) (h2 : r' + P * seg = r + P * seg') (h3 : seg' + qd * dv = seg) : (Qv + qd * P) * dv + r' = rv := by
  have e1 : P * seg = P * seg' + P * (qd * dv) := by rw [← h3, Nat.mul_add]
  have e2 : (Qv + qd * P) * dv = Qv * dv + P * (qd * dv) := by rw [Nat.add_mul]; congr 1; ac_rfl
  omega
theorem ct_X0_divide (n : Nat) (h : Hp) (L : Nat → Nat) (C : NC) (D q V R H W x y u v z1 z2 z3 : Nat) (a b c d : Int64) (w : LW L) (hD : h D = some (dobj q V R H W a b c d)) (hLD : L D = 0) (hLD1 : L (D - 1) = 0) (hq : L q = 72) (hV : L V = 72) (hR : L R = 72) (hx : L x ≠ 0) (hy : L y ≠ 0) (hqV : q ≠ V) (hqR : q ≠ R) (hVR : V ≠ R) (hxq : x ≠ q) (hxV : x ≠ V) (hxR : x ≠ R) (hyq : y ≠ q) (hyV : y ≠ V) (hyR : y ≠ R) (n1 : num (L q) (C q) z1) (n2 : num (L V) (C V) z2) (n3 : num (L R) (C R) z3) (hu : num (L x) (C x) u) (hv : num (L y) (C y) v) (hv0 : 0 < v) (hxs : (C x).1 ≤ 70) (hys : (C y).1 ≤ 70) : CT mX0_divide 0 0 n (nh h L C) [.ref D, .ref x, .ref y] (fun z n' h' => n = n' ∧ z = some (.ref q) ∧ ∃ C', h' = nh h L C' ∧ num (L q) (C' q) (u / v) ∧ num (L R) (C' R) (u % v) ∧ (∃ e, num (L V) (C' V) e) ∧ ∀ k, k ≠ q → k ≠ V → k ≠ R → C' k = C k) := by
  refine CT.intro [some (.ref D), some (.ref x), some (.ref y), none, none, none, none, none] 5 rfl rfl (by decide) ?_
  intro Q hQ
  have hq0 : L q ≠ 0 := by omega
  have hV0 : L V ≠ 0 := by omega
  have hR0 : L R ≠ 0 := by omega
  have hDn : ∀ {C : NC}, nh h L C D = some (dobj q V R H W a b c d) := by intro C; rw [nh_no h _ hLD hLD1]; exact hD
  have hs0 : 0 < (C y).1 := by have := num_0 hv; omega
  have hsz := num_sz hv
  have hnbl : nb v ≤ 32 * (C y).1 := by omega
  have hby : 32 * (C y).1 - nb v < 32 := by omega
  refine aw_aload_n (i := 0) dX0_divide_0 rfl rfl ?_
  refine aw_getfield fX0_14 dX0_divide_1 hDn rfl ?_
  refine aw_invokevirtual kX0_69 dX0_divide_4 (nh_o h C hq0) (ct_X3_clear n h L C q z1 w hq0 n1) rfl rfl (Nat.le_of_ble_eq_true rfl) ⟨Nat.le_of_ble_eq_true rfl, Nat.le_of_ble_eq_true rfl⟩ ⟨Nat.le_of_ble_eq_true rfl, Nat.le_of_ble_eq_true rfl⟩ ?_
  rintro _ _ _ ⟨rfl, rfl, C1, rfl, d1, f1⟩
  have hyC1 : C1 y = C y := f1 y hyq
  have hxC1 : C1 x = C x := f1 x hxq
  refine aw_aload_n (i := 2) dX0_divide_7 rfl rfl ?_
  refine aw_getfield fX0_72 dX0_divide_8 (nh_o h C1 hy) rfl ?_
  refine aw_bipush (v := 32) dX0_divide_11 (by decide +kernel) ?_
  refine aw_imul dX0_divide_13 ?_
  refine aw_aload_n (i := 2) dX0_divide_14 rfl rfl ?_
  refine aw_invokevirtual kX0_76 dX0_divide_15 (nh_o h C1 hy) (ct_X3_bits n h L C1 y v w hy (by rw [hyC1]; exact hv)) rfl rfl (Nat.le_of_ble_eq_true rfl) ⟨Nat.le_of_ble_eq_true rfl, Nat.le_of_ble_eq_true rfl⟩ ⟨Nat.le_of_ble_eq_true rfl, Nat.le_of_ble_eq_true rfl⟩ ?_
  rintro _ _ _ ⟨rfl, rfl, rfl⟩
  refine aw_isub dX0_divide_18 ?_
  rw [hyC1, show (32 : Int32) = nI 32 from rfl, pk_mul, pk_sub (by omega), Nat.mul_comm (C y).1 32]
  generalize hB : 32 * (C y).1 - nb v = B at *
  refine aw_istore_3 dX0_divide_19 (by decide) rfl ?_
  refine aw_aload_n (i := 0) dX0_divide_20 rfl rfl ?_
  refine aw_getfield fX0_20 dX0_divide_21 hDn rfl ?_
  refine aw_aload_n (i := 2) dX0_divide_24 rfl rfl ?_
  refine aw_iload_n (i := 3) dX0_divide_25 rfl rfl ?_
  refine aw_invokevirtual kX0_80 dX0_divide_26 (nh_o h C1 hV0) (ct_X3_copyShifted n h L C1 V y z2 v B w hV0 hy hyV (by rw [f1 V (Ne.symm hqV)]; exact n2) (by rw [hyC1]; exact hv) (by omega) (by rw [hyC1]; omega)) rfl rfl (Nat.le_of_ble_eq_true rfl) ⟨Nat.le_of_ble_eq_true rfl, Nat.le_of_ble_eq_true rfl⟩ ⟨Nat.le_of_ble_eq_true rfl, Nat.le_of_ble_eq_true rfl⟩ ?_
  rintro _ _ _ ⟨rfl, rfl, C2, rfl, d2, f2⟩
  have hxC2 : C2 x = C x := by rw [f2 x hxV]; exact hxC1
  refine aw_aload_n (i := 0) dX0_divide_29 rfl rfl ?_
  refine aw_getfield fX0_23 dX0_divide_30 hDn rfl ?_
  refine aw_aload_n (i := 1) dX0_divide_33 rfl rfl ?_
  refine aw_iload_n (i := 3) dX0_divide_34 rfl rfl ?_
  refine aw_invokevirtual kX0_80 dX0_divide_35 (nh_o h C2 hR0) (ct_X3_copyShifted n h L C2 R x z3 u B w hR0 hx hxR (by rw [f2 R (Ne.symm hVR), f1 R (Ne.symm hqR)]; exact n3) (by rw [hxC2]; exact hu) (by omega) (by rw [hxC2]; omega)) rfl rfl (Nat.le_of_ble_eq_true rfl) ⟨Nat.le_of_ble_eq_true rfl, Nat.le_of_ble_eq_true rfl⟩ ⟨Nat.le_of_ble_eq_true rfl, Nat.le_of_ble_eq_true rfl⟩ ?_
  rintro _ _ _ ⟨rfl, rfl, C3, rfl, d3, f3⟩
  -- what is where
  have d2' : num (L V) (C3 V) (v * 2 ^ B) := by rw [f3 V hVR]; exact d2
  have d1' : num (L q) (C3 q) 0 := by rw [f3 q hqR, f2 q hqV]; exact d1
  have hq3 : (C3 q).1 = 0 := (num_0 d1').mpr rfl
  have fr3 : ∀ k, k ≠ q → k ≠ V → k ≠ R → C3 k = C k := fun k k1 k2 k3 => by rw [f3 k k3, f2 k k2, f1 k k1]
  have h2B := Nat.two_pow_pos B
  have hdv0 : 0 < v * 2 ^ B := Nat.mul_pos hv0 h2B
  -- the divisor's highest bit is set
  have hnb : nb (v * 2 ^ B) = 32 * (C y).1 := by
    have e := nb_add (x := 0) (d := v) (k := B) h2B hv0
    rw [Nat.zero_add] at e
    omega
  have hsV : (C3 V).1 = (C y).1 := by have := num_sz d2'; omega
  have htop : (2 ^ 32) ^ (C3 V).1 ≤ 2 * (v * 2 ^ B) := by
    have e1 : ¬ nb (v * 2 ^ B) ≤ 32 * (C y).1 - 1 := by omega
    rw [nb_le] at e1
    rw [hsV, p32, show 32 * (C y).1 = (32 * (C y).1 - 1) + 1 by omega, Nat.pow_succ]
    omega
  have hdvl := raw_lt d2'.1
  have hsR : (C3 R).1 ≤ 71 := by
    have e1 : u * 2 ^ B < (2 ^ 32) ^ ((C x).1 + 1) := by
      rw [p32s]
      exact Nat.lt_of_lt_of_le (Nat.mul_lt_mul_of_pos_right (raw_lt hu.1) h2B) (Nat.mul_le_mul_left _ (Nat.pow_le_pow_right (by decide) (by omega)))
    have := num_le d3 e1
    omega
  have hdm : u * 2 ^ B / (v * 2 ^ B) = u / v := Nat.mul_div_mul_right _ _ h2B
  have hmm : u * 2 ^ B % (v * 2 ^ B) = u % v * 2 ^ B := Nat.mul_mod_mul_right _ _ _
  -- the end
  have fin : ∀ (C4 : NC) (y4 y5 y6 : Option Value), num (L q) (C4 q) (u / v) → num (L R) (C4 R) (u % v * 2 ^ B) → C4 V = C3 V → (∀ k, k ≠ q → k ≠ V → k ≠ R → C4 k = C k) → AW mX0_divide (gq 0 0 Q) 183 [some (.ref D), some (.ref x), some (.ref y), some (.int (nI B)), y4, y5, y6, none] [] 0 0 n (nh h L C4) := by
    intro C4 y4 y5 y6 k1 k2 k3 k4
    refine aw_aload_n (i := 0) dX0_divide_183 rfl rfl ?_
    refine aw_getfield fX0_23 dX0_divide_184 hDn rfl ?_
    refine aw_iload_n (i := 3) dX0_divide_187 rfl rfl ?_
    refine aw_invokevirtual kX0_105 dX0_divide_188 (nh_o h C4 hR0) (ct_X3_shiftDown n h L C4 R (u % v * 2 ^ B) B w hR0 k2.1 hby) rfl rfl (Nat.le_of_ble_eq_true rfl) ⟨Nat.le_of_ble_eq_true rfl, Nat.le_of_ble_eq_true rfl⟩ ⟨Nat.le_of_ble_eq_true rfl, Nat.le_of_ble_eq_true rfl⟩ ?_
    rintro _ _ _ ⟨rfl, rfl, C5, rfl, d5, f5⟩
    rw [Nat.mul_div_cancel _ h2B] at d5
    refine aw_aload_n (i := 0) dX0_divide_191 rfl rfl ?_
    refine aw_getfield fX0_14 dX0_divide_192 hDn rfl ?_
    refine aw_areturn dX0_divide_195 rfl (Or.inr ⟨_, rfl⟩) (Nat.le_of_ble_eq_true rfl) (Nat.le_of_ble_eq_true rfl) ?_
    exact hQ _ _ _ ⟨rfl, rfl, C5, rfl, by rw [f5 q hqR]; exact k1, d5, ⟨_, by rw [f5 V hVR, k3]; exact d2'⟩, fun k e1 e2 e3 => by rw [f5 k e3]; exact k4 k e1 e2 e3⟩
  refine aw_aload_n (i := 0) dX0_divide_38 rfl rfl ?_
  refine aw_getfield fX0_23 dX0_divide_39 hDn rfl ?_
  refine aw_getfield fX0_72 dX0_divide_42 (nh_o h C3 hR0) rfl ?_
  refine aw_aload_n (i := 0) dX0_divide_45 rfl rfl ?_
  refine aw_getfield fX0_20 dX0_divide_46 hDn rfl ?_
  refine aw_getfield fX0_72 dX0_divide_49 (nh_o h C3 hV0) rfl ?_
  refine aw_isub dX0_divide_52 ?_
  refine aw_istore_4 dX0_divide_53 (by decide) rfl ?_
  refine aw_aload_n (i := 0) dX0_divide_55 rfl rfl ?_
  refine aw_getfield fX0_20 dX0_divide_56 hDn rfl ?_
  refine aw_getfield fX0_72 dX0_divide_59 (nh_o h C3 hV0) rfl ?_
  refine aw_if_le (tgt := 183) dX0_divide_62 (by decide) (fun c => absurd c (nI_nle (by omega) (by omega))) (fun _ => ?_)
  refine aw_iload dX0_divide_65 rfl ?_
  by_cases hpl : (C3 R).1 < (C3 V).1
  · have hlt := num_szlt d3.1 d2' hpl
    have huv : u < v := Nat.lt_of_mul_lt_mul_right hlt
    refine aw_if_lt (tgt := 183) dX0_divide_67 (by decide) (fun _ => ?_) (fun c => (c (pk_sneg (by omega) hpl)).elim)
    exact fin C3 _ _ _ (by rw [Nat.div_eq_of_lt huv]; exact d1') (by rw [Nat.mod_eq_of_lt huv]; exact d3) rfl fr3
  obtain ⟨p, hp⟩ : ∃ p, (C3 R).1 = (C3 V).1 + p := ⟨(C3 R).1 - (C3 V).1, by omega⟩
  rw [hp, pk_sub (by omega), Nat.add_sub_cancel_left]
  refine aw_if_lt (tgt := 183) dX0_divide_67 (by decide) (fun c => absurd c (nI_pos (by omega))) (fun _ => ?_)
  refine aw_iload dX0_divide_70 rfl ?_
  refine aw_aload_n (i := 0) dX0_divide_72 rfl rfl ?_
  refine aw_getfield fX0_14 dX0_divide_73 hDn rfl ?_
  refine aw_getfield fX0_84 dX0_divide_76 (nh_o h C3 hq0) rfl ?_
  refine aw_arraylength dX0_divide_79 (nh_a h w C3 hq0) ?_
  dsimp only
  rw [hq]
  refine aw_icmp_ge (tgt := 183) dX0_divide_80 (by decide) (fun c => absurd c (nI_ge (b := 72) (by omega) (by decide))) (fun _ => ?_)
  refine aw_aload_n (i := 0) dX0_divide_83 rfl rfl ?_
  refine aw_getfield fX0_23 dX0_divide_84 hDn rfl ?_
  refine aw_aload_n (i := 0) dX0_divide_87 rfl rfl ?_
  refine aw_getfield fX0_23 dX0_divide_88 hDn rfl ?_
  refine aw_getfield fX0_72 dX0_divide_91 (nh_o h C3 hR0) rfl ?_
  refine aw_iconst (v := 1) dX0_divide_94 (by decide +kernel) ?_
  refine aw_iadd dX0_divide_95 ?_
  rw [hp, nI_1]
  refine AW.hp (nu_id h L C3 R) ?_
  rw [hp]
  refine aw_invokevirtual kX0_88 dX0_divide_96 (nu_o hR0) (ct_X3_widenTo n h L C3 R ((C3 V).1 + p) ((C3 V).1 + p + 1) (C3 R).2 w hR0 (by omega) (by omega)) rfl rfl (Nat.le_of_ble_eq_true rfl) ⟨Nat.le_of_ble_eq_true rfl, Nat.le_of_ble_eq_true rfl⟩ ⟨Nat.le_of_ble_eq_true rfl, Nat.le_of_ble_eq_true rfl⟩ ?_
  rintro _ _ _ ⟨rfl, rfl, rfl⟩
  rw [show max ((C3 V).1 + p) (min ((C3 V).1 + p + 1) (L R)) = (C3 V).1 + p + 1 by omega]
  have hG0 : ∀ i, i < L R → wid (C3 R).2 ((C3 V).1 + p) ((C3 V).1 + p + 1) i < 2 ^ 32 := wid_lt d3.1.2.1
  have hGv : bv (2 ^ 32) (wid (C3 R).2 ((C3 V).1 + p) ((C3 V).1 + p + 1)) ((C3 V).1 + p + 1) = u * 2 ^ B := by
    rw [wid_bv (by omega), ← hp]; exact d3.1.2.2
  generalize wid (C3 R).2 ((C3 V).1 + p) ((C3 V).1 + p + 1) = G0 at *
  have hDu : ∀ {C : NC} {k s : Nat} {g : Nat → Nat}, nu h L C k s g D = some (dobj q V R H W a b c d) := by intro C k s g; exact hDn
  refine aw_aload_n (i := 0) dX0_divide_99 rfl rfl ?_
  refine aw_getfield fX0_14 dX0_divide_100 hDu rfl ?_
  refine aw_iload dX0_divide_103 rfl ?_
  refine aw_iconst (v := 1) dX0_divide_105 (by decide +kernel) ?_
  refine aw_iadd dX0_divide_106 ?_
  rw [nI_1]
  refine AW.hp (nu_in hqR) ?_
  rw [hq3]
  refine aw_invokevirtual kX0_88 dX0_divide_107 (nu_o hq0) (ct_X3_widenTo n h L (va_up C3 R ((C3 V).1 + p + 1, G0)) q 0 (p + 1) (C3 q).2 w hq0 (Nat.zero_le _) (by omega)) rfl rfl (Nat.le_of_ble_eq_true rfl) ⟨Nat.le_of_ble_eq_true rfl, Nat.le_of_ble_eq_true rfl⟩ ⟨Nat.le_of_ble_eq_true rfl, Nat.le_of_ble_eq_true rfl⟩ ?_
  rintro _ _ _ ⟨rfl, rfl, rfl⟩
  rw [show max 0 (min (p + 1) (L q)) = p + 1 by omega]
  have hK0 : ∀ i, i < L q → wid (C3 q).2 0 (p + 1) i < 2 ^ 32 := wid_lt d1'.1.2.1
  have hKz : ∀ i, i < p + 1 → wid (C3 q).2 0 (p + 1) i = 0 := fun i hi => wid_z (Nat.zero_le _) hi
  generalize wid (C3 q).2 0 (p + 1) = K0 at *
  refine AW.hp (nu_swap hqR).symm ?_
  refine aw_iload dX0_divide_110 rfl ?_
  refine aw_istore_5 dX0_divide_112 (by decide) rfl ?_
  have hdpos := hdv0
  generalize hdv : v * 2 ^ B = dv at *
  generalize hrv : u * 2 ^ B = rv at *
  have hVs : ∀ K : Nat → Nat, va_up C3 q (p + 1, K) V = C3 V := fun K => va_up_off (Ne.symm hqV)
  generalize hm : (C3 V).1 = m at *
  have loop : ∀ (j : Nat) (G K : Nat → Nat) (y6 : Option Value), j ≤ p + 1 → (∀ i, i < L R → G i < 2 ^ 32) → (∀ i, i < L q → K i < 2 ^ 32) → (∀ i, i < j → K i = 0) → bv (2 ^ 32) K (p + 1) * dv + bv (2 ^ 32) G (m + p + 1) = rv → bv (2 ^ 32) G (m + p + 1) < dv * (2 ^ 32) ^ j → AW mX0_divide (gq 0 0 Q) 114 [some (.ref D), some (.ref x), some (.ref y), some (.int (nI B)), some (.int (nI p)), some (.int (pI j)), y6, none] [] 0 0 n (nu h L (va_up C3 q (p + 1, K)) R (m + p + 1) G) := by
    intro j
    induction j with
    | zero =>
      intro G K y6 hj k1 k2 k3 k4 k5
      rw [Nat.pow_zero, Nat.mul_one] at k5
      have e1 : bv (2 ^ 32) K (p + 1) = u / v := by
        rw [← hdm, ← k4, Nat.add_comm (bv (2 ^ 32) K (p + 1) * dv), Nat.add_mul_div_right _ _ hdpos, Nat.div_eq_of_lt k5, Nat.zero_add]
      have e2 : bv (2 ^ 32) G (m + p + 1) = u % v * 2 ^ B := by
        rw [← hmm, ← k4, Nat.add_comm (bv (2 ^ 32) K (p + 1) * dv), Nat.add_mul_mod_self_right, Nat.mod_eq_of_lt k5]
      refine AW.hp (nu_swap hqR) ?_
      refine aw_iload dX0_divide_114 rfl ?_
      refine aw_if_lt (tgt := 169) dX0_divide_116 (by decide) (fun _ => ?_) (fun c => (c ((pI_lt0 (by decide)).mpr rfl)).elim)
      refine aw_aload_n (i := 0) dX0_divide_169 rfl rfl ?_
      refine aw_getfield fX0_14 dX0_divide_170 hDu rfl ?_
      refine aw_invokevirtual kX0_102 dX0_divide_173 (nu_o hq0) (ct_X3_trim n h L (va_up C3 R (m + p + 1, G)) q (p + 1) _ K w hq0 ⟨by omega, k2, e1⟩) rfl rfl (Nat.le_of_ble_eq_true rfl) ⟨Nat.le_of_ble_eq_true rfl, Nat.le_of_ble_eq_true rfl⟩ ⟨Nat.le_of_ble_eq_true rfl, Nat.le_of_ble_eq_true rfl⟩ ?_
      rintro _ _ _ ⟨rfl, rfl, C4, rfl, d4, f4⟩
      have e4 : C4 R = (m + p + 1, G) := by rw [f4 R (Ne.symm hqR), va_up_at]
      refine AW.hp (nu_id h L C4 R) ?_
      rw [e4]
      refine aw_aload_n (i := 0) dX0_divide_176 rfl rfl ?_
      refine aw_getfield fX0_23 dX0_divide_177 hDu rfl ?_
      refine aw_invokevirtual kX0_102 dX0_divide_180 (nu_o hR0) (ct_X3_trim n h L C4 R (m + p + 1) _ G w hR0 ⟨by show m + p + 1 ≤ L R; omega, k1, e2⟩) rfl rfl (Nat.le_of_ble_eq_true rfl) ⟨Nat.le_of_ble_eq_true rfl, Nat.le_of_ble_eq_true rfl⟩ ⟨Nat.le_of_ble_eq_true rfl, Nat.le_of_ble_eq_true rfl⟩ ?_
      rintro _ _ _ ⟨rfl, rfl, C5, rfl, d5, f5⟩
      refine fin C5 _ _ _ (by rw [f5 q hqR]; exact d4) d5 (by rw [f5 V hVR, f4 V (Ne.symm hqV), va_up_off hVR]) (fun k e1 e2 e3 => by rw [f5 k e3, f4 k e1, va_up_off e3]; exact fr3 k e1 e2 e3)
    | succ j ih =>
      intro G K y6 hj k1 k2 k3 k4 k5
      have hv2 : num (L V) (va_up C3 q (p + 1, K) V) dv := by rw [hVs]; exact d2'
      have hV1 : (va_up C3 q (p + 1, K) V).1 = m := by rw [hVs]; exact hm
      have hrl : bv (2 ^ 32) G (m + p + 1) < (2 ^ 32) ^ (j + (m + 1)) := by
        refine Nat.lt_of_lt_of_le k5 ?_
        rw [show j + (m + 1) = m + (j + 1) by omega, Nat.pow_add _ m (j + 1)]
        exact Nat.mul_le_mul_right _ (Nat.le_of_lt hdvl)
      have hseg := seg_div (g := G) (at' := j) (m := m + 1) (s := m + p + 1) (l := L R) (by omega) (by omega) k1 hrl
      have hsegd : sgm G j (m + 1) < dv * 2 ^ 32 := by
        rw [← hseg, Nat.div_lt_iff_lt_mul (Nat.pow_pos (by decide)), Nat.mul_assoc, Nat.mul_comm (2 ^ 32) ((2 ^ 32) ^ j), ← p32s]
        exact k5
      rw [pI_s]
      refine aw_iload dX0_divide_114 rfl ?_
      refine aw_if_lt (tgt := 169) dX0_divide_116 (by decide) (fun c => absurd c (nI_pos (by omega))) (fun _ => ?_)
      refine aw_aload_n (i := 0) dX0_divide_119 rfl rfl ?_
      refine aw_iload dX0_divide_120 rfl ?_
      refine aw_invokevirtual kX0_91 dX0_divide_122 hDu (ct_X0_guessAt n h L (va_up C3 q (p + 1, K)) D q V R H W (m + p + 1) j dv _ G a b c d w hD hLD hLD1 hV0 hR0 hVR hv2 (by rw [hV1]; exact htop) ⟨by show m + p + 1 ≤ L R; omega, k1, rfl⟩ (by rw [hV1]; omega) k5) rfl rfl (Nat.le_of_ble_eq_true rfl) ⟨Nat.le_of_ble_eq_true rfl, Nat.le_of_ble_eq_true rfl⟩ ⟨Nat.le_of_ble_eq_true rfl, Nat.le_of_ble_eq_true rfl⟩ ?_
      rintro _ _ _ ⟨rfl, rfl, gs, rfl, g1, g2, g3⟩
      dsimp only at g2 g3
      rw [hseg] at g2 g3
      refine aw_lstore_6 dX0_divide_125 (by decide) rfl ?_
      refine aw_aload_n (i := 0) dX0_divide_127 rfl rfl ?_
      refine aw_iload dX0_divide_128 rfl ?_
      refine aw_lload dX0_divide_130 rfl ?_
      refine aw_invokevirtual kX0_95 dX0_divide_132 hDu (ct_X0_takeAway n h L (va_up C3 q (p + 1, K)) D q V R H W (m + p + 1) j dv gs G a b c d w hD hLD hLD1 hV0 hR0 hVR hv2 (by omega) k1 (by rw [hV1]; omega) g1) rfl rfl (Nat.le_of_ble_eq_true rfl) ⟨Nat.le_of_ble_eq_true rfl, Nat.le_of_ble_eq_true rfl⟩ ⟨Nat.le_of_ble_eq_true rfl, Nat.le_of_ble_eq_true rfl⟩ ?_
      rintro _ _ _ ⟨rfl, G1, bb, rfl, t1, rfl, t2, t3, t4⟩
      rw [hV1] at t3 t4
      have hq1 := Nat.div_mul_le_self (sgm G j (m + 1)) dv
      have hq2 := Nat.lt_mul_div_succ (sgm G j (m + 1)) hdpos
      rw [Nat.mul_add, Nat.mul_one, Nat.mul_comm] at hq2
      have hqlt : sgm G j (m + 1) / dv < 2 ^ 32 := by rw [Nat.div_lt_iff_lt_mul hdpos, Nat.mul_comm]; exact hsegd
      -- behind the guess
      have nxt : ∀ (G2 : Nat → Nat), (∀ i, i < L R → G2 i < 2 ^ 32) → (∀ k, k < j ∨ j + m < k → G2 k = G k) → sgm G2 j (m + 1) + sgm G j (m + 1) / dv * dv = sgm G j (m + 1) → AW mX0_divide (gq 0 0 Q) 150 [some (.ref D), some (.ref x), some (.ref y), some (.int (nI B)), some (.int (nI p)), some (.int (nI j)), some (.long (lN (sgm G j (m + 1) / dv))), none] [] 0 0 n (nu h L (va_up C3 q (p + 1, K)) R (m + p + 1) G2) := by
        intro G2 s1 s2 s3
        have hsame := seg_same (g := G) (g' := G2) (at' := j) (m := m + 1) (s := m + p + 1) (by omega) (fun k hk => s2 k (by omega))
        generalize hqd : sgm G j (m + 1) / dv = qd at *
        refine AW.hp (nu_swap hqR) ?_
        refine aw_aload_n (i := 0) dX0_divide_150 rfl rfl ?_
        refine aw_getfield fX0_14 dX0_divide_151 hDu rfl ?_
        refine aw_getfield fX0_84 dX0_divide_154 (nu_o hq0) rfl ?_
        refine aw_iload dX0_divide_157 rfl ?_
        refine aw_lload dX0_divide_159 rfl ?_
        refine aw_l2i dX0_divide_161 rfl ?_
        rw [lN_l2i, Nat.mod_eq_of_lt hqlt]
        refine aw_iast dX0_divide_162 j _ rfl (nu_a w hq0) (nI_toInt (by omega)) (by omega) ?_
        refine AW.hp (nu_upa w hq0) ?_
        refine AW.hp (nu_swap hqR).symm ?_
        refine aw_iinc_5 (c0 := (-1)) dX0_divide_163 (by decide) (by decide) rfl ?_
        refine aw_goto (tgt := 114) dX0_divide_166 (by decide) ?_
        rw [pI_d]
        have eK := bv_up (B := 2 ^ 32) (g := K) (j := j) (x := qd) (n := p + 1) (by omega)
        rw [k3 j (by omega), Nat.zero_mul, Nat.add_zero] at eK
        refine ih G2 _ _ (by omega) s1 (raw_up (s := 0) k2 hqlt) (fun i hi => by rw [va_up_off (by omega)]; exact k3 i (by omega)) ?_ ?_
        · rw [eK]
          exact div_place hdpos k4 hsame s3
        · -- what is left is below the divisor
          have e1 : sgm G2 j (m + 1) < dv := by omega
          have e2 : (2 ^ 32) ^ j * (sgm G2 j (m + 1) + 1) ≤ (2 ^ 32) ^ j * dv := Nat.mul_le_mul_left _ e1
          rw [Nat.mul_add, Nat.mul_one] at e2
          have hr3 : bv (2 ^ 32) G2 (m + p + 1) ≤ bv (2 ^ 32) G (m + p + 1) := by
            have : sgm G2 j (m + 1) ≤ sgm G j (m + 1) := by omega
            have := Nat.mul_le_mul_left ((2 ^ 32) ^ j) this
            omega
          have hs4 := seg_split G2 (at' := j) (m := m + 1) (s := m + p + 1) (by omega)
          have hz : sgm G2 (j + (m + 1)) (m + p + 1 - (j + (m + 1))) = 0 := by
            rcases Nat.eq_zero_or_pos (sgm G2 (j + (m + 1)) (m + p + 1 - (j + (m + 1)))) with z | z
            · exact z
            · have : (2 ^ 32) ^ (j + (m + 1)) ≤ (2 ^ 32) ^ (j + (m + 1)) * sgm G2 (j + (m + 1)) (m + p + 1 - (j + (m + 1))) := Nat.le_mul_of_pos_right _ z
              omega
          rw [hz, Nat.mul_zero, Nat.add_zero] at hs4
          have hlo : bv (2 ^ 32) G2 j < (2 ^ 32) ^ j := bv_lt (fun i hi => s1 i (by omega))
          rw [Nat.mul_comm dv]
          omega
      by_cases hbb : bb = 1
      · subst hbb
        rw [Nat.one_mul] at t4
        have hl1 := sgm_lt (g := G1) (at' := j) (m := m + 1) (by omega) t2
        have hgs : gs = sgm G j (m + 1) / dv + 1 := by
          rcases Nat.lt_or_ge gs (sgm G j (m + 1) / dv + 1) with z | z
          · have : gs = sgm G j (m + 1) / dv := Nat.le_antisymm (Nat.le_of_lt_succ z) g2
            rw [this] at t4
            omega
          · exact Nat.le_antisymm g3 z
        refine aw_if_eq (tgt := 150) dX0_divide_135 (by decide) (fun c => absurd c (by decide)) (fun _ => ?_)
        refine aw_aload_n (i := 0) dX0_divide_138 rfl rfl ?_
        refine aw_iload dX0_divide_139 rfl ?_
        refine aw_invokevirtual kX0_99 dX0_divide_141 hDu (ct_X0_giveBack n h L (va_up C3 q (p + 1, K)) D q V R H W (m + p + 1) j dv G1 a b c d w hD hLD hLD1 hV0 hR0 hVR hv2 (by omega) t2 (by rw [hV1]; omega)) rfl rfl (Nat.le_of_ble_eq_true rfl) ⟨Nat.le_of_ble_eq_true rfl, Nat.le_of_ble_eq_true rfl⟩ ⟨Nat.le_of_ble_eq_true rfl, Nat.le_of_ble_eq_true rfl⟩ ?_
        rintro _ _ _ ⟨rfl, rfl, G2, xx, rfl, u1, u2, u3, u4⟩
        rw [hV1] at u3 u4
        refine aw_lload dX0_divide_144 rfl ?_
        refine aw_lconst (v := 1) dX0_divide_146 (by decide) ?_
        refine aw_lsub dX0_divide_147 ?_
        rw [hgs, show lN (sgm G j (m + 1) / dv + 1) - 1 = lN (sgm G j (m + 1) / dv) from lN_sub (b := 1) (Nat.le_add_left 1 _)]
        refine aw_lstore_6 dX0_divide_148 (by decide) rfl ?_
        refine nxt G2 u2 (fun k hk => by rw [u3 k hk]; exact t3 k hk) ?_
        have hl2 := sgm_lt (g := G2) (at' := j) (m := m + 1) (by omega) u2
        rw [hgs, Nat.add_mul, Nat.one_mul] at t4
        have hx1 : xx = 1 := by
          rcases Nat.eq_zero_or_pos xx with z | z
          · rw [z, Nat.zero_mul] at u4; omega
          · omega
        rw [hx1, Nat.one_mul] at u4
        omega
      · have hb0 : bb = 0 := by omega
        subst hb0
        rw [Nat.zero_mul, Nat.add_zero] at t4
        have hgs : gs = sgm G j (m + 1) / dv := by
          refine Nat.le_antisymm ?_ g2
          rw [Nat.le_div_iff_mul_le hdpos]
          omega
        refine aw_if_eq (tgt := 150) dX0_divide_135 (by decide) (fun _ => ?_) (fun c => (c rfl).elim)
        rw [hgs] at t4 ⊢
        exact nxt G1 t2 t3 t4
  have := loop (p + 1) G0 K0 none (Nat.le_refl _) hG0 hK0 hKz (by rw [bv_zero hKz, Nat.zero_mul, Nat.zero_add]; exact hGv) ?_
  · rw [pI_s] at this; exact this
  · rw [hGv]
    have e1 := raw_lt d3.1
    rw [hp] at e1
    have e2 : (2 ^ 32) ^ m * (2 ^ 32) ^ (p + 1) ≤ 2 * dv * (2 ^ 32) ^ (p + 1) := Nat.mul_le_mul_right _ htop
    rw [← Nat.pow_add, show m + (p + 1) = m + p + 1 by omega, p32s (m + p)] at e2
    have e3 : 2 * dv * (2 ^ 32) ^ (p + 1) = 2 * (dv * (2 ^ 32) ^ (p + 1)) := by rw [Nat.mul_assoc]
    omega
