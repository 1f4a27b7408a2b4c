theorem num_ra {l : Nat} {c : Nat × (Nat → Nat)} {v : Nat} (h : num l c v) : raw l c v := h.1
theorem ct_X3_copy (n : Nat) (h : Hp) (L : Nat → Nat) (C : NC) (a b u v : Nat) (w : LW L) (ha : L a ≠ 0) (hb : L b ≠ 0) (hab : b ≠ a) (hu : num (L a) (C a) u) (hv : num (L b) (C b) v) (hf : v < (2 ^ 32) ^ L a) : CT mX3_copy 0 0 n (nh h L C) [.ref a, .ref b] (nto n h L C a v) := by
  refine CT.intro [some (.ref a), some (.ref b)] 0 rfl rfl (by decide) ?_
  intro Q hQ
  have hl := (w a).1
  have hlb := (w b).1
  have hs := num_le hv hf
  have hsb := hv.1.1
  refine AW.hp (nu_id h L C a) ?_
  generalize (C a).1 = s
  have hg := hu.1.2.1
  generalize (C a).2 = g at *
  refine aw_aload_n (i := 0) dX3_copy_0 rfl rfl ?_
  refine aw_aload_n (i := 1) dX3_copy_1 rfl rfl ?_
  refine aw_getfield fX3_9 dX3_copy_2 (nu_x hb hab) rfl ?_
  refine aw_aload_n (i := 0) dX3_copy_5 rfl rfl ?_
  refine aw_getfield fX3_21 dX3_copy_6 (nu_o ha) rfl ?_
  refine aw_arraylength dX3_copy_9 (nu_a w ha) ?_
  refine aw_mmin kX3_28 mathmin_s math_i mathmin_c dX3_copy_10 (by decide) (Nat.le_of_ble_eq_true rfl) (Nat.le_of_ble_eq_true rfl) (Nat.le_of_ble_eq_true rfl) ?_
  rw [if_neg (nI_nlt hs (by omega))]
  refine aw_putfield fX3_9 dX3_copy_13 (nu_o ha) rfl rfl (Nat.le_of_ble_eq_true rfl) ?_
  dsimp only [List.set]
  refine AW.hp (nu_upo ha w) ?_
  refine aw_aload_n (i := 1) dX3_copy_16 rfl rfl ?_
  refine aw_getfield fX3_21 dX3_copy_17 (nu_x hb hab) rfl ?_
  refine aw_iconst (v := 0) dX3_copy_20 (by decide +kernel) ?_
  refine aw_aload_n (i := 0) dX3_copy_21 rfl rfl ?_
  refine aw_getfield fX3_21 dX3_copy_22 (nu_o ha) rfl ?_
  refine aw_iconst (v := 0) dX3_copy_25 (by decide +kernel) ?_
  refine aw_aload_n (i := 0) dX3_copy_26 rfl rfl ?_
  refine aw_getfield fX3_9 dX3_copy_27 (nu_o ha) rfl ?_
  refine aw_arraycopy kX3_31 acp_n acp_s acp_i dX3_copy_30 (nu_xa w hb hab) (nu_a w ha) (j0 := 0) (j1 := 0) (by decide +kernel) (by decide +kernel) (nI_toInt (by omega)) (by omega) (by omega) (by decide) (Nat.le_of_ble_eq_true rfl) ?_
  have e : (.inl (.int, L a, .inl (va_cpy (fun i => nI ((C b).2 i)) (fun i => nI (g i)) 0 0 (C b).1)) : AC) = iar (L a) (fun i => if i < (C b).1 then (C b).2 i else g i) := by
    unfold iar
    congr 4
    funext i
    show va_cpy (fun i => nI ((C b).2 i)) (fun i => nI (g i)) 0 0 (C b).1 i = nI (if i < (C b).1 then (C b).2 i else g i)
    by_cases hi : i < (C b).1
    · rw [pk_cpy_in (by omega) (by omega), if_pos hi, Nat.zero_add, Nat.sub_zero]
    · rw [pk_cpy_out (by omega), if_neg hi]
  rw [e]
  refine AW.hp (nu_upa w ha) ?_
  refine aw_return dX3_copy_33 rfl (Nat.le_of_ble_eq_true rfl) (Nat.le_of_ble_eq_true rfl) ?_
  refine hQ _ _ _ ⟨rfl, rfl, _, nu_nh, nOne_up ⟨⟨hs, fun i hi => ?_, ?_⟩, fun q => ?_⟩⟩
  · show (if i < (C b).1 then (C b).2 i else g i) < 2 ^ 32
    split
    · exact hv.1.2.1 i (by omega)
    · exact hg i hi
  · rw [← hv.1.2.2]
    exact bv_congr (fun i hi => if_pos hi)
  · show (if (C b).1 - 1 < (C b).1 then (C b).2 ((C b).1 - 1) else g ((C b).1 - 1)) ≠ 0
    have q' : 0 < (C b).1 := q
    rw [if_pos (by omega)]; exact hv.2 q
theorem ct_X3_word (n : Nat) (h : Hp) (L : Nat → Nat) (C : NC) (a s i : Nat) (g : Nat → Nat) (w : LW L) (ha : L a ≠ 0) (hs : s ≤ L a) (hg : ∀ i, i < L a → g i < 2 ^ 32) (hi : i < 2 ^ 31) : CT mX3_word 0 0 n (nu h L C a s g) [.ref a, .int (nI i)] (plong n (nu h L C a s g) (lN (wd (s, g) i))) := by
  refine CT.intro [some (.ref a), some (.int (nI i))] 0 rfl rfl (by decide) ?_
  intro Q hQ
  have hl := (w a).1
  refine aw_iload_n (i := 1) dX3_word_0 rfl rfl ?_
  refine aw_if_lt (tgt := 12) dX3_word_1 (by decide) (fun c => absurd c (nI_pos hi)) (fun _ => ?_)
  refine aw_iload_n (i := 1) dX3_word_4 rfl rfl ?_
  refine aw_aload_n (i := 0) dX3_word_5 rfl rfl ?_
  refine aw_getfield fX3_9 dX3_word_6 (nu_o ha) rfl ?_
  by_cases his : i < s
  · refine aw_icmp_lt (tgt := 16) dX3_word_9 (by decide) (fun _ => ?_) (fun c => (c (nI_lt his (by omega))).elim)
    refine aw_aload_n (i := 0) dX3_word_16 rfl rfl ?_
    refine aw_getfield fX3_21 dX3_word_17 (nu_o ha) rfl ?_
    refine aw_iload_n (i := 1) dX3_word_20 rfl rfl ?_
    refine aw_iald dX3_word_21 i (nu_a w ha) (nI_toInt hi) (by omega) ?_
    refine aw_i2l dX3_word_22 rfl ?_
    refine aw_ldc2_w qX3_37 dX3_word_23 ?_
    refine aw_land dX3_word_26 ?_
    rw [lo32 (hg i (by omega))]
    refine aw_lreturn dX3_word_27 rfl (Nat.le_of_ble_eq_true rfl) (Nat.le_of_ble_eq_true rfl) ?_
    exact hQ _ _ _ ⟨by unfold wd; rw [if_pos his], rfl, rfl⟩
  · refine aw_icmp_lt (tgt := 16) dX3_word_9 (by decide) (fun c => absurd c (nI_nlt (by omega) hi)) (fun _ => ?_)
    refine aw_lconst (v := 0) dX3_word_12 (by decide) ?_
    refine aw_goto (tgt := 27) dX3_word_13 (by decide) ?_
    refine aw_lreturn dX3_word_27 rfl (Nat.le_of_ble_eq_true rfl) (Nat.le_of_ble_eq_true rfl) ?_
    exact hQ _ _ _ ⟨by unfold wd; rw [if_neg his]; rfl, rfl, rfl⟩
theorem ct_X3_wordN (n : Nat) (h : Hp) (a : Nat) (i : Int32) (hi : i < 0) : CT mX3_word 0 0 n h [.ref a, .int i] (plong n h (lN 0)) := by
  refine CT.intro [some (.ref a), some (.int i)] 0 rfl rfl (by decide) ?_
  intro Q hQ
  refine aw_iload_n (i := 1) dX3_word_0 rfl rfl ?_
  refine aw_if_lt (tgt := 12) dX3_word_1 (by decide) (fun _ => ?_) (fun c => (c hi).elim)
  refine aw_lconst (v := 0) dX3_word_12 (by decide) ?_
  refine aw_goto (tgt := 27) dX3_word_13 (by decide) ?_
  refine aw_lreturn dX3_word_27 rfl (Nat.le_of_ble_eq_true rfl) (Nat.le_of_ble_eq_true rfl) ?_
  exact hQ _ _ _ ⟨rfl, rfl, rfl⟩
/-- the same of a whole heap -/
theorem nc_word (n : Nat) (h : Hp) (L : Nat → Nat) (C : NC) (a i v : Nat) (w : LW L) (ha : L a ≠ 0) (hr : raw (L a) (C a) v) (hi : i < 2 ^ 31) : CT mX3_word 0 0 n (nh h L C) [.ref a, .int (nI i)] (plong n (nh h L C) (lN (wd (C a) i))) := by
  rw [nu_id h L C a]
  exact ct_X3_word n h L C a (C a).1 i (C a).2 w ha hr.1 hr.2.1 hi
theorem ct_X3_isOne (n : Nat) (h : Hp) (L : Nat → Nat) (C : NC) (a v : Nat) (w : LW L) (ha : L a ≠ 0) (hr : num (L a) (C a) v) : CT mX3_isOne 0 0 n (nh h L C) [.ref a] (pint n (nh h L C) (bI (decide (v = 1)))) := by
  refine CT.intro [some (.ref a)] 0 rfl rfl (by decide) ?_
  intro Q hQ
  have hl := (w a).1
  have hs := hr.1.1
  have hd := hr.1.2.1
  have hsz : v = 1 → (C a).1 = 1 := fun q => by
    have h1 := num_le (k := 1) hr (by rw [q]; decide)
    have h2 := num_0 hr
    omega
  refine aw_aload_n (i := 0) dX3_isOne_0 rfl rfl ?_
  refine aw_getfield fX3_9 dX3_isOne_1 (nh_o h C ha) rfl ?_
  refine aw_iconst (v := 1) dX3_isOne_4 (by decide +kernel) ?_
  by_cases h1 : (C a).1 = 1
  · have hv : (C a).2 0 = v := by have := hr.1.2.2; rw [h1, bv_s _ _ 0, bv_0] at this; simpa using this
    refine aw_icmp_ne (tgt := 22) dX3_isOne_5 (by decide) (fun c => absurd c (fun c => c (by rw [h1]; rfl))) (fun _ => ?_)
    refine aw_aload_n (i := 0) dX3_isOne_8 rfl rfl ?_
    refine aw_getfield fX3_21 dX3_isOne_9 (nh_o h C ha) rfl ?_
    refine aw_iconst (v := 0) dX3_isOne_12 (by decide +kernel) ?_
    refine aw_iald dX3_isOne_13 0 (nh_a h w C ha) (by decide +kernel) (by omega) ?_
    refine aw_iconst (v := 1) dX3_isOne_14 (by decide +kernel) ?_
    by_cases h2 : v = 1
    · refine aw_icmp_ne (tgt := 22) dX3_isOne_15 (by decide) (fun c => absurd c (fun c => c (by rw [hv, h2]; rfl))) (fun _ => ?_)
      refine aw_iconst (v := 1) dX3_isOne_18 (by decide +kernel) ?_
      refine aw_goto (tgt := 23) dX3_isOne_19 (by decide) ?_
      refine aw_ireturn dX3_isOne_23 rfl rfl (Nat.le_of_ble_eq_true rfl) (Nat.le_of_ble_eq_true rfl) ?_
      exact hQ _ _ _ ⟨by rw [decide_eq_true h2]; rfl, rfl, rfl⟩
    · refine aw_icmp_ne (tgt := 22) dX3_isOne_15 (by decide) (fun _ => ?_) (fun c => ((fun c => h2 (by rw [← hv]; exact nI_inj (hd 0 (by omega)) (by decide) (c : nI ((C a).2 0) = nI 1))) c).elim)
      refine aw_iconst (v := 0) dX3_isOne_22 (by decide +kernel) ?_
      refine aw_ireturn dX3_isOne_23 rfl rfl (Nat.le_of_ble_eq_true rfl) (Nat.le_of_ble_eq_true rfl) ?_
      exact hQ _ _ _ ⟨by rw [decide_eq_false h2]; rfl, rfl, rfl⟩
  · refine aw_icmp_ne (tgt := 22) dX3_isOne_5 (by decide) (fun _ => ?_) (fun c => ((fun c => h1 ((nI_eq (b := 1) (by omega) (by decide)).mp c)) c).elim)
    refine aw_iconst (v := 0) dX3_isOne_22 (by decide +kernel) ?_
    refine aw_ireturn dX3_isOne_23 rfl rfl (Nat.le_of_ble_eq_true rfl) (Nat.le_of_ble_eq_true rfl) ?_
    exact hQ _ _ _ ⟨by rw [decide_eq_false (fun q => h1 (hsz q))]; rfl, rfl, rfl⟩
theorem shl32 (x : Nat) : lN x <<< ((32 : Int32).toInt64 &&& 63) = lN (x * 2 ^ 32) := lN_shl x 32 (by decide +kernel)
theorem ct_X3_toLong (n : Nat) (h : Hp) (L : Nat → Nat) (C : NC) (a v : Nat) (w : LW L) (ha : L a ≠ 0) (hr : num (L a) (C a) v) (hv : v < 2 ^ 64) : CT mX3_toLong 0 0 n (nh h L C) [.ref a] (plong n (nh h L C) (lN v)) := by
  refine CT.intro [some (.ref a)] 0 rfl rfl (by decide) ?_
  intro Q hQ
  have hl := (w a).1
  refine aw_aload_n (i := 0) dX3_toLong_0 rfl rfl ?_
  refine aw_iconst (v := 0) dX3_toLong_1 (by decide +kernel) ?_
  refine aw_invokevirtual kX3_39 dX3_toLong_2 (nh_o h C ha) (nc_word n h L C a 0 v w ha hr.1 (by decide)) rfl rfl (Nat.le_of_ble_eq_true rfl) ⟨Nat.le_of_ble_eq_true rfl, Nat.le_of_ble_eq_true rfl⟩ ⟨Nat.le_of_ble_eq_true rfl, Nat.le_of_ble_eq_true rfl⟩ ?_
  rintro _ _ _ ⟨rfl, rfl, rfl⟩
  refine aw_aload_n (i := 0) dX3_toLong_5 rfl rfl ?_
  refine aw_iconst (v := 1) dX3_toLong_6 (by decide +kernel) ?_
  refine aw_invokevirtual kX3_39 dX3_toLong_7 (nh_o h C ha) (nc_word n h L C a 1 v w ha hr.1 (by decide)) rfl rfl (Nat.le_of_ble_eq_true rfl) ⟨Nat.le_of_ble_eq_true rfl, Nat.le_of_ble_eq_true rfl⟩ ⟨Nat.le_of_ble_eq_true rfl, Nat.le_of_ble_eq_true rfl⟩ ?_
  rintro _ _ _ ⟨rfl, rfl, rfl⟩
  refine aw_bipush (v := 32) dX3_toLong_10 (by decide +kernel) ?_
  refine aw_lshl dX3_toLong_12 rfl ?_
  rw [shl32]
  refine aw_lor dX3_toLong_13 ?_
  rw [lN_or (wd_lt hr.1 0)]
  refine aw_lreturn dX3_toLong_14 rfl (Nat.le_of_ble_eq_true rfl) (Nat.le_of_ble_eq_true rfl) ?_
  refine hQ _ _ _ ⟨?_, rfl, rfl⟩
  rw [wd_eq hr.1, wd_eq hr.1]
  congr 3
  omega
theorem sz2 {l : Nat} {c : Nat × (Nat → Nat)} {v : Nat} (h : num l c v) (h0 : 0 < c.1) : nb v = 32 * (c.1 - 1) + nb (c.2 (c.1 - 1)) := by
  have hs : c.1 ≤ l := h.1.1
  obtain ⟨s, hs2⟩ : ∃ s, c.1 = s + 1 := ⟨c.1 - 1, by omega⟩
  have h2 := h.2 h0
  have h3 := h.1.2.2
  rw [hs2, Nat.add_sub_cancel] at h2 ⊢
  rw [hs2, bv_s, p32] at h3
  have h4 : bv (2 ^ 32) c.2 s < 2 ^ (32 * s) := by rw [← p32]; exact bv_lt (fun i hi => h.1.2.1 i (by omega))
  rw [← h3, nb_add h4 (by omega)]
theorem ct_X3_bits (n : Nat) (h : Hp) (L : Nat → Nat) (C : NC) (a v : Nat) (w : LW L) (ha : L a ≠ 0) (hr : num (L a) (C a) v) : CT mX3_bits 0 0 n (nh h L C) [.ref a] (pint n (nh h L C) (nI (nb v))) := by
  refine CT.intro [some (.ref a), none, none, none] 3 rfl rfl (by decide) ?_
  intro Q hQ
  have hl := (w a).1
  have hs := hr.1.1
  refine aw_aload_n (i := 0) dX3_bits_0 rfl rfl ?_
  refine aw_getfield fX3_9 dX3_bits_1 (nh_o h C ha) rfl ?_
  by_cases h0 : (C a).1 = 0
  · refine aw_if_ne (tgt := 9) dX3_bits_4 (by decide) (fun c => absurd c (fun c => c (by rw [h0]; rfl))) (fun _ => ?_)
    refine aw_iconst (v := 0) dX3_bits_7 (by decide +kernel) ?_
    refine aw_ireturn dX3_bits_8 rfl rfl (Nat.le_of_ble_eq_true rfl) (Nat.le_of_ble_eq_true rfl) ?_
    exact hQ _ _ _ ⟨by rw [(num_0 hr).mp h0]; rfl, rfl, rfl⟩
  · have e1 := sz2 hr (by omega)
    have hd := hr.1.2.1 ((C a).1 - 1) (by omega)
    have ht := hr.2 (by omega)
    obtain ⟨s, hs2⟩ : ∃ s, (C a).1 = s + 1 := ⟨(C a).1 - 1, by omega⟩
    rw [hs2, Nat.add_sub_cancel] at e1 hd ht
    refine aw_if_ne (tgt := 9) dX3_bits_4 (by decide) (fun _ => ?_) (fun c => ((nI_ne0 (by omega) (by omega)) c).elim)
    refine aw_aload_n (i := 0) dX3_bits_9 rfl rfl ?_
    refine aw_getfield fX3_21 dX3_bits_10 (nh_o h C ha) rfl ?_
    refine aw_aload_n (i := 0) dX3_bits_13 rfl rfl ?_
    refine aw_getfield fX3_9 dX3_bits_14 (nh_o h C ha) rfl ?_
    refine aw_iconst (v := 1) dX3_bits_17 (by decide +kernel) ?_
    refine aw_isub dX3_bits_18 ?_
    rw [hs2, nI_pred]
    refine aw_iald dX3_bits_19 s (nh_a h w C ha) (nI_toInt (by omega)) (by omega) ?_
    refine aw_istore_1 dX3_bits_20 (by decide) rfl ?_
    refine aw_aload_n (i := 0) dX3_bits_21 rfl rfl ?_
    refine aw_getfield fX3_9 dX3_bits_22 (nh_o h C ha) rfl ?_
    refine aw_bipush (v := 32) dX3_bits_25 (by decide +kernel) ?_
    refine aw_imul dX3_bits_27 ?_
    rw [hs2, show (32 : Int32) = nI 32 from rfl, pk_mul]
    refine aw_istore_2 dX3_bits_28 (by decide) rfl ?_
    refine aw_iconst (v := 0) dX3_bits_29 (by decide +kernel) ?_
    refine aw_istore_3 dX3_bits_30 (by decide) rfl ?_
    generalize (C a).2 s = t at *
    have ht32 : nb t ≤ 32 := nb_le.mpr hd
    have loop : ∀ (j i : Nat), i + j = 32 - nb t → AW mX3_bits (gq 0 0 Q) 31 [some (.ref a), some (.int (nI (t * 2 ^ i))), some (.int (nI ((s + 1) * 32 - i))), some (.int (nI i))] [] 0 0 n (nh h L C) := by
      intro j
      induction j with
      | zero =>
        intro i hi
        have hfin : AW mX3_bits (gq 0 0 Q) 54 [some (.ref a), some (.int (nI (t * 2 ^ i))), some (.int (nI ((s + 1) * 32 - i))), some (.int (nI i))] [] 0 0 n (nh h L C) := by
          refine aw_iload_n (i := 2) dX3_bits_54 rfl rfl ?_
          refine aw_ireturn dX3_bits_55 rfl rfl (Nat.le_of_ble_eq_true rfl) (Nat.le_of_ble_eq_true rfl) ?_
          exact hQ _ _ _ ⟨by congr 3; omega, rfl, rfl⟩
        have hnt := nb_pos (v := t) (by omega)
        -- the highest bit is set
        have h1 : 2 ^ 31 ≤ t * 2 ^ i := by
          have h5 : ¬ t < 2 ^ (nb t - 1) := fun q => by have := nb_le.mpr q; omega
          have h6 : 2 ^ (nb t - 1) * 2 ^ i ≤ t * 2 ^ i := Nat.mul_le_mul_right _ (by omega)
          rw [← Nat.pow_add, show nb t - 1 + i = 31 by omega] at h6
          exact h6
        have h2 : t * 2 ^ i < 2 ^ 32 := by
          have h6 : t * 2 ^ i < 2 ^ nb t * 2 ^ i := Nat.mul_lt_mul_of_pos_right nb_lt (Nat.two_pow_pos i)
          rw [← Nat.pow_add, show nb t + i = 32 by omega] at h6
          exact h6
        have h3 : nI (t * 2 ^ i) ≤ 0 := by
          rw [Int32.le_iff_toInt_le, iI_N, show (iI ((t * 2 ^ i : Nat) : Int)).toInt = Int.bmod ((t * 2 ^ i : Nat) : Int) (2 ^ 32) from Int32.toInt_ofInt .., toInt_lit0]
          generalize t * 2 ^ i = z at *
          rw [Int.bmod_def]
          split <;> omega
        refine aw_iload_n (i := 3) dX3_bits_31 rfl rfl ?_
        refine aw_bipush (v := 32) dX3_bits_32 (by decide +kernel) ?_
        refine aw_icmp_ge (tgt := 54) dX3_bits_34 (by decide) (fun c => absurd c (nI_ge (b := 32) (by omega) (by decide))) (fun _ => ?_)
        refine aw_iload_n (i := 1) dX3_bits_37 rfl rfl ?_
        refine aw_if_le (tgt := 54) dX3_bits_38 (by decide) (fun _ => ?_) (fun c => (c h3).elim)
        exact hfin
      | succ j ih =>
        intro i hi
        have h2 : t * 2 ^ (i + 1) < 2 ^ 32 := by
          have h6 : t * 2 ^ (i + 1) < 2 ^ nb t * 2 ^ (i + 1) := Nat.mul_lt_mul_of_pos_right nb_lt (Nat.two_pow_pos _)
          have h7 : 2 ^ nb t * 2 ^ (i + 1) ≤ 2 ^ 32 := by rw [← Nat.pow_add]; exact Nat.pow_le_pow_right (by decide) (by omega)
          omega
        have h4 : t * 2 ^ (i + 1) = t * 2 ^ i * 2 := by rw [Nat.pow_succ, Nat.mul_assoc]
        have h5 : 0 < t * 2 ^ i := Nat.mul_pos (by omega) (Nat.two_pow_pos i)
        refine aw_iload_n (i := 3) dX3_bits_31 rfl rfl ?_
        refine aw_bipush (v := 32) dX3_bits_32 (by decide +kernel) ?_
        refine aw_icmp_ge (tgt := 54) dX3_bits_34 (by decide) (fun c => absurd c (nI_ge (b := 32) (by omega) (by decide))) (fun _ => ?_)
        refine aw_iload_n (i := 1) dX3_bits_37 rfl rfl ?_
        refine aw_if_le (tgt := 54) dX3_bits_38 (by decide) (fun c => absurd c (nI_nle h5 (by omega))) (fun _ => ?_)
        refine aw_iload_n (i := 1) dX3_bits_41 rfl rfl ?_
        refine aw_iconst (v := 1) dX3_bits_42 (by decide +kernel) ?_
        refine aw_ishl dX3_bits_43 ?_
        rw [show nI (t * 2 ^ i) <<< ((1 : Int32) &&& 31) = nI (t * 2 ^ (i + 1)) by rw [h4]; exact pk_shlN _ 1 (by decide +kernel) (by omega)]
        refine aw_istore_1 dX3_bits_44 (by decide) rfl ?_
        refine aw_iinc_2 (c0 := (-1)) dX3_bits_45 (by decide) (by decide) rfl ?_
        refine aw_iinc_3 (c0 := 1) dX3_bits_48 (by decide) (by decide) rfl ?_
        refine aw_goto (tgt := 31) dX3_bits_51 (by decide) ?_
        rw [nI_1]
        have := ih (i + 1) (by omega)
        rw [show nI ((s + 1) * 32 - i) + (-1) = nI ((s + 1) * 32 - (i + 1)) by rw [show (s + 1) * 32 - i = (s + 1) * 32 - (i + 1) + 1 by omega, pk_m1]]
        exact this
    have := loop (32 - nb t) 0 (by omega)
    rw [Nat.pow_zero, Nat.mul_one, Nat.sub_zero] at this
    exact this
