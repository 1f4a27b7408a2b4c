/-- k parts from p on of a row hold v -/
def mD (g : Nat → Nat) (p k v : Nat) : Prop := (∀ i, i < k → g (p + i) < 2 ^ 28) ∧ bv (2 ^ 28) (fun i => g (p + i)) k = v
theorem mD_congr {g g' : Nat → Nat} {p k v : Nat} (h : mD g p k v) (e : ∀ i, p ≤ i → i < p + k → g' i = g i) : mD g' p k v := ⟨fun i hi => by rw [e _ (by omega) (by omega)]; exact h.1 i hi, by rw [← h.2]; exact bv_congr (fun i hi => e _ (by omega) (by omega))⟩
theorem mD_spl {gt ga : Nat → Nat} {p k v : Nat} (hk : k ≤ 96) (hv : dg ga v) (hs : v < (2 ^ 28) ^ k) : mD (spl gt ga p k) p k v := by
  refine ⟨fun i hi => by rw [spl_in hi]; exact hv.1 i (by omega), ?_⟩
  rw [bv_congr (g' := ga) (fun i hi => spl_in hi), ← hv.2]
  exact (bv_high hk (fun i h1 h2 => dg_small hv hs i h1 h2)).symm
theorem mD_lt {g : Nat → Nat} {p k v : Nat} (h : mD g p k v) : v < 2 ^ (28 * k) := by
  rw [← h.2, Nat.pow_mul]; exact bv_lt h.1
theorem ct_X8_lowest (n : Nat) (h : Hp) (m : Nat) (A : Nat → Nat → Nat) (va vb : Nat) (hm : mob h m) (hva : dg (A 9) va) (hvb : dg (A 10) vb) (pb : 0 < vb) : CT mX8_lowest 0 0 n (mh h m A) [.ref m] (pv n (fun h' => ∃ A', h' = mh h m A' ∧ dg (A' 9) (va / Nat.gcd va vb) ∧ dg (A' 10) (vb / Nat.gcd va vb) ∧ ∀ k, 5 < k → k ≠ 9 → k ≠ 10 → A' k = A k)) := by
  have hm0 := hm
  obtain ⟨so, we, ba, ca, cb, lc, ld, le, hm⟩ := hm
  refine CT.intro [some (.ref m)] 0 rfl rfl (by decide) ?_
  intro Q hQ
  refine aw_aload_n (i := 0) dX8_lowest_0 rfl rfl ?_
  refine aw_getfield fX8_35 dX8_lowest_1 (by rw [mh_0]; exact hm) rfl ?_
  refine aw_invokestatic kX8_120 dX8_lowest_4 (mc_top n h m A 9 va rfl rfl hva) rfl rfl (Nat.le_of_ble_eq_true rfl) ⟨Nat.le_of_ble_eq_true rfl, Nat.le_of_ble_eq_true rfl⟩ ⟨Nat.le_of_ble_eq_true rfl, Nat.le_of_ble_eq_true rfl⟩ ?_
  rintro _ _ _ ⟨rfl, rfl, t, rfl, ht⟩
  have ht96 := ht.1
  by_cases h0 : va = 0
  · subst h0
    obtain rfl : t = 0 := (tpp_0 ht hva).mpr rfl
    refine aw_if_ge (tgt := 19) dX8_lowest_7 (by decide) (fun c => absurd c (by rw [pI_0]; decide)) (fun _ => ?_)
    refine aw_aload_n (i := 0) dX8_lowest_10 rfl rfl ?_
    refine aw_getfield fX8_38 dX8_lowest_11 (by rw [mh_0]; exact hm) rfl ?_
    refine aw_lconst (v := 1) dX8_lowest_14 (by decide) ?_
    refine aw_invokestatic kX8_124 dX8_lowest_15 (mc_become n h m A 10 1 rfl rfl (by decide)) rfl rfl (Nat.le_of_ble_eq_true rfl) ⟨Nat.le_of_ble_eq_true rfl, Nat.le_of_ble_eq_true rfl⟩ ⟨Nat.le_of_ble_eq_true rfl, Nat.le_of_ble_eq_true rfl⟩ ?_
    rintro _ _ _ ⟨rfl, rfl, A1, rfl, d1, f1⟩
    refine aw_return dX8_lowest_18 rfl (Nat.le_of_ble_eq_true rfl) (Nat.le_of_ble_eq_true rfl) ?_
    refine hQ _ _ _ ⟨rfl, rfl, A1, rfl, ?_, ?_, fun k _ _ h3 => f1 k h3⟩
    · rw [f1 9 (by decide), Nat.zero_div]; exact hva
    · rw [Nat.gcd_zero_left, Nat.div_self pb]; exact d1
  · have pa : 0 < va := by omega
    have gp : 0 < Nat.gcd va vb := Nat.gcd_pos_of_pos_left _ pa
    refine aw_if_ge (tgt := 19) dX8_lowest_7 (by decide) (fun _ => ?_) (fun c => (c (Int32.not_lt.mp (fun q => h0 ((tpp_0 ht hva).mp ((pI_lt0 (by omega)).mp q))))).elim)
    refine aw_aload_n (i := 0) dX8_lowest_19 rfl rfl ?_
    refine aw_aload_n (i := 0) dX8_lowest_20 rfl rfl ?_
    refine aw_getfield fX8_35 dX8_lowest_21 (by rw [mh_0]; exact hm) rfl ?_
    refine aw_aload_n (i := 0) dX8_lowest_24 rfl rfl ?_
    refine aw_getfield fX8_38 dX8_lowest_25 (by rw [mh_0]; exact hm) rfl ?_
    refine aw_invokevirtual kX8_157 dX8_lowest_28 (by rw [mh_0]; exact hm) (ct_X8_findDivisor n h m A va vb hm0 hva hvb pa pb) rfl rfl (Nat.le_of_ble_eq_true rfl) ⟨Nat.le_of_ble_eq_true rfl, Nat.le_of_ble_eq_true rfl⟩ ⟨Nat.le_of_ble_eq_true rfl, Nat.le_of_ble_eq_true rfl⟩ ?_
    rintro _ _ _ ⟨rfl, rfl, A1, rfl, d3, f1⟩
    have d9 : dg (A1 9) va := by rw [f1 9 (by decide) (by decide) (by decide) (by decide)]; exact hva
    have d10 : dg (A1 10) vb := by rw [f1 10 (by decide) (by decide) (by decide) (by decide)]; exact hvb
    refine aw_aload_n (i := 0) dX8_lowest_31 rfl rfl ?_
    refine aw_getfield fX8_16 dX8_lowest_32 (by rw [mh_0]; exact hm) rfl ?_
    refine aw_invokestatic kX8_146 dX8_lowest_35 (mc_bits n h m A1 3 _ rfl rfl d3) rfl rfl (Nat.le_of_ble_eq_true rfl) ⟨Nat.le_of_ble_eq_true rfl, Nat.le_of_ble_eq_true rfl⟩ ⟨Nat.le_of_ble_eq_true rfl, Nat.le_of_ble_eq_true rfl⟩ ?_
    rintro _ _ _ ⟨rfl, rfl, rfl⟩
    have hnb : nb (Nat.gcd va vb) ≤ 2688 := nb_le.mpr (dg_lt d3)
    refine aw_iconst (v := 1) dX8_lowest_38 (by decide +kernel) ?_
    by_cases hg : nb (Nat.gcd va vb) ≤ 1
    · have hg1 : Nat.gcd va vb = 1 := by have := nb_le.mp hg; omega
      refine aw_icmp_le (tgt := 88) dX8_lowest_39 (by decide) (fun _ => ?_) (fun c => (c (nI_le (b := 1) hg (by decide))).elim)
      refine aw_return dX8_lowest_88 rfl (Nat.le_of_ble_eq_true rfl) (Nat.le_of_ble_eq_true rfl) ?_
      exact hQ _ _ _ ⟨rfl, rfl, A1, rfl, by rw [hg1, Nat.div_one]; exact d9, by rw [hg1, Nat.div_one]; exact d10, fun k h1 _ _ => f1 k (by omega) (by omega) (by omega) (by omega)⟩
    · refine aw_icmp_le (tgt := 88) dX8_lowest_39 (by decide) (fun c => absurd c (nI_ge (a := 1) (by omega) (by omega))) (fun _ => ?_)
      refine aw_aload_n (i := 0) dX8_lowest_42 rfl rfl ?_
      refine aw_aload_n (i := 0) dX8_lowest_43 rfl rfl ?_
      refine aw_getfield fX8_35 dX8_lowest_44 (by rw [mh_0]; exact hm) rfl ?_
      refine aw_aload_n (i := 0) dX8_lowest_47 rfl rfl ?_
      refine aw_getfield fX8_16 dX8_lowest_48 (by rw [mh_0]; exact hm) rfl ?_
      refine aw_invokevirtual kX8_160 dX8_lowest_51 (by rw [mh_0]; exact hm) (ct_X8_divide n h m A1 9 3 va _ hm0 rfl rfl rfl rfl (by decide) (by decide) (by decide) (by decide) d9 d3 gp) rfl rfl (Nat.le_of_ble_eq_true rfl) ⟨Nat.le_of_ble_eq_true rfl, Nat.le_of_ble_eq_true rfl⟩ ⟨Nat.le_of_ble_eq_true rfl, Nat.le_of_ble_eq_true rfl⟩ ?_
      rintro _ _ _ ⟨rfl, rfl, A2, rfl, d4, -, f2⟩
      refine aw_aload_n (i := 0) dX8_lowest_54 rfl rfl ?_
      refine aw_getfield fX8_35 dX8_lowest_55 (by rw [mh_0]; exact hm) rfl ?_
      refine aw_aload_n (i := 0) dX8_lowest_58 rfl rfl ?_
      refine aw_getfield fX8_19 dX8_lowest_59 (by rw [mh_0]; exact hm) rfl ?_
      refine aw_invokestatic kX8_128 dX8_lowest_62 (mc_copy n h m A2 9 4 _ rfl rfl rfl rfl (by decide) d4) rfl rfl (Nat.le_of_ble_eq_true rfl) ⟨Nat.le_of_ble_eq_true rfl, Nat.le_of_ble_eq_true rfl⟩ ⟨Nat.le_of_ble_eq_true rfl, Nat.le_of_ble_eq_true rfl⟩ ?_
      rintro _ _ _ ⟨rfl, rfl, A3, rfl, e9, f3⟩
      refine aw_aload_n (i := 0) dX8_lowest_65 rfl rfl ?_
      refine aw_aload_n (i := 0) dX8_lowest_66 rfl rfl ?_
      refine aw_getfield fX8_38 dX8_lowest_67 (by rw [mh_0]; exact hm) rfl ?_
      refine aw_aload_n (i := 0) dX8_lowest_70 rfl rfl ?_
      refine aw_getfield fX8_16 dX8_lowest_71 (by rw [mh_0]; exact hm) rfl ?_
      refine aw_invokevirtual kX8_160 dX8_lowest_74 (by rw [mh_0]; exact hm) (ct_X8_divide n h m A3 10 3 vb _ hm0 rfl rfl rfl rfl (by decide) (by decide) (by decide) (by decide) (by rw [f3 10 (by decide), f2 10 (by decide) (by decide)]; exact d10) (by rw [f3 3 (by decide), f2 3 (by decide) (by decide)]; exact d3) gp) rfl rfl (Nat.le_of_ble_eq_true rfl) ⟨Nat.le_of_ble_eq_true rfl, Nat.le_of_ble_eq_true rfl⟩ ⟨Nat.le_of_ble_eq_true rfl, Nat.le_of_ble_eq_true rfl⟩ ?_
      rintro _ _ _ ⟨rfl, rfl, A4, rfl, d44, -, f4⟩
      refine aw_aload_n (i := 0) dX8_lowest_77 rfl rfl ?_
      refine aw_getfield fX8_38 dX8_lowest_78 (by rw [mh_0]; exact hm) rfl ?_
      refine aw_aload_n (i := 0) dX8_lowest_81 rfl rfl ?_
      refine aw_getfield fX8_19 dX8_lowest_82 (by rw [mh_0]; exact hm) rfl ?_
      refine aw_invokestatic kX8_128 dX8_lowest_85 (mc_copy n h m A4 10 4 _ rfl rfl rfl rfl (by decide) d44) rfl rfl (Nat.le_of_ble_eq_true rfl) ⟨Nat.le_of_ble_eq_true rfl, Nat.le_of_ble_eq_true rfl⟩ ⟨Nat.le_of_ble_eq_true rfl, Nat.le_of_ble_eq_true rfl⟩ ?_
      rintro _ _ _ ⟨rfl, rfl, A5, rfl, e10, f5⟩
      refine aw_return dX8_lowest_88 rfl (Nat.le_of_ble_eq_true rfl) (Nat.le_of_ble_eq_true rfl) ?_
      exact hQ _ _ _ ⟨rfl, rfl, A5, rfl, by rw [f5 9 (by decide), f4 9 (by decide) (by decide)]; exact e9, e10, fun k h1 h2 h3 => by rw [f5 k h3, f4 k (by omega) (by omega), f3 k h2, f2 k (by omega) (by omega), f1 k (by omega) (by omega) (by omega) (by omega)]⟩
theorem c40 (p : Nat) : (40 : Int32) * nI p = nI (40 * p) := pk_mul 40 p
/-- behind 'give': the fraction in lowest terms is too wide, or it lies in the place -/
def gave (h : Hp) (m : Nat) (A : Nat → Nat → Nat) (bo : Nat → Nat) (p u d : Nat) (r : Option Value) (h' : Hp) : Prop :=
  (¬ (nb u ≤ 1024 ∧ nb d ≤ 1024) ∧ r = some (.int (-4)) ∧ ∃ A', h' = mh h m A' ∧ ∀ k, 5 < k → k ≠ 9 → k ≠ 10 → A' k = A k) ∨
  ((nb u ≤ 1024 ∧ nb d ≤ 1024) ∧ r = some (.int 1) ∧ ∃ A', h' = mh (hup h (m + 8) (bar 16 (va_up bo p 1))) m A' ∧ mD (A' 6) (40 * p) 40 u ∧ mD (A' 7) (40 * p) 40 d ∧ (∀ i, (i < 40 * p ∨ 40 * p + 40 ≤ i) → A' 6 i = A 6 i ∧ A' 7 i = A 7 i) ∧ ∀ k, 7 < k → k ≠ 9 → k ≠ 10 → A' k = A k)
theorem ct_X8_give (n : Nat) (h : Hp) (m : Nat) (A : Nat → Nat → Nat) (bo : Nat → Nat) (p va vb : Nat) (hp : p < 16) (hm : mob h m) (hb8 : h (m + 8) = some (bar 16 bo)) (hva : dg (A 9) va) (hvb : dg (A 10) vb) (pb : 0 < vb) : CT mX8_give 0 0 n (mh h m A) [.ref m, .int (nI p)] (fun r n' h' => n = n' ∧ gave h m A bo p (va / Nat.gcd va vb) (vb / Nat.gcd va vb) r h') := by
  have hm0 := hm
  obtain ⟨so, we, ba, ca, cb, lc, ld, le, hm⟩ := hm
  refine CT.intro [some (.ref m), some (.int (nI p))] 0 rfl rfl (by decide) ?_
  intro Q hQ
  refine aw_aload_n (i := 0) dX8_give_0 rfl rfl ?_
  refine aw_invokevirtual kX8_163 dX8_give_1 (by rw [mh_0]; exact hm) (ct_X8_lowest n h m A va vb hm0 hva hvb pb) rfl rfl (Nat.le_of_ble_eq_true rfl) ⟨Nat.le_of_ble_eq_true rfl, Nat.le_of_ble_eq_true rfl⟩ ⟨Nat.le_of_ble_eq_true rfl, Nat.le_of_ble_eq_true rfl⟩ ?_
  rintro _ _ _ ⟨rfl, rfl, A1, rfl, d9, d10, f1⟩
  generalize va / Nat.gcd va vb = u at d9 hQ
  generalize vb / Nat.gcd va vb = d at d10 hQ
  have nu := nb_le.mpr (dg_lt d9)
  have nd := nb_le.mpr (dg_lt d10)
  refine aw_aload_n (i := 0) dX8_give_4 rfl rfl ?_
  refine aw_getfield fX8_35 dX8_give_5 (by rw [mh_0]; exact hm) rfl ?_
  refine aw_invokestatic kX8_146 dX8_give_8 (mc_bits n h m A1 9 _ rfl rfl d9) rfl rfl (Nat.le_of_ble_eq_true rfl) ⟨Nat.le_of_ble_eq_true rfl, Nat.le_of_ble_eq_true rfl⟩ ⟨Nat.le_of_ble_eq_true rfl, Nat.le_of_ble_eq_true rfl⟩ ?_
  rintro _ _ _ ⟨rfl, rfl, rfl⟩
  refine aw_sipush (v := 1024) dX8_give_11 (by decide +kernel) ?_
  have wide : ¬ (nb u ≤ 1024 ∧ nb d ≤ 1024) → AW mX8_give (gq 0 0 Q) 30 [some (.ref m), some (.int (nI p))] [] 0 0 n (mh h m A1) := by
    intro hw
    refine aw_bipush (v := (-4)) dX8_give_30 (by decide +kernel) ?_
    refine aw_ireturn dX8_give_32 rfl rfl (Nat.le_of_ble_eq_true rfl) (Nat.le_of_ble_eq_true rfl) ?_
    exact hQ _ _ _ ⟨rfl, Or.inl ⟨hw, rfl, A1, rfl, f1⟩⟩
  by_cases hu : nb u ≤ 1024
  · refine aw_icmp_gt (tgt := 30) dX8_give_14 (by decide) (fun c => absurd c (nI_nlt (a := 1024) hu (by decide))) (fun _ => ?_)
    refine aw_aload_n (i := 0) dX8_give_17 rfl rfl ?_
    refine aw_getfield fX8_38 dX8_give_18 (by rw [mh_0]; exact hm) rfl ?_
    refine aw_invokestatic kX8_146 dX8_give_21 (mc_bits n h m A1 10 _ rfl rfl d10) rfl rfl (Nat.le_of_ble_eq_true rfl) ⟨Nat.le_of_ble_eq_true rfl, Nat.le_of_ble_eq_true rfl⟩ ⟨Nat.le_of_ble_eq_true rfl, Nat.le_of_ble_eq_true rfl⟩ ?_
    rintro _ _ _ ⟨rfl, rfl, rfl⟩
    refine aw_sipush (v := 1024) dX8_give_24 (by decide +kernel) ?_
    by_cases hd : nb d ≤ 1024
    · have l1 : u < (2 ^ 28) ^ 40 := by
        rw [← Nat.pow_mul]; exact Nat.lt_of_lt_of_le (nb_le.mp hu) (Nat.pow_le_pow_right (by decide) (by decide))
      have l2 : d < (2 ^ 28) ^ 40 := by
        rw [← Nat.pow_mul]; exact Nat.lt_of_lt_of_le (nb_le.mp hd) (Nat.pow_le_pow_right (by decide) (by decide))
      refine aw_icmp_le (tgt := 33) dX8_give_27 (by decide) (fun _ => ?_) (fun c => (c (nI_le (b := 1024) hd (by decide))).elim)
      refine aw_aload_n (i := 0) dX8_give_33 rfl rfl ?_
      refine aw_getfield fX8_25 dX8_give_34 (by rw [mh_0]; exact hm) rfl ?_
      refine aw_bipush (v := 40) dX8_give_37 (by decide +kernel) ?_
      refine aw_iload_n (i := 1) dX8_give_39 rfl rfl ?_
      refine aw_imul dX8_give_40 ?_
      rw [c40]
      refine aw_bipush (v := 40) dX8_give_41 (by decide +kernel) ?_
      refine aw_aload_n (i := 0) dX8_give_43 rfl rfl ?_
      refine aw_getfield fX8_35 dX8_give_44 (by rw [mh_0]; exact hm) rfl ?_
      refine aw_invokestatic kX8_166 dX8_give_47 (ct_X8_store n (mh h m A1) (m + 9) (m + 6) (40 * p) 40 640 (A1 6) (A1 9) (mh_at h m A1 rfl) (mh_96 h m A1 rfl rfl) (by omega) (by decide) (by omega) (by decide)) rfl rfl (Nat.le_of_ble_eq_true rfl) ⟨Nat.le_of_ble_eq_true rfl, Nat.le_of_ble_eq_true rfl⟩ ⟨Nat.le_of_ble_eq_true rfl, Nat.le_of_ble_eq_true rfl⟩ ?_
      rintro _ _ _ ⟨rfl, rfl, rfl⟩
      rw [show lar 640 (spl (A1 6) (A1 9) (40 * p) 40) = lar (mlen 6) (spl (A1 6) (A1 9) (40 * p) 40) from rfl, mh_up h m A1 rfl]
      obtain ⟨A2, hA2⟩ : ∃ A2, A2 = va_up A1 6 (spl (A1 6) (A1 9) (40 * p) 40) := ⟨_, rfl⟩
      rw [← hA2]
      have a6 : A2 6 = spl (A1 6) (A1 9) (40 * p) 40 := by rw [hA2, va_up_at]
      have f2 : ∀ k, k ≠ 6 → A2 k = A1 k := fun k hk => by rw [hA2, va_up_off hk]
      refine aw_aload_n (i := 0) dX8_give_50 rfl rfl ?_
      refine aw_getfield fX8_28 dX8_give_51 (by rw [mh_0]; exact hm) rfl ?_
      refine aw_bipush (v := 40) dX8_give_54 (by decide +kernel) ?_
      refine aw_iload_n (i := 1) dX8_give_56 rfl rfl ?_
      refine aw_imul dX8_give_57 ?_
      rw [c40]
      refine aw_bipush (v := 40) dX8_give_58 (by decide +kernel) ?_
      refine aw_aload_n (i := 0) dX8_give_60 rfl rfl ?_
      refine aw_getfield fX8_38 dX8_give_61 (by rw [mh_0]; exact hm) rfl ?_
      refine aw_invokestatic kX8_166 dX8_give_64 (ct_X8_store n (mh h m A2) (m + 10) (m + 7) (40 * p) 40 640 (A2 7) (A2 10) (mh_at h m A2 rfl) (mh_96 h m A2 rfl rfl) (by omega) (by decide) (by omega) (by decide)) rfl rfl (Nat.le_of_ble_eq_true rfl) ⟨Nat.le_of_ble_eq_true rfl, Nat.le_of_ble_eq_true rfl⟩ ⟨Nat.le_of_ble_eq_true rfl, Nat.le_of_ble_eq_true rfl⟩ ?_
      rintro _ _ _ ⟨rfl, rfl, rfl⟩
      rw [show lar 640 (spl (A2 7) (A2 10) (40 * p) 40) = lar (mlen 7) (spl (A2 7) (A2 10) (40 * p) 40) from rfl, mh_up h m A2 rfl]
      obtain ⟨A3, hA3⟩ : ∃ A3, A3 = va_up A2 7 (spl (A2 7) (A2 10) (40 * p) 40) := ⟨_, rfl⟩
      rw [← hA3]
      have a7 : A3 7 = spl (A2 7) (A2 10) (40 * p) 40 := by rw [hA3, va_up_at]
      have f3 : ∀ k, k ≠ 7 → A3 k = A2 k := fun k hk => by rw [hA3, va_up_off hk]
      refine aw_aload_n (i := 0) dX8_give_67 rfl rfl ?_
      refine aw_getfield fX8_31 dX8_give_68 (by rw [mh_0]; exact hm) rfl ?_
      refine aw_iload_n (i := 1) dX8_give_71 rfl rfl ?_
      refine aw_iconst (v := 1) dX8_give_72 (by decide +kernel) ?_
      refine aw_bast dX8_give_73 p 1 rfl (by decide) (by rw [mh_no h m A3 rfl]; exact hb8) (nI_toInt (by omega)) hp ?_
      refine aw_iconst (v := 1) dX8_give_74 (by decide +kernel) ?_
      refine aw_ireturn dX8_give_75 rfl rfl (Nat.le_of_ble_eq_true rfl) (Nat.le_of_ble_eq_true rfl) ?_
      refine hQ _ _ _ ⟨rfl, Or.inr ⟨⟨hu, hd⟩, rfl, A3, mh_upn h m A3 rfl _, ?_, ?_, fun i hi => ⟨?_, ?_⟩, fun k k1 k2 k3 => ?_⟩⟩
      · rw [f3 6 (by decide), a6]; exact mD_spl (by decide) d9 l1
      · rw [a7, f2 10 (by decide)]; exact mD_spl (by decide) d10 l2
      · rw [f3 6 (by decide), a6, spl_out hi, f1 6 (by decide) (by decide) (by decide)]
      · rw [a7, spl_out hi, f2 7 (by decide), f1 7 (by decide) (by decide) (by decide)]
      · rw [f3 k (by omega), f2 k (by omega), f1 k (by omega) k2 k3]
    · refine aw_icmp_le (tgt := 33) dX8_give_27 (by decide) (fun c => absurd c (nI_ge (a := 1024) (by omega) (by omega))) (fun _ => ?_)
      exact wide (fun q => hd q.2)
  · refine aw_icmp_gt (tgt := 30) dX8_give_14 (by decide) (fun _ => ?_) (fun c => (c (nI_lt (a := 1024) (by omega) (by omega))).elim)
    exact wide (fun q => hu q.1)
theorem ct_X8_takeLeft (n : Nat) (h : Hp) (m : Nat) (A : Nat → Nat → Nat) (p u d : Nat) (hp : p < 16) (hm : mob h m) (hu : mD (A 6) (40 * p) 40 u) (hd : mD (A 7) (40 * p) 40 d) : CT mX8_takeLeft 0 0 n (mh h m A) [.ref m, .int (nI p)] (pv n (fun h' => ∃ A', h' = mh h m A' ∧ dg (A' 11) u ∧ dg (A' 12) d ∧ ∀ k, k ≠ 11 → k ≠ 12 → A' k = A k)) := by
  obtain ⟨so, we, ba, ca, cb, lc, ld, le, hm⟩ := hm
  refine CT.intro [some (.ref m), some (.int (nI p))] 0 rfl rfl (by decide) ?_
  intro Q hQ
  refine aw_aload_n (i := 0) dX8_takeLeft_0 rfl rfl ?_
  refine aw_getfield fX8_41 dX8_takeLeft_1 (by rw [mh_0]; exact hm) rfl ?_
  refine aw_aload_n (i := 0) dX8_takeLeft_4 rfl rfl ?_
  refine aw_getfield fX8_25 dX8_takeLeft_5 (by rw [mh_0]; exact hm) rfl ?_
  refine aw_bipush (v := 40) dX8_takeLeft_8 (by decide +kernel) ?_
  refine aw_iload_n (i := 1) dX8_takeLeft_10 rfl rfl ?_
  refine aw_imul dX8_takeLeft_11 ?_
  rw [c40]
  refine aw_bipush (v := 40) dX8_takeLeft_12 (by decide +kernel) ?_
  refine aw_invokestatic kX8_170 dX8_takeLeft_14 (mc_load n h m A 11 6 (40 * p) 40 rfl rfl rfl (by decide) (show 40 * p + 40 ≤ 640 by omega) (by decide) hu.1) rfl rfl (Nat.le_of_ble_eq_true rfl) ⟨Nat.le_of_ble_eq_true rfl, Nat.le_of_ble_eq_true rfl⟩ ⟨Nat.le_of_ble_eq_true rfl, Nat.le_of_ble_eq_true rfl⟩ ?_
  rintro _ _ _ ⟨rfl, rfl, A1, rfl, d1, f1⟩
  rw [hu.2] at d1
  refine aw_aload_n (i := 0) dX8_takeLeft_17 rfl rfl ?_
  refine aw_getfield fX8_44 dX8_takeLeft_18 (by rw [mh_0]; exact hm) rfl ?_
  refine aw_aload_n (i := 0) dX8_takeLeft_21 rfl rfl ?_
  refine aw_getfield fX8_28 dX8_takeLeft_22 (by rw [mh_0]; exact hm) rfl ?_
  refine aw_bipush (v := 40) dX8_takeLeft_25 (by decide +kernel) ?_
  refine aw_iload_n (i := 1) dX8_takeLeft_27 rfl rfl ?_
  refine aw_imul dX8_takeLeft_28 ?_
  rw [c40]
  refine aw_bipush (v := 40) dX8_takeLeft_29 (by decide +kernel) ?_
  refine aw_invokestatic kX8_170 dX8_takeLeft_31 (mc_load n h m A1 12 7 (40 * p) 40 rfl rfl rfl (by decide) (show 40 * p + 40 ≤ 640 by omega) (by decide) (by rw [f1 7 (by decide)]; exact hd.1)) rfl rfl (Nat.le_of_ble_eq_true rfl) ⟨Nat.le_of_ble_eq_true rfl, Nat.le_of_ble_eq_true rfl⟩ ⟨Nat.le_of_ble_eq_true rfl, Nat.le_of_ble_eq_true rfl⟩ ?_
  rintro _ _ _ ⟨rfl, rfl, A2, rfl, d2, f2⟩
  rw [f1 7 (by decide), hd.2] at d2
  refine aw_return dX8_takeLeft_34 rfl (Nat.le_of_ble_eq_true rfl) (Nat.le_of_ble_eq_true rfl) ?_
  exact hQ _ _ _ ⟨rfl, rfl, A2, rfl, by rw [f2 11 (by decide)]; exact d1, d2, fun k k1 k2 => by rw [f2 k k2, f1 k k1]⟩
theorem ct_X8_takeRight (n : Nat) (h : Hp) (m : Nat) (A : Nat → Nat → Nat) (p u d : Nat) (hp : p < 16) (hm : mob h m) (hu : mD (A 6) (40 * p) 40 u) (hd : mD (A 7) (40 * p) 40 d) : CT mX8_takeRight 0 0 n (mh h m A) [.ref m, .int (nI p)] (pv n (fun h' => ∃ A', h' = mh h m A' ∧ dg (A' 13) u ∧ dg (A' 14) d ∧ ∀ k, k ≠ 13 → k ≠ 14 → A' k = A k)) := by
  obtain ⟨so, we, ba, ca, cb, lc, ld, le, hm⟩ := hm
  refine CT.intro [some (.ref m), some (.int (nI p))] 0 rfl rfl (by decide) ?_
  intro Q hQ
  refine aw_aload_n (i := 0) dX8_takeRight_0 rfl rfl ?_
  refine aw_getfield fX8_47 dX8_takeRight_1 (by rw [mh_0]; exact hm) rfl ?_
  refine aw_aload_n (i := 0) dX8_takeRight_4 rfl rfl ?_
  refine aw_getfield fX8_25 dX8_takeRight_5 (by rw [mh_0]; exact hm) rfl ?_
  refine aw_bipush (v := 40) dX8_takeRight_8 (by decide +kernel) ?_
  refine aw_iload_n (i := 1) dX8_takeRight_10 rfl rfl ?_
  refine aw_imul dX8_takeRight_11 ?_
  rw [c40]
  refine aw_bipush (v := 40) dX8_takeRight_12 (by decide +kernel) ?_
  refine aw_invokestatic kX8_170 dX8_takeRight_14 (mc_load n h m A 13 6 (40 * p) 40 rfl rfl rfl (by decide) (show 40 * p + 40 ≤ 640 by omega) (by decide) hu.1) rfl rfl (Nat.le_of_ble_eq_true rfl) ⟨Nat.le_of_ble_eq_true rfl, Nat.le_of_ble_eq_true rfl⟩ ⟨Nat.le_of_ble_eq_true rfl, Nat.le_of_ble_eq_true rfl⟩ ?_
  rintro _ _ _ ⟨rfl, rfl, A1, rfl, d1, f1⟩
  rw [hu.2] at d1
  refine aw_aload_n (i := 0) dX8_takeRight_17 rfl rfl ?_
  refine aw_getfield fX8_50 dX8_takeRight_18 (by rw [mh_0]; exact hm) rfl ?_
  refine aw_aload_n (i := 0) dX8_takeRight_21 rfl rfl ?_
  refine aw_getfield fX8_28 dX8_takeRight_22 (by rw [mh_0]; exact hm) rfl ?_
  refine aw_bipush (v := 40) dX8_takeRight_25 (by decide +kernel) ?_
  refine aw_iload_n (i := 1) dX8_takeRight_27 rfl rfl ?_
  refine aw_imul dX8_takeRight_28 ?_
  rw [c40]
  refine aw_bipush (v := 40) dX8_takeRight_29 (by decide +kernel) ?_
  refine aw_invokestatic kX8_170 dX8_takeRight_31 (mc_load n h m A1 14 7 (40 * p) 40 rfl rfl rfl (by decide) (show 40 * p + 40 ≤ 640 by omega) (by decide) (by rw [f1 7 (by decide)]; exact hd.1)) rfl rfl (Nat.le_of_ble_eq_true rfl) ⟨Nat.le_of_ble_eq_true rfl, Nat.le_of_ble_eq_true rfl⟩ ⟨Nat.le_of_ble_eq_true rfl, Nat.le_of_ble_eq_true rfl⟩ ?_
  rintro _ _ _ ⟨rfl, rfl, A2, rfl, d2, f2⟩
  rw [f1 7 (by decide), hd.2] at d2
  refine aw_return dX8_takeRight_34 rfl (Nat.le_of_ble_eq_true rfl) (Nat.le_of_ble_eq_true rfl) ?_
  exact hQ _ _ _ ⟨rfl, rfl, A2, rfl, by rw [f2 13 (by decide)]; exact d1, d2, fun k k1 k2 => by rw [f2 k k2, f1 k k1]⟩
/-- left and right lie in 11, 12 and 13, 14 -/
theorem ct_X8_ordered (n : Nat) (h : Hp) (m : Nat) (A : Nat → Nat → Nat) (u d u2 d2 : Nat) (hm : mob h m) (h11 : dg (A 11) u) (h12 : dg (A 12) d) (h13 : dg (A 13) u2) (h14 : dg (A 14) d2) (l1 : u < 2 ^ (28 * 48)) (l2 : d < 2 ^ (28 * 48)) (l3 : u2 < 2 ^ (28 * 48)) (l4 : d2 < 2 ^ (28 * 48)) : CT mX8_ordered 0 0 n (mh h m A) [.ref m] (fun r n' h' => n = n' ∧ r = some (.int (cmpI (u * d2) (u2 * d))) ∧ ∃ A', h' = mh h m A' ∧ dg (A' 15) (u * d2) ∧ dg (A' 16) (u2 * d) ∧ ∀ k, k ≠ 15 → k ≠ 16 → A' k = A k) := by
  obtain ⟨so, we, ba, ca, cb, lc, ld, le, hm⟩ := hm
  refine CT.intro [some (.ref m)] 0 rfl rfl (by decide) ?_
  intro Q hQ
  refine aw_aload_n (i := 0) dX8_ordered_0 rfl rfl ?_
  refine aw_getfield fX8_53 dX8_ordered_1 (by rw [mh_0]; exact hm) rfl ?_
  refine aw_aload_n (i := 0) dX8_ordered_4 rfl rfl ?_
  refine aw_getfield fX8_41 dX8_ordered_5 (by rw [mh_0]; exact hm) rfl ?_
  refine aw_aload_n (i := 0) dX8_ordered_8 rfl rfl ?_
  refine aw_getfield fX8_50 dX8_ordered_9 (by rw [mh_0]; exact hm) rfl ?_
  refine aw_invokestatic kX8_174 dX8_ordered_12 (mc_times n h m A 15 11 14 u d2 48 48 rfl rfl rfl rfl rfl rfl (by decide) (by decide) h11 h14 l1 l4 (by decide)) rfl rfl (Nat.le_of_ble_eq_true rfl) ⟨Nat.le_of_ble_eq_true rfl, Nat.le_of_ble_eq_true rfl⟩ ⟨Nat.le_of_ble_eq_true rfl, Nat.le_of_ble_eq_true rfl⟩ ?_
  rintro _ _ _ ⟨rfl, rfl, A1, rfl, d1, f1⟩
  refine aw_aload_n (i := 0) dX8_ordered_15 rfl rfl ?_
  refine aw_getfield fX8_56 dX8_ordered_16 (by rw [mh_0]; exact hm) rfl ?_
  refine aw_aload_n (i := 0) dX8_ordered_19 rfl rfl ?_
  refine aw_getfield fX8_47 dX8_ordered_20 (by rw [mh_0]; exact hm) rfl ?_
  refine aw_aload_n (i := 0) dX8_ordered_23 rfl rfl ?_
  refine aw_getfield fX8_44 dX8_ordered_24 (by rw [mh_0]; exact hm) rfl ?_
  refine aw_invokestatic kX8_174 dX8_ordered_27 (mc_times n h m A1 16 13 12 u2 d 48 48 rfl rfl rfl rfl rfl rfl (by decide) (by decide) (by rw [f1 13 (by decide)]; exact h13) (by rw [f1 12 (by decide)]; exact h12) l3 l2 (by decide)) rfl rfl (Nat.le_of_ble_eq_true rfl) ⟨Nat.le_of_ble_eq_true rfl, Nat.le_of_ble_eq_true rfl⟩ ⟨Nat.le_of_ble_eq_true rfl, Nat.le_of_ble_eq_true rfl⟩ ?_
  rintro _ _ _ ⟨rfl, rfl, A2, rfl, e2, f2⟩
  have d15 : dg (A2 15) (u * d2) := by rw [f2 15 (by decide)]; exact d1
  refine aw_aload_n (i := 0) dX8_ordered_30 rfl rfl ?_
  refine aw_getfield fX8_53 dX8_ordered_31 (by rw [mh_0]; exact hm) rfl ?_
  refine aw_aload_n (i := 0) dX8_ordered_34 rfl rfl ?_
  refine aw_getfield fX8_56 dX8_ordered_35 (by rw [mh_0]; exact hm) rfl ?_
  refine aw_invokestatic kX8_136 dX8_ordered_38 (mc_compare n h m A2 15 16 _ _ rfl rfl rfl rfl d15 e2) rfl rfl (Nat.le_of_ble_eq_true rfl) ⟨Nat.le_of_ble_eq_true rfl, Nat.le_of_ble_eq_true rfl⟩ ⟨Nat.le_of_ble_eq_true rfl, Nat.le_of_ble_eq_true rfl⟩ ?_
  rintro _ _ _ ⟨rfl, rfl, rfl⟩
  refine aw_ireturn dX8_ordered_41 rfl rfl (Nat.le_of_ble_eq_true rfl) (Nat.le_of_ble_eq_true rfl) ?_
  exact hQ _ _ _ ⟨rfl, rfl, A2, rfl, d15, e2, fun k k1 k2 => by rw [f2 k k2, f1 k k1]⟩
