/-! sums, ways -/
def sg (f : Nat → Nat) : Nat → Nat
  | 0 => 0
  | n + 1 => sg f n + f n
theorem sg_congr {f g : Nat → Nat} : ∀ {n : Nat}, (∀ i, i < n → f i = g i) → sg f n = sg g n
  | 0, _ => rfl
  | n + 1, h => by simp only [sg]; rw [sg_congr (n := n) (fun i hi => h i (by omega)), h n (by omega)]
theorem sg_le {f : Nat → Nat} {m n : Nat} (h : m ≤ n) : sg f m ≤ sg f n := by
  induction n with
  | zero =>
    obtain rfl : m = 0 := by omega
    exact Nat.le_refl _
  | succ n ih =>
    by_cases hm : m = n + 1
    · rw [hm]; exact Nat.le_refl _
    · have := ih (by omega); simp only [sg]; omega
theorem sg_ge {f : Nat → Nat} {i n : Nat} (h : i < n) : f i ≤ sg f n := by
  have := sg_le (f := f) (m := i + 1) (n := n) h
  simp only [sg] at this; omega
def cho : Nat → Nat → Nat
  | _, 0 => 1
  | 0, _ + 1 => 0
  | n + 1, k + 1 => cho n k + cho n (k + 1)
theorem cho_0 (n : Nat) : cho n 0 = 1 := by cases n <;> rfl
theorem cho_big : ∀ {n k : Nat}, n < k → cho n k = 0
  | 0, 0, h => by omega
  | 0, k + 1, _ => rfl
  | n + 1, 0, h => by omega
  | n + 1, k + 1, h => by simp only [cho]; rw [cho_big (n := n) (k := k) (by omega), cho_big (n := n) (k := k + 1) (by omega)]
theorem cho_self : ∀ n, cho n n = 1
  | 0 => rfl
  | n + 1 => by simp only [cho]; rw [cho_self n, cho_big (by omega)]
theorem cho_up : ∀ (n k : Nat), cho (n + 1) (k + 1) * (k + 1) = cho n k * (n + 1)
  | 0, 0 => rfl
  | 0, k + 1 => by simp only [cho]; simp
  | n + 1, 0 => by
    have := cho_up n 0
    simp only [cho, cho_0] at *; omega
  | n + 1, k + 1 => by
    have h1 := cho_up n k
    have h2 := cho_up n (k + 1)
    have e1 : cho (n + 1 + 1) (k + 1 + 1) = cho (n + 1) (k + 1) + cho (n + 1) (k + 1 + 1) := rfl
    have e2 : cho (n + 1) (k + 1) = cho n k + cho n (k + 1) := rfl
    rw [e1]
    have q1 : (cho (n + 1) (k + 1) + cho (n + 1) (k + 1 + 1)) * (k + 1 + 1) = cho (n + 1) (k + 1) * (k + 1) + cho (n + 1) (k + 1) + cho (n + 1) (k + 1 + 1) * (k + 1 + 1) := by
      rw [Nat.add_mul, Nat.mul_succ (cho (n + 1) (k + 1)) (k + 1)]
    have q2 : cho (n + 1) (k + 1) * (n + 1 + 1) = cho n k * (n + 1) + cho n (k + 1) * (n + 1) + cho (n + 1) (k + 1) := by
      rw [Nat.mul_succ]; congr 1; rw [e2, Nat.add_mul]
    omega
theorem cho_right (n k : Nat) (h : k ≤ n) : cho n (k + 1) * (k + 1) = cho n k * (n - k) := by
  have h1 := cho_up n k
  have e2 : cho (n + 1) (k + 1) = cho n k + cho n (k + 1) := rfl
  rw [e2, Nat.add_mul] at h1
  have h2 : cho n k * (n + 1) = cho n k * (n - k) + cho n k * (k + 1) := by rw [← Nat.mul_add]; congr 1; omega
  omega
theorem cho_mono {n m : Nat} (h : n ≤ m) (k : Nat) : cho n k ≤ cho m k := by
  induction m with
  | zero =>
    obtain rfl : n = 0 := by omega
    exact Nat.le_refl _
  | succ m ih =>
    by_cases hm : n = m + 1
    · rw [hm]; exact Nat.le_refl _
    · have := ih (by omega)
      cases k with
      | zero => rw [cho_0, cho_0]; exact Nat.le_refl _
      | succ k => simp only [cho]; omega
def cho60 : Nat → Nat
  | 0 => 1
  | k + 1 => cho60 k * (60 - k) / (k + 1)
theorem cho60_eq : ∀ k, cho 60 k = cho60 k
  | 0 => cho_0 60
  | k + 1 => by
    simp only [cho60]
    rw [← cho60_eq k]
    by_cases h : k ≤ 60
    · rw [← cho_right 60 k h, Nat.mul_div_cancel _ (by omega)]
    · rw [cho_big (by omega), cho_big (by omega)]; simp
theorem cho_bd {n : Nat} (h : n ≤ 60) (k : Nat) : cho n k < 2 ^ 57 := by
  have h1 := cho_mono h k
  rw [cho60_eq] at h1
  by_cases hk : k < 61
  · have : ∀ k, k < 61 → cho60 k < 2 ^ 57 := by decide +kernel
    have := this k hk
    omega
  · rw [cho_big (by omega)]; decide
theorem ct_X8_at (n : Nat) (h : Hp) (s v : Nat) : CT mX8_at 0 0 n h [.int (nI s), .int (nI v)] (pint n h (nI (10 * (121 * s + v)))) := by
  refine CT.intro [some (.int (nI s)), some (.int (nI v))] 0 rfl rfl (by decide) ?_
  intro Q hQ
  refine aw_bipush (v := 10) dX8_at_0 (by decide +kernel) ?_
  refine aw_bipush (v := 121) dX8_at_2 (by decide +kernel) ?_
  refine aw_iload_n (i := 0) dX8_at_4 rfl rfl ?_
  refine aw_imul dX8_at_5 ?_
  refine aw_iload_n (i := 1) dX8_at_6 rfl rfl ?_
  refine aw_iadd dX8_at_7 ?_
  refine aw_imul dX8_at_8 ?_
  rw [show (121 : Int32) = nI 121 from rfl, show (10 : Int32) = nI 10 from rfl, pk_mul, nI_add, pk_mul]
  refine aw_ireturn dX8_at_9 rfl rfl (Nat.le_of_ble_eq_true rfl) (Nat.le_of_ble_eq_true rfl) ?_
  exact hQ _ _ _ ⟨rfl, rfl, rfl⟩
theorem ct_X8_isPlace (n : Nat) (h : Hp) (p : Int32) : CT mX8_isPlace 0 0 n h [.int p] (pint n h (bI (decide (0 ≤ p) && decide (p ≤ 15)))) := by
  refine CT.intro [some (.int p)] 0 rfl rfl (by decide) ?_
  intro Q hQ
  refine aw_iload_n (i := 0) dX8_isPlace_0 rfl rfl ?_
  refine aw_iconst (v := 0) dX8_isPlace_1 (by decide +kernel) ?_
  refine aw_bipush (v := 15) dX8_isPlace_2 (by decide +kernel) ?_
  refine aw_invokestatic kX8_153 dX8_isPlace_4 (ct_X8_in n h p 0 15) rfl rfl (Nat.le_of_ble_eq_true rfl) ⟨Nat.le_of_ble_eq_true rfl, Nat.le_of_ble_eq_true rfl⟩ ⟨Nat.le_of_ble_eq_true rfl, Nat.le_of_ble_eq_true rfl⟩ ?_
  rintro _ _ _ ⟨rfl, rfl, rfl⟩
  refine aw_ireturn dX8_isPlace_7 rfl (by unfold bI; split <;> rfl) (Nat.le_of_ble_eq_true rfl) (Nat.le_of_ble_eq_true rfl) ?_
  exact hQ _ _ _ ⟨rfl, rfl, rfl⟩
theorem ct_X8_isSource (n : Nat) (h : Hp) (m : Nat) (s so we ba ca cb lc ld le : Int32) (hm : h m = some (mobj m so we ba ca cb lc ld le)) : CT mX8_isSource 0 0 n h [.ref m, .int s] (pint n h (bI (decide (0 ≤ s) && decide (s ≤ so - 1)))) := by
  refine CT.intro [some (.ref m), some (.int s)] 0 rfl rfl (by decide) ?_
  intro Q hQ
  refine aw_iload_n (i := 1) dX8_isSource_0 rfl rfl ?_
  refine aw_iconst (v := 0) dX8_isSource_1 (by decide +kernel) ?_
  refine aw_aload_n (i := 0) dX8_isSource_2 rfl rfl ?_
  refine aw_getfield fX8_178 dX8_isSource_3 hm rfl ?_
  refine aw_iconst (v := 1) dX8_isSource_6 (by decide +kernel) ?_
  refine aw_isub dX8_isSource_7 ?_
  refine aw_invokestatic kX8_153 dX8_isSource_8 (ct_X8_in n h s 0 (so - 1)) rfl rfl (Nat.le_of_ble_eq_true rfl) ⟨Nat.le_of_ble_eq_true rfl, Nat.le_of_ble_eq_true rfl⟩ ⟨Nat.le_of_ble_eq_true rfl, Nat.le_of_ble_eq_true rfl⟩ ?_
  rintro _ _ _ ⟨rfl, rfl, rfl⟩
  refine aw_ireturn dX8_isSource_11 rfl (by unfold bI; split <;> rfl) (Nat.le_of_ble_eq_true rfl) (Nat.le_of_ble_eq_true rfl) ?_
  exact hQ _ _ _ ⟨rfl, rfl, rfl⟩
theorem ct_X8_choose (n : Nat) (h : Hp) (N K : Nat) (hN : N ≤ 60) (hK : K ≤ 60) : CT mX8_choose 0 0 n h [.int (nI N), .int (nI K)] (plong n h (lN (cho N K))) := by
  refine CT.intro [some (.int (nI N)), some (.int (nI K)), none, none, none] 3 rfl rfl (by decide) ?_
  intro Q hQ
  refine aw_iload_n (i := 1) dX8_choose_0 rfl rfl ?_
  refine aw_if_lt (tgt := 9) dX8_choose_1 (by decide) (fun c => absurd c (nI_pos (by omega))) (fun _ => ?_)
  refine aw_iload_n (i := 1) dX8_choose_4 rfl rfl ?_
  refine aw_iload_n (i := 0) dX8_choose_5 rfl rfl ?_
  by_cases hc : K ≤ N
  · refine aw_icmp_le (tgt := 11) dX8_choose_6 (by decide) (fun _ => ?_) (fun c => (c (nI_le hc (by omega))).elim)
    refine aw_lconst (v := 1) dX8_choose_11 (by decide) ?_
    refine aw_lstore_2 dX8_choose_12 (by decide) rfl ?_
    refine aw_iconst (v := 1) dX8_choose_13 (by decide +kernel) ?_
    refine aw_istore_4 dX8_choose_14 (by decide) rfl ?_
    have loop : ∀ (j i : Nat), i + j = K → AW mX8_choose (gq 0 0 Q) 16 [some (.int (nI N)), some (.int (nI K)), some (.long (lN (cho (N - K + i) i))), none, some (.int (nI (i + 1)))] [] 0 0 n h := by
      intro j
      induction j with
      | zero =>
        intro i hi
        obtain rfl : i = K := by omega
        refine aw_iload dX8_choose_16 rfl ?_
        refine aw_iload_n (i := 1) dX8_choose_18 rfl rfl ?_
        refine aw_icmp_gt (tgt := 42) dX8_choose_19 (by decide) (fun _ => ?_) (fun c => (c (nI_lt (by omega) (by omega))).elim)
        refine aw_lload_n (i := 2) dX8_choose_42 rfl rfl ?_
        refine aw_lreturn dX8_choose_43 rfl (Nat.le_of_ble_eq_true rfl) (Nat.le_of_ble_eq_true rfl) ?_
        exact hQ _ _ _ ⟨by rw [show N - i + i = N by omega], rfl, rfl⟩
      | succ j ih =>
        intro i hi
        have hb := cho_bd (n := N - K + i) (by omega) i
        have hb3 : cho (N - K + i) i * (N - K + (i + 1)) ≤ cho (N - K + i) i * 60 := Nat.mul_le_mul_left _ (by omega)
        have e1 : (nI N - nI K + nI (i + 1)).toInt64 = lN (N - K + (i + 1)) := by rw [pk_sub hc, nI_add, nI_l (by omega)]
        have e2 : (nI (i + 1)).toInt64 = lN (i + 1) := nI_l (by omega)
        refine aw_iload dX8_choose_16 rfl ?_
        refine aw_iload_n (i := 1) dX8_choose_18 rfl rfl ?_
        refine aw_icmp_gt (tgt := 42) dX8_choose_19 (by decide) (fun c => absurd c (nI_nlt (by omega) (by omega))) (fun _ => ?_)
        refine aw_lload_n (i := 2) dX8_choose_22 rfl rfl ?_
        refine aw_iload_n (i := 0) dX8_choose_23 rfl rfl ?_
        refine aw_iload_n (i := 1) dX8_choose_24 rfl rfl ?_
        refine aw_isub dX8_choose_25 ?_
        refine aw_iload dX8_choose_26 rfl ?_
        refine aw_iadd dX8_choose_28 ?_
        refine aw_i2l dX8_choose_29 rfl ?_
        refine aw_lmul dX8_choose_30 ?_
        refine aw_iload dX8_choose_31 rfl ?_
        refine aw_i2l dX8_choose_33 rfl ?_
        refine aw_ldiv dX8_choose_34 (by rw [e2, lN_0, pk_lEQ (by omega) (by decide)]; omega) ?_
        rw [e1, e2, lN_mul, pk_lDiv (by omega) (by omega) (by omega)]
        have e3 : cho (N - K + i) i * (N - K + (i + 1)) / (i + 1) = cho (N - K + (i + 1)) (i + 1) := by
          rw [← Nat.add_assoc, ← cho_up, Nat.mul_div_cancel _ (by omega)]
        rw [e3]
        refine aw_lstore_2 dX8_choose_35 (by decide) rfl ?_
        refine aw_iinc_4 (c0 := 1) dX8_choose_36 (by decide) (by decide) rfl ?_
        refine aw_goto (tgt := 16) dX8_choose_39 (by decide) ?_
        rw [nI_1]
        exact ih (i + 1) (by omega)
    have := loop K 0 (by omega)
    rw [cho_0] at this
    exact this
  · refine aw_icmp_le (tgt := 11) dX8_choose_6 (by decide) (fun c => absurd c (nI_ge (by omega) (by omega))) (fun _ => ?_)
    refine aw_lconst (v := 0) dX8_choose_9 (by decide) ?_
    refine aw_lreturn dX8_choose_10 rfl (Nat.le_of_ble_eq_true rfl) (Nat.le_of_ble_eq_true rfl) ?_
    exact hQ _ _ _ ⟨by rw [cho_big (by omega)]; rfl, rfl, rfl⟩
theorem ct_X8_power (n : Nat) (h : Hp) (m : Nat) (A : Nat → Nat → Nat) (i va b0 e : Nat) (hi : lidx i = true) (li : mlen i = 96) (hva : dg (A i) va) (hb : b0 < 2 ^ 32) (he : e < 2 ^ 31) (hs : va * b0 ^ e < 2 ^ 2688) : CT mX8_power 0 0 n (mh h m A) [.ref m, .ref (m + i), .long (lN b0), .int (nI e)] (pv n (fun h' => ∃ A', h' = mh h m A' ∧ one A A' i (va * b0 ^ e))) := by
  refine CT.intro [some (.ref m), some (.ref (m + i)), some (.long (lN b0)), none, some (.int (nI e)), none] 1 rfl rfl (by decide) ?_
  intro Q hQ
  have hl := dg_lt hva
  refine aw_iconst (v := 0) dX8_power_0 (by decide +kernel) ?_
  refine aw_istore_5 dX8_power_1 (by decide) rfl ?_
  have loop : ∀ (j t : Nat) (A' : Nat → Nat → Nat), t + j = e → one A A' i (va * b0 ^ t) → AW mX8_power (gq 0 0 Q) 3 [some (.ref m), some (.ref (m + i)), some (.long (lN b0)), none, some (.int (nI e)), some (.int (nI t))] [] 0 0 n (mh h m A') := by
    intro j
    induction j with
    | zero =>
      intro t A' ht ho
      obtain rfl : t = e := by omega
      refine aw_iload dX8_power_3 rfl ?_
      refine aw_iload dX8_power_5 rfl ?_
      refine aw_icmp_ge (tgt := 21) dX8_power_7 (by decide) (fun _ => ?_) (fun c => (c (nI_le (Nat.le_refl _) he)).elim)
      refine aw_return dX8_power_21 rfl (Nat.le_of_ble_eq_true rfl) (Nat.le_of_ble_eq_true rfl) ?_
      exact hQ _ _ _ ⟨rfl, rfl, A', rfl, ho⟩
    | succ j ih =>
      intro t A' ht ho
      have hle : va * b0 ^ t * b0 < 2 ^ 2688 := by
        rcases Nat.eq_zero_or_pos b0 with h0 | h0
        · rw [h0, Nat.mul_zero]; exact Nat.two_pow_pos _
        · rw [Nat.mul_assoc, ← Nat.pow_succ]
          have : va * b0 ^ (t + 1) ≤ va * b0 ^ e := Nat.mul_le_mul_left _ (Nat.pow_le_pow_right h0 (by omega))
          exact Nat.lt_of_le_of_lt this hs
      refine aw_iload dX8_power_3 rfl ?_
      refine aw_iload dX8_power_5 rfl ?_
      refine aw_icmp_ge (tgt := 21) dX8_power_7 (by decide) (fun c => absurd c (nI_ge (by omega) he)) (fun _ => ?_)
      refine aw_aload_n (i := 1) dX8_power_10 rfl rfl ?_
      refine aw_lload_n (i := 2) dX8_power_11 rfl rfl ?_
      refine aw_invokestatic kX8_184 dX8_power_12 (mc_by n h m A' i _ b0 hi li ho.1 hb hle) rfl rfl (Nat.le_of_ble_eq_true rfl) ⟨Nat.le_of_ble_eq_true rfl, Nat.le_of_ble_eq_true rfl⟩ ⟨Nat.le_of_ble_eq_true rfl, Nat.le_of_ble_eq_true rfl⟩ ?_
      rintro _ _ _ ⟨rfl, rfl, A2, rfl, d2, f2⟩
      refine aw_iinc_5 (c0 := 1) dX8_power_15 (by decide) (by decide) rfl ?_
      refine aw_goto (tgt := 3) dX8_power_18 (by decide) ?_
      rw [nI_1]
      exact ih (t + 1) A2 (by omega) ⟨by rw [Nat.pow_succ, ← Nat.mul_assoc]; exact d2, fun k hk => by rw [f2 k hk, ho.2 k hk]⟩
  exact loop e 0 A (by omega) ⟨by simpa using hva, fun k _ => rfl⟩
theorem AW.hp {M : MI} {G : AG} {pc : Nat} {lv : List (Option Value)} {st : List Value} {kc ks n : Nat} {h h2 : Hp} (e : h = h2) (k : AW M G pc lv st kc ks n h2) : AW M G pc lv st kc ks n h := e ▸ k
theorem mh_upo (h : Hp) (m : Nat) (A : Nat → Nat → Nat) (c : AC) : hup (mh h m A) m c = mh (hup h m c) m A := mh_upn h m A (k := 0) rfl c
