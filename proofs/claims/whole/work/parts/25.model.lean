def iar (len : Nat) (g : Nat → Nat) : AC := .inl (.int, len, .inl (fun i => nI (g i)))
def bar (len : Nat) (g : Nat → Nat) : AC := .inl (.boolean, len, .inl (fun i => nI (g i)))
theorem iar_up (len : Nat) (g : Nat → Nat) (j x : Nat) : (.inl (.int, len, .inl (va_up (fun i => nI (g i)) j (nI x))) : AC) = iar len (va_up g j x) := by
  unfold iar; congr 5; funext i; simp only [va_up]; split <;> rfl
theorem bar_up (len : Nat) (g : Nat → Nat) (j x : Nat) : (.inl (.boolean, len, .inl (va_up (fun i => nI (g i)) j (nI x))) : AC) = bar len (va_up g j x) := by
  unfold bar; congr 5; funext i; simp only [va_up]; split <;> rfl
theorem aw_iald {M : MI} {G : AG} {pc kc ks n : Nat} {lv : List (Option Value)} {h : Hp} {rest : List Value} {a len : Nat} {g : Nat → Nat} {i : Int32} (hdg : decode M.2.1 pc = .ok (.iaload, 1)) (j : Nat) (ha : h a = some (iar len g)) (hi : i.toInt = (j : Int)) (hj : j < len) (kk : AW M G (pc + 1) lv (.int (nI (g j)) :: rest) kc ks n h) : AW M G pc lv (.int i :: .ref a :: rest) kc ks n h := aw_iaload hdg ha hi hj kk
theorem aw_iast {M : MI} {G : AG} {pc kc ks n : Nat} {lv : List (Option Value)} {h : Hp} {rest : List Value} {a len : Nat} {g : Nat → Nat} {i : Int32} {v : Int32} (hdg : decode M.2.1 pc = .ok (.iastore, 1)) (j x : Nat) (hx : v = nI x) (ha : h a = some (iar len g)) (hi : i.toInt = (j : Int)) (hj : j < len) (kk : AW M G (pc + 1) lv rest kc ks n (hup h a (iar len (va_up g j x)))) : AW M G pc lv (.int v :: .int i :: .ref a :: rest) kc ks n h := by
  subst hx
  refine aw_iastore hdg ha hi hj ?_
  rw [iar_up]
  exact kk
theorem aw_bald {M : MI} {G : AG} {pc kc ks n : Nat} {lv : List (Option Value)} {h : Hp} {rest : List Value} {a len : Nat} {g : Nat → Nat} {i : Int32} (hdg : decode M.2.1 pc = .ok (.baload, 1)) (j : Nat) (ha : h a = some (bar len g)) (hi : i.toInt = (j : Int)) (hj : j < len) (kk : AW M G (pc + 1) lv (.int (nI (g j)) :: rest) kc ks n h) : AW M G pc lv (.int i :: .ref a :: rest) kc ks n h := aw_baload hdg ha hi hj kk
theorem aw_bast {M : MI} {G : AG} {pc kc ks n : Nat} {lv : List (Option Value)} {h : Hp} {rest : List Value} {a len : Nat} {g : Nat → Nat} {i : Int32} {v : Int32} (hdg : decode M.2.1 pc = .ok (.bastore, 1)) (j x : Nat) (hx : v = nI x) (h1 : x ≤ 1) (ha : h a = some (bar len g)) (hi : i.toInt = (j : Int)) (hj : j < len) (kk : AW M G (pc + 1) lv rest kc ks n (hup h a (bar len (va_up g j x)))) : AW M G pc lv (.int v :: .int i :: .ref a :: rest) kc ks n h := by
  subst hx
  refine aw_bastore hdg ha hi hj ?_ ?_
  · rcases (show x = 0 ∨ x = 1 by omega) with rfl | rfl <;> rfl
  rw [bar_up]
  exact kk
theorem mh_upn (h : Hp) (m : Nat) (A : Nat → Nat → Nat) {k : Nat} (hk : lidx k = false) (c : AC) : hup (mh h m A) (m + k) c = mh (hup h (m + k) c) m A := by
  funext x
  by_cases hx : x = m + k
  · subst hx
    rw [hup_self, mh_no _ m A hk, hup_self]
  · rw [hup_ne hx]
    unfold mh
    by_cases hc : m ≤ x ∧ lidx (x - m) = true
    · rw [if_pos hc, if_pos hc]
    · rw [if_neg hc, if_neg hc, hup_ne hx]
theorem pI_m (m : Nat) : nI m - 1 = pI m := by rw [Int32.sub_eq_add_neg]; exact pI_d m
theorem mob_of {h : Hp} {m : Nat} {so we ba ca cb lc ld le : Int32} (hm : h m = some (mobj m so we ba ca cb lc ld le)) : mob h m := ⟨_, _, _, _, _, _, _, _, hm⟩
theorem ct_X8_divide (n : Nat) (h : Hp) (m : Nat) (A : Nat → Nat → Nat) (i j va vb : Nat) (hm : mob h m) (hi : lidx i = true) (li : mlen i = 96) (hj : lidx j = true) (lj : mlen j = 96) (i4 : i ≠ 4) (i5 : i ≠ 5) (j4 : j ≠ 4) (j5 : j ≠ 5) (hva : dg (A i) va) (hvb : dg (A j) vb) (pb : 0 < vb) : CT mX8_divide 0 0 n (mh h m A) [.ref m, .ref (m + i), .ref (m + j)] (pv n (fun h' => ∃ A', h' = mh h m A' ∧ dg (A' 4) (va / vb) ∧ dg (A' 5) (va % vb) ∧ ∀ k, k ≠ 4 → k ≠ 5 → A' k = A k)) := by
  obtain ⟨so, we, ba, ca, cb, lc, ld, le, hm⟩ := hm
  refine CT.intro [some (.ref m), some (.ref (m + i)), some (.ref (m + j)), none, none] 2 rfl rfl (by decide) ?_
  intro Q hQ
  have hb := dg_lt hva
  have hnb : nb va ≤ 2688 := nb_le.mpr hb
  refine aw_aload_n (i := 0) dX8_divide_0 rfl rfl ?_
  refine aw_getfield fX8_19 dX8_divide_1 (by rw [mh_0]; exact hm) rfl ?_
  refine aw_lconst (v := 0) dX8_divide_4 (by decide) ?_
  refine aw_invokestatic kX8_124 dX8_divide_5 (mc_become n h m A 4 0 rfl rfl (by decide)) rfl rfl (Nat.le_of_ble_eq_true rfl) ⟨Nat.le_of_ble_eq_true rfl, Nat.le_of_ble_eq_true rfl⟩ ⟨Nat.le_of_ble_eq_true rfl, Nat.le_of_ble_eq_true rfl⟩ ?_
  rintro _ _ _ ⟨rfl, rfl, A1, rfl, d1, f1⟩
  refine aw_aload_n (i := 0) dX8_divide_8 rfl rfl ?_
  refine aw_getfield fX8_22 dX8_divide_9 (by rw [mh_0]; exact hm) rfl ?_
  refine aw_lconst (v := 0) dX8_divide_12 (by decide) ?_
  refine aw_invokestatic kX8_124 dX8_divide_13 (mc_become n h m A1 5 0 rfl rfl (by decide)) rfl rfl (Nat.le_of_ble_eq_true rfl) ⟨Nat.le_of_ble_eq_true rfl, Nat.le_of_ble_eq_true rfl⟩ ⟨Nat.le_of_ble_eq_true rfl, Nat.le_of_ble_eq_true rfl⟩ ?_
  rintro _ _ _ ⟨rfl, rfl, A2, rfl, d2, f2⟩
  have fr2 : ∀ k, k ≠ 4 → k ≠ 5 → A2 k = A k := fun k h1 h2 => by rw [f2 k h2, f1 k h1]
  refine aw_aload_n (i := 1) dX8_divide_16 rfl rfl ?_
  refine aw_invokestatic kX8_146 dX8_divide_17 (mc_bits n h m A2 i va hi li (by rw [fr2 i i4 i5]; exact hva)) rfl rfl (Nat.le_of_ble_eq_true rfl) ⟨Nat.le_of_ble_eq_true rfl, Nat.le_of_ble_eq_true rfl⟩ ⟨Nat.le_of_ble_eq_true rfl, Nat.le_of_ble_eq_true rfl⟩ ?_
  rintro _ _ _ ⟨rfl, rfl, rfl⟩
  refine aw_iconst (v := 1) dX8_divide_20 (by decide +kernel) ?_
  refine aw_isub dX8_divide_21 ?_
  rw [pI_m]
  refine aw_istore_3 dX8_divide_22 (by decide) rfl ?_
  have loop : ∀ (c q r : Nat) (A' : Nat → Nat → Nat) (x : Option Value), c ≤ nb va → q * vb + r = va / 2 ^ c → r < vb → dg (A' 4) q → dg (A' 5) r → (∀ k, k ≠ 4 → k ≠ 5 → A' k = A k) → AW mX8_divide (gq 0 0 Q) 23 [some (.ref m), some (.ref (m + i)), some (.ref (m + j)), some (.int (pI c)), x] [] 0 0 n (mh h m A') := by
    intro c
    induction c with
    | zero =>
      intro q r A' x hc hq hr d4 d5 fr
      refine aw_iload_n (i := 3) dX8_divide_23 rfl rfl ?_
      refine aw_if_lt (tgt := 93) dX8_divide_24 (by decide) (fun _ => ?_) (fun c => (c ((pI_lt0 (by decide)).mpr rfl)).elim)
      refine aw_return dX8_divide_93 rfl (Nat.le_of_ble_eq_true rfl) (Nat.le_of_ble_eq_true rfl) ?_
      rw [Nat.pow_zero, Nat.div_one] at hq
      have e1 : va / vb = q := by rw [← hq, Nat.mul_comm, Nat.mul_add_div pb, Nat.div_eq_of_lt hr, Nat.add_zero]
      have e2 : va % vb = r := by rw [← hq, Nat.mul_comm, Nat.mul_add_mod, Nat.mod_eq_of_lt hr]
      exact hQ _ _ _ ⟨rfl, rfl, A', rfl, by rw [e1]; exact d4, by rw [e2]; exact d5, fr⟩
    | succ c ih =>
      intro q r A' x hc hq hr d4 d5 fr
      rw [pI_s]
      have hP : va / 2 ^ c = va / 2 ^ (c + 1) * 2 + va / 2 ^ c % 2 := by
        rw [Nat.pow_succ, ← Nat.div_div_eq_div_mul]; omega
      have hPle : va / 2 ^ c ≤ va := Nat.div_le_self _ _
      obtain ⟨b, hbe⟩ : ∃ b, b = va / 2 ^ c % 2 := ⟨_, rfl⟩
      have hb1 : b ≤ 1 := by omega
      have hqb : q ≤ q * vb := Nat.le_mul_of_pos_right _ pb
      rw [← hbe, ← hq] at hP
      refine aw_iload_n (i := 3) dX8_divide_23 rfl rfl ?_
      refine aw_if_lt (tgt := 93) dX8_divide_24 (by decide) (fun c => absurd c (nI_pos (by omega))) (fun _ => ?_)
      refine aw_aload_n (i := 0) dX8_divide_27 rfl rfl ?_
      refine aw_getfield fX8_22 dX8_divide_28 (by rw [mh_0]; exact hm) rfl ?_
      refine aw_aload_n (i := 1) dX8_divide_31 rfl rfl ?_
      refine aw_iload_n (i := 3) dX8_divide_32 rfl rfl ?_
      refine aw_invokestatic kX8_149 dX8_divide_33 (mc_bitOf n h m A' i va c hi li (by rw [fr i i4 i5]; exact hva) (by omega)) rfl rfl (Nat.le_of_ble_eq_true rfl) ⟨Nat.le_of_ble_eq_true rfl, Nat.le_of_ble_eq_true rfl⟩ ⟨Nat.le_of_ble_eq_true rfl, Nat.le_of_ble_eq_true rfl⟩ ?_
      rintro _ _ _ ⟨rfl, rfl, rfl⟩
      rw [← hbe]
      refine aw_invokestatic kX8_143 dX8_divide_36 (mc_twice n h m A' 5 r b rfl rfl d5 hb1 (by omega)) rfl rfl (Nat.le_of_ble_eq_true rfl) ⟨Nat.le_of_ble_eq_true rfl, Nat.le_of_ble_eq_true rfl⟩ ⟨Nat.le_of_ble_eq_true rfl, Nat.le_of_ble_eq_true rfl⟩ ?_
      rintro _ _ _ ⟨rfl, rfl, A3, rfl, d3, f3⟩
      have d3j : dg (A3 j) vb := by rw [f3 j j5, fr j j4 j5]; exact hvb
      have d34 : dg (A3 4) q := by rw [f3 4 (by decide)]; exact d4
      have fr3 : ∀ k, k ≠ 4 → k ≠ 5 → A3 k = A k := fun k h1 h2 => by rw [f3 k h2]; exact fr k h1 h2
      refine aw_aload_n (i := 0) dX8_divide_39 rfl rfl ?_
      refine aw_getfield fX8_22 dX8_divide_40 (by rw [mh_0]; exact hm) rfl ?_
      refine aw_aload_n (i := 2) dX8_divide_43 rfl rfl ?_
      refine aw_invokestatic kX8_136 dX8_divide_44 (mc_compare n h m A3 5 j (r * 2 + b) vb rfl rfl hj lj d3 d3j) rfl rfl (Nat.le_of_ble_eq_true rfl) ⟨Nat.le_of_ble_eq_true rfl, Nat.le_of_ble_eq_true rfl⟩ ⟨Nat.le_of_ble_eq_true rfl, Nat.le_of_ble_eq_true rfl⟩ ?_
      rintro _ _ _ ⟨rfl, rfl, rfl⟩
      by_cases hc2 : r * 2 + b < vb
      · refine aw_if_lt (tgt := 54) dX8_divide_47 (by decide) (fun _ => ?_) (fun c => (c (cmp_lt0.mpr hc2)).elim)
        refine aw_iconst (v := 0) dX8_divide_54 (by decide +kernel) ?_
        refine aw_istore_4 dX8_divide_55 (by decide) rfl ?_
        refine aw_iload dX8_divide_57 rfl ?_
        refine aw_if_eq (tgt := 70) dX8_divide_59 (by decide) (fun _ => ?_) (fun c => (c rfl).elim)
        refine aw_aload_n (i := 0) dX8_divide_70 rfl rfl ?_
        refine aw_getfield fX8_19 dX8_divide_71 (by rw [mh_0]; exact hm) rfl ?_
        refine aw_iload dX8_divide_74 rfl ?_
        refine aw_if_eq (tgt := 83) dX8_divide_76 (by decide) (fun _ => ?_) (fun c => (c rfl).elim)
        refine aw_lconst (v := 0) dX8_divide_83 (by decide) ?_
        refine aw_invokestatic kX8_143 dX8_divide_84 (mc_twice n h m A3 4 q 0 rfl rfl d34 (by decide) (by omega)) rfl rfl (Nat.le_of_ble_eq_true rfl) ⟨Nat.le_of_ble_eq_true rfl, Nat.le_of_ble_eq_true rfl⟩ ⟨Nat.le_of_ble_eq_true rfl, Nat.le_of_ble_eq_true rfl⟩ ?_
        rintro _ _ _ ⟨rfl, rfl, A4, rfl, d4', f4⟩
        refine aw_iinc_3 (c0 := (-1)) dX8_divide_87 (by decide) (by decide) rfl ?_
        refine aw_goto (tgt := 23) dX8_divide_90 (by decide) ?_
        rw [pI_d]
        refine ih (q * 2 + 0) (r * 2 + b) A4 _ (by omega) ?_ hc2 d4' (by rw [f4 5 (by decide)]; exact d3) (fun k h1 h2 => by rw [f4 k h1]; exact fr3 k h1 h2)
        rw [hP, Nat.add_zero, Nat.mul_right_comm]; omega
      · refine aw_if_lt (tgt := 54) dX8_divide_47 (by decide) (fun c => absurd c (fun q => hc2 (cmp_lt0.mp q))) (fun _ => ?_)
        refine aw_iconst (v := 1) dX8_divide_50 (by decide +kernel) ?_
        refine aw_goto (tgt := 55) dX8_divide_51 (by decide) ?_
        refine aw_istore_4 dX8_divide_55 (by decide) rfl ?_
        refine aw_iload dX8_divide_57 rfl ?_
        refine aw_if_eq (tgt := 70) dX8_divide_59 (by decide) (fun c => absurd c (by decide)) (fun _ => ?_)
        refine aw_aload_n (i := 0) dX8_divide_62 rfl rfl ?_
        refine aw_getfield fX8_22 dX8_divide_63 (by rw [mh_0]; exact hm) rfl ?_
        refine aw_aload_n (i := 2) dX8_divide_66 rfl rfl ?_
        refine aw_invokestatic kX8_140 dX8_divide_67 (mc_minus n h m A3 5 j (r * 2 + b) vb rfl rfl hj lj j5 d3 d3j (by omega)) rfl rfl (Nat.le_of_ble_eq_true rfl) ⟨Nat.le_of_ble_eq_true rfl, Nat.le_of_ble_eq_true rfl⟩ ⟨Nat.le_of_ble_eq_true rfl, Nat.le_of_ble_eq_true rfl⟩ ?_
        rintro _ _ _ ⟨rfl, rfl, A4, rfl, d4', f4⟩
        refine aw_aload_n (i := 0) dX8_divide_70 rfl rfl ?_
        refine aw_getfield fX8_19 dX8_divide_71 (by rw [mh_0]; exact hm) rfl ?_
        refine aw_iload dX8_divide_74 rfl ?_
        refine aw_if_eq (tgt := 83) dX8_divide_76 (by decide) (fun c => absurd c (by decide)) (fun _ => ?_)
        refine aw_lconst (v := 1) dX8_divide_79 (by decide) ?_
        refine aw_goto (tgt := 84) dX8_divide_80 (by decide) ?_
        refine aw_invokestatic kX8_143 dX8_divide_84 (mc_twice n h m A4 4 q 1 rfl rfl (by rw [f4 4 (by decide)]; exact d34) (by decide) (by omega)) rfl rfl (Nat.le_of_ble_eq_true rfl) ⟨Nat.le_of_ble_eq_true rfl, Nat.le_of_ble_eq_true rfl⟩ ⟨Nat.le_of_ble_eq_true rfl, Nat.le_of_ble_eq_true rfl⟩ ?_
        rintro _ _ _ ⟨rfl, rfl, A5, rfl, d5', f5⟩
        refine aw_iinc_3 (c0 := (-1)) dX8_divide_87 (by decide) (by decide) rfl ?_
        refine aw_goto (tgt := 23) dX8_divide_90 (by decide) ?_
        rw [pI_d]
        refine ih (q * 2 + 1) (r * 2 + b - vb) A5 _ (by omega) ?_ (by omega) d5' (by rw [f5 5 (by decide)]; exact d4') (fun k h1 h2 => by rw [f5 k h1, f4 k h2]; exact fr3 k h1 h2)
        rw [hP, Nat.add_mul, Nat.one_mul, Nat.mul_right_comm]; omega
  refine loop (nb va) 0 0 A2 none (Nat.le_refl _) ?_ pb (by rw [f2 4 (by decide)]; exact d1) d2 fr2
  rw [Nat.div_eq_of_lt nb_lt]; simp
