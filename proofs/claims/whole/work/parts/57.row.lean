theorem ct_X4_addFrom (n : Nat) (h : Hp) (r p t t2 w v o : Nat) (g c g2 c2 : Nat → Nat) (hR : Row h r t w g) (hc : rok t w g c) (hP : Row h p t2 w g2) (hc2 : rok t2 w g2 c2) (hp1 : p ≠ r + 1) (hp2 : p ≠ r) (hv : v ≤ t2) (ho : o ≤ t) (hfit : c o + c2 v < (2 ^ 32) ^ w) : CT mX4_addFrom 0 0 n h [.ref r, .ref p, .int (nI v), .int (nI o)] (rto n h r t w (va_up c o (c o + c2 v))) := by
  refine CT.intro [some (.ref r), some (.ref p), some (.int (nI v)), some (.int (nI o)), none, none, none] 3 rfl rfl (by decide) ?_
  intro Q hQ
  obtain ⟨hr, hcl, ht, hw1, hw8⟩ := id hR
  have ht2 := hP.2.2.1
  have hlen := row_len ht hw8
  have hP' : ∀ {g' : Nat → Nat}, Row (rh h r t w g') p t2 w g2 := by
    intro g'
    refine ⟨by rw [rh_x hp1]; exact hP.1, by rw [rh_x (by omega)]; exact hP.2.1, hP.2.2⟩
  refine aw_aload_n (i := 0) dX4_addFrom_0 rfl rfl ?_
  refine aw_iload_n (i := 3) dX4_addFrom_1 rfl rfl ?_
  refine aw_invokevirtual kX4_31 dX4_addFrom_2 hr (ct_X4_lacks n h r t w o hr (by omega) (by omega)) rfl rfl (Nat.le_of_ble_eq_true rfl) ⟨Nat.le_of_ble_eq_true rfl, Nat.le_of_ble_eq_true rfl⟩ ⟨Nat.le_of_ble_eq_true rfl, Nat.le_of_ble_eq_true rfl⟩ ?_
  rintro _ _ _ ⟨rfl, rfl, rfl⟩
  rw [decide_eq_false (show ¬ t < o by omega)]
  refine AW.hp (rh_id hR) ?_
  refine aw_if_eq (tgt := 9) dX4_addFrom_5 (by decide) (fun _ => ?_) (fun c => (c rfl).elim)
  refine aw_lconst (v := 0) dX4_addFrom_9 (by decide) ?_
  refine aw_lstore_4 dX4_addFrom_10 (by decide) rfl ?_
  refine aw_iconst (v := 0) dX4_addFrom_12 (by decide +kernel) ?_
  refine aw_istore_6 dX4_addFrom_13 (by decide) rfl ?_
  have loop : ∀ (j i : Nat) (g' : Nat → Nat) (x : Nat), i + j = w → (∀ k, k < (t + 1) * w → g' k < 2 ^ 32) → (∀ u, u ≠ o → ∀ k, k < w → g' (u * w + k) = g (u * w + k)) → (∀ k, i ≤ k → k < w → g' (o * w + k) = g (o * w + k)) → x < 2 ^ 32 → bv (2 ^ 32) (fun k => g' (o * w + k)) i + x * (2 ^ 32) ^ i = bv (2 ^ 32) (fun k => g (o * w + k)) i + bv (2 ^ 32) (fun k => g2 (v * w + k)) i → AW mX4_addFrom (gq 0 0 Q) 15 [some (.ref r), some (.ref p), some (.int (nI v)), some (.int (nI o)), some (.long (lN x)), none, some (.int (nI i))] [] 0 0 n (rh h r t w g') := by
    intro j
    induction j with
    | zero =>
      intro i g' x hi h1 h2 h3 hx hb
      obtain rfl : i = w := by omega
      rw [hc.2 o ho, hc2.2 v hv] at hb
      have hx0 : x = 0 := by
        rcases Nat.eq_zero_or_pos x with z | z
        · exact z
        · have h4 : ((2 : Nat) ^ 32) ^ i ≤ x * (2 ^ 32) ^ i := Nat.le_mul_of_pos_left _ z
          omega
      rw [hx0, Nat.zero_mul, Nat.add_zero] at hb
      refine aw_iload dX4_addFrom_15 rfl ?_
      refine aw_aload_n (i := 0) dX4_addFrom_17 rfl rfl ?_
      refine aw_getfield fX4_24 dX4_addFrom_18 (rh_o hr) rfl ?_
      refine aw_icmp_ge (tgt := 74) dX4_addFrom_21 (by decide) (fun _ => ?_) (fun c => (c (nI_le (Nat.le_refl _) (by omega))).elim)
      refine aw_return dX4_addFrom_74 rfl (Nat.le_of_ble_eq_true rfl) (Nat.le_of_ble_eq_true rfl) ?_
      refine hQ _ _ _ ⟨rfl, rfl, _, rfl, h1, fun u hu => ?_⟩
      by_cases hq : u = o
      · rw [hq, va_up_at]; exact hb
      · rw [va_up_off hq, ← hc.2 u hu]; exact bv_congr (fun k hk => h2 u hq k hk)
    | succ j ih =>
      intro i g' x hi h1 h2 h3 hx hb
      have hx1 := row_ix ho (show i < w by omega)
      have hx2 := row_ix hv (show i < w by omega)
      have d1 := h1 _ hx1
      have d2 := hc2.1 _ hx2
      refine aw_iload dX4_addFrom_15 rfl ?_
      refine aw_aload_n (i := 0) dX4_addFrom_17 rfl rfl ?_
      refine aw_getfield fX4_24 dX4_addFrom_18 (rh_o hr) rfl ?_
      refine aw_icmp_ge (tgt := 74) dX4_addFrom_21 (by decide) (fun c => absurd c (nI_ge (by omega) (by omega))) (fun _ => ?_)
      refine aw_lload dX4_addFrom_24 rfl ?_
      refine aw_aload_n (i := 0) dX4_addFrom_26 rfl rfl ?_
      refine aw_iload_n (i := 3) dX4_addFrom_27 rfl rfl ?_
      refine aw_iload dX4_addFrom_28 rfl ?_
      refine aw_invokevirtual kX4_43 dX4_addFrom_30 (rh_o hr) (ct_X4_word n (rh h r t w g') r t w o i g' hR.rh h1 ho (by omega)) rfl rfl (Nat.le_of_ble_eq_true rfl) ⟨Nat.le_of_ble_eq_true rfl, Nat.le_of_ble_eq_true rfl⟩ ⟨Nat.le_of_ble_eq_true rfl, Nat.le_of_ble_eq_true rfl⟩ ?_
      rintro _ _ _ ⟨rfl, rfl, rfl⟩
      rw [if_pos (show i < w by omega)]
      refine aw_aload_n (i := 1) dX4_addFrom_33 rfl rfl ?_
      refine aw_iload_n (i := 2) dX4_addFrom_34 rfl rfl ?_
      refine aw_iload dX4_addFrom_35 rfl ?_
      refine aw_invokevirtual kX4_43 dX4_addFrom_37 hP'.1 (ct_X4_word n (rh h r t w g') p t2 w v i g2 hP' hc2.1 hv (by omega)) rfl rfl (Nat.le_of_ble_eq_true rfl) ⟨Nat.le_of_ble_eq_true rfl, Nat.le_of_ble_eq_true rfl⟩ ⟨Nat.le_of_ble_eq_true rfl, Nat.le_of_ble_eq_true rfl⟩ ?_
      rintro _ _ _ ⟨rfl, rfl, rfl⟩
      rw [if_pos (show i < w by omega)]
      refine aw_ladd dX4_addFrom_40 ?_
      refine aw_ladd dX4_addFrom_41 ?_
      rw [lN_add, lN_add]
      generalize hy : x + (g' (o * w + i) + g2 (v * w + i)) = y
      have hy2 : y < 2 ^ 64 := by omega
      refine aw_lstore_4 dX4_addFrom_42 (by decide) rfl ?_
      refine aw_aload_n (i := 0) dX4_addFrom_44 rfl rfl ?_
      refine aw_getfield fX4_27 dX4_addFrom_45 (rh_o hr) rfl ?_
      refine aw_iload_n (i := 3) dX4_addFrom_48 rfl rfl ?_
      refine aw_aload_n (i := 0) dX4_addFrom_49 rfl rfl ?_
      refine aw_getfield fX4_24 dX4_addFrom_50 (rh_o hr) rfl ?_
      refine aw_imul dX4_addFrom_53 ?_
      refine aw_iload dX4_addFrom_54 rfl ?_
      refine aw_iadd dX4_addFrom_56 ?_
      rw [pk_mul, nI_add]
      refine aw_lload dX4_addFrom_57 rfl ?_
      refine aw_l2i dX4_addFrom_59 rfl ?_
      rw [lN_l2i]
      refine aw_iast dX4_addFrom_60 (o * w + i) _ rfl rh_a (nI_toInt (by omega)) hx1 ?_
      refine AW.hp rh_up ?_
      refine aw_lload dX4_addFrom_61 rfl ?_
      refine aw_bipush (v := 32) dX4_addFrom_63 (by decide +kernel) ?_
      refine aw_lushr dX4_addFrom_65 rfl ?_
      rw [lN_u32 hy2]
      refine aw_lstore_4 dX4_addFrom_66 (by decide) rfl ?_
      refine aw_iinc_6 (c0 := 1) dX4_addFrom_68 (by decide) (by decide) rfl ?_
      refine aw_goto (tgt := 15) dX4_addFrom_71 (by decide) ?_
      rw [nI_1]
      refine ih (i + 1) _ _ (by omega) (raw_up (s := 0) h1 (Nat.mod_lt _ (by decide))) (fun u hu k hk => by rw [va_up_off (row_ne hu hk (by omega))]; exact h2 u hu k hk) (fun k i1 i2 => by rw [va_up_off (by omega)]; exact h3 k (by omega) i2) (by omega) ?_
      have e1 : bv (2 ^ 32) (fun k => va_up g' (o * w + i) (y % 2 ^ 32) (o * w + k)) i = bv (2 ^ 32) (fun k => g' (o * w + k)) i := bv_congr (fun k hk => va_up_off (by omega))
      have e2 := carry_step (B := 2 ^ 32) (P := (2 ^ 32) ^ i) (s := y) rfl rfl
      rw [bv_s, bv_s, bv_s, va_up_at, e1, p32s, Nat.add_assoc, e2, ← hy, h3 i (Nat.le_refl _) (by omega), Nat.add_mul, Nat.add_mul]
      omega
  refine AW.forget [some (.ref r), some (.ref p), some (.int (nI v)), some (.int (nI o)), some (.long (lN 0)), none, some (.int (nI 0))] ⟨rfl, rfl, rfl, rfl, rfl, rfl, trivial⟩ ?_
  exact loop w 0 g 0 (by omega) hc.1 (fun _ _ _ _ => rfl) (fun _ _ _ => rfl) (by decide) (by simp [bv_0])
/-- digits that are enough -/
theorem bv_enough {B : Nat} (hB : 0 < B) {g : Nat → Nat} {k n v : Nat} (hn : ∀ i, n ≤ i → g i = 0) (hv : bv B g n = v) (hk : v < B ^ k) : bv B g k = v := by
  rcases Nat.le_total n k with h | h
  · rw [bv_high h (fun i h1 _ => hn i h1)]; exact hv
  · have e := bv_add (B := B) (g := g) k (n - k)
    rw [show k + (n - k) = n by omega, hv] at e
    have h1 : B ^ k * bv B (fun i => g (k + i)) (n - k) < B ^ k * 1 := by omega
    have h2 := Nat.lt_of_mul_lt_mul_left h1
    have h3 : bv B (fun i => g (k + i)) (n - k) = 0 := by omega
    rw [h3, Nat.mul_zero, Nat.add_zero] at e
    exact e.symm
theorem ct_X4_addPair (n : Nat) (h : Hp) (r p q t t1 t2 w w1 w2 i j : Nat) (g c g1 c1 g2 c2 : Nat → Nat) (hR : Row h r t w g) (hc : rok t w g c) (hP : Row h p t1 w1 g1) (hc1 : rok t1 w1 g1 c1) (hQ' : Row h q t2 w2 g2) (hc2 : rok t2 w2 g2 c2) (hp1 : p ≠ r + 1) (hp2 : p ≠ r) (hq1 : q ≠ r + 1) (hq2 : q ≠ r) (hi : i ≤ t1) (hj : j ≤ t2) (hij : i + j ≤ t) (hw : w1 ≤ w) (hfit : c (i + j) + c1 i * c2 j < (2 ^ 32) ^ w) : CT mX4_addPair 0 0 n h [.ref r, .ref p, .int (nI i), .ref q, .int (nI j)] (rto n h r t w (va_up c (i + j) (c (i + j) + c1 i * c2 j))) := by
  refine CT.intro [some (.ref r), some (.ref p), some (.int (nI i)), some (.ref q), some (.int (nI j)), none, none, none, none, none, none, none] 7 rfl rfl (by decide) ?_
  intro Q hQ
  obtain ⟨hr, hcl, ht, hw1, hw8⟩ := id hR
  have ht1 := hP.2.2.1
  have ht2 := hQ'.2.2.1
  have hww1 := hP.2.2.2
  have hww2 := hQ'.2.2.2
  have hlen := row_len ht hw8
  have hP' : ∀ {g' : Nat → Nat}, Row (rh h r t w g') p t1 w1 g1 := by
    intro g'
    exact ⟨by rw [rh_x hp1]; exact hP.1, by rw [rh_x (by omega)]; exact hP.2.1, hP.2.2⟩
  have hQ2 : ∀ {g' : Nat → Nat}, Row (rh h r t w g') q t2 w2 g2 := by
    intro g'
    exact ⟨by rw [rh_x hq1]; exact hQ'.1, by rw [rh_x (by omega)]; exact hQ'.2.1, hQ'.2.2⟩
  obtain ⟨X, hX⟩ : ∃ X : Nat → Nat, X = fun k => if k < w1 then g1 (i * w1 + k) else 0 := ⟨_, rfl⟩
  obtain ⟨Y, hY⟩ : ∃ Y : Nat → Nat, Y = fun k => if k < w2 then g2 (j * w2 + k) else 0 := ⟨_, rfl⟩
  have hXv : bv (2 ^ 32) X w1 = c1 i := by rw [← hc1.2 i hi, hX]; exact bv_congr (fun k hk => if_pos hk)
  have hYv : bv (2 ^ 32) Y w2 = c2 j := by rw [← hc2.2 j hj, hY]; exact bv_congr (fun k hk => if_pos hk)
  have hYz : ∀ k, w2 ≤ k → Y k = 0 := fun k hk => by rw [hY]; exact if_neg (by omega)
  have hXl : ∀ k, X k < 2 ^ 32 := fun k => by
    rw [hX]
    show (if k < w1 then g1 (i * w1 + k) else 0) < 2 ^ 32
    split
    · exact hc1.1 _ (row_ix hi (by omega))
    · decide
  have hYl : ∀ k, Y k < 2 ^ 32 := fun k => by
    rw [hY]
    show (if k < w2 then g2 (j * w2 + k) else 0) < 2 ^ 32
    split
    · exact hc2.1 _ (row_ix hj (by omega))
    · decide
  have wX : ∀ (n : Nat) (g' : Nat → Nat) (k : Nat), k < 2 ^ 31 → CT mX4_word 0 0 n (rh h r t w g') [.ref p, .int (nI i), .int (nI k)] (plong n (rh h r t w g') (lN (X k))) := fun n g' k hk => by rw [hX]; exact ct_X4_word n _ p t1 w1 i k g1 hP' hc1.1 hi hk
  have wY : ∀ (n : Nat) (g' : Nat → Nat) (k : Nat), k < 2 ^ 31 → CT mX4_word 0 0 n (rh h r t w g') [.ref q, .int (nI j), .int (nI k)] (plong n (rh h r t w g') (lN (Y k))) := fun n g' k hk => by rw [hY]; exact ct_X4_word n _ q t2 w2 j k g2 hQ2 hc2.1 hj hk
  refine aw_aload_n (i := 0) dX4_addPair_0 rfl rfl ?_
  refine aw_iload_n (i := 2) dX4_addPair_1 rfl rfl ?_
  refine aw_iload dX4_addPair_2 rfl ?_
  refine aw_iadd dX4_addPair_4 ?_
  rw [nI_add]
  refine aw_invokevirtual kX4_31 dX4_addPair_5 hr (ct_X4_lacks n h r t w (i + j) hr (by omega) (by omega)) rfl rfl (Nat.le_of_ble_eq_true rfl) ⟨Nat.le_of_ble_eq_true rfl, Nat.le_of_ble_eq_true rfl⟩ ⟨Nat.le_of_ble_eq_true rfl, Nat.le_of_ble_eq_true rfl⟩ ?_
  rintro _ _ _ ⟨rfl, rfl, rfl⟩
  rw [decide_eq_false (show ¬ t < i + j by omega)]
  refine AW.hp (rh_id hR) ?_
  refine aw_if_eq (tgt := 12) dX4_addPair_8 (by decide) (fun _ => ?_) (fun c => (c rfl).elim)
  refine aw_iload_n (i := 2) dX4_addPair_12 rfl rfl ?_
  refine aw_iload dX4_addPair_13 rfl ?_
  refine aw_iadd dX4_addPair_15 ?_
  refine aw_aload_n (i := 0) dX4_addPair_16 rfl rfl ?_
  refine aw_getfield fX4_24 dX4_addPair_17 (rh_o hr) rfl ?_
  refine aw_imul dX4_addPair_20 ?_
  rw [nI_add, pk_mul]
  generalize hij2 : i + j = o at *
  refine aw_istore_5 dX4_addPair_21 (by decide) rfl ?_
  refine aw_iconst (v := 0) dX4_addPair_23 (by decide +kernel) ?_
  refine aw_istore_6 dX4_addPair_24 (by decide) rfl ?_
  generalize hy : c2 j = y at *
  have hpos : ∀ k, 0 < ((2 : Nat) ^ 32) ^ k := fun k => Nat.pow_pos (by decide)
  have outer : ∀ (m a : Nat) (g' : Nat → Nat) (y7 y9 y11 : Option Value), a + m = w1 → (∀ k, k < (t + 1) * w → g' k < 2 ^ 32) → (∀ u, u ≠ o → ∀ k, k < w → g' (u * w + k) = g (u * w + k)) → bv (2 ^ 32) (fun k => g' (o * w + k)) w = c o + bv (2 ^ 32) X a * y → AW mX4_addPair (gq 0 0 Q) 26 [some (.ref r), some (.ref p), some (.int (nI i)), some (.ref q), some (.int (nI j)), some (.int (nI (o * w))), some (.int (nI a)), y7, none, y9, none, y11] [] 0 0 n (rh h r t w g') := by
    intro m
    induction m with
    | zero =>
      intro a g' y7 y9 y11 ha h1 h2 hb
      obtain rfl : a = w1 := by omega
      rw [hXv] at hb
      refine aw_iload dX4_addPair_26 rfl ?_
      refine aw_aload_n (i := 1) dX4_addPair_28 rfl rfl ?_
      refine aw_getfield fX4_24 dX4_addPair_29 hP'.1 rfl ?_
      refine aw_icmp_ge (tgt := 156) dX4_addPair_32 (by decide) (fun _ => ?_) (fun c => (c (nI_le (Nat.le_refl _) (by omega))).elim)
      refine aw_return dX4_addPair_156 rfl (Nat.le_of_ble_eq_true rfl) (Nat.le_of_ble_eq_true rfl) ?_
      refine hQ _ _ _ ⟨rfl, rfl, _, rfl, h1, fun u hu => ?_⟩
      by_cases hq : u = o
      · rw [hq, va_up_at]; exact hb
      · rw [va_up_off hq, ← hc.2 u hu]; exact bv_congr (fun k hk => h2 u hq k hk)
    | succ m ihm =>
      intro a g' y7 y9 y11 ha h1 h2 hb
      have hpart : c o + bv (2 ^ 32) X a * y + X a * (2 ^ 32) ^ a * y < (2 ^ 32) ^ w := by
        have e1 : bv (2 ^ 32) X (a + 1) ≤ bv (2 ^ 32) X w1 := bv_le_of (by omega)
        rw [hXv, bv_s] at e1
        have e2 : (bv (2 ^ 32) X a + X a * (2 ^ 32) ^ a) * y ≤ c1 i * y := Nat.mul_le_mul_right _ e1
        rw [Nat.add_mul] at e2
        omega
      -- behind the inner loop
      have nxt : ∀ (g3 : Nat → Nat) (y7 y9 y11 : Option Value), (∀ k, k < (t + 1) * w → g3 k < 2 ^ 32) → (∀ u, u ≠ o → ∀ k, k < w → g3 (u * w + k) = g (u * w + k)) → bv (2 ^ 32) (fun k => g3 (o * w + k)) w = c o + bv (2 ^ 32) X a * y + X a * (2 ^ 32) ^ a * y → AW mX4_addPair (gq 0 0 Q) 150 [some (.ref r), some (.ref p), some (.int (nI i)), some (.ref q), some (.int (nI j)), some (.int (nI (o * w))), some (.int (nI a)), y7, none, y9, none, y11] [] 0 0 n (rh h r t w g3) := by
        intro g3 y7 y9 y11 k1 k2 k3
        refine aw_iinc_6 (c0 := 1) dX4_addPair_150 (by decide) (by decide) rfl ?_
        refine aw_goto (tgt := 26) dX4_addPair_153 (by decide) ?_
        rw [nI_1]
        exact ihm (a + 1) g3 _ _ _ (by omega) k1 k2 (by rw [k3, bv_s, Nat.add_mul, Nat.add_assoc])
      refine aw_iload dX4_addPair_26 rfl ?_
      refine aw_aload_n (i := 1) dX4_addPair_28 rfl rfl ?_
      refine aw_getfield fX4_24 dX4_addPair_29 hP'.1 rfl ?_
      refine aw_icmp_ge (tgt := 156) dX4_addPair_32 (by decide) (fun c => absurd c (nI_ge (by omega) (by omega))) (fun _ => ?_)
      refine aw_aload_n (i := 1) dX4_addPair_35 rfl rfl ?_
      refine aw_iload_n (i := 2) dX4_addPair_36 rfl rfl ?_
      refine aw_iload dX4_addPair_37 rfl ?_
      refine aw_invokevirtual kX4_43 dX4_addPair_39 hP'.1 (wX n g' a (by omega)) rfl rfl (Nat.le_of_ble_eq_true rfl) ⟨Nat.le_of_ble_eq_true rfl, Nat.le_of_ble_eq_true rfl⟩ ⟨Nat.le_of_ble_eq_true rfl, Nat.le_of_ble_eq_true rfl⟩ ?_
      rintro _ _ _ ⟨rfl, rfl, rfl⟩
      refine aw_lstore_7 dX4_addPair_42 (by decide) rfl ?_
      refine aw_lconst (v := 0) dX4_addPair_44 (by decide) ?_
      refine aw_lstore_9 dX4_addPair_45 (by decide) rfl ?_
      refine aw_iload dX4_addPair_47 rfl ?_
      refine aw_istore_11 dX4_addPair_49 (by decide) rfl ?_
      have hXa := hXl a
      have inner : ∀ (z b : Nat) (g3 : Nat → Nat) (x : Nat), b + z = w → a ≤ b → (∀ k, k < (t + 1) * w → g3 k < 2 ^ 32) → (∀ u, u ≠ o → ∀ k, k < w → g3 (u * w + k) = g (u * w + k)) → (∀ k, b ≤ k → k < w → g3 (o * w + k) = g' (o * w + k)) → x < 2 ^ 32 → bv (2 ^ 32) (fun k => g3 (o * w + k)) b + x * (2 ^ 32) ^ b = bv (2 ^ 32) (fun k => g' (o * w + k)) b + X a * (2 ^ 32) ^ a * bv (2 ^ 32) Y (b - a) → AW mX4_addPair (gq 0 0 Q) 51 [some (.ref r), some (.ref p), some (.int (nI i)), some (.ref q), some (.int (nI j)), some (.int (nI (o * w))), some (.int (nI a)), some (.long (lN (X a))), none, some (.long (lN x)), none, some (.int (nI b))] [] 0 0 n (rh h r t w g3) := by
        intro z
        induction z with
        | zero =>
          intro b g3 x hb2 hab k1 k2 k3 hx hbb
          obtain rfl : b = w := by omega
          refine aw_iload dX4_addPair_51 rfl ?_
          refine aw_aload_n (i := 0) dX4_addPair_53 rfl rfl ?_
          refine aw_getfield fX4_24 dX4_addPair_54 (rh_o hr) rfl ?_
          refine aw_icmp_ge (tgt := 150) dX4_addPair_57 (by decide) (fun _ => ?_) (fun c => (c (nI_le (Nat.le_refl _) (by omega))).elim)
          refine nxt g3 _ _ _ k1 k2 ?_
          rw [hb] at hbb
          by_cases hXz : X a = 0
          · have hx0 : x = 0 := by
              rcases Nat.eq_zero_or_pos x with z | z
              · exact z
              · have h4 : ((2 : Nat) ^ 32) ^ b ≤ x * (2 ^ 32) ^ b := Nat.le_mul_of_pos_left _ z
                rw [hXz, Nat.zero_mul, Nat.zero_mul] at hbb hpart
                omega
            rw [hx0, hXz, Nat.zero_mul, Nat.zero_mul] at hbb
            rw [hXz, Nat.zero_mul, Nat.zero_mul]
            omega
          · have hyl : y < (2 ^ 32) ^ (b - a) := by
              apply Decidable.byContradiction
              intro hq
              have h5 : (2 ^ 32) ^ a * (2 ^ 32) ^ (b - a) ≤ X a * (2 ^ 32) ^ a * y := Nat.mul_le_mul (Nat.le_mul_of_pos_left _ (by omega)) (by omega)
              rw [← Nat.pow_add, show a + (b - a) = b by omega] at h5
              omega
            rw [bv_enough (by decide) hYz hYv hyl] at hbb
            have hx0 : x = 0 := by
              rcases Nat.eq_zero_or_pos x with z | z
              · exact z
              · have h4 : ((2 : Nat) ^ 32) ^ b ≤ x * (2 ^ 32) ^ b := Nat.le_mul_of_pos_left _ z
                omega
            rw [hx0, Nat.zero_mul, Nat.add_zero] at hbb
            exact hbb
        | succ z ihz =>
          intro b g3 x hb2 hab k1 k2 k3 hx hbb
          have hx2 := row_ix (show o ≤ t by omega) (show b < w by omega)
          have d1 := k1 _ hx2
          have dY := hYl (b - a)
          refine aw_iload dX4_addPair_51 rfl ?_
          refine aw_aload_n (i := 0) dX4_addPair_53 rfl rfl ?_
          refine aw_getfield fX4_24 dX4_addPair_54 (rh_o hr) rfl ?_
          refine aw_icmp_ge (tgt := 150) dX4_addPair_57 (by decide) (fun c => absurd c (nI_ge (by omega) (by omega))) (fun _ => ?_)
          refine aw_lload dX4_addPair_60 rfl ?_
          refine aw_lconst (v := 0) dX4_addPair_62 (by decide) ?_
          refine aw_lcmp dX4_addPair_63 ?_
          by_cases hXz : X a = 0
          · refine aw_if_eq (tgt := 150) dX4_addPair_64 (by decide) (fun _ => ?_) (fun c => (c ((lc0u (by omega)).mpr hXz)).elim)
            refine nxt g3 _ _ _ k1 k2 ?_
            rw [hXz, Nat.zero_mul, Nat.zero_mul, Nat.add_zero] at hbb
            rw [hXz, Nat.zero_mul, Nat.zero_mul, Nat.add_zero, ← hb]
            have e1 := bv_tail (B := 2 ^ 32) (g := fun k => g' (o * w + k)) (g' := fun k => g3 (o * w + k)) (i := b) (n := w) (by omega) (fun k h1 h2 => k3 k h1 h2)
            have hx0 : x = 0 := by
              rcases Nat.eq_zero_or_pos x with z | z
              · exact z
              · have h4 : ((2 : Nat) ^ 32) ^ b ≤ x * (2 ^ 32) ^ b := Nat.le_mul_of_pos_left _ z
                have h6 : bv (2 ^ 32) (fun k => g' (o * w + k)) b < (2 ^ 32) ^ b := bv_lt (fun k hk => h1 _ (row_ix (show o ≤ t by omega) (by omega)))
                omega
            rw [hx0, Nat.zero_mul, Nat.add_zero] at hbb
            omega
          · refine aw_if_eq (tgt := 150) dX4_addPair_64 (by decide) (fun c => absurd c (fun e => hXz ((lc0u (by omega)).mp e))) (fun _ => ?_)
            refine aw_iload dX4_addPair_67 rfl ?_
            refine aw_iload dX4_addPair_69 rfl ?_
            refine aw_isub dX4_addPair_71 ?_
            refine aw_aload_n (i := 3) dX4_addPair_72 rfl rfl ?_
            refine aw_getfield fX4_24 dX4_addPair_73 hQ2.1 rfl ?_
            rw [pk_sub hab]
            have step : AW mX4_addPair (gq 0 0 Q) 89 [some (.ref r), some (.ref p), some (.int (nI i)), some (.ref q), some (.int (nI j)), some (.int (nI (o * w))), some (.int (nI a)), some (.long (lN (X a))), none, some (.long (lN x)), none, some (.int (nI b))] [] 0 0 n (rh h r t w g3) := by
              have hyx : Y (b - a) * X a ≤ (2 ^ 32 - 1) * (2 ^ 32 - 1) := Nat.mul_le_mul (by omega) (by omega)
              refine aw_lload dX4_addPair_89 rfl ?_
              refine aw_aload_n (i := 3) dX4_addPair_91 rfl rfl ?_
              refine aw_iload dX4_addPair_92 rfl ?_
              refine aw_iload dX4_addPair_94 rfl ?_
              refine aw_iload dX4_addPair_96 rfl ?_
              refine aw_isub dX4_addPair_98 ?_
              rw [pk_sub hab]
              refine aw_invokevirtual kX4_43 dX4_addPair_99 hQ2.1 (wY n g3 (b - a) (by omega)) rfl rfl (Nat.le_of_ble_eq_true rfl) ⟨Nat.le_of_ble_eq_true rfl, Nat.le_of_ble_eq_true rfl⟩ ⟨Nat.le_of_ble_eq_true rfl, Nat.le_of_ble_eq_true rfl⟩ ?_
              rintro _ _ _ ⟨rfl, rfl, rfl⟩
              refine aw_lload dX4_addPair_102 rfl ?_
              refine aw_lmul dX4_addPair_104 ?_
              refine aw_aload_n (i := 0) dX4_addPair_105 rfl rfl ?_
              refine aw_getfield fX4_27 dX4_addPair_106 (rh_o hr) rfl ?_
              refine aw_iload dX4_addPair_109 rfl ?_
              refine aw_iload dX4_addPair_111 rfl ?_
              refine aw_iadd dX4_addPair_113 ?_
              rw [nI_add]
              refine aw_iald dX4_addPair_114 (o * w + b) rh_a (nI_toInt (by omega)) hx2 ?_
              refine aw_i2l dX4_addPair_115 rfl ?_
              refine aw_ldc2_w qX4_35 dX4_addPair_116 ?_
              refine aw_land dX4_addPair_119 ?_
              rw [lo32 d1]
              refine aw_ladd dX4_addPair_120 ?_
              refine aw_ladd dX4_addPair_121 ?_
              rw [lN_mul, lN_add, lN_add]
              generalize hyy : x + (Y (b - a) * X a + g3 (o * w + b)) = yy
              have hy2 : yy < 2 ^ 64 := by omega
              refine aw_lstore_9 dX4_addPair_122 (by decide) rfl ?_
              refine aw_aload_n (i := 0) dX4_addPair_124 rfl rfl ?_
              refine aw_getfield fX4_27 dX4_addPair_125 (rh_o hr) rfl ?_
              refine aw_iload dX4_addPair_128 rfl ?_
              refine aw_iload dX4_addPair_130 rfl ?_
              refine aw_iadd dX4_addPair_132 ?_
              rw [nI_add]
              refine aw_lload dX4_addPair_133 rfl ?_
              refine aw_l2i dX4_addPair_135 rfl ?_
              rw [lN_l2i]
              refine aw_iast dX4_addPair_136 (o * w + b) _ rfl rh_a (nI_toInt (by omega)) hx2 ?_
              refine AW.hp rh_up ?_
              refine aw_lload dX4_addPair_137 rfl ?_
              refine aw_bipush (v := 32) dX4_addPair_139 (by decide +kernel) ?_
              refine aw_lushr dX4_addPair_141 rfl ?_
              rw [lN_u32 hy2]
              refine aw_lstore_9 dX4_addPair_142 (by decide) rfl ?_
              refine aw_iinc_11 (c0 := 1) dX4_addPair_144 (by decide) (by decide) rfl ?_
              refine aw_goto (tgt := 51) dX4_addPair_147 (by decide) ?_
              rw [nI_1]
              refine ihz (b + 1) _ _ (by omega) (by omega) (raw_up (s := 0) k1 (Nat.mod_lt _ (by decide))) (fun u hu k hk => by rw [va_up_off (row_ne hu hk (by omega))]; exact k2 u hu k hk) (fun k i1 i2 => by rw [va_up_off (by omega)]; exact k3 k (by omega) i2) (by omega) ?_
              have e1 : bv (2 ^ 32) (fun k => va_up g3 (o * w + b) (yy % 2 ^ 32) (o * w + k)) b = bv (2 ^ 32) (fun k => g3 (o * w + k)) b := bv_congr (fun k hk => va_up_off (by omega))
              have e2 := carry_step (B := 2 ^ 32) (P := (2 ^ 32) ^ b) (s := yy) rfl rfl
              rw [bv_s, bv_s, va_up_at, e1, p32s, Nat.add_assoc, e2, ← hyy, ← k3 b (Nat.le_refl _) (by omega), show b + 1 - a = (b - a) + 1 by omega, bv_s, Nat.add_mul, Nat.add_mul, Nat.mul_add]
              have e3 : X a * (2 ^ 32) ^ a * (Y (b - a) * (2 ^ 32) ^ (b - a)) = Y (b - a) * X a * (2 ^ 32) ^ b := by
                rw [show ((2 : Nat) ^ 32) ^ b = (2 ^ 32) ^ a * (2 ^ 32) ^ (b - a) by rw [← Nat.pow_add]; congr 1; omega]
                ac_rfl
              omega
            by_cases hbw : b - a < w2
            · refine aw_icmp_lt (tgt := 89) dX4_addPair_76 (by decide) (fun _ => ?_) (fun c => (c (nI_lt hbw (by omega))).elim)
              exact step
            · refine aw_icmp_lt (tgt := 89) dX4_addPair_76 (by decide) (fun c => absurd c (nI_nlt (by omega) (by omega))) (fun _ => ?_)
              refine aw_lload dX4_addPair_79 rfl ?_
              refine aw_lconst (v := 0) dX4_addPair_81 (by decide) ?_
              refine aw_lcmp dX4_addPair_82 ?_
              by_cases hx0 : x = 0
              · refine aw_if_ne (tgt := 89) dX4_addPair_83 (by decide) (fun c => absurd c (fun e => e ((lc0u (by omega)).mpr hx0))) (fun _ => ?_)
                refine aw_goto (tgt := 150) dX4_addPair_86 (by decide) ?_
                refine nxt g3 _ _ _ k1 k2 ?_
                have e1 := bv_tail (B := 2 ^ 32) (g := fun k => g' (o * w + k)) (g' := fun k => g3 (o * w + k)) (i := b) (n := w) (by omega) (fun k h1 h2 => k3 k h1 h2)
                rw [hx0, Nat.zero_mul, Nat.add_zero, bv_high (show w2 ≤ b - a by omega) (fun k h1 _ => hYz k h1), hYv] at hbb
                omega
              · refine aw_if_ne (tgt := 89) dX4_addPair_83 (by decide) (fun _ => ?_) (fun c => ((fun e => hx0 ((lc0u (by omega)).mp e)) c).elim)
                exact step
      refine AW.forget [some (.ref r), some (.ref p), some (.int (nI i)), some (.ref q), some (.int (nI j)), some (.int (nI (o * w))), some (.int (nI a)), some (.long (lN (X a))), none, some (.long (lN 0)), none, some (.int (nI a))] ⟨rfl, rfl, rfl, rfl, rfl, rfl, rfl, rfl, rfl, rfl, trivial⟩ ?_
      exact inner (w - a) a g' 0 (by omega) (Nat.le_refl _) h1 h2 (fun _ _ _ => rfl) (by decide) (by rw [Nat.sub_self]; simp [bv_0])
  exact outer w1 0 g none none none (by omega) hc.1 (fun _ _ _ _ => rfl) (by rw [hc.2 o hij, bv_0, Nat.zero_mul, Nat.add_zero])
