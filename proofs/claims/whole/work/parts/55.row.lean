/-! rows of numbers, each in as many parts -/
def robj (r t wd : Nat) : AC := .inr (4, [.int (nI t), .int (nI wd), .ref (r + 1)])
def Row (h : Hp) (r t w : Nat) (g : Nat → Nat) : Prop := h r = some (robj r t w) ∧ h (r + 1) = some (iar ((t + 1) * w) g) ∧ t ≤ 120 ∧ 1 ≤ w ∧ w ≤ 8
/-- what a row says: c v for each v up to t -/
def rok (t w : Nat) (g c : Nat → Nat) : Prop := (∀ i, i < (t + 1) * w → g i < 2 ^ 32) ∧ ∀ v, v ≤ t → bv (2 ^ 32) (fun i => g (v * w + i)) w = c v
theorem row_ix {t w v i : Nat} (hv : v ≤ t) (hi : i < w) : v * w + i < (t + 1) * w := by
  have : v * w + w ≤ (t + 1) * w := by rw [← Nat.succ_mul]; exact Nat.mul_le_mul_right _ (by omega)
  omega
theorem row_len {t w : Nat} (ht : t ≤ 120) (hw : w ≤ 8) : (t + 1) * w ≤ 968 := Nat.le_trans (Nat.mul_le_mul (show t + 1 ≤ 121 by omega) hw) (by decide)
theorem rok_lt {t w v : Nat} {g c : Nat → Nat} (h : rok t w g c) (hv : v ≤ t) : c v < (2 ^ 32) ^ w := by
  rw [← h.2 v hv]; exact bv_lt (fun i hi => h.1 _ (row_ix hv hi))
theorem rok_congr {t w : Nat} {g c c' : Nat → Nat} (h : rok t w g c) (e : ∀ v, v ≤ t → c' v = c v) : rok t w g c' := ⟨h.1, fun v hv => by rw [e v hv]; exact h.2 v hv⟩
/-- digits of v and of another value do not meet -/
theorem row_ne {w v v' i i' : Nat} (h : v ≠ v') (hi : i < w) (hi' : i' < w) : v * w + i ≠ v' * w + i' := by
  intro q
  rcases Nat.lt_or_gt_of_ne h with l | l
  · have : v * w + w ≤ v' * w := by rw [← Nat.succ_mul]; exact Nat.mul_le_mul_right _ l
    omega
  · have : v' * w + w ≤ v * w := by rw [← Nat.succ_mul]; exact Nat.mul_le_mul_right _ l
    omega
theorem ct_X4_lacks (n : Nat) (h : Hp) (r t w v : Nat) (hr : h r = some (robj r t w)) (ht : t < 2 ^ 31) (hv : v < 2 ^ 31) : CT mX4_lacks 0 0 n h [.ref r, .int (nI v)] (pint n h (bI (decide (t < v)))) := by
  refine CT.intro [some (.ref r), some (.int (nI v))] 0 rfl rfl (by decide) ?_
  intro Q hQ
  refine aw_iload_n (i := 1) dX4_lacks_0 rfl rfl ?_
  refine aw_if_lt (tgt := 12) dX4_lacks_1 (by decide) (fun c => absurd c (nI_pos hv)) (fun _ => ?_)
  refine aw_iload_n (i := 1) dX4_lacks_4 rfl rfl ?_
  refine aw_aload_n (i := 0) dX4_lacks_5 rfl rfl ?_
  refine aw_getfield fX4_18 dX4_lacks_6 hr rfl ?_
  by_cases hq : t < v
  · refine aw_icmp_le (tgt := 16) dX4_lacks_9 (by decide) (fun c => absurd c (nI_ge hq hv)) (fun _ => ?_)
    refine aw_iconst (v := 1) dX4_lacks_12 (by decide +kernel) ?_
    refine aw_goto (tgt := 17) dX4_lacks_13 (by decide) ?_
    refine aw_ireturn dX4_lacks_17 rfl rfl (Nat.le_of_ble_eq_true rfl) (Nat.le_of_ble_eq_true rfl) ?_
    exact hQ _ _ _ ⟨by rw [decide_eq_true hq]; rfl, rfl, rfl⟩
  · refine aw_icmp_le (tgt := 16) dX4_lacks_9 (by decide) (fun _ => ?_) (fun c => (c (nI_le (by omega) ht)).elim)
    refine aw_iconst (v := 0) dX4_lacks_16 (by decide +kernel) ?_
    refine aw_ireturn dX4_lacks_17 rfl rfl (Nat.le_of_ble_eq_true rfl) (Nat.le_of_ble_eq_true rfl) ?_
    exact hQ _ _ _ ⟨by rw [decide_eq_false hq]; rfl, rfl, rfl⟩
theorem ct_X4_word (n : Nat) (h : Hp) (r t w v i : Nat) (g : Nat → Nat) (hR : Row h r t w g) (hg : ∀ i, i < (t + 1) * w → g i < 2 ^ 32) (hv : v ≤ t) (hi : i < 2 ^ 31) : CT mX4_word 0 0 n h [.ref r, .int (nI v), .int (nI i)] (plong n h (lN (if i < w then g (v * w + i) else 0))) := by
  refine CT.intro [some (.ref r), some (.int (nI v)), some (.int (nI i))] 0 rfl rfl (by decide) ?_
  intro Q hQ
  obtain ⟨hr, hc, ht, hw1, hw8⟩ := hR
  have hlen := row_len ht hw8
  refine aw_aload_n (i := 0) dX4_word_0 rfl rfl ?_
  refine aw_iload_n (i := 1) dX4_word_1 rfl rfl ?_
  refine aw_invokevirtual kX4_31 dX4_word_2 hr (ct_X4_lacks n h r t w v hr (by omega) (by omega)) rfl rfl (Nat.le_of_ble_eq_true rfl) ⟨Nat.le_of_ble_eq_true rfl, Nat.le_of_ble_eq_true rfl⟩ ⟨Nat.le_of_ble_eq_true rfl, Nat.le_of_ble_eq_true rfl⟩ ?_
  rintro _ _ _ ⟨rfl, rfl, rfl⟩
  rw [decide_eq_false (show ¬ t < v by omega)]
  refine aw_if_ne (tgt := 20) dX4_word_5 (by decide) (fun c => absurd c (fun q => q rfl)) (fun _ => ?_)
  refine aw_iload_n (i := 2) dX4_word_8 rfl rfl ?_
  refine aw_if_lt (tgt := 20) dX4_word_9 (by decide) (fun c => absurd c (nI_pos hi)) (fun _ => ?_)
  refine aw_iload_n (i := 2) dX4_word_12 rfl rfl ?_
  refine aw_aload_n (i := 0) dX4_word_13 rfl rfl ?_
  refine aw_getfield fX4_24 dX4_word_14 hr rfl ?_
  by_cases hiw : i < w
  · have hx := row_ix hv hiw
    refine aw_icmp_lt (tgt := 24) dX4_word_17 (by decide) (fun _ => ?_) (fun c => (c (nI_lt hiw (by omega))).elim)
    refine aw_aload_n (i := 0) dX4_word_24 rfl rfl ?_
    refine aw_getfield fX4_27 dX4_word_25 hr rfl ?_
    refine aw_iload_n (i := 1) dX4_word_28 rfl rfl ?_
    refine aw_aload_n (i := 0) dX4_word_29 rfl rfl ?_
    refine aw_getfield fX4_24 dX4_word_30 hr rfl ?_
    refine aw_imul dX4_word_33 ?_
    refine aw_iload_n (i := 2) dX4_word_34 rfl rfl ?_
    refine aw_iadd dX4_word_35 ?_
    rw [pk_mul, nI_add]
    refine aw_iald dX4_word_36 (v * w + i) hc (nI_toInt (by omega)) hx ?_
    refine aw_i2l dX4_word_37 rfl ?_
    refine aw_ldc2_w qX4_35 dX4_word_38 ?_
    refine aw_land dX4_word_41 ?_
    rw [lo32 (hg _ hx)]
    refine aw_lreturn dX4_word_42 rfl (Nat.le_of_ble_eq_true rfl) (Nat.le_of_ble_eq_true rfl) ?_
    exact hQ _ _ _ ⟨by rw [if_pos hiw], rfl, rfl⟩
  · refine aw_icmp_lt (tgt := 24) dX4_word_17 (by decide) (fun c => absurd c (nI_nlt (by omega) hi)) (fun _ => ?_)
    refine aw_lconst (v := 0) dX4_word_20 (by decide) ?_
    refine aw_goto (tgt := 42) dX4_word_21 (by decide) ?_
    refine aw_lreturn dX4_word_42 rfl (Nat.le_of_ble_eq_true rfl) (Nat.le_of_ble_eq_true rfl) ?_
    exact hQ _ _ _ ⟨by rw [if_neg hiw]; rfl, rfl, rfl⟩
/-- the row's parts are g -/
def rh (h : Hp) (r t w : Nat) (g : Nat → Nat) : Hp := hup h (r + 1) (iar ((t + 1) * w) g)
theorem rh_o {h : Hp} {r t w : Nat} {g : Nat → Nat} (hr : h r = some (robj r t w)) : rh h r t w g r = some (robj r t w) := by unfold rh; rw [hup_ne (by omega)]; exact hr
theorem rh_a {h : Hp} {r t w : Nat} {g : Nat → Nat} : rh h r t w g (r + 1) = some (iar ((t + 1) * w) g) := hup_self _ _ _
theorem rh_x {h : Hp} {r t w x : Nat} {g : Nat → Nat} (hx : x ≠ r + 1) : rh h r t w g x = h x := hup_ne hx
theorem rh_id {h : Hp} {r t w : Nat} {g : Nat → Nat} (hR : Row h r t w g) : h = rh h r t w g := (hup_id hR.2.1).symm
theorem rh_up {h : Hp} {r t w : Nat} {g g' : Nat → Nat} : hup (rh h r t w g) (r + 1) (iar ((t + 1) * w) g') = rh h r t w g' := hup_hup _ _ _ _
theorem Row.rh {h : Hp} {r t w : Nat} {g g' : Nat → Nat} (hR : Row h r t w g) : Row (rh h r t w g') r t w g' := ⟨rh_o hR.1, rh_a, hR.2.2⟩
def rto (n : Nat) (h : Hp) (r t w : Nat) (c : Nat → Nat) : Option Value → Nat → Hp → Prop := pv n (fun h' => ∃ g', h' = rh h r t w g' ∧ rok t w g' c)
theorem row_w1 (g : Nat → Nat) (w : Nat) (hw : 1 ≤ w) (h : ∀ i, 1 ≤ i → i < w → g i = 0) : bv (2 ^ 32) g w = g 0 := by
  rw [bv_high hw h, bv_s _ _ 0, bv_0]; simp
theorem row_w2 (g : Nat → Nat) (w : Nat) (hw : 2 ≤ w) (h : ∀ i, 2 ≤ i → i < w → g i = 0) : bv (2 ^ 32) g w = g 0 + g 1 * 2 ^ 32 := by
  rw [bv_high hw h, bv_2]
theorem ct_X4_write (n : Nat) (h : Hp) (r t w v x : Nat) (g c : Nat → Nat) (hR : Row h r t w g) (hc : rok t w g c) (hv : v ≤ t) (h0 : c v = 0) (hx : x < 2 ^ 64) (hx1 : w = 1 → x < 2 ^ 32) : CT mX4_write 0 0 n h [.ref r, .int (nI v), .long (lN x)] (rto n h r t w (va_up c v x)) := by
  refine CT.intro [some (.ref r), some (.int (nI v)), some (.long (lN x)), none] 0 rfl rfl (by decide) ?_
  intro Q hQ
  obtain ⟨hr, hcl, ht, hw1, hw8⟩ := id hR
  have hlen := row_len ht hw8
  have hx0 := row_ix hv (show 0 < w by omega)
  rw [Nat.add_zero] at hx0
  have hz : ∀ i, i < w → g (v * w + i) = 0 := bv_eq_zero (by decide) ((hc.2 v hv).trans h0)
  refine aw_aload_n (i := 0) dX4_write_0 rfl rfl ?_
  refine aw_iload_n (i := 1) dX4_write_1 rfl rfl ?_
  refine aw_invokevirtual kX4_31 dX4_write_2 hr (ct_X4_lacks n h r t w v hr (by omega) (by omega)) rfl rfl (Nat.le_of_ble_eq_true rfl) ⟨Nat.le_of_ble_eq_true rfl, Nat.le_of_ble_eq_true rfl⟩ ⟨Nat.le_of_ble_eq_true rfl, Nat.le_of_ble_eq_true rfl⟩ ?_
  rintro _ _ _ ⟨rfl, rfl, rfl⟩
  rw [decide_eq_false (show ¬ t < v by omega)]
  refine AW.hp (rh_id hR) ?_
  refine aw_if_eq (tgt := 9) dX4_write_5 (by decide) (fun _ => ?_) (fun c => (c rfl).elim)
  refine aw_aload_n (i := 0) dX4_write_9 rfl rfl ?_
  refine aw_getfield fX4_27 dX4_write_10 (rh_o hr) rfl ?_
  refine aw_iload_n (i := 1) dX4_write_13 rfl rfl ?_
  refine aw_aload_n (i := 0) dX4_write_14 rfl rfl ?_
  refine aw_getfield fX4_24 dX4_write_15 (rh_o hr) rfl ?_
  refine aw_imul dX4_write_18 ?_
  rw [pk_mul]
  refine aw_lload_n (i := 2) dX4_write_19 rfl rfl ?_
  refine aw_l2i dX4_write_20 rfl ?_
  rw [lN_l2i]
  refine aw_iast dX4_write_21 (v * w) _ rfl rh_a (nI_toInt (by omega)) hx0 ?_
  refine AW.hp rh_up ?_
  refine aw_aload_n (i := 0) dX4_write_22 rfl rfl ?_
  refine aw_getfield fX4_24 dX4_write_23 (rh_o hr) rfl ?_
  refine aw_iconst (v := 1) dX4_write_26 (by decide +kernel) ?_
  by_cases hw2 : w = 1
  · subst hw2
    refine aw_icmp_le (tgt := 48) dX4_write_27 (by decide) (fun _ => ?_) (fun c => (c (by decide)).elim)
    refine aw_return dX4_write_48 rfl (Nat.le_of_ble_eq_true rfl) (Nat.le_of_ble_eq_true rfl) ?_
    refine hQ _ _ _ ⟨rfl, rfl, _, rfl, fun i hi => ?_, fun u hu => ?_⟩
    · by_cases hq : i = v * 1
      · rw [hq, va_up_at]; exact Nat.mod_lt _ (by decide)
      · rw [va_up_off hq]; exact hc.1 i hi
    · rw [row_w1 _ 1 (by decide) (fun i h1 h2 => by omega)]
      show va_up g (v * 1) (x % 2 ^ 32) (u * 1 + 0) = _
      by_cases hq : u = v
      · rw [hq, Nat.add_zero, va_up_at, va_up_at, Nat.mod_eq_of_lt (hx1 rfl)]
      · rw [va_up_off (by omega), va_up_off hq, ← hc.2 u hu, row_w1 _ 1 (by decide) (fun i h1 h2 => by omega)]
  · have hx2 := row_ix hv (show 1 < w by omega)
    refine aw_icmp_le (tgt := 48) dX4_write_27 (by decide) (fun c => absurd c (nI_ge (a := 1) (by omega) (by omega))) (fun _ => ?_)
    refine aw_aload_n (i := 0) dX4_write_30 rfl rfl ?_
    refine aw_getfield fX4_27 dX4_write_31 (rh_o hr) rfl ?_
    refine aw_iload_n (i := 1) dX4_write_34 rfl rfl ?_
    refine aw_aload_n (i := 0) dX4_write_35 rfl rfl ?_
    refine aw_getfield fX4_24 dX4_write_36 (rh_o hr) rfl ?_
    refine aw_imul dX4_write_39 ?_
    refine aw_iconst (v := 1) dX4_write_40 (by decide +kernel) ?_
    refine aw_iadd dX4_write_41 ?_
    rw [pk_mul, nI_1]
    refine aw_lload_n (i := 2) dX4_write_42 rfl rfl ?_
    refine aw_bipush (v := 32) dX4_write_43 (by decide +kernel) ?_
    refine aw_lushr dX4_write_45 rfl ?_
    rw [lN_u32 hx]
    refine aw_l2i dX4_write_46 rfl ?_
    rw [lN_l2i]
    refine aw_iast dX4_write_47 (v * w + 1) _ rfl rh_a (nI_toInt (by omega)) hx2 ?_
    refine AW.hp rh_up ?_
    refine aw_return dX4_write_48 rfl (Nat.le_of_ble_eq_true rfl) (Nat.le_of_ble_eq_true rfl) ?_
    refine hQ _ _ _ ⟨rfl, rfl, _, rfl, fun i hi => ?_, fun u hu => ?_⟩
    · by_cases hq : i = v * w + 1
      · rw [hq, va_up_at]; exact Nat.mod_lt _ (by decide)
      · rw [va_up_off hq]
        by_cases hq : i = v * w
        · rw [hq, va_up_at]; exact Nat.mod_lt _ (by decide)
        · rw [va_up_off hq]; exact hc.1 i hi
    · by_cases hq : u = v
      · rw [hq, va_up_at, row_w2 _ w (by omega) (fun i h1 h2 => by rw [va_up_off (by omega), va_up_off (by omega)]; exact hz i h2)]
        show va_up (va_up g (v * w) (x % 2 ^ 32)) (v * w + 1) (x / 2 ^ 32 % 2 ^ 32) (v * w + 0) + va_up (va_up g (v * w) (x % 2 ^ 32)) (v * w + 1) (x / 2 ^ 32 % 2 ^ 32) (v * w + 1) * 2 ^ 32 = x
        rw [va_up_at, va_up_off (by omega), Nat.add_zero, va_up_at]
        omega
      · rw [va_up_off hq, ← hc.2 u hu]
        exact bv_congr (fun i hi => by rw [va_up_off (row_ne hq hi (by omega)), va_up_off (fun e => row_ne hq hi (show 0 < w by omega) (by rw [e, Nat.add_zero]))])
theorem ct_X4_erase (n : Nat) (h : Hp) (r t w v : Nat) (g c : Nat → Nat) (hR : Row h r t w g) (hc : rok t w g c) (hv : v ≤ t) : CT mX4_erase 0 0 n h [.ref r, .int (nI v)] (rto n h r t w (va_up c v 0)) := by
  refine CT.intro [some (.ref r), some (.int (nI v)), none] 1 rfl rfl (by decide) ?_
  intro Q hQ
  obtain ⟨hr, hcl, ht, hw1, hw8⟩ := id hR
  have hlen := row_len ht hw8
  refine AW.hp (rh_id hR) ?_
  refine aw_iconst (v := 0) dX4_erase_0 (by decide +kernel) ?_
  refine aw_istore_2 dX4_erase_1 (by decide) rfl ?_
  have loop : ∀ (j i : Nat) (g' : Nat → Nat), i + j = w → (∀ k, k < (t + 1) * w → g' k < 2 ^ 32) → (∀ k, k < i → g' (v * w + k) = 0) → (∀ u, u ≠ v → ∀ k, k < w → g' (u * w + k) = g (u * w + k)) → AW mX4_erase (gq 0 0 Q) 2 [some (.ref r), some (.int (nI v)), some (.int (nI i))] [] 0 0 n (rh h r t w g') := by
    intro j
    induction j with
    | zero =>
      intro i g' hi h1 h2 h3
      obtain rfl : i = w := by omega
      refine aw_iload_n (i := 2) dX4_erase_2 rfl rfl ?_
      refine aw_aload_n (i := 0) dX4_erase_3 rfl rfl ?_
      refine aw_getfield fX4_24 dX4_erase_4 (rh_o hr) rfl ?_
      refine aw_icmp_ge (tgt := 38) dX4_erase_7 (by decide) (fun _ => ?_) (fun c => (c (nI_le (Nat.le_refl _) (by omega))).elim)
      refine aw_return dX4_erase_38 rfl (Nat.le_of_ble_eq_true rfl) (Nat.le_of_ble_eq_true rfl) ?_
      refine hQ _ _ _ ⟨rfl, rfl, _, rfl, h1, fun u hu => ?_⟩
      by_cases hq : u = v
      · rw [hq, va_up_at]; exact bv_zero h2
      · rw [va_up_off hq, ← hc.2 u hu]; exact bv_congr (fun k hk => h3 u hq k hk)
    | succ j ih =>
      intro i g' hi h1 h2 h3
      have hx := row_ix hv (show i < w by omega)
      refine aw_iload_n (i := 2) dX4_erase_2 rfl rfl ?_
      refine aw_aload_n (i := 0) dX4_erase_3 rfl rfl ?_
      refine aw_getfield fX4_24 dX4_erase_4 (rh_o hr) rfl ?_
      refine aw_icmp_ge (tgt := 38) dX4_erase_7 (by decide) (fun c => absurd c (nI_ge (by omega) (by omega))) (fun _ => ?_)
      refine aw_aload_n (i := 0) dX4_erase_10 rfl rfl ?_
      refine aw_iload_n (i := 1) dX4_erase_11 rfl rfl ?_
      refine aw_invokevirtual kX4_31 dX4_erase_12 (rh_o hr) (ct_X4_lacks n (rh h r t w g') r t w v (rh_o hr) (by omega) (by omega)) rfl rfl (Nat.le_of_ble_eq_true rfl) ⟨Nat.le_of_ble_eq_true rfl, Nat.le_of_ble_eq_true rfl⟩ ⟨Nat.le_of_ble_eq_true rfl, Nat.le_of_ble_eq_true rfl⟩ ?_
      rintro _ _ _ ⟨rfl, rfl, rfl⟩
      rw [decide_eq_false (show ¬ t < v by omega)]
      refine aw_if_ne (tgt := 38) dX4_erase_15 (by decide) (fun c => absurd c (fun q => q rfl)) (fun _ => ?_)
      refine aw_aload_n (i := 0) dX4_erase_18 rfl rfl ?_
      refine aw_getfield fX4_27 dX4_erase_19 (rh_o hr) rfl ?_
      refine aw_iload_n (i := 1) dX4_erase_22 rfl rfl ?_
      refine aw_aload_n (i := 0) dX4_erase_23 rfl rfl ?_
      refine aw_getfield fX4_24 dX4_erase_24 (rh_o hr) rfl ?_
      refine aw_imul dX4_erase_27 ?_
      refine aw_iload_n (i := 2) dX4_erase_28 rfl rfl ?_
      refine aw_iadd dX4_erase_29 ?_
      rw [pk_mul, nI_add]
      refine aw_iconst (v := 0) dX4_erase_30 (by decide +kernel) ?_
      refine aw_iast dX4_erase_31 (v * w + i) 0 rfl rh_a (nI_toInt (by omega)) hx ?_
      refine AW.hp rh_up ?_
      refine aw_iinc_2 (c0 := 1) dX4_erase_32 (by decide) (by decide) rfl ?_
      refine aw_goto (tgt := 2) dX4_erase_35 (by decide) ?_
      rw [nI_1]
      refine ih (i + 1) _ (by omega) (raw_up (s := 0) h1 (by decide)) (fun k hk => ?_) (fun u hu k hk => ?_)
      · by_cases hq : k = i
        · rw [hq, va_up_at]
        · rw [va_up_off (by omega)]; exact h2 k (by omega)
      · rw [va_up_off (row_ne hu hk (by omega))]; exact h3 u hu k hk
  exact loop w 0 g (by omega) hc.1 (fun k hk => by omega) (fun _ _ _ _ => rfl)
theorem ct_J7_fill (n : Nat) (h : Hp) (a len : Nat) (g : Nat → Nat) (ha : h a = some (iar len g)) (hl : len < 2 ^ 31) : CT mJ7_fill_53178 0 0 n h [.ref a, .int 0] (pv n (fun h' => ∃ g', h' = hup h a (iar len g') ∧ ∀ i, i < len → g' i = 0)) := by
  refine CT.intro [some (.ref a), some (.int 0), none, none] 2 rfl rfl (by decide) ?_
  intro Q hQ
  refine aw_iconst (v := 0) dJ7_fill_53178_0 (by decide +kernel) ?_
  refine aw_istore_2 dJ7_fill_53178_1 (by decide) rfl ?_
  refine aw_aload_n (i := 0) dJ7_fill_53178_2 rfl rfl ?_
  refine aw_arraylength dJ7_fill_53178_3 ha ?_
  refine aw_istore_3 dJ7_fill_53178_4 (by decide) rfl ?_
  have loop : ∀ (j i : Nat) (g' : Nat → Nat), i + j = len → (∀ k, k < i → g' k = 0) → AW mJ7_fill_53178 (gq 0 0 Q) 5 [some (.ref a), some (.int 0), some (.int (nI i)), some (.int (nI len))] [] 0 0 n (hup h a (iar len g')) := by
    intro j
    induction j with
    | zero =>
      intro i g' hi h2
      obtain rfl : i = len := by omega
      refine aw_iload_n (i := 2) dJ7_fill_53178_5 rfl rfl ?_
      refine aw_iload_n (i := 3) dJ7_fill_53178_6 rfl rfl ?_
      refine aw_icmp_ge (tgt := 20) dJ7_fill_53178_7 (by decide) (fun _ => ?_) (fun c => (c (nI_le (Nat.le_refl _) hl)).elim)
      refine aw_return dJ7_fill_53178_20 rfl (Nat.le_of_ble_eq_true rfl) (Nat.le_of_ble_eq_true rfl) ?_
      exact hQ _ _ _ ⟨rfl, rfl, _, rfl, h2⟩
    | succ j ih =>
      intro i g' hi h2
      refine aw_iload_n (i := 2) dJ7_fill_53178_5 rfl rfl ?_
      refine aw_iload_n (i := 3) dJ7_fill_53178_6 rfl rfl ?_
      refine aw_icmp_ge (tgt := 20) dJ7_fill_53178_7 (by decide) (fun c => absurd c (nI_ge (by omega) hl)) (fun _ => ?_)
      refine aw_aload_n (i := 0) dJ7_fill_53178_10 rfl rfl ?_
      refine aw_iload_n (i := 2) dJ7_fill_53178_11 rfl rfl ?_
      refine aw_iload_n (i := 1) dJ7_fill_53178_12 rfl rfl ?_
      refine aw_iast dJ7_fill_53178_13 i 0 rfl (hup_self _ _ _) (nI_toInt (by omega)) (by omega) ?_
      refine AW.hp (hup_hup _ _ _ _) ?_
      refine aw_iinc_2 (c0 := 1) dJ7_fill_53178_14 (by decide) (by decide) rfl ?_
      refine aw_goto (tgt := 5) dJ7_fill_53178_17 (by decide) ?_
      rw [nI_1]
      refine ih (i + 1) _ (by omega) (fun k hk => ?_)
      by_cases hq : k = i
      · rw [hq, va_up_at]
      · rw [va_up_off hq]; exact h2 k (by omega)
  refine AW.hp (hup_id ha).symm ?_
  exact loop len 0 g (by omega) (fun k hk => by omega)
theorem ct_X4_startAnew (n : Nat) (h : Hp) (r t w : Nat) (g : Nat → Nat) (hR : Row h r t w g) : CT mX4_startAnew 0 0 n h [.ref r] (rto n h r t w (fun v => if v = 0 then 1 else 0)) := by
  refine CT.intro [some (.ref r)] 0 rfl rfl (by decide) ?_
  intro Q hQ
  obtain ⟨hr, hcl, ht, hw1, hw8⟩ := id hR
  have hlen := row_len ht hw8
  have h0 := row_ix (t := t) (w := w) (Nat.zero_le t) (show 0 < w by omega)
  rw [Nat.zero_mul] at h0
  refine aw_aload_n (i := 0) dX4_startAnew_0 rfl rfl ?_
  refine aw_getfield fX4_27 dX4_startAnew_1 hr rfl ?_
  refine aw_iconst (v := 0) dX4_startAnew_4 (by decide +kernel) ?_
  refine aw_invokestatic kX4_37 dX4_startAnew_5 (ct_J7_fill n h (r + 1) ((t + 1) * w) g hcl (by omega)) rfl rfl (Nat.le_of_ble_eq_true rfl) ⟨Nat.le_of_ble_eq_true rfl, Nat.le_of_ble_eq_true rfl⟩ ⟨Nat.le_of_ble_eq_true rfl, Nat.le_of_ble_eq_true rfl⟩ ?_
  rintro _ _ _ ⟨rfl, rfl, g', rfl, hz⟩
  refine AW.hp (show _ = rh h r t w g' from rfl) ?_
  refine aw_aload_n (i := 0) dX4_startAnew_8 rfl rfl ?_
  refine aw_getfield fX4_27 dX4_startAnew_9 (rh_o hr) rfl ?_
  refine aw_iconst (v := 0) dX4_startAnew_12 (by decide +kernel) ?_
  refine aw_iconst (v := 1) dX4_startAnew_13 (by decide +kernel) ?_
  refine aw_iast dX4_startAnew_14 0 1 rfl rh_a (by decide +kernel) h0 ?_
  refine AW.hp rh_up ?_
  refine aw_return dX4_startAnew_15 rfl (Nat.le_of_ble_eq_true rfl) (Nat.le_of_ble_eq_true rfl) ?_
  refine hQ _ _ _ ⟨rfl, rfl, _, rfl, fun i hi => ?_, fun v hv => ?_⟩
  · by_cases hq : i = 0
    · rw [hq, va_up_at]; decide
    · rw [va_up_off hq, hz i hi]; decide
  · show bv (2 ^ 32) (fun i => va_up g' 0 1 (v * w + i)) w = if v = 0 then 1 else 0
    by_cases hq : v = 0
    · rw [hq, if_pos rfl, row_w1 _ w hw1 (fun i h1 h2 => by rw [va_up_off (by omega)]; exact hz _ (row_ix (Nat.zero_le t) h2)), Nat.zero_mul, va_up_at]
    · rw [if_neg hq]
      refine bv_zero (fun i hi => ?_)
      rw [va_up_off (fun e => by have : 1 * w ≤ v * w := Nat.mul_le_mul_right _ (by omega); omega)]
      exact hz _ (row_ix hv hi)
theorem ct_X4_isZero (n : Nat) (h : Hp) (r t w v : Nat) (g c : Nat → Nat) (hR : Row h r t w g) (hc : rok t w g c) (hv : v ≤ t) : CT mX4_isZero 0 0 n h [.ref r, .int (nI v)] (pint n h (bI (decide (c v = 0)))) := by
  refine CT.intro [some (.ref r), some (.int (nI v)), none] 1 rfl rfl (by decide) ?_
  intro Q hQ
  obtain ⟨hr, hcl, ht, hw1, hw8⟩ := id hR
  refine aw_iconst (v := 0) dX4_isZero_0 (by decide +kernel) ?_
  refine aw_istore_2 dX4_isZero_1 (by decide) rfl ?_
  have loop : ∀ (j i : Nat), i + j = w → (∀ k, k < i → g (v * w + k) = 0) → AW mX4_isZero (gq 0 0 Q) 2 [some (.ref r), some (.int (nI v)), some (.int (nI i))] [] 0 0 n h := by
    intro j
    induction j with
    | zero =>
      intro i hi h2
      obtain rfl : i = w := by omega
      refine aw_iload_n (i := 2) dX4_isZero_2 rfl rfl ?_
      refine aw_aload_n (i := 0) dX4_isZero_3 rfl rfl ?_
      refine aw_getfield fX4_24 dX4_isZero_4 hr rfl ?_
      refine aw_icmp_ge (tgt := 29) dX4_isZero_7 (by decide) (fun _ => ?_) (fun c => (c (nI_le (Nat.le_refl _) (by omega))).elim)
      refine aw_iconst (v := 1) dX4_isZero_29 (by decide +kernel) ?_
      refine aw_ireturn dX4_isZero_30 rfl rfl (Nat.le_of_ble_eq_true rfl) (Nat.le_of_ble_eq_true rfl) ?_
      exact hQ _ _ _ ⟨by rw [decide_eq_true (by rw [← hc.2 v hv]; exact bv_zero h2)]; rfl, rfl, rfl⟩
    | succ j ih =>
      intro i hi h2
      have hd := hc.1 _ (row_ix hv (show i < w by omega))
      refine aw_iload_n (i := 2) dX4_isZero_2 rfl rfl ?_
      refine aw_aload_n (i := 0) dX4_isZero_3 rfl rfl ?_
      refine aw_getfield fX4_24 dX4_isZero_4 hr rfl ?_
      refine aw_icmp_ge (tgt := 29) dX4_isZero_7 (by decide) (fun c => absurd c (nI_ge (by omega) (by omega))) (fun _ => ?_)
      refine aw_aload_n (i := 0) dX4_isZero_10 rfl rfl ?_
      refine aw_iload_n (i := 1) dX4_isZero_11 rfl rfl ?_
      refine aw_iload_n (i := 2) dX4_isZero_12 rfl rfl ?_
      refine aw_invokevirtual kX4_43 dX4_isZero_13 hr (ct_X4_word n h r t w v i g hR hc.1 hv (by omega)) rfl rfl (Nat.le_of_ble_eq_true rfl) ⟨Nat.le_of_ble_eq_true rfl, Nat.le_of_ble_eq_true rfl⟩ ⟨Nat.le_of_ble_eq_true rfl, Nat.le_of_ble_eq_true rfl⟩ ?_
      rintro _ _ _ ⟨rfl, rfl, rfl⟩
      rw [if_pos (show i < w by omega)]
      refine aw_lconst (v := 0) dX4_isZero_16 (by decide) ?_
      refine aw_lcmp dX4_isZero_17 ?_
      by_cases hz : g (v * w + i) = 0
      · refine aw_if_eq (tgt := 23) dX4_isZero_18 (by decide) (fun _ => ?_) (fun c => (c ((lc0u (by omega)).mpr hz)).elim)
        refine aw_iinc_2 (c0 := 1) dX4_isZero_23 (by decide) (by decide) rfl ?_
        refine aw_goto (tgt := 2) dX4_isZero_26 (by decide) ?_
        rw [nI_1]
        refine ih (i + 1) (by omega) (fun k hk => ?_)
        by_cases hq : k = i
        · rw [hq]; exact hz
        · exact h2 k (by omega)
      · refine aw_if_eq (tgt := 23) dX4_isZero_18 (by decide) (fun c => absurd c (fun q => hz ((lc0u (by omega)).mp q))) (fun _ => ?_)
        refine aw_iconst (v := 0) dX4_isZero_21 (by decide +kernel) ?_
        refine aw_ireturn dX4_isZero_22 rfl rfl (Nat.le_of_ble_eq_true rfl) (Nat.le_of_ble_eq_true rfl) ?_
        refine hQ _ _ _ ⟨?_, rfl, rfl⟩
        rw [decide_eq_false]
        · rfl
        · intro q
          exact hz (bv_eq_zero (by decide) ((hc.2 v hv).trans q) i (by omega))
  exact loop w 0 (by omega) (fun k hk => by omega)
theorem ct_X4_zeros (n : Nat) (h : Hp) (r t w : Nat) (g c : Nat → Nat) (hR : Row h r t w g) (hc : rok t w g c) : CT mX4_zeros 0 0 n h [.ref r] (pint n h (nI (sg (fun v => if c v = 0 then 1 else 0) (t + 1)))) := by
  refine CT.intro [some (.ref r), none, none] 2 rfl rfl (by decide) ?_
  intro Q hQ
  obtain ⟨hr, hcl, ht, hw1, hw8⟩ := id hR
  refine aw_iconst (v := 0) dX4_zeros_0 (by decide +kernel) ?_
  refine aw_istore_1 dX4_zeros_1 (by decide) rfl ?_
  refine aw_iconst (v := 0) dX4_zeros_2 (by decide +kernel) ?_
  refine aw_istore_2 dX4_zeros_3 (by decide) rfl ?_
  have loop : ∀ (j v : Nat), v + j = t + 1 → AW mX4_zeros (gq 0 0 Q) 4 [some (.ref r), some (.int (nI (sg (fun v => if c v = 0 then 1 else 0) v))), some (.int (nI v))] [] 0 0 n h := by
    intro j
    induction j with
    | zero =>
      intro v hv
      obtain rfl : v = t + 1 := by omega
      refine aw_iload_n (i := 2) dX4_zeros_4 rfl rfl ?_
      refine aw_aload_n (i := 0) dX4_zeros_5 rfl rfl ?_
      refine aw_getfield fX4_18 dX4_zeros_6 hr rfl ?_
      refine aw_icmp_gt (tgt := 29) dX4_zeros_9 (by decide) (fun _ => ?_) (fun c => (c (nI_lt (by omega) (by omega))).elim)
      refine aw_iload_n (i := 1) dX4_zeros_29 rfl rfl ?_
      refine aw_ireturn dX4_zeros_30 rfl rfl (Nat.le_of_ble_eq_true rfl) (Nat.le_of_ble_eq_true rfl) ?_
      exact hQ _ _ _ ⟨rfl, rfl, rfl⟩
    | succ j ih =>
      intro v hv
      have := ih (v + 1) (by omega)
      rw [sg_s] at this
      refine aw_iload_n (i := 2) dX4_zeros_4 rfl rfl ?_
      refine aw_aload_n (i := 0) dX4_zeros_5 rfl rfl ?_
      refine aw_getfield fX4_18 dX4_zeros_6 hr rfl ?_
      refine aw_icmp_gt (tgt := 29) dX4_zeros_9 (by decide) (fun c => absurd c (nI_nlt (by omega) (by omega))) (fun _ => ?_)
      refine aw_aload_n (i := 0) dX4_zeros_12 rfl rfl ?_
      refine aw_iload_n (i := 2) dX4_zeros_13 rfl rfl ?_
      refine aw_invokevirtual kX4_47 dX4_zeros_14 hr (ct_X4_isZero n h r t w v g c hR hc (by omega)) rfl rfl (Nat.le_of_ble_eq_true rfl) ⟨Nat.le_of_ble_eq_true rfl, Nat.le_of_ble_eq_true rfl⟩ ⟨Nat.le_of_ble_eq_true rfl, Nat.le_of_ble_eq_true rfl⟩ ?_
      rintro _ _ _ ⟨rfl, rfl, rfl⟩
      by_cases hz : c v = 0
      · rw [decide_eq_true hz]
        rw [if_pos hz] at this
        refine aw_if_eq (tgt := 23) dX4_zeros_17 (by decide) (fun c => absurd c (by decide)) (fun _ => ?_)
        refine aw_iinc_1 (c0 := 1) dX4_zeros_20 (by decide) (by decide) rfl ?_
        refine aw_iinc_2 (c0 := 1) dX4_zeros_23 (by decide) (by decide) rfl ?_
        refine aw_goto (tgt := 4) dX4_zeros_26 (by decide) ?_
        rw [nI_1, nI_1]
        exact this
      · rw [decide_eq_false hz]
        rw [if_neg hz] at this
        refine aw_if_eq (tgt := 23) dX4_zeros_17 (by decide) (fun _ => ?_) (fun c => (c rfl).elim)
        refine aw_iinc_2 (c0 := 1) dX4_zeros_23 (by decide) (by decide) rfl ?_
        refine aw_goto (tgt := 4) dX4_zeros_26 (by decide) ?_
        rw [nI_1]
        exact this
  exact loop (t + 1) 0 (by omega)
