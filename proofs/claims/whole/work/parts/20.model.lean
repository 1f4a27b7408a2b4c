/-! the model's big numbers: 96 parts of 28 bits in a row of longs -/
def lar (len : Nat) (g : Nat → Nat) : AC := .inl (.long, len, .inr (.inl (fun i => lN (g i))))
theorem lar_up (len : Nat) (g : Nat → Nat) (j x : Nat) : (.inl (.long, len, .inr (.inl (va_up (fun i => lN (g i)) j (lN x)))) : AC) = lar len (va_up g j x) := by
  unfold lar
  congr 6
  funext i
  simp only [va_up]
  split <;> rfl
theorem aw_lald {M : MI} {G : AG} {pc kc ks n : Nat} {lv : List (Option Value)} {h : Hp} {rest : List Value} {a len : Nat} {g : Nat → Nat} {i : Int32} (hdg : decode M.2.1 pc = .ok (.laload, 1)) (j : Nat) (ha : h a = some (lar len g)) (hi : i.toInt = (j : Int)) (hj : j < len) (kk : AW M G (pc + 1) lv (.long (lN (g j)) :: rest) kc ks n h) : AW M G pc lv (.int i :: .ref a :: rest) kc ks n h := aw_laload hdg ha hi hj kk
theorem aw_last {M : MI} {G : AG} {pc kc ks n : Nat} {lv : List (Option Value)} {h : Hp} {rest : List Value} {a len : Nat} {g : Nat → Nat} {i : Int32} {v : Int64} (hdg : decode M.2.1 pc = .ok (.lastore, 1)) (j x : Nat) (hx : v = lN x) (ha : h a = some (lar len g)) (hi : i.toInt = (j : Int)) (hj : j < len) (kk : AW M G (pc + 1) lv rest kc ks n (hup h a (lar len (va_up g j x)))) : AW M G pc lv (.long v :: .int i :: .ref a :: rest) kc ks n h := by
  subst hx
  refine aw_lastore hdg ha hi hj ?_
  rw [lar_up]
  exact kk
theorem lN_0 : (0 : Int64) = lN 0 := by decide
theorem lN_1' : (1 : Int64) = lN 1 := by decide
def dg (g : Nat → Nat) (v : Nat) : Prop := (∀ i, i < 96 → g i < 2 ^ 28) ∧ bv (2 ^ 28) g 96 = v
theorem dg_lt {g : Nat → Nat} {v : Nat} (h : dg g v) : v < 2 ^ 2688 := by
  have := bv_lt h.1
  rw [h.2, ← Nat.pow_mul] at this
  exact this
theorem dg_congr {g g' : Nat → Nat} {v : Nat} (h : dg g v) (e : ∀ i, i < 96 → g' i = g i) : dg g' v := ⟨fun i hi => by rw [e i hi]; exact h.1 i hi, (bv_congr e).trans h.2⟩
/-- a void answer, no new cells -/
def pv (n : Nat) (P : Hp → Prop) : Option Value → Nat → Hp → Prop := fun r n' h' => r = none ∧ n' = n ∧ P h'
/-- an int, a long; the heap stays -/
def pint (n : Nat) (h : Hp) (x : Int32) : Option Value → Nat → Hp → Prop := fun r n' h' => r = some (.int x) ∧ n' = n ∧ h' = h
def plong (n : Nat) (h : Hp) (x : Int64) : Option Value → Nat → Hp → Prop := fun r n' h' => r = some (.long x) ∧ n' = n ∧ h' = h
def bI (b : Bool) : Int32 := if b then 1 else 0
theorem ct_X8_in (n : Nat) (h : Hp) (v lo hi : Int32) : CT mX8_in 0 0 n h [.int v, .int lo, .int hi] (pint n h (bI (decide (lo ≤ v) && decide (v ≤ hi)))) := by
  refine CT.intro [some (.int v), some (.int lo), some (.int hi)] 0 rfl rfl (by decide) ?_
  intro Q hQ
  refine aw_iload_n (i := 0) dX8_in_0 rfl rfl ?_
  refine aw_iload_n (i := 1) dX8_in_1 rfl rfl ?_
  refine aw_icmp_lt (tgt := 14) dX8_in_2 (by decide) (fun c2 => ?_) (fun c2 => ?_)
  · refine aw_iconst (v := 0) dX8_in_14 (by decide +kernel) ?_
    refine aw_ireturn dX8_in_15 rfl rfl (Nat.le_of_ble_eq_true rfl) (Nat.le_of_ble_eq_true rfl) ?_
    refine hQ _ _ _ ⟨?_, rfl, rfl⟩
    have : ¬ lo ≤ v := Int32.not_le.mpr c2
    simp [bI, this]
  · refine aw_iload_n (i := 0) dX8_in_5 rfl rfl ?_
    refine aw_iload_n (i := 2) dX8_in_6 rfl rfl ?_
    refine aw_icmp_gt (tgt := 14) dX8_in_7 (by decide) (fun c7 => ?_) (fun c7 => ?_)
    · refine aw_iconst (v := 0) dX8_in_14 (by decide +kernel) ?_
      refine aw_ireturn dX8_in_15 rfl rfl (Nat.le_of_ble_eq_true rfl) (Nat.le_of_ble_eq_true rfl) ?_
      refine hQ _ _ _ ⟨?_, rfl, rfl⟩
      have : ¬ v ≤ hi := Int32.not_le.mpr c7
      simp [bI, this]
    · refine aw_iconst (v := 1) dX8_in_10 (by decide +kernel) ?_
      refine aw_goto (tgt := 15) dX8_in_11 (by decide) ?_
      refine aw_ireturn dX8_in_15 rfl rfl (Nat.le_of_ble_eq_true rfl) (Nat.le_of_ble_eq_true rfl) ?_
      refine hQ _ _ _ ⟨?_, rfl, rfl⟩
      have h1 : lo ≤ v := Int32.not_lt.mp c2
      have h2 : v ≤ hi := Int32.not_lt.mp c7
      simp [bI, h1, h2]
theorem ct_X8_become (n : Nat) (h : Hp) (a v : Nat) (g : Nat → Nat) (ha : h a = some (lar 96 g)) (hv : v < 2 ^ 63) : CT mX8_become 0 0 n h [.ref a, .long (lN v)] (pv n (fun h' => ∃ g', h' = hup h a (lar 96 g') ∧ dg g' v)) := by
  refine CT.intro [some (.ref a), some (.long (lN v)), none, none] 1 rfl rfl (by decide) ?_
  intro Q hQ
  refine aw_iconst (v := 0) dX8_become_0 (by decide +kernel) ?_
  refine aw_istore_3 dX8_become_1 (by decide) rfl ?_
  have loop : ∀ (k m : Nat) (g' : Nat → Nat) (h1 : Hp), m + k = 96 → h1 = hup h a (lar 96 g') → (∀ i, i < m → g' i = 0) → AW mX8_become (gq 0 0 Q) 2 [some (.ref a), some (.long (lN v)), none, some (.int (nI m))] [] 0 0 n h1 := by
    intro k
    induction k with
    | zero =>
      intro m g' h1 hm e hz
      subst e
      obtain rfl : m = 96 := by omega
      refine aw_iload_n (i := 3) dX8_become_2 rfl rfl ?_
      refine aw_bipush (v := 96) dX8_become_3 (by decide +kernel) ?_
      refine aw_icmp_ge (tgt := 18) dX8_become_5 (by decide) (fun _ => ?_) (fun c => absurd (by decide) c)
      refine aw_aload_n (i := 0) dX8_become_18 rfl rfl ?_
      refine aw_iconst (v := 0) dX8_become_19 (by decide +kernel) ?_
      refine aw_lload_n (i := 1) dX8_become_20 rfl rfl ?_
      refine aw_ldc2_w qX8_118 dX8_become_21 ?_
      refine aw_land dX8_become_24 ?_
      refine aw_last dX8_become_25 0 (v % 2 ^ 28) (lN_mask28 v) (hup_self _ _ _) (by decide +kernel) (by decide) ?_
      refine aw_aload_n (i := 0) dX8_become_26 rfl rfl ?_
      refine aw_iconst (v := 1) dX8_become_27 (by decide +kernel) ?_
      refine aw_lload_n (i := 1) dX8_become_28 rfl rfl ?_
      refine aw_bipush (v := 28) dX8_become_29 (by decide +kernel) ?_
      refine aw_lshr dX8_become_31 rfl ?_
      refine aw_ldc2_w qX8_118 dX8_become_32 ?_
      refine aw_land dX8_become_35 ?_
      refine aw_last dX8_become_36 1 (v / 2 ^ 28 % 2 ^ 28) (by rw [lN_shr28 hv, lN_mask28]) (hup_self _ _ _) (by decide +kernel) (by decide) ?_
      refine aw_aload_n (i := 0) dX8_become_37 rfl rfl ?_
      refine aw_iconst (v := 2) dX8_become_38 (by decide +kernel) ?_
      refine aw_lload_n (i := 1) dX8_become_39 rfl rfl ?_
      refine aw_bipush (v := 56) dX8_become_40 (by decide +kernel) ?_
      refine aw_lshr dX8_become_42 rfl ?_
      refine aw_last dX8_become_43 2 (v / 2 ^ 56) (lN_shr56 hv) (hup_self _ _ _) (by decide +kernel) (by decide) ?_
      refine aw_return dX8_become_44 rfl (Nat.le_of_ble_eq_true rfl) (Nat.le_of_ble_eq_true rfl) ?_
      refine hQ _ _ _ ⟨rfl, rfl, _, by rw [hup_hup, hup_hup, hup_hup], ?_, ?_⟩
      · intro i hi
        by_cases h2 : i = 2
        · subst h2; rw [va_up_at]; omega
        by_cases h1 : i = 1
        · subst h1; rw [va_up_off (by omega), va_up_at]; omega
        by_cases h0 : i = 0
        · subst h0; rw [va_up_off (by omega), va_up_off (by omega), va_up_at]; omega
        rw [va_up_off h2, va_up_off h1, va_up_off h0, hz i hi]; decide
      · rw [bv_high (m := 3) (by decide) (fun i h3 h96 => by rw [va_up_off (by omega), va_up_off (by omega), va_up_off (by omega), hz i h96])]
        simp only [bv]
        rw [va_up_at, va_up_off (show 1 ≠ 2 by decide), va_up_at, va_up_off (show 0 ≠ 2 by decide), va_up_off (show 0 ≠ 1 by decide), va_up_at]
        omega
    | succ k ih =>
      intro m g' h1 hm e hz
      subst e
      refine aw_iload_n (i := 3) dX8_become_2 rfl rfl ?_
      refine aw_bipush (v := 96) dX8_become_3 (by decide +kernel) ?_
      refine aw_icmp_ge (tgt := 18) dX8_become_5 (by decide) (fun c => absurd c (nI_ge (b := 96) (by omega) (by decide))) (fun _ => ?_)
      refine aw_aload_n (i := 0) dX8_become_8 rfl rfl ?_
      refine aw_iload_n (i := 3) dX8_become_9 rfl rfl ?_
      refine aw_lconst (v := 0) dX8_become_10 (by decide) ?_
      refine aw_last dX8_become_11 m 0 lN_0 (hup_self _ _ _) (nI_toInt (by omega)) (by omega) ?_
      refine aw_iinc_3 (c0 := 1) dX8_become_12 (by decide) (by decide) rfl ?_
      refine aw_goto (tgt := 2) dX8_become_15 (by decide) ?_
      rw [nI_1]
      exact ih (m + 1) _ _ (by omega) (hup_hup _ _ _ _) (fun i hi => by
        by_cases hm : i = m
        · rw [hm, va_up_at]
        · rw [va_up_off hm]; exact hz i (by omega))
  exact loop 96 0 g h (by omega) (hup_id ha).symm (fun i hi => by omega)
