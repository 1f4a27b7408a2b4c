/-! the model's big numbers: 96 parts of 28 bits in a row of longs -/
def lar (len : Nat) (g : Nat → Nat) : AC := .inl (.long, len, .inr (.inl (fun i => lN (g i))))
theorem lar_up (len : Nat) (g : Nat → Nat) (j x : Nat) : (.inl (.long, len, .inr (.inl (va_up (fun i => lN (g i)) j (lN x)))) : AC) = lar len (va_up g j x) := by
  unfold lar
  congr 6
  funext i
  simp only [va_up]
  split <;> rfl
theorem aw_lald {M : MI} {G : AG} {pc kc ks n : Nat} {lv : List (Option Value)} {h : Hp} {rest : List Value} {a len : Nat} {g : Nat → Nat} {i : Int32} (hdg : decode M.2.1 pc = .ok (.laload, 1)) (j : Nat) (ha : h a = some (lar len g)) (hi : i.toInt = (j : Int)) (hj : j < len) (kk : AW M G (pc + 1) lv (.long (lN (g j)) :: rest) kc ks n h) : AW M G pc lv (.int i :: .ref a :: rest) kc ks n h := aw_laload hdg ha hi hj kk
theorem aw_last {M : MI} {G : AG} {pc kc ks n : Nat} {lv : List (Option Value)} {h : Hp} {rest : List Value} {a len : Nat} {g : Nat → Nat} {i : Int32} {v : Int64} (hdg : decode M.2.1 pc = .ok (.lastore, 1)) (j x : Nat) (hx : v = lN x) (ha : h a = some (lar len g)) (hi : i.toInt = (j : Int)) (hj : j < len) (kk : AW M G (pc + 1) lv rest kc ks n (hup h a (lar len (va_up g j x)))) : AW M G pc lv (.long v :: .int i :: .ref a :: rest) kc ks n h := by
  subst hx
  refine aw_lastore hdg ha hi hj ?_
  rw [lar_up]
  exact kk
theorem lN_0 : (0 : Int64) = lN 0 := by decide
theorem lN_1' : (1 : Int64) = lN 1 := by decide
def dg (g : Nat → Nat) (v : Nat) : Prop := (∀ i, i < 96 → g i < 2 ^ 28) ∧ bv (2 ^ 28) g 96 = v
theorem dg_lt {g : Nat → Nat} {v : Nat} (h : dg g v) : v < 2 ^ 2688 := by
  have := bv_lt h.1
  rw [h.2, ← Nat.pow_mul] at this
  exact this
theorem dg_congr {g g' : Nat → Nat} {v : Nat} (h : dg g v) (e : ∀ i, i < 96 → g' i = g i) : dg g' v := ⟨fun i hi => by rw [e i hi]; exact h.1 i hi, (bv_congr e).trans h.2⟩
/-- a void answer, no new cells -/
def pv (n : Nat) (P : Hp → Prop) : Option Value → Nat → Hp → Prop := fun r n' h' => r = none ∧ n = n' ∧ P h'
/-- an int, a long; the heap stays -/
def pint (n : Nat) (h : Hp) (x : Int32) : Option Value → Nat → Hp → Prop := fun r n' h' => r = some (.int x) ∧ n = n' ∧ h = h'
def plong (n : Nat) (h : Hp) (x : Int64) : Option Value → Nat → Hp → Prop := fun r n' h' => r = some (.long x) ∧ n = n' ∧ h = h'
def bI (b : Bool) : Int32 := if b then 1 else 0
theorem ct_X8_in (n : Nat) (h : Hp) (v lo hi : Int32) : CT mX8_in 0 0 n h [.int v, .int lo, .int hi] (pint n h (bI (decide (lo ≤ v) && decide (v ≤ hi)))) := by
  refine CT.intro [some (.int v), some (.int lo), some (.int hi)] 0 rfl rfl (by decide) ?_
  intro Q hQ
  refine aw_iload_n (i := 0) dX8_in_0 rfl rfl ?_
  refine aw_iload_n (i := 1) dX8_in_1 rfl rfl ?_
  refine aw_icmp_lt (tgt := 14) dX8_in_2 (by decide) (fun c2 => ?_) (fun c2 => ?_)
  · refine aw_iconst (v := 0) dX8_in_14 (by decide +kernel) ?_
    refine aw_ireturn dX8_in_15 rfl rfl (Nat.le_of_ble_eq_true rfl) (Nat.le_of_ble_eq_true rfl) ?_
    refine hQ _ _ _ ⟨?_, rfl, rfl⟩
    have : ¬ lo ≤ v := Int32.not_le.mpr c2
    simp [bI, this]
  · refine aw_iload_n (i := 0) dX8_in_5 rfl rfl ?_
    refine aw_iload_n (i := 2) dX8_in_6 rfl rfl ?_
    refine aw_icmp_gt (tgt := 14) dX8_in_7 (by decide) (fun c7 => ?_) (fun c7 => ?_)
    · refine aw_iconst (v := 0) dX8_in_14 (by decide +kernel) ?_
      refine aw_ireturn dX8_in_15 rfl rfl (Nat.le_of_ble_eq_true rfl) (Nat.le_of_ble_eq_true rfl) ?_
      refine hQ _ _ _ ⟨?_, rfl, rfl⟩
      have : ¬ v ≤ hi := Int32.not_le.mpr c7
      simp [bI, this]
    · refine aw_iconst (v := 1) dX8_in_10 (by decide +kernel) ?_
      refine aw_goto (tgt := 15) dX8_in_11 (by decide) ?_
      refine aw_ireturn dX8_in_15 rfl rfl (Nat.le_of_ble_eq_true rfl) (Nat.le_of_ble_eq_true rfl) ?_
      refine hQ _ _ _ ⟨?_, rfl, rfl⟩
      have h1 : lo ≤ v := Int32.not_lt.mp c2
      have h2 : v ≤ hi := Int32.not_lt.mp c7
      simp [bI, h1, h2]
theorem ct_X8_become (n : Nat) (h : Hp) (a v : Nat) (g : Nat → Nat) (ha : h a = some (lar 96 g)) (hv : v < 2 ^ 63) : CT mX8_become 0 0 n h [.ref a, .long (lN v)] (pv n (fun h' => ∃ g', h' = hup h a (lar 96 g') ∧ dg g' v)) := by
  refine CT.intro [some (.ref a), some (.long (lN v)), none, none] 1 rfl rfl (by decide) ?_
  intro Q hQ
  refine aw_iconst (v := 0) dX8_become_0 (by decide +kernel) ?_
  refine aw_istore_3 dX8_become_1 (by decide) rfl ?_
  have loop : ∀ (k m : Nat) (g' : Nat → Nat) (h1 : Hp), m + k = 96 → h1 = hup h a (lar 96 g') → (∀ i, i < m → g' i = 0) → AW mX8_become (gq 0 0 Q) 2 [some (.ref a), some (.long (lN v)), none, some (.int (nI m))] [] 0 0 n h1 := by
    intro k
    induction k with
    | zero =>
      intro m g' h1 hm e hz
      subst e
      obtain rfl : m = 96 := by omega
      refine aw_iload_n (i := 3) dX8_become_2 rfl rfl ?_
      refine aw_bipush (v := 96) dX8_become_3 (by decide +kernel) ?_
      refine aw_icmp_ge (tgt := 18) dX8_become_5 (by decide) (fun _ => ?_) (fun c => (c (by decide)).elim)
      refine aw_aload_n (i := 0) dX8_become_18 rfl rfl ?_
      refine aw_iconst (v := 0) dX8_become_19 (by decide +kernel) ?_
      refine aw_lload_n (i := 1) dX8_become_20 rfl rfl ?_
      refine aw_ldc2_w qX8_118 dX8_become_21 ?_
      refine aw_land dX8_become_24 ?_
      refine aw_last dX8_become_25 0 (v % 2 ^ 28) (lN_mask28 v) (hup_self _ _ _) (by decide +kernel) (by decide) ?_
      refine aw_aload_n (i := 0) dX8_become_26 rfl rfl ?_
      refine aw_iconst (v := 1) dX8_become_27 (by decide +kernel) ?_
      refine aw_lload_n (i := 1) dX8_become_28 rfl rfl ?_
      refine aw_bipush (v := 28) dX8_become_29 (by decide +kernel) ?_
      refine aw_lshr dX8_become_31 rfl ?_
      refine aw_ldc2_w qX8_118 dX8_become_32 ?_
      refine aw_land dX8_become_35 ?_
      refine aw_last dX8_become_36 1 (v / 2 ^ 28 % 2 ^ 28) (by rw [lN_shr28 hv, lN_mask28]) (hup_self _ _ _) (by decide +kernel) (by decide) ?_
      refine aw_aload_n (i := 0) dX8_become_37 rfl rfl ?_
      refine aw_iconst (v := 2) dX8_become_38 (by decide +kernel) ?_
      refine aw_lload_n (i := 1) dX8_become_39 rfl rfl ?_
      refine aw_bipush (v := 56) dX8_become_40 (by decide +kernel) ?_
      refine aw_lshr dX8_become_42 rfl ?_
      refine aw_last dX8_become_43 2 (v / 2 ^ 56) (lN_shr56 hv) (hup_self _ _ _) (by decide +kernel) (by decide) ?_
      refine aw_return dX8_become_44 rfl (Nat.le_of_ble_eq_true rfl) (Nat.le_of_ble_eq_true rfl) ?_
      refine hQ _ _ _ ⟨rfl, rfl, _, by rw [hup_hup, hup_hup, hup_hup], ?_, ?_⟩
      · intro i hi
        by_cases h2 : i = 2
        · subst h2; rw [va_up_at]; omega
        by_cases h1 : i = 1
        · subst h1; rw [va_up_off (by omega), va_up_at]; omega
        by_cases h0 : i = 0
        · subst h0; rw [va_up_off (by omega), va_up_off (by omega), va_up_at]; omega
        rw [va_up_off h2, va_up_off h1, va_up_off h0, hz i hi]; decide
      · rw [bv_high (m := 3) (by decide) (fun i h3 h96 => by rw [va_up_off (by omega), va_up_off (by omega), va_up_off (by omega), hz i h96])]
        rw [bv_s _ _ 2, bv_s _ _ 1, bv_s _ _ 0, bv_0, va_up_at, va_up_off (show 1 ≠ 2 by decide), va_up_at, va_up_off (show 0 ≠ 2 by decide), va_up_off (show 0 ≠ 1 by decide), va_up_at]
        omega
    | succ k ih =>
      intro m g' h1 hm e hz
      subst e
      refine aw_iload_n (i := 3) dX8_become_2 rfl rfl ?_
      refine aw_bipush (v := 96) dX8_become_3 (by decide +kernel) ?_
      refine aw_icmp_ge (tgt := 18) dX8_become_5 (by decide) (fun c => absurd c (nI_ge (b := 96) (by omega) (by decide))) (fun _ => ?_)
      refine aw_aload_n (i := 0) dX8_become_8 rfl rfl ?_
      refine aw_iload_n (i := 3) dX8_become_9 rfl rfl ?_
      refine aw_lconst (v := 0) dX8_become_10 (by decide) ?_
      refine aw_last dX8_become_11 m 0 lN_0 (hup_self _ _ _) (nI_toInt (by omega)) (by omega) ?_
      refine aw_iinc_3 (c0 := 1) dX8_become_12 (by decide) (by decide) rfl ?_
      refine aw_goto (tgt := 2) dX8_become_15 (by decide) ?_
      rw [nI_1]
      exact ih (m + 1) _ _ (by omega) (hup_hup _ _ _ _) (fun i hi => by
        by_cases hm : i = m
        · rw [hm, va_up_at]
        · rw [va_up_off hm]; exact hz i (by omega))
  exact loop 96 0 g h (by omega) (hup_id ha).symm (fun i hi => by omega)
theorem ct_X8_copy (n : Nat) (h : Hp) (a b v : Nat) (g gb : Nat → Nat) (ha : h a = some (lar 96 g)) (hb : h b = some (lar 96 gb)) (hba : b ≠ a) (hv : dg gb v) : CT mX8_copy 0 0 n h [.ref a, .ref b] (pv n (fun h' => ∃ g', h' = hup h a (lar 96 g') ∧ dg g' v)) := by
  refine CT.intro [some (.ref a), some (.ref b), none] 1 rfl rfl (by decide) ?_
  intro Q hQ
  refine aw_iconst (v := 0) dX8_copy_0 (by decide +kernel) ?_
  refine aw_istore_2 dX8_copy_1 (by decide) rfl ?_
  have loop : ∀ (k m : Nat) (g' : Nat → Nat) (h1 : Hp), m + k = 96 → h1 = hup h a (lar 96 g') → (∀ i, i < m → g' i = gb i) → AW mX8_copy (gq 0 0 Q) 2 [some (.ref a), some (.ref b), some (.int (nI m))] [] 0 0 n h1 := by
    intro k
    induction k with
    | zero =>
      intro m g' h1 hm e hz
      subst e
      obtain rfl : m = 96 := by omega
      refine aw_iload_n (i := 2) dX8_copy_2 rfl rfl ?_
      refine aw_bipush (v := 96) dX8_copy_3 (by decide +kernel) ?_
      refine aw_icmp_ge (tgt := 20) dX8_copy_5 (by decide) (fun _ => ?_) (fun c => (c (by decide)).elim)
      refine aw_return dX8_copy_20 rfl (Nat.le_of_ble_eq_true rfl) (Nat.le_of_ble_eq_true rfl) ?_
      exact hQ _ _ _ ⟨rfl, rfl, g', rfl, dg_congr hv hz⟩
    | succ k ih =>
      intro m g' h1 hm e hz
      subst e
      refine aw_iload_n (i := 2) dX8_copy_2 rfl rfl ?_
      refine aw_bipush (v := 96) dX8_copy_3 (by decide +kernel) ?_
      refine aw_icmp_ge (tgt := 20) dX8_copy_5 (by decide) (fun c => absurd c (nI_ge (b := 96) (by omega) (by decide))) (fun _ => ?_)
      refine aw_aload_n (i := 0) dX8_copy_8 rfl rfl ?_
      refine aw_iload_n (i := 2) dX8_copy_9 rfl rfl ?_
      refine aw_aload_n (i := 1) dX8_copy_10 rfl rfl ?_
      refine aw_iload_n (i := 2) dX8_copy_11 rfl rfl ?_
      refine aw_lald dX8_copy_12 m (by rw [hup_ne hba]; exact hb) (nI_toInt (by omega)) (by omega) ?_
      refine aw_last dX8_copy_13 m (gb m) rfl (hup_self _ _ _) (nI_toInt (by omega)) (by omega) ?_
      refine aw_iinc_2 (c0 := 1) dX8_copy_14 (by decide) (by decide) rfl ?_
      refine aw_goto (tgt := 2) dX8_copy_17 (by decide) ?_
      rw [nI_1]
      exact ih (m + 1) _ _ (by omega) (hup_hup _ _ _ _) (fun i hi => by
        by_cases hm : i = m
        · rw [hm, va_up_at]
        · rw [va_up_off hm]; exact hz i (by omega))
  exact loop 96 0 g h (by omega) (hup_id ha).symm (fun i hi => by omega)
theorem ct_X8_load (n : Nat) (h : Hp) (a b p k0 len : Nat) (g gb : Nat → Nat) (ha : h a = some (lar 96 g)) (hb : h b = some (lar len gb)) (hba : b ≠ a) (hl : len < 2 ^ 31) (hp : p + k0 ≤ len) (hk : k0 ≤ 96) (hd : ∀ i, i < k0 → gb (p + i) < 2 ^ 28) : CT mX8_load 0 0 n h [.ref a, .ref b, .int (nI p), .int (nI k0)] (pv n (fun h' => ∃ g', h' = hup h a (lar 96 g') ∧ dg g' (bv (2 ^ 28) (fun i => gb (p + i)) k0))) := by
  refine CT.intro [some (.ref a), some (.ref b), some (.int (nI p)), some (.int (nI k0)), none] 1 rfl rfl (by decide) ?_
  intro Q hQ
  refine aw_iconst (v := 0) dX8_load_0 (by decide +kernel) ?_
  refine aw_istore_4 dX8_load_1 (by decide) rfl ?_
  have loop : ∀ (k m : Nat) (g' : Nat → Nat) (h1 : Hp), m + k = 96 → h1 = hup h a (lar 96 g') → (∀ i, i < m → g' i = if i < k0 then gb (p + i) else 0) → AW mX8_load (gq 0 0 Q) 3 [some (.ref a), some (.ref b), some (.int (nI p)), some (.int (nI k0)), some (.int (nI m))] [] 0 0 n h1 := by
    intro k
    induction k with
    | zero =>
      intro m g' h1 hm e hz
      subst e
      obtain rfl : m = 96 := by omega
      refine aw_iload dX8_load_3 rfl ?_
      refine aw_bipush (v := 96) dX8_load_5 (by decide +kernel) ?_
      refine aw_icmp_ge (tgt := 36) dX8_load_7 (by decide) (fun _ => ?_) (fun c => (c (by decide)).elim)
      refine aw_return dX8_load_36 rfl (Nat.le_of_ble_eq_true rfl) (Nat.le_of_ble_eq_true rfl) ?_
      refine hQ _ _ _ ⟨rfl, rfl, g', rfl, fun i hi => ?_, ?_⟩
      · rw [hz i hi]; split
        · exact hd i (by assumption)
        · decide
      · rw [bv_high (m := k0) hk (fun i h1 h2 => by rw [hz i h2, if_neg (by omega)])]
        exact bv_congr (fun i hi => by rw [hz i (by omega), if_pos hi])
    | succ k ih =>
      intro m g' h1 hm e hz
      subst e
      refine aw_iload dX8_load_3 rfl ?_
      refine aw_bipush (v := 96) dX8_load_5 (by decide +kernel) ?_
      refine aw_icmp_ge (tgt := 36) dX8_load_7 (by decide) (fun c => absurd c (nI_ge (b := 96) (by omega) (by decide))) (fun _ => ?_)
      refine aw_aload_n (i := 0) dX8_load_10 rfl rfl ?_
      refine aw_iload dX8_load_11 rfl ?_
      refine aw_iload dX8_load_13 rfl ?_
      refine aw_iload_n (i := 3) dX8_load_15 rfl rfl ?_
      refine aw_icmp_ge (tgt := 28) dX8_load_16 (by decide) (fun c16 => ?_) (fun c16 => ?_)
      · refine aw_lconst (v := 0) dX8_load_28 (by decide) ?_
        refine aw_last dX8_load_29 m 0 lN_0 (hup_self _ _ _) (nI_toInt (by omega)) (by omega) ?_
        refine aw_iinc_4 (c0 := 1) dX8_load_30 (by decide) (by decide) rfl ?_
        refine aw_goto (tgt := 3) dX8_load_33 (by decide) ?_
        rw [nI_1]
        have c16 : k0 ≤ m := (nI_leI (by omega) (by omega)).mp c16
        exact ih (m + 1) _ _ (by omega) (hup_hup _ _ _ _) (fun i hi => by
          by_cases hm : i = m
          · rw [hm, va_up_at, if_neg (by omega)]
          · rw [va_up_off hm]; exact hz i (by omega))
      · have c16 : ¬ k0 ≤ m := fun q => c16 ((nI_leI (by omega) (by omega)).mpr q)
        refine aw_aload_n (i := 1) dX8_load_19 rfl rfl ?_
        refine aw_iload_n (i := 2) dX8_load_20 rfl rfl ?_
        refine aw_iload dX8_load_21 rfl ?_
        refine aw_iadd dX8_load_23 ?_
        refine aw_lald dX8_load_24 (p + m) (by rw [hup_ne hba]; exact hb) (by rw [nI_add]; exact nI_toInt (by omega)) (by omega) ?_
        refine aw_goto (tgt := 29) dX8_load_25 (by decide) ?_
        refine aw_last dX8_load_29 m (gb (p + m)) rfl (hup_self _ _ _) (nI_toInt (by omega)) (by omega) ?_
        refine aw_iinc_4 (c0 := 1) dX8_load_30 (by decide) (by decide) rfl ?_
        refine aw_goto (tgt := 3) dX8_load_33 (by decide) ?_
        rw [nI_1]
        exact ih (m + 1) _ _ (by omega) (hup_hup _ _ _ _) (fun i hi => by
          by_cases hm : i = m
          · rw [hm, va_up_at, if_pos (by omega)]
          · rw [va_up_off hm]; exact hz i (by omega))
  exact loop 96 0 g h (by omega) (hup_id ha).symm (fun i hi => by omega)
def spl (gt ga : Nat → Nat) (p k0 : Nat) : Nat → Nat := fun i => if p ≤ i ∧ i < p + k0 then ga (i - p) else gt i
theorem spl_0 (gt ga : Nat → Nat) (p : Nat) : spl gt ga p 0 = gt := by funext i; unfold spl; rw [if_neg (by omega)]
theorem spl_s (gt ga : Nat → Nat) (p m : Nat) : va_up (spl gt ga p m) (p + m) (ga m) = spl gt ga p (m + 1) := by
  funext i
  simp only [spl, va_up]
  by_cases h : i = p + m
  · subst h; rw [if_pos rfl, if_pos (by omega)]; congr 1; omega
  · rw [if_neg h]
    by_cases h2 : p ≤ i ∧ i < p + m
    · rw [if_pos h2, if_pos (by omega)]
    · rw [if_neg h2, if_neg (by omega)]
theorem spl_in {gt ga : Nat → Nat} {p k0 i : Nat} (h : i < k0) : spl gt ga p k0 (p + i) = ga i := by unfold spl; rw [if_pos (by omega)]; congr 1; omega
theorem spl_out {gt ga : Nat → Nat} {p k0 i : Nat} (h : i < p ∨ p + k0 ≤ i) : spl gt ga p k0 i = gt i := by unfold spl; rw [if_neg (by omega)]
theorem ct_X8_store (n : Nat) (h : Hp) (a b p k0 len : Nat) (gt ga : Nat → Nat) (hb : h b = some (lar len gt)) (ha : h a = some (lar 96 ga)) (hba : a ≠ b) (hl : len < 2 ^ 31) (hp : p + k0 ≤ len) (hk : k0 ≤ 96) : CT mX8_store 0 0 n h [.ref b, .int (nI p), .int (nI k0), .ref a] (pv n (fun h' => h' = hup h b (lar len (spl gt ga p k0)))) := by
  refine CT.intro [some (.ref b), some (.int (nI p)), some (.int (nI k0)), some (.ref a), none] 1 rfl rfl (by decide) ?_
  intro Q hQ
  refine aw_iconst (v := 0) dX8_store_0 (by decide +kernel) ?_
  refine aw_istore_4 dX8_store_1 (by decide) rfl ?_
  have loop : ∀ (k m : Nat) (h1 : Hp), m + k = k0 → h1 = hup h b (lar len (spl gt ga p m)) → AW mX8_store (gq 0 0 Q) 3 [some (.ref b), some (.int (nI p)), some (.int (nI k0)), some (.ref a), some (.int (nI m))] [] 0 0 n h1 := by
    intro k
    induction k with
    | zero =>
      intro m h1 hm e
      subst e
      obtain rfl : m = k0 := by omega
      refine aw_iload dX8_store_3 rfl ?_
      refine aw_iload_n (i := 2) dX8_store_5 rfl rfl ?_
      refine aw_icmp_ge (tgt := 25) dX8_store_6 (by decide) (fun _ => ?_) (fun c => (c (nI_le (Nat.le_refl _) (by omega))).elim)
      refine aw_return dX8_store_25 rfl (Nat.le_of_ble_eq_true rfl) (Nat.le_of_ble_eq_true rfl) ?_
      exact hQ _ _ _ ⟨rfl, rfl, rfl⟩
    | succ k ih =>
      intro m h1 hm e
      subst e
      refine aw_iload dX8_store_3 rfl ?_
      refine aw_iload_n (i := 2) dX8_store_5 rfl rfl ?_
      refine aw_icmp_ge (tgt := 25) dX8_store_6 (by decide) (fun c => absurd c (nI_ge (by omega) (by omega))) (fun _ => ?_)
      refine aw_aload_n (i := 0) dX8_store_9 rfl rfl ?_
      refine aw_iload_n (i := 1) dX8_store_10 rfl rfl ?_
      refine aw_iload dX8_store_11 rfl ?_
      refine aw_iadd dX8_store_13 ?_
      refine aw_aload_n (i := 3) dX8_store_14 rfl rfl ?_
      refine aw_iload dX8_store_15 rfl ?_
      refine aw_lald dX8_store_17 m (by rw [hup_ne hba]; exact ha) (nI_toInt (by omega)) (by omega) ?_
      refine aw_last dX8_store_18 (p + m) (ga m) rfl (hup_self _ _ _) (by rw [nI_add]; exact nI_toInt (by omega)) (by omega) ?_
      refine aw_iinc_4 (c0 := 1) dX8_store_19 (by decide) (by decide) rfl ?_
      refine aw_goto (tgt := 3) dX8_store_22 (by decide) ?_
      rw [nI_1]
      exact ih (m + 1) _ (by omega) (by rw [hup_hup, spl_s])
  exact loop k0 0 h (by omega) (by rw [spl_0]; exact (hup_id hb).symm)
/-- t parts are used: those from t on are 0, the one below isn't -/
def tpp (g : Nat → Nat) (t : Nat) : Prop := t ≤ 96 ∧ (∀ i, t ≤ i → i < 96 → g i = 0) ∧ (0 < t → g (t - 1) ≠ 0)
theorem ct_X8_top (n : Nat) (h : Hp) (a : Nat) (g : Nat → Nat) (ha : h a = some (lar 96 g)) (hd : ∀ i, i < 96 → g i < 2 ^ 63) : CT mX8_top 0 0 n h [.ref a] (fun r n' h' => n = n' ∧ h = h' ∧ ∃ t, r = some (.int (pI t)) ∧ tpp g t) := by
  refine CT.intro [some (.ref a), none] 1 rfl rfl (by decide) ?_
  intro Q hQ
  refine aw_bipush (v := 95) dX8_top_0 (by decide +kernel) ?_
  refine aw_istore_1 dX8_top_2 (by decide) rfl ?_
  have loop : ∀ (m : Nat), m ≤ 96 → (∀ i, m ≤ i → i < 96 → g i = 0) → AW mX8_top (gq 0 0 Q) 3 [some (.ref a), some (.int (pI m))] [] 0 0 n h := by
    intro m
    induction m with
    | zero =>
      intro hm hz
      refine aw_iload_n (i := 1) dX8_top_3 rfl rfl ?_
      refine aw_if_lt (tgt := 21) dX8_top_4 (by decide) (fun _ => ?_) (fun c => (c ((pI_lt0 (by decide)).mpr rfl)).elim)
      refine aw_iload_n (i := 1) dX8_top_21 rfl rfl ?_
      refine aw_ireturn dX8_top_22 rfl rfl (Nat.le_of_ble_eq_true rfl) (Nat.le_of_ble_eq_true rfl) ?_
      exact hQ _ _ _ ⟨rfl, rfl, 0, rfl, by omega, hz, by omega⟩
    | succ m ih =>
      intro hm hz
      rw [pI_s]
      refine aw_iload_n (i := 1) dX8_top_3 rfl rfl ?_
      refine aw_if_lt (tgt := 21) dX8_top_4 (by decide) (fun c => absurd c (nI_pos (by omega))) (fun _ => ?_)
      refine aw_aload_n (i := 0) dX8_top_7 rfl rfl ?_
      refine aw_iload_n (i := 1) dX8_top_8 rfl rfl ?_
      refine aw_lald dX8_top_9 m ha (nI_toInt (by omega)) (by omega) ?_
      refine aw_lconst (v := 0) dX8_top_10 (by decide) ?_
      refine aw_lcmp dX8_top_11 ?_
      refine aw_if_ne (tgt := 21) dX8_top_12 (by decide) (fun c12 => ?_) (fun c12 => ?_)
      · refine aw_iload_n (i := 1) dX8_top_21 rfl rfl ?_
        refine aw_ireturn dX8_top_22 rfl rfl (Nat.le_of_ble_eq_true rfl) (Nat.le_of_ble_eq_true rfl) ?_
        refine hQ _ _ _ ⟨rfl, rfl, m + 1, by rw [pI_s], by omega, hz, fun _ => ?_⟩
        intro e0
        rw [Nat.add_sub_cancel] at e0
        rw [e0] at c12
        exact c12 ((lg_cmp_eq _ _).mpr lN_0.symm)
      · refine aw_iinc_1 (c0 := (-1)) dX8_top_15 (by decide) (by decide) rfl ?_
        refine aw_goto (tgt := 3) dX8_top_18 (by decide) ?_
        rw [pI_d]
        refine ih (by omega) (fun i h1 h2 => ?_)
        by_cases hi : i = m
        · subst hi
          have c12 : lg_cmp (lN (g i)) 0 = 0 := by simpa using c12
          rw [lg_cmp_eq, lN_0, pk_lEQ (hd i h2) (by decide)] at c12
          exact c12
        · exact hz i (by omega) h2
  exact loop 96 (by omega) (fun i h1 h2 => by omega)
theorem tpp_val {g : Nat → Nat} {t v : Nat} (h : tpp g t) (hv : dg g v) : v = bv (2 ^ 28) g t := by rw [← hv.2, bv_high h.1 h.2.1]
theorem tpp_ge {g : Nat → Nat} {t v : Nat} (h : tpp g (t + 1)) (hv : dg g v) : (2 ^ 28) ^ t ≤ v := by
  have h1 := bv_ge (B := 2 ^ 28) (g := g) (i := t) (n := 96) (by have := h.1; omega)
  rw [hv.2] at h1
  have h2 := h.2.2 (by omega)
  rw [Nat.add_sub_cancel] at h2
  have : 1 * (2 ^ 28) ^ t ≤ g t * (2 ^ 28) ^ t := Nat.mul_le_mul_right _ (by omega)
  omega
theorem tpp_le {g : Nat → Nat} {t v k : Nat} (h : tpp g t) (hv : dg g v) (hk : v < 2 ^ (28 * k)) : t ≤ k := by
  rcases t with _ | t
  · omega
  · have := tpp_ge h hv
    rw [← Nat.pow_mul] at this
    have h2 : 2 ^ (28 * t) < 2 ^ (28 * k) := by omega
    have := (Nat.pow_lt_pow_iff_right (by decide)).mp h2
    omega
theorem tpp_0 {g : Nat → Nat} {t v : Nat} (h : tpp g t) (hv : dg g v) : t = 0 ↔ v = 0 := by
  constructor
  · rintro rfl; rw [tpp_val h hv, bv_0]
  · rintro rfl
    rcases t with _ | t
    · rfl
    · have := tpp_ge h hv
      have : 0 < (2 ^ 28) ^ t := Nat.pow_pos (by decide)
      omega
theorem ct_X8_bits (n : Nat) (h : Hp) (a v : Nat) (g : Nat → Nat) (ha : h a = some (lar 96 g)) (hv : dg g v) : CT mX8_bits 0 0 n h [.ref a] (pint n h (nI (nb v))) := by
  refine CT.intro [some (.ref a), none, none, none, none] 4 rfl rfl (by decide) ?_
  intro Q hQ
  refine aw_aload_n (i := 0) dX8_bits_0 rfl rfl ?_
  refine aw_invokestatic kX8_120 dX8_bits_1 (ct_X8_top n h a g ha (fun i hi => Nat.lt_of_lt_of_le (hv.1 i hi) (by decide))) rfl rfl (Nat.le_of_ble_eq_true rfl) ⟨Nat.le_of_ble_eq_true rfl, Nat.le_of_ble_eq_true rfl⟩ ⟨Nat.le_of_ble_eq_true rfl, Nat.le_of_ble_eq_true rfl⟩ ?_
  rintro _ _ _ ⟨rfl, rfl, t, rfl, ht⟩
  refine aw_istore_1 dX8_bits_4 (by decide) rfl ?_
  refine aw_iload_n (i := 1) dX8_bits_5 rfl rfl ?_
  rcases t with _ | t
  · refine aw_if_ge (tgt := 11) dX8_bits_6 (by decide) (fun c => absurd c (by rw [pI_0]; decide)) (fun _ => ?_)
    refine aw_iconst (v := 0) dX8_bits_9 (by decide +kernel) ?_
    refine aw_ireturn dX8_bits_10 rfl rfl (Nat.le_of_ble_eq_true rfl) (Nat.le_of_ble_eq_true rfl) ?_
    refine hQ _ _ _ ⟨?_, rfl, rfl⟩
    rw [(tpp_0 ht hv).mp rfl]; rfl
  · rw [pI_s]
    have ht96 := ht.1
    have hd := hv.1 t (by omega)
    have hne := ht.2.2 (by omega)
    rw [Nat.add_sub_cancel] at hne
    refine aw_if_ge (tgt := 11) dX8_bits_6 (by decide) (fun _ => ?_) (fun c => (c (nI_pos' (by omega))).elim)
    refine aw_bipush (v := 28) dX8_bits_11 (by decide +kernel) ?_
    refine aw_iload_n (i := 1) dX8_bits_13 rfl rfl ?_
    refine aw_imul dX8_bits_14 ?_
    refine aw_istore_2 dX8_bits_15 (by decide) rfl ?_
    refine aw_aload_n (i := 0) dX8_bits_16 rfl rfl ?_
    refine aw_iload_n (i := 1) dX8_bits_17 rfl rfl ?_
    refine aw_lald dX8_bits_18 t ha (nI_toInt (by omega)) (by omega) ?_
    refine aw_lstore_3 dX8_bits_19 (by decide) rfl ?_
    have loop : ∀ (f d c : Nat), d ≤ f → d < 2 ^ 28 → c + nb d = nb (g t) → AW mX8_bits (gq 0 0 Q) 20 [some (.ref a), some (.int (nI t)), some (.int (nI (28 * t + c))), some (.long (lN d)), none] [] 0 0 n h := by
      intro f
      induction f with
      | zero =>
        intro d c hf hd2 hc
        obtain rfl : d = 0 := by omega
        refine aw_lload_n (i := 3) dX8_bits_20 rfl rfl ?_
        refine aw_lconst (v := 0) dX8_bits_21 (by decide) ?_
        refine aw_lcmp dX8_bits_22 ?_
        refine aw_if_le (tgt := 36) dX8_bits_23 (by decide) (fun _ => ?_) (fun c => (c (by rw [lg_cmp_le]; decide)).elim)
        refine aw_iload_n (i := 2) dX8_bits_36 rfl rfl ?_
        refine aw_ireturn dX8_bits_37 rfl rfl (Nat.le_of_ble_eq_true rfl) (Nat.le_of_ble_eq_true rfl) ?_
        refine hQ _ _ _ ⟨?_, rfl, rfl⟩
        rw [tpp_val ht hv, bv_s _ _ t]
        rw [← Nat.pow_mul, nb_add (by rw [Nat.pow_mul]; exact bv_lt (fun i hi => hv.1 i (by omega))) (by omega), ← hc, nb_zero]; rfl
      | succ f ih =>
        intro d c hf hd2 hc
        rcases Nat.eq_zero_or_pos d with rfl | hp
        · exact ih 0 c (by omega) hd2 hc
        · refine aw_lload_n (i := 3) dX8_bits_20 rfl rfl ?_
          refine aw_lconst (v := 0) dX8_bits_21 (by decide) ?_
          refine aw_lcmp dX8_bits_22 ?_
          refine aw_if_le (tgt := 36) dX8_bits_23 (by decide) (fun c => absurd c (by rw [lg_cmp_le, lN_0, pk_lLE (by omega) (by decide)]; omega)) (fun _ => ?_)
          refine aw_iinc_2 (c0 := 1) dX8_bits_26 (by decide) (by decide) rfl ?_
          refine aw_lload_n (i := 3) dX8_bits_29 rfl rfl ?_
          refine aw_iconst (v := 1) dX8_bits_30 (by decide +kernel) ?_
          refine aw_lshr dX8_bits_31 rfl ?_
          refine aw_lstore_3 dX8_bits_32 (by decide) rfl ?_
          refine aw_goto (tgt := 20) dX8_bits_33 (by decide) ?_
          rw [lN_shr1 (by omega), nI_1]
          have := nb_half hp
          exact ih (d / 2) (c + 1) (by omega) (by omega) (by omega)
    have e : (28 : Int32) * nI t = nI (28 * t + 0) := by rw [show (28 : Int32) = nI 28 from rfl, pk_mul]; rfl
    rw [e]
    exact loop (g t) (g t) 0 (Nat.le_refl _) hd (by omega)
theorem cmp_lt {a b : Nat} (h : a < b) : cmpI a b = -1 := by simp [cmpI, h]
theorem cmp_gt {a b : Nat} (h : b < a) : cmpI a b = 1 := by unfold cmpI; rw [if_neg (by omega), if_neg (by omega)]
theorem cmp_eq (a : Nat) : cmpI a a = 0 := by simp [cmpI]
theorem ct_X8_compare (n : Nat) (h : Hp) (a b va vb : Nat) (ga gb : Nat → Nat) (ha : h a = some (lar 96 ga)) (hb : h b = some (lar 96 gb)) (hva : dg ga va) (hvb : dg gb vb) : CT mX8_compare 0 0 n h [.ref a, .ref b] (pint n h (cmpI va vb)) := by
  refine CT.intro [some (.ref a), some (.ref b), none] 1 rfl rfl (by decide) ?_
  intro Q hQ
  refine aw_bipush (v := 95) dX8_compare_0 (by decide +kernel) ?_
  refine aw_istore_2 dX8_compare_2 (by decide) rfl ?_
  have loop : ∀ (m : Nat), m ≤ 96 → (∀ i, m ≤ i → i < 96 → ga i = gb i) → AW mX8_compare (gq 0 0 Q) 3 [some (.ref a), some (.ref b), some (.int (pI m))] [] 0 0 n h := by
    intro m
    induction m with
    | zero =>
      intro hm hz
      refine aw_iload_n (i := 2) dX8_compare_3 rfl rfl ?_
      refine aw_if_lt (tgt := 39) dX8_compare_4 (by decide) (fun _ => ?_) (fun c => (c ((pI_lt0 (by decide)).mpr rfl)).elim)
      refine aw_iconst (v := 0) dX8_compare_39 (by decide +kernel) ?_
      refine aw_ireturn dX8_compare_40 rfl rfl (Nat.le_of_ble_eq_true rfl) (Nat.le_of_ble_eq_true rfl) ?_
      refine hQ _ _ _ ⟨?_, rfl, rfl⟩
      have : va = vb := by rw [← hva.2, ← hvb.2]; exact bv_congr (fun i hi => hz i (by omega) hi)
      rw [this, cmp_eq]
    | succ m ih =>
      intro hm hz
      rw [pI_s]
      have b1 := hva.1 m (by omega)
      have b2 := hvb.1 m (by omega)
      refine aw_iload_n (i := 2) dX8_compare_3 rfl rfl ?_
      refine aw_if_lt (tgt := 39) dX8_compare_4 (by decide) (fun c => absurd c (nI_pos (by omega))) (fun _ => ?_)
      refine aw_aload_n (i := 0) dX8_compare_7 rfl rfl ?_
      refine aw_iload_n (i := 2) dX8_compare_8 rfl rfl ?_
      refine aw_lald dX8_compare_9 m ha (nI_toInt (by omega)) (by omega) ?_
      refine aw_aload_n (i := 1) dX8_compare_10 rfl rfl ?_
      refine aw_iload_n (i := 2) dX8_compare_11 rfl rfl ?_
      refine aw_lald dX8_compare_12 m hb (nI_toInt (by omega)) (by omega) ?_
      refine aw_lcmp dX8_compare_13 ?_
      refine aw_if_eq (tgt := 33) dX8_compare_14 (by decide) (fun c14 => ?_) (fun c14 => ?_)
      · refine aw_iinc_2 (c0 := (-1)) dX8_compare_33 (by decide) (by decide) rfl ?_
        refine aw_goto (tgt := 3) dX8_compare_36 (by decide) ?_
        rw [pI_d]
        rw [lg_cmp_eq, pk_lEQ (by omega) (by omega)] at c14
        refine ih (by omega) (fun i h1 h2 => ?_)
        by_cases hi : i = m
        · rw [hi]; exact c14
        · exact hz i (by omega) h2
      · refine aw_aload_n (i := 0) dX8_compare_17 rfl rfl ?_
        refine aw_iload_n (i := 2) dX8_compare_18 rfl rfl ?_
        refine aw_lald dX8_compare_19 m ha (nI_toInt (by omega)) (by omega) ?_
        refine aw_aload_n (i := 1) dX8_compare_20 rfl rfl ?_
        refine aw_iload_n (i := 2) dX8_compare_21 rfl rfl ?_
        refine aw_lald dX8_compare_22 m hb (nI_toInt (by omega)) (by omega) ?_
        refine aw_lcmp dX8_compare_23 ?_
        rw [lg_cmp_eq, pk_lEQ (by omega) (by omega)] at c14
        refine aw_if_ge (tgt := 31) dX8_compare_24 (by decide) (fun c24 => ?_) (fun c24 => ?_)
        · refine aw_iconst (v := 1) dX8_compare_31 (by decide +kernel) ?_
          refine aw_ireturn dX8_compare_32 rfl rfl (Nat.le_of_ble_eq_true rfl) (Nat.le_of_ble_eq_true rfl) ?_
          rw [lg_cmp_ge, pk_lLE (by omega) (by omega)] at c24
          refine hQ _ _ _ ⟨?_, rfl, rfl⟩
          rw [cmp_gt]
          rw [← hva.2, ← hvb.2]
          exact bv_lt_at (i := m) (by omega) hvb.1 (fun j h1 h2 => (hz j (by omega) h2).symm) (by omega)
        · refine aw_iconst (v := (-1)) dX8_compare_27 (by decide +kernel) ?_
          refine aw_goto (tgt := 32) dX8_compare_28 (by decide) ?_
          refine aw_ireturn dX8_compare_32 rfl rfl (Nat.le_of_ble_eq_true rfl) (Nat.le_of_ble_eq_true rfl) ?_
          rw [lg_cmp_ge, pk_lLE (by omega) (by omega)] at c24
          refine hQ _ _ _ ⟨?_, rfl, rfl⟩
          rw [cmp_lt]
          rw [← hva.2, ← hvb.2]
          exact bv_lt_at (i := m) (by omega) hva.1 (fun j h1 h2 => hz j (by omega) h2) (by omega)
  exact loop 96 (by omega) (fun i h1 h2 => by omega)
