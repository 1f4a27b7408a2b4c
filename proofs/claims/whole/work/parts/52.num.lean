theorem p32s (m : Nat) : ((2 : Nat) ^ 32) ^ (m + 1) = (2 ^ 32) ^ m * 2 ^ 32 := Nat.pow_succ _ _
theorem num_szlt {l l' : Nat} {c c' : Nat × (Nat → Nat)} {u v : Nat} (hu : raw l c u) (hv : num l' c' v) (hs : c.1 < c'.1) : u < v := by
  have h1 := raw_lt hu
  have h2 := num_ge hv (by omega)
  have h3 : ((2 : Nat) ^ 32) ^ c.1 ≤ (2 ^ 32) ^ (c'.1 - 1) := Nat.pow_le_pow_right (by decide) (by omega)
  omega
theorem ct_X3_against (n : Nat) (h : Hp) (L : Nat → Nat) (C : NC) (a b u v : Nat) (w : LW L) (ha : L a ≠ 0) (hb : L b ≠ 0) (hu : num (L a) (C a) u) (hv : num (L b) (C b) v) : CT mX3_against 0 0 n (nh h L C) [.ref a, .ref b] (pint n (nh h L C) (cmpI u v)) := by
  refine CT.intro [some (.ref a), some (.ref b), none] 1 rfl rfl (by decide) ?_
  intro Q hQ
  have hla := (w a).1
  have hlb := (w b).1
  have hsa := hu.1.1
  have hsb := hv.1.1
  refine aw_aload_n (i := 0) dX3_against_0 rfl rfl ?_
  refine aw_getfield fX3_9 dX3_against_1 (nh_o h C ha) rfl ?_
  refine aw_aload_n (i := 1) dX3_against_4 rfl rfl ?_
  refine aw_getfield fX3_9 dX3_against_5 (nh_o h C hb) rfl ?_
  by_cases hs : (C a).1 = (C b).1
  · refine aw_icmp_eq (tgt := 28) dX3_against_8 (by decide) (fun _ => ?_) (fun c => (c (by rw [hs])).elim)
    refine aw_aload_n (i := 0) dX3_against_28 rfl rfl ?_
    refine aw_getfield fX3_9 dX3_against_29 (nh_o h C ha) rfl ?_
    refine aw_iconst (v := 1) dX3_against_32 (by decide +kernel) ?_
    refine aw_isub dX3_against_33 ?_
    rw [show nI (C a).1 - 1 = pI (C a).1 by rw [← pI_d, Int32.sub_eq_add_neg]]
    refine aw_istore_2 dX3_against_34 (by decide) rfl ?_
    have loop : ∀ m, m ≤ (C a).1 → (∀ i, m ≤ i → i < (C a).1 → (C a).2 i = (C b).2 i) → AW mX3_against (gq 0 0 Q) 35 [some (.ref a), some (.ref b), some (.int (pI m))] [] 0 0 n (nh h L C) := by
      intro m
      induction m with
      | zero =>
        intro hm he
        refine aw_iload_n (i := 2) dX3_against_35 rfl rfl ?_
        refine aw_if_lt (tgt := 92) dX3_against_36 (by decide) (fun _ => ?_) (fun c => (c ((pI_lt0 (by decide)).mpr rfl)).elim)
        refine aw_iconst (v := 0) dX3_against_92 (by decide +kernel) ?_
        refine aw_ireturn dX3_against_93 rfl rfl (Nat.le_of_ble_eq_true rfl) (Nat.le_of_ble_eq_true rfl) ?_
        refine hQ _ _ _ ⟨?_, rfl, rfl⟩
        have : u = v := by rw [← hu.1.2.2, ← hv.1.2.2, ← hs]; exact bv_congr (fun i hi => he i (by omega) hi)
        rw [this, cmp_eq]
      | succ m ih =>
        intro hm he
        have d1 := hu.1.2.1 m (by omega)
        have d2 := hv.1.2.1 m (by omega)
        have hda : ∀ i, i < (C a).1 → (C a).2 i < 2 ^ 32 := fun i hi => hu.1.2.1 i (by omega)
        have hdb : ∀ i, i < (C a).1 → (C b).2 i < 2 ^ 32 := fun i hi => hv.1.2.1 i (by omega)
        rw [pI_s]
        refine aw_iload_n (i := 2) dX3_against_35 rfl rfl ?_
        refine aw_if_lt (tgt := 92) dX3_against_36 (by decide) (fun c => absurd c (nI_pos (by omega))) (fun _ => ?_)
        refine aw_aload_n (i := 0) dX3_against_39 rfl rfl ?_
        refine aw_getfield fX3_21 dX3_against_40 (nh_o h C ha) rfl ?_
        refine aw_iload_n (i := 2) dX3_against_43 rfl rfl ?_
        refine aw_iald dX3_against_44 m (nh_a h w C ha) (nI_toInt (by omega)) (by omega) ?_
        refine aw_aload_n (i := 1) dX3_against_45 rfl rfl ?_
        refine aw_getfield fX3_21 dX3_against_46 (nh_o h C hb) rfl ?_
        refine aw_iload_n (i := 2) dX3_against_49 rfl rfl ?_
        refine aw_iald dX3_against_50 m (nh_a h w C hb) (nI_toInt (by omega)) (by omega) ?_
        by_cases hq : (C a).2 m = (C b).2 m
        · refine aw_icmp_eq (tgt := 86) dX3_against_51 (by decide) (fun _ => ?_) (fun c => (c (by rw [hq])).elim)
          refine aw_iinc_2 (c0 := (-1)) dX3_against_86 (by decide) (by decide) rfl ?_
          refine aw_goto (tgt := 35) dX3_against_89 (by decide) ?_
          rw [pI_d]
          refine ih (by omega) (fun i h1 h2 => ?_)
          by_cases him : i = m
          · rw [him]; exact hq
          · exact he i (by omega) h2
        · refine aw_icmp_eq (tgt := 86) dX3_against_51 (by decide) (fun c => absurd c (fun c => hq (nI_inj d1 d2 c))) (fun _ => ?_)
          refine aw_aload_n (i := 0) dX3_against_54 rfl rfl ?_
          refine aw_getfield fX3_21 dX3_against_55 (nh_o h C ha) rfl ?_
          refine aw_iload_n (i := 2) dX3_against_58 rfl rfl ?_
          refine aw_iald dX3_against_59 m (nh_a h w C ha) (nI_toInt (by omega)) (by omega) ?_
          refine aw_i2l dX3_against_60 rfl ?_
          refine aw_ldc2_w qX3_37 dX3_against_61 ?_
          refine aw_land dX3_against_64 ?_
          rw [lo32 d1]
          refine aw_aload_n (i := 1) dX3_against_65 rfl rfl ?_
          refine aw_getfield fX3_21 dX3_against_66 (nh_o h C hb) rfl ?_
          refine aw_iload_n (i := 2) dX3_against_69 rfl rfl ?_
          refine aw_iald dX3_against_70 m (nh_a h w C hb) (nI_toInt (by omega)) (by omega) ?_
          refine aw_i2l dX3_against_71 rfl ?_
          refine aw_ldc2_w qX3_37 dX3_against_72 ?_
          refine aw_land dX3_against_75 ?_
          rw [lo32 d2]
          refine aw_lcmp dX3_against_76 ?_
          by_cases hlt : (C a).2 m < (C b).2 m
          · refine aw_if_ge (tgt := 84) dX3_against_77 (by decide) (fun c => absurd c (by rw [lg_cmp_ge, pk_lLE (by omega) (by omega)]; omega)) (fun _ => ?_)
            refine aw_iconst (v := (-1)) dX3_against_80 (by decide +kernel) ?_
            refine aw_goto (tgt := 85) dX3_against_81 (by decide) ?_
            refine aw_ireturn dX3_against_85 rfl rfl (Nat.le_of_ble_eq_true rfl) (Nat.le_of_ble_eq_true rfl) ?_
            refine hQ _ _ _ ⟨?_, rfl, rfl⟩
            rw [cmp_lt]
            rw [← hu.1.2.2, ← hv.1.2.2, ← hs]
            exact bv_lt_at (i := m) (by omega) hda (fun j h1 h2 => he j (by omega) h2) hlt
          · refine aw_if_ge (tgt := 84) dX3_against_77 (by decide) (fun _ => ?_) (fun c => (c (by rw [lg_cmp_ge, pk_lLE (by omega) (by omega)]; omega)).elim)
            refine aw_iconst (v := 1) dX3_against_84 (by decide +kernel) ?_
            refine aw_ireturn dX3_against_85 rfl rfl (Nat.le_of_ble_eq_true rfl) (Nat.le_of_ble_eq_true rfl) ?_
            refine hQ _ _ _ ⟨?_, rfl, rfl⟩
            rw [cmp_gt]
            rw [← hu.1.2.2, ← hv.1.2.2, ← hs]
            exact bv_lt_at (i := m) (by omega) hdb (fun j h1 h2 => (he j (by omega) h2).symm) (by omega)
    exact loop _ (Nat.le_refl _) (fun i h1 h2 => by omega)
  · refine aw_icmp_eq (tgt := 28) dX3_against_8 (by decide) (fun c => absurd c (fun c => hs ((nI_eq (by omega) (by omega)).mp c))) (fun _ => ?_)
    refine aw_aload_n (i := 0) dX3_against_11 rfl rfl ?_
    refine aw_getfield fX3_9 dX3_against_12 (nh_o h C ha) rfl ?_
    refine aw_aload_n (i := 1) dX3_against_15 rfl rfl ?_
    refine aw_getfield fX3_9 dX3_against_16 (nh_o h C hb) rfl ?_
    by_cases hlt : (C a).1 < (C b).1
    · refine aw_icmp_ge (tgt := 26) dX3_against_19 (by decide) (fun c => absurd c (nI_ge hlt (by omega))) (fun _ => ?_)
      refine aw_iconst (v := (-1)) dX3_against_22 (by decide +kernel) ?_
      refine aw_goto (tgt := 27) dX3_against_23 (by decide) ?_
      refine aw_ireturn dX3_against_27 rfl rfl (Nat.le_of_ble_eq_true rfl) (Nat.le_of_ble_eq_true rfl) ?_
      exact hQ _ _ _ ⟨by rw [cmp_lt (num_szlt hu.1 hv hlt)], rfl, rfl⟩
    · refine aw_icmp_ge (tgt := 26) dX3_against_19 (by decide) (fun _ => ?_) (fun c => (c (nI_le (by omega) (by omega))).elim)
      refine aw_iconst (v := 1) dX3_against_26 (by decide +kernel) ?_
      refine aw_ireturn dX3_against_27 rfl rfl (Nat.le_of_ble_eq_true rfl) (Nat.le_of_ble_eq_true rfl) ?_
      exact hQ _ _ _ ⟨by rw [cmp_gt (num_szlt hv.1 hu (by omega))], rfl, rfl⟩
/-- parts behind size s are 0 up to s' -/
def wid (g : Nat → Nat) (s s' : Nat) : Nat → Nat := fun i => if s ≤ i ∧ i < s' then 0 else g i
theorem wid_0 (g : Nat → Nat) (s : Nat) : wid g s s = g := by funext i; unfold wid; rw [if_neg (by omega)]
theorem wid_s {g : Nat → Nat} {s s' : Nat} (h : s ≤ s') : va_up (wid g s s') s' 0 = wid g s (s' + 1) := by
  funext i
  by_cases hi : i = s'
  · rw [hi, va_up_at]; unfold wid; rw [if_pos (by omega)]
  · rw [va_up_off hi]; unfold wid
    by_cases q : s ≤ i ∧ i < s'
    · rw [if_pos q, if_pos (by omega)]
    · rw [if_neg q, if_neg (by omega)]
theorem ct_X3_widenTo (n : Nat) (h : Hp) (L : Nat → Nat) (C : NC) (a s p : Nat) (g : Nat → Nat) (w : LW L) (ha : L a ≠ 0) (hs : s ≤ L a) (hp : p < 2 ^ 31) : CT mX3_widenTo 0 0 n (nu h L C a s g) [.ref a, .int (nI p)] (pv n (fun h' => h' = nu h L C a (max s (min p (L a))) (wid g s (max s (min p (L a)))))) := by
  refine CT.intro [some (.ref a), some (.int (nI p))] 0 rfl rfl (by decide) ?_
  intro Q hQ
  have hl := (w a).1
  have loop : ∀ (j t : Nat), t + j = max s (min p (L a)) → s ≤ t → AW mX3_widenTo (gq 0 0 Q) 0 [some (.ref a), some (.int (nI p))] [] 0 0 n (nu h L C a t (wid g s t)) := by
    intro j
    induction j with
    | zero =>
      intro t ht hst
      have fin : AW mX3_widenTo (gq 0 0 Q) 43 [some (.ref a), some (.int (nI p))] [] 0 0 n (nu h L C a t (wid g s t)) := by
        refine aw_return dX3_widenTo_43 rfl (Nat.le_of_ble_eq_true rfl) (Nat.le_of_ble_eq_true rfl) ?_
        exact hQ _ _ _ ⟨rfl, rfl, by rw [← ht, Nat.add_zero]⟩
      refine aw_aload_n (i := 0) dX3_widenTo_0 rfl rfl ?_
      refine aw_getfield fX3_9 dX3_widenTo_1 (nu_o ha) rfl ?_
      refine aw_iload_n (i := 1) dX3_widenTo_4 rfl rfl ?_
      by_cases h1 : t < p
      · refine aw_icmp_ge (tgt := 43) dX3_widenTo_5 (by decide) (fun c => absurd c (nI_ge h1 hp)) (fun _ => ?_)
        refine aw_aload_n (i := 0) dX3_widenTo_8 rfl rfl ?_
        refine aw_getfield fX3_9 dX3_widenTo_9 (nu_o ha) rfl ?_
        refine aw_aload_n (i := 0) dX3_widenTo_12 rfl rfl ?_
        refine aw_getfield fX3_21 dX3_widenTo_13 (nu_o ha) rfl ?_
        refine aw_arraylength dX3_widenTo_16 (nu_a w ha) ?_
        refine aw_icmp_ge (tgt := 43) dX3_widenTo_17 (by decide) (fun _ => ?_) (fun c => (c (nI_le (by omega) (by omega))).elim)
        exact fin
      · refine aw_icmp_ge (tgt := 43) dX3_widenTo_5 (by decide) (fun _ => ?_) (fun c => (c (nI_le (by omega) (by omega))).elim)
        exact fin
    | succ j ih =>
      intro t ht hst
      refine aw_aload_n (i := 0) dX3_widenTo_0 rfl rfl ?_
      refine aw_getfield fX3_9 dX3_widenTo_1 (nu_o ha) rfl ?_
      refine aw_iload_n (i := 1) dX3_widenTo_4 rfl rfl ?_
      refine aw_icmp_ge (tgt := 43) dX3_widenTo_5 (by decide) (fun c => absurd c (nI_ge (by omega) hp)) (fun _ => ?_)
      refine aw_aload_n (i := 0) dX3_widenTo_8 rfl rfl ?_
      refine aw_getfield fX3_9 dX3_widenTo_9 (nu_o ha) rfl ?_
      refine aw_aload_n (i := 0) dX3_widenTo_12 rfl rfl ?_
      refine aw_getfield fX3_21 dX3_widenTo_13 (nu_o ha) rfl ?_
      refine aw_arraylength dX3_widenTo_16 (nu_a w ha) ?_
      refine aw_icmp_ge (tgt := 43) dX3_widenTo_17 (by decide) (fun c => absurd c (nI_ge (by omega) (by omega))) (fun _ => ?_)
      refine aw_aload_n (i := 0) dX3_widenTo_20 rfl rfl ?_
      refine aw_getfield fX3_21 dX3_widenTo_21 (nu_o ha) rfl ?_
      refine aw_aload_n (i := 0) dX3_widenTo_24 rfl rfl ?_
      refine aw_getfield fX3_9 dX3_widenTo_25 (nu_o ha) rfl ?_
      refine aw_iconst (v := 0) dX3_widenTo_28 (by decide +kernel) ?_
      refine aw_iast dX3_widenTo_29 t 0 rfl (nu_a w ha) (nI_toInt (by omega)) (by omega) ?_
      refine AW.hp (nu_upa w ha) ?_
      refine aw_aload_n (i := 0) dX3_widenTo_30 rfl rfl ?_
      refine aw_dup dX3_widenTo_31 rfl ?_
      refine aw_getfield fX3_9 dX3_widenTo_32 (nu_o ha) rfl ?_
      refine aw_iconst (v := 1) dX3_widenTo_35 (by decide +kernel) ?_
      refine aw_iadd dX3_widenTo_36 ?_
      rw [nI_1]
      refine aw_putfield fX3_9 dX3_widenTo_37 (nu_o ha) rfl rfl (Nat.le_of_ble_eq_true rfl) ?_
      dsimp only [List.set]
      refine AW.hp (nu_upo ha w) ?_
      refine aw_goto (tgt := 0) dX3_widenTo_40 (by decide) ?_
      rw [wid_s hst]
      exact ih (t + 1) (by omega) (by omega)
  have := loop (max s (min p (L a)) - s) s (by omega) (Nat.le_refl _)
  rw [wid_0] at this
  exact this
theorem wid_in {g : Nat → Nat} {s s' i : Nat} (h : i < s) : wid g s s' i = g i := by unfold wid; rw [if_neg (by omega)]
theorem wid_z {g : Nat → Nat} {s s' i : Nat} (h : s ≤ i) (h2 : i < s') : wid g s s' i = 0 := by unfold wid; rw [if_pos ⟨h, h2⟩]
theorem wid_lt {g : Nat → Nat} {s s' l : Nat} (h : ∀ i, i < l → g i < 2 ^ 32) : ∀ i, i < l → wid g s s' i < 2 ^ 32 := fun i hi => by
  unfold wid
  split
  · decide
  · exact h i hi
theorem wid_bv {g : Nat → Nat} {s s' : Nat} (h : s ≤ s') : bv (2 ^ 32) (wid g s s') s' = bv (2 ^ 32) g s := by
  rw [bv_high h (fun i h1 h2 => wid_z h1 h2)]
  exact bv_congr (fun i hi => wid_in hi)
theorem raw_up {l s j x : Nat} {g : Nat → Nat} (hg : ∀ i, i < l → g i < 2 ^ 32) (hx : x < 2 ^ 32) : ∀ i, i < l → va_up g j x i < 2 ^ 32 := fun i hi => by
  by_cases h : i = j
  · rw [h, va_up_at]; exact hx
  · rw [va_up_off h]; exact hg i hi
theorem ishr5 {x : Nat} (h : x < 2 ^ 31) : nI x >>> ((5 : Int32) &&& 31) = nI (x / 32) := pk_shrN h _ 5 (by decide +kernel)
theorem iand31 {x : Nat} (h : x < 2 ^ 31) : nI x &&& (31 : Int32) = nI (x % 32) := pk_andN (by omega) 5 (by decide +kernel)
theorem lshlN (x : Nat) {r : Nat} (hr : r < 64) : lN x <<< ((nI r).toInt64 &&& 63) = lN (x * 2 ^ r) := lN_shl x r (sh_cnt r hr)
/-- a part of another number -/
theorem nu_word (n : Nat) (h : Hp) (L : Nat → Nat) (C : NC) (a b s i v : Nat) (g : Nat → Nat) (w : LW L) (hb : L b ≠ 0) (hab : b ≠ a) (hr : raw (L b) (C b) v) (hi : i < 2 ^ 31) : CT mX3_word 0 0 n (nu h L C a s g) [.ref b, .int (nI i)] (plong n (nu h L C a s g) (lN (wd (C b) i))) := by
  have e : va_up C a (s, g) b = C b := va_up_off hab
  have := nc_word n h L (va_up C a (s, g)) b i v w hb (by rw [e]; exact hr) hi
  rw [e] at this
  exact this
theorem ct_X3_copyShifted (n : Nat) (h : Hp) (L : Nat → Nat) (C : NC) (a b u v sh : Nat) (w : LW L) (ha : L a ≠ 0) (hb : L b ≠ 0) (hab : b ≠ a) (hu : num (L a) (C a) u) (hv : num (L b) (C b) v) (hsh : sh < 2304) (hf : sh / 32 + (C b).1 + 1 ≤ L a) : CT mX3_copyShifted 0 0 n (nh h L C) [.ref a, .ref b, .int (nI sh)] (nto n h L C a (v * 2 ^ sh)) := by
  refine CT.intro [some (.ref a), some (.ref b), some (.int (nI sh)), none, none, none, none] 4 rfl rfl (by decide) ?_
  intro Q hQ
  have hla := (w a).1
  have hlb := (w b).1
  have hsb := hv.1.1
  have hg := hu.1.2.1
  refine AW.hp (nu_id h L C a) ?_
  generalize (C a).1 = s
  generalize (C a).2 = g at *
  refine aw_iload_n (i := 2) dX3_copyShifted_0 rfl rfl ?_
  refine aw_iconst (v := 0) dX3_copyShifted_1 (by decide +kernel) ?_
  refine aw_mmax kX3_15 mathmax_s math_i mathmax_c dX3_copyShifted_2 (by decide) (Nat.le_of_ble_eq_true rfl) (Nat.le_of_ble_eq_true rfl) (Nat.le_of_ble_eq_true rfl) ?_
  rw [if_neg (nI_pos (show sh < 2 ^ 31 by omega))]
  refine aw_iconst (v := 5) dX3_copyShifted_5 (by decide +kernel) ?_
  refine aw_ishr dX3_copyShifted_6 ?_
  rw [ishr5 (by omega)]
  refine aw_istore_3 dX3_copyShifted_7 (by decide) rfl ?_
  refine aw_aload_n (i := 0) dX3_copyShifted_8 rfl rfl ?_
  refine aw_iconst (v := 0) dX3_copyShifted_9 (by decide +kernel) ?_
  refine aw_putfield fX3_9 dX3_copyShifted_10 (nu_o ha) rfl rfl (Nat.le_of_ble_eq_true rfl) ?_
  dsimp only [List.set]
  refine AW.hp (nu_upo (s' := 0) ha w) ?_
  refine aw_aload_n (i := 0) dX3_copyShifted_13 rfl rfl ?_
  refine aw_iload_n (i := 3) dX3_copyShifted_14 rfl rfl ?_
  refine aw_aload_n (i := 1) dX3_copyShifted_15 rfl rfl ?_
  refine aw_getfield fX3_9 dX3_copyShifted_16 (nu_x hb hab) rfl ?_
  refine aw_iadd dX3_copyShifted_19 ?_
  refine aw_iconst (v := 1) dX3_copyShifted_20 (by decide +kernel) ?_
  refine aw_iadd dX3_copyShifted_21 ?_
  rw [nI_add, nI_1]
  refine aw_invokevirtual kX3_43 dX3_copyShifted_22 (nu_o ha) (ct_X3_widenTo n h L C a 0 (sh / 32 + (C b).1 + 1) g w ha (Nat.zero_le _) (by omega)) rfl rfl (Nat.le_of_ble_eq_true rfl) ⟨Nat.le_of_ble_eq_true rfl, Nat.le_of_ble_eq_true rfl⟩ ⟨Nat.le_of_ble_eq_true rfl, Nat.le_of_ble_eq_true rfl⟩ ?_
  rintro _ _ _ ⟨rfl, rfl, rfl⟩
  rw [show max 0 (min (sh / 32 + (C b).1 + 1) (L a)) = sh / 32 + (C b).1 + 1 by omega]
  have hG : ∀ i, i < L a → wid g 0 (sh / 32 + (C b).1 + 1) i < 2 ^ 32 := wid_lt hg
  have hZ : ∀ i, i < sh / 32 + (C b).1 + 1 → wid g 0 (sh / 32 + (C b).1 + 1) i = 0 := fun i hi => wid_z (Nat.zero_le _) hi
  generalize wid g 0 (sh / 32 + (C b).1 + 1) = G at *
  refine aw_lconst (v := 0) dX3_copyShifted_25 (by decide) ?_
  refine aw_lstore_4 dX3_copyShifted_26 (by decide) rfl ?_
  refine aw_iload_n (i := 3) dX3_copyShifted_28 rfl rfl ?_
  refine aw_istore_6 dX3_copyShifted_29 (by decide) rfl ?_
  have hr2 : sh % 32 < 32 := Nat.mod_lt _ (by decide)
  generalize hF : sh / 32 = F at *
  generalize hR : sh % 32 = R at *
  have hsum : sh = 32 * F + R := by omega
  have hRp := Nat.two_pow_pos R
  have loop : ∀ (j i : Nat) (G : Nat → Nat) (x : Nat), i + j = (C b).1 + 1 → (∀ k, k < L a → G k < 2 ^ 32) → (∀ k, k < F → G k = 0) → x < 2 ^ R → bv (2 ^ 32) (fun k => G (F + k)) i + x * (2 ^ 32) ^ i = bv (2 ^ 32) (wd (C b)) i * 2 ^ R → AW mX3_copyShifted (gq 0 0 Q) 31 [some (.ref a), some (.ref b), some (.int (nI sh)), some (.int (nI F)), some (.long (lN x)), none, some (.int (nI (F + i)))] [] 0 0 n (nu h L C a (F + (C b).1 + 1) G) := by
    intro j
    induction j with
    | zero =>
      intro i G x hi hG hZ hx he
      obtain rfl : i = (C b).1 + 1 := by omega
      have hwd := bv_wd hv.1 (k := (C b).1 + 1) (by omega)
      have hx0 : x = 0 := by
        have h1 : wd (C b) (C b).1 = 0 := if_neg (by omega)
        have h2 : v < (2 ^ 32) ^ (C b).1 := raw_lt hv.1
        have h3 : v * 2 ^ R < (2 ^ 32) ^ ((C b).1 + 1) := by
          rw [Nat.pow_succ]
          have : 2 ^ R ≤ 2 ^ 32 := Nat.pow_le_pow_right (by decide) (by omega)
          exact Nat.lt_of_lt_of_le (Nat.mul_lt_mul_of_pos_right h2 hRp) (Nat.mul_le_mul_left _ this)
        rw [hwd] at he
        rcases Nat.eq_zero_or_pos x with q | q
        · exact q
        · have h4 : (2 ^ 32) ^ ((C b).1 + 1) ≤ x * (2 ^ 32) ^ ((C b).1 + 1) := Nat.le_mul_of_pos_left _ q
          omega
      rw [hx0, Nat.zero_mul, Nat.add_zero, hwd] at he
      have hq : raw (L a) (F + (C b).1 + 1, G) (v * 2 ^ sh) := by
        refine ⟨hf, hG, ?_⟩
        show bv (2 ^ 32) G (F + (C b).1 + 1) = _
        rw [Nat.add_assoc, bv_add, he, bv_zero hZ, Nat.zero_add, hsum, Nat.pow_add, p32]
        ac_rfl
      refine aw_iload dX3_copyShifted_31 rfl ?_
      refine aw_aload_n (i := 0) dX3_copyShifted_33 rfl rfl ?_
      refine aw_getfield fX3_9 dX3_copyShifted_34 (nu_o ha) rfl ?_
      refine aw_icmp_ge (tgt := 81) dX3_copyShifted_37 (by decide) (fun _ => ?_) (fun c => (c (nI_le (by omega) (by omega))).elim)
      refine aw_aload_n (i := 0) dX3_copyShifted_81 rfl rfl ?_
      refine aw_invokevirtual kX3_25 dX3_copyShifted_82 (nu_o ha) (ct_X3_trim n h L C a _ _ _ w ha hq) rfl rfl (Nat.le_of_ble_eq_true rfl) ⟨Nat.le_of_ble_eq_true rfl, Nat.le_of_ble_eq_true rfl⟩ ⟨Nat.le_of_ble_eq_true rfl, Nat.le_of_ble_eq_true rfl⟩ ?_
      rintro _ _ _ ⟨rfl, rfl, hC⟩
      refine aw_return dX3_copyShifted_85 rfl (Nat.le_of_ble_eq_true rfl) (Nat.le_of_ble_eq_true rfl) ?_
      exact hQ _ _ _ ⟨rfl, rfl, hC⟩
    | succ j ih =>
      intro i G x hi hG hZ hx he
      refine aw_iload dX3_copyShifted_31 rfl ?_
      refine aw_aload_n (i := 0) dX3_copyShifted_33 rfl rfl ?_
      refine aw_getfield fX3_9 dX3_copyShifted_34 (nu_o ha) rfl ?_
      refine aw_icmp_ge (tgt := 81) dX3_copyShifted_37 (by decide) (fun c => absurd c (nI_ge (by omega) (by omega))) (fun _ => ?_)
      refine aw_lload dX3_copyShifted_40 rfl ?_
      refine aw_aload_n (i := 1) dX3_copyShifted_42 rfl rfl ?_
      refine aw_iload dX3_copyShifted_43 rfl ?_
      refine aw_iload_n (i := 3) dX3_copyShifted_45 rfl rfl ?_
      refine aw_isub dX3_copyShifted_46 ?_
      rw [pk_sub (show F ≤ F + i by omega), Nat.add_sub_cancel_left]
      refine aw_invokevirtual kX3_39 dX3_copyShifted_47 (nu_x hb hab) (nu_word n h L C a b (F + (C b).1 + 1) i v G w hb hab hv.1 (by omega)) rfl rfl (Nat.le_of_ble_eq_true rfl) ⟨Nat.le_of_ble_eq_true rfl, Nat.le_of_ble_eq_true rfl⟩ ⟨Nat.le_of_ble_eq_true rfl, Nat.le_of_ble_eq_true rfl⟩ ?_
      rintro _ _ _ ⟨rfl, rfl, rfl⟩
      refine aw_iload_n (i := 2) dX3_copyShifted_50 rfl rfl ?_
      refine aw_bipush (v := 31) dX3_copyShifted_51 (by decide +kernel) ?_
      refine aw_iand dX3_copyShifted_53 ?_
      rw [iand31 (by omega), hR]
      refine aw_lshl dX3_copyShifted_54 rfl ?_
      rw [lshlN _ (show R < 64 by omega)]
      refine aw_lor dX3_copyShifted_55 ?_
      rw [lN_or hx]
      refine aw_lstore_4 dX3_copyShifted_56 (by decide) rfl ?_
      refine aw_aload_n (i := 0) dX3_copyShifted_58 rfl rfl ?_
      refine aw_getfield fX3_21 dX3_copyShifted_59 (nu_o ha) rfl ?_
      refine aw_iload dX3_copyShifted_62 rfl ?_
      refine aw_lload dX3_copyShifted_64 rfl ?_
      refine aw_l2i dX3_copyShifted_66 rfl ?_
      have hwl : wd (C b) i < 2 ^ 32 := wd_lt hv.1 i
      have hy : x + wd (C b) i * 2 ^ R < 2 ^ R * 2 ^ 32 := by
        have h1 : wd (C b) i * 2 ^ R ≤ (2 ^ 32 - 1) * 2 ^ R := Nat.mul_le_mul_right _ (by omega)
        have h2 : (2 ^ 32 - 1) * 2 ^ R + 2 ^ R = 2 ^ R * 2 ^ 32 := by rw [Nat.sub_mul, Nat.one_mul, Nat.mul_comm]; have : 2 ^ R * 1 ≤ 2 ^ R * 2 ^ 32 := Nat.mul_le_mul_left _ (by decide); omega
        omega
      have hy2 : x + wd (C b) i * 2 ^ R < 2 ^ 64 := by
        have : 2 ^ R * 2 ^ 32 ≤ 2 ^ 32 * 2 ^ 32 := Nat.mul_le_mul_right _ (Nat.pow_le_pow_right (by decide) (by omega))
        omega
      rw [lN_l2i]
      generalize hY : x + wd (C b) i * 2 ^ R = Y at *
      refine aw_iast dX3_copyShifted_67 (F + i) _ rfl (nu_a w ha) (nI_toInt (by omega)) (by omega) ?_
      refine AW.hp (nu_upa w ha) ?_
      refine aw_lload dX3_copyShifted_68 rfl ?_
      refine aw_bipush (v := 32) dX3_copyShifted_70 (by decide +kernel) ?_
      refine aw_lushr dX3_copyShifted_72 rfl ?_
      rw [lN_u32 hy2]
      refine aw_lstore_4 dX3_copyShifted_73 (by decide) rfl ?_
      refine aw_iinc_6 (c0 := 1) dX3_copyShifted_75 (by decide) (by decide) rfl ?_
      refine aw_goto (tgt := 31) dX3_copyShifted_78 (by decide) ?_
      rw [nI_1]
      refine ih (i + 1) _ _ (by omega) (raw_up (s := 0) hG (Nat.mod_lt _ (by decide))) (fun k hk => by rw [va_up_off (by omega)]; exact hZ k hk) (Nat.div_lt_of_lt_mul (by rw [Nat.mul_comm]; exact hy)) ?_
      rw [bv_s, bv_s, Nat.add_mul, ← he, va_up_at]
      have e1 : bv (2 ^ 32) (fun k => va_up G (F + i) (Y % 2 ^ 32) (F + k)) i = bv (2 ^ 32) (fun k => G (F + k)) i := bv_congr (fun k hk => va_up_off (by omega))
      have e2 := carry_step (B := 2 ^ 32) (P := (2 ^ 32) ^ i) (s := Y) rfl rfl
      rw [e1, p32s, Nat.add_assoc, e2, ← hY, Nat.add_mul]
      have e3 : wd (C b) i * (2 ^ 32) ^ i * 2 ^ R = wd (C b) i * 2 ^ R * (2 ^ 32) ^ i := by ac_rfl
      omega
  refine AW.forget [some (.ref a), some (.ref b), some (.int (nI sh)), some (.int (nI F)), some (.long (lN 0)), none, some (.int (nI (F + 0)))] ⟨rfl, rfl, rfl, rfl, rfl, rfl, trivial⟩ ?_
  exact loop ((C b).1 + 1) 0 G 0 (by omega) hG (fun k hk => hZ k (by omega)) hRp (by rw [bv_0, bv_0]; simp)
