/-! parts of 32 bits -/
theorem lo32 {g : Nat} (hg : g < 2 ^ 32) : (nI g).toInt64 &&& 4294967295 = lN g := by
  have e1 : (nI g).toInt64 = lI ((nI g).toInt) := by
    apply Int64.toInt_inj.mp
    have h1 := Int32.toInt_lt (nI g)
    have h2 := Int32.le_toInt (nI g)
    rw [Int32.toInt_toInt64, lI_T (by omega) (by omega)]
  have e2 : (4294967295 : Int64) = lI (2 ^ 32 - 1) := by decide +kernel
  rw [e1, e2, lI_and 32 (by decide), iI_N, lI_N]
  congr 1
  have e3 : (iI (g : Int)).toInt = Int.bmod g (2 ^ 32) := Int32.toInt_ofInt ..
  rw [e3]
  show Int.bmod (g : Int) (2 ^ 32) % ((2 ^ 32 : Nat) : Int) = _
  rw [Int.bmod_emod]
  omega
theorem nI_mod (x : Nat) : nI x = nI (x % 2 ^ 32) := by
  apply Int32.toBitVec.inj
  show BitVec.ofNat 32 x = BitVec.ofNat 32 (x % 2 ^ 32)
  apply BitVec.eq_of_toNat_eq
  rw [BitVec.toNat_ofNat, BitVec.toNat_ofNat, Nat.mod_mod]
theorem lN_l2i (x : Nat) : (lN x).toInt32 = nI (x % 2 ^ 32) := by rw [lN_i, ← nI_mod]
theorem nI_inj {a b : Nat} (ha : a < 2 ^ 32) (hb : b < 2 ^ 32) (h : nI a = nI b) : a = b := by
  have := congrArg (fun x => x.toBitVec.toNat) h
  rw [pk_tn ha, pk_tn hb] at this; exact this
theorem usc : ∀ r, r < 64 → ((nI r).toInt64.toUInt64 &&& Int64.toUInt64 63).toNat % 64 = r := by decide +kernel
theorem lN_ushr {x : Nat} (hx : x < 2 ^ 64) {r : Nat} (hr : r < 64) : ((lN x).toUInt64 >>> ((nI r).toInt64.toUInt64 &&& Int64.toUInt64 63)).toInt64 = lN (x / 2 ^ r) := by
  apply Int64.toBitVec.inj
  apply BitVec.eq_of_toNat_eq
  show ((lN x).toUInt64 >>> ((nI r).toInt64.toUInt64 &&& Int64.toUInt64 63)).toNat = (BitVec.ofNat 64 (x / 2 ^ r)).toNat
  rw [UInt64.toNat_shiftRight, usc r hr, Nat.shiftRight_eq_div_pow, BitVec.toNat_ofNat]
  show (BitVec.ofNat 64 x).toNat / 2 ^ r = _
  rw [BitVec.toNat_ofNat, Nat.mod_eq_of_lt hx, Nat.mod_eq_of_lt (Nat.lt_of_le_of_lt (Nat.div_le_self _ _) hx)]
theorem lN_u32 {x : Nat} (hx : x < 2 ^ 64) : ((lN x).toUInt64 >>> ((32 : Int32).toInt64.toUInt64 &&& Int64.toUInt64 63)).toInt64 = lN (x / 2 ^ 32) := lN_ushr hx (r := 32) (by decide)
theorem lN_inj {a b : Nat} (ha : a < 2 ^ 64) (hb : b < 2 ^ 64) (h : lN a = lN b) : a = b := by
  have := congrArg (fun x => x.toBitVec.toNat) h
  have e : ∀ z : Nat, (lN z).toBitVec.toNat = z % 2 ^ 64 := fun z => BitVec.toNat_ofNat ..
  simp only [e, Nat.mod_eq_of_lt ha, Nat.mod_eq_of_lt hb] at this
  exact this
theorem lc0u {x : Nat} (hx : x < 2 ^ 64) : lg_cmp (lN x) 0 = 0 ↔ x = 0 := by
  rw [lg_cmp_eq]
  exact ⟨fun h => lN_inj hx (by decide) h, fun h => by rw [h]; rfl⟩
/-- Num: its object and its parts side by side, at every address a with L a > 0 -/
def nobj (a s : Nat) : AC := .inr (3, [.ref (a + 1), .int (nI s)])
abbrev NC := Nat → Nat × (Nat → Nat)
def nh (h : Hp) (L : Nat → Nat) (C : NC) : Hp := fun x => if L x ≠ 0 then some (nobj x (C x).1) else if x ≠ 0 ∧ L (x - 1) ≠ 0 then some (iar (L (x - 1)) (C (x - 1)).2) else h x
def LW (L : Nat → Nat) : Prop := ∀ x, L x ≤ 72 ∧ (L x ≠ 0 → 2 ≤ L x ∧ L (x + 1) = 0)
theorem nh_o (h : Hp) {L : Nat → Nat} (C : NC) {a : Nat} (ha : L a ≠ 0) : nh h L C a = some (nobj a (C a).1) := by unfold nh; rw [if_pos ha]
theorem nh_a (h : Hp) {L : Nat → Nat} (w : LW L) (C : NC) {a : Nat} (ha : L a ≠ 0) : nh h L C (a + 1) = some (iar (L a) (C a).2) := by
  unfold nh; rw [if_neg (by rw [((w a).2 ha).2]; decide), if_pos ⟨by omega, by rw [Nat.add_sub_cancel]; exact ha⟩]; rfl
theorem nh_no (h : Hp) {L : Nat → Nat} (C : NC) {x : Nat} (h1 : L x = 0) (h2 : L (x - 1) = 0) : nh h L C x = h x := by
  unfold nh; rw [if_neg (by rw [h1]; decide), if_neg (by rw [h2]; exact fun q => q.2 rfl)]
theorem nh_upn (h : Hp) {L : Nat → Nat} (C : NC) {x : Nat} (h1 : L x = 0) (h2 : L (x - 1) = 0) (c : AC) : hup (nh h L C) x c = nh (hup h x c) L C := by
  funext y
  by_cases hy : y = x
  · rw [hy, hup_self, nh_no _ C h1 h2, hup_self]
  · rw [hup_ne hy]; unfold nh; rw [hup_ne hy]
/-- the Num at a has size s and parts g -/
def nu (h : Hp) (L : Nat → Nat) (C : NC) (a s : Nat) (g : Nat → Nat) : Hp := nh h L (va_up C a (s, g))
theorem nu_id (h : Hp) (L : Nat → Nat) (C : NC) (a : Nat) : nh h L C = nu h L C a (C a).1 (C a).2 := by
  unfold nu
  congr 1
  funext k
  by_cases hk : k = a
  · rw [hk, va_up_at]
  · rw [va_up_off hk]
theorem nu_o {h : Hp} {L : Nat → Nat} {C : NC} {a : Nat} (ha : L a ≠ 0) {s : Nat} {g : Nat → Nat} : nu h L C a s g a = some (nobj a s) := by
  unfold nu; rw [nh_o h _ ha, va_up_at]
theorem nu_a {h : Hp} {L : Nat → Nat} (w : LW L) {C : NC} {a : Nat} (ha : L a ≠ 0) {s : Nat} {g : Nat → Nat} : nu h L C a s g (a + 1) = some (iar (L a) g) := by
  unfold nu; rw [nh_a h w _ ha, va_up_at]
theorem nu_x {h : Hp} {L : Nat → Nat} {C : NC} {a b : Nat} (hb : L b ≠ 0) (hab : b ≠ a) {s : Nat} {g : Nat → Nat} : nu h L C a s g b = some (nobj b (C b).1) := by
  unfold nu; rw [nh_o h _ hb, va_up_off hab]
theorem nu_xa {h : Hp} {L : Nat → Nat} (w : LW L) {C : NC} {a b : Nat} (hb : L b ≠ 0) (hab : b ≠ a) {s : Nat} {g : Nat → Nat} : nu h L C a s g (b + 1) = some (iar (L b) (C b).2) := by
  unfold nu; rw [nh_a h w _ hb, va_up_off hab]
theorem nu_upo {h : Hp} {L : Nat → Nat} {C : NC} {a : Nat} (ha : L a ≠ 0) {s s' : Nat} {g : Nat → Nat} (w : LW L) : hup (nu h L C a s g) a (nobj a s') = nu h L C a s' g := by
  funext y
  unfold nu nh
  by_cases hy : y = a
  · rw [hy, hup_self, if_pos ha, va_up_at]
  · rw [hup_ne hy, va_up_off hy, va_up_off hy]
    by_cases hy2 : y - 1 = a
    · rw [hy2, va_up_at, va_up_at]
    · rw [va_up_off hy2, va_up_off hy2]
theorem nu_upa {h : Hp} {L : Nat → Nat} (w : LW L) {C : NC} {a : Nat} (ha : L a ≠ 0) {s : Nat} {g g' : Nat → Nat} : hup (nu h L C a s g) (a + 1) (iar (L a) g') = nu h L C a s g' := by
  funext y
  by_cases hy : y = a + 1
  · rw [hy, hup_self, nu_a w ha]
  · rw [hup_ne hy]
    unfold nu nh
    by_cases hy1 : y = a
    · subst hy1; rw [va_up_at, va_up_at, if_pos ha, if_pos ha]
    · rw [va_up_off hy1, va_up_off hy1]
      by_cases hy2 : y ≠ 0 ∧ L (y - 1) ≠ 0
      · rw [if_pos hy2, if_pos hy2, va_up_off (by omega), va_up_off (by omega)]
      · rw [if_neg hy2, if_neg hy2]
theorem nu_nh {h : Hp} {L : Nat → Nat} {C : NC} {a s : Nat} {g : Nat → Nat} : nu h L C a s g = nh h L (va_up C a (s, g)) := rfl
theorem nu_nu {h : Hp} {L : Nat → Nat} {C : NC} {a s s' : Nat} {g g' : Nat → Nat} : nu h L (va_up C a (s, g)) a s' g' = nu h L C a s' g' := by
  unfold nu
  congr 1
  funext k
  by_cases hk : k = a
  · rw [hk, va_up_at, va_up_at]
  · rw [va_up_off hk, va_up_off hk, va_up_off hk]
/-- what parts and size say -/
def raw (l : Nat) (c : Nat × (Nat → Nat)) (v : Nat) : Prop := c.1 ≤ l ∧ (∀ i, i < l → c.2 i < 2 ^ 32) ∧ bv (2 ^ 32) c.2 c.1 = v
def num (l : Nat) (c : Nat × (Nat → Nat)) (v : Nat) : Prop := raw l c v ∧ (0 < c.1 → c.2 (c.1 - 1) ≠ 0)
def nOne (L : Nat → Nat) (C C' : NC) (a v : Nat) : Prop := num (L a) (C' a) v ∧ ∀ k, k ≠ a → C' k = C k
theorem raw_lt {l : Nat} {c : Nat × (Nat → Nat)} {v : Nat} (h : raw l c v) : v < (2 ^ 32) ^ c.1 := by
  rw [← h.2.2]; exact bv_lt (fun i hi => h.2.1 i (by have := h.1; omega))
theorem num_ge {l : Nat} {c : Nat × (Nat → Nat)} {v : Nat} (h : num l c v) (h0 : 0 < c.1) : (2 ^ 32) ^ (c.1 - 1) ≤ v := by
  rw [← h.1.2.2]
  refine Nat.le_trans ?_ (bv_ge (i := c.1 - 1) (by omega))
  have := h.2 h0
  exact Nat.le_mul_of_pos_left _ (by omega)
theorem num_le {l : Nat} {c : Nat × (Nat → Nat)} {v k : Nat} (h : num l c v) (hk : v < (2 ^ 32) ^ k) : c.1 ≤ k := by
  apply Decidable.byContradiction
  intro q
  have h1 := num_ge h (by omega)
  have h2 : ((2 : Nat) ^ 32) ^ k ≤ (2 ^ 32) ^ (c.1 - 1) := Nat.pow_le_pow_right (by decide) (by omega)
  omega
theorem num_0 {l : Nat} {c : Nat × (Nat → Nat)} {v : Nat} (h : num l c v) : c.1 = 0 ↔ v = 0 := by
  constructor
  · intro q; rw [← h.1.2.2, q, bv_0]
  · intro q
    have := num_le (k := 0) h (by rw [q]; decide)
    omega
theorem p32 (k : Nat) : ((2 : Nat) ^ 32) ^ k = 2 ^ (32 * k) := (Nat.pow_mul 2 32 k).symm
theorem num_sz {l : Nat} {c : Nat × (Nat → Nat)} {v : Nat} (h : num l c v) : c.1 = (nb v + 31) / 32 := by
  have h1 := raw_lt h.1
  rw [p32] at h1
  have h2 := nb_le.mpr h1
  rcases Nat.eq_zero_or_pos c.1 with q | q
  · have := (num_0 h).mp q
    rw [this, q, nb_zero]
  · have h3 := num_ge h q
    rw [p32] at h3
    have h4 : ¬ nb v ≤ 32 * (c.1 - 1) := fun z => by have := nb_le.mp z; omega
    omega
/-- the i-th part, 0 behind the last -/
def wd (c : Nat × (Nat → Nat)) (i : Nat) : Nat := if i < c.1 then c.2 i else 0
theorem wd_lt {l : Nat} {c : Nat × (Nat → Nat)} {v : Nat} (h : raw l c v) (i : Nat) : wd c i < 2 ^ 32 := by
  unfold wd
  split
  · exact h.2.1 i (by have := h.1; omega)
  · decide
theorem wd_eq {l : Nat} {c : Nat × (Nat → Nat)} {v : Nat} (h : raw l c v) (i : Nat) : wd c i = v / (2 ^ 32) ^ i % 2 ^ 32 := by
  unfold wd
  split
  case isTrue q => rw [← h.2.2, bv_digit q (fun j hj => h.2.1 j (by have := h.1; omega))]
  case isFalse q =>
    have h1 := raw_lt h
    have h2 : ((2 : Nat) ^ 32) ^ c.1 ≤ (2 ^ 32) ^ i := Nat.pow_le_pow_right (by decide) (by omega)
    rw [Nat.div_eq_of_lt (by omega)]
theorem bv_wd {l : Nat} {c : Nat × (Nat → Nat)} {v : Nat} (h : raw l c v) {k : Nat} (hk : c.1 ≤ k) : bv (2 ^ 32) (wd c) k = v := by
  have e : bv (2 ^ 32) (wd c) k = bv (2 ^ 32) (wd c) c.1 := bv_high hk (fun i h1 _ => by unfold wd; rw [if_neg (by omega)])
  rw [e, ← h.2.2]
  exact bv_congr (fun i hi => if_pos hi)
theorem nOne_up {L : Nat → Nat} {C : NC} {a s v : Nat} {g : Nat → Nat} (h : num (L a) (s, g) v) : nOne L C (va_up C a (s, g)) a v := ⟨by rw [va_up_at]; exact h, fun k hk => va_up_off hk⟩
/-- a method that leaves a number in a -/
def nto (n : Nat) (h : Hp) (L : Nat → Nat) (C : NC) (a v : Nat) : Option Value → Nat → Hp → Prop := pv n (fun h' => ∃ C', h' = nh h L C' ∧ nOne L C C' a v)
theorem ct_X3_trim (n : Nat) (h : Hp) (L : Nat → Nat) (C : NC) (a s v : Nat) (g : Nat → Nat) (w : LW L) (ha : L a ≠ 0) (hr : raw (L a) (s, g) v) : CT mX3_trim 0 0 n (nu h L C a s g) [.ref a] (nto n h L C a v) := by
  refine CT.intro [some (.ref a)] 0 rfl rfl (by decide) ?_
  intro Q hQ
  have hl := (w a).1
  have loop : ∀ s, raw (L a) (s, g) v → AW mX3_trim (gq 0 0 Q) 0 [some (.ref a)] [] 0 0 n (nu h L C a s g) := by
    intro s
    induction s with
    | zero =>
      intro hr
      refine aw_aload_n (i := 0) dX3_trim_0 rfl rfl ?_
      refine aw_getfield fX3_9 dX3_trim_1 (nu_o ha) rfl ?_
      refine aw_if_le (tgt := 34) dX3_trim_4 (by decide) (fun _ => ?_) (fun c => (c (by decide)).elim)
      refine aw_return dX3_trim_34 rfl (Nat.le_of_ble_eq_true rfl) (Nat.le_of_ble_eq_true rfl) ?_
      exact hQ _ _ _ ⟨rfl, rfl, _, nu_nh, nOne_up ⟨hr, fun q => absurd q (Nat.lt_irrefl 0)⟩⟩
    | succ s ih =>
      intro hr
      have hs : s + 1 ≤ L a := hr.1
      refine aw_aload_n (i := 0) dX3_trim_0 rfl rfl ?_
      refine aw_getfield fX3_9 dX3_trim_1 (nu_o ha) rfl ?_
      refine aw_if_le (tgt := 34) dX3_trim_4 (by decide) (fun c => absurd c (nI_nle (by omega) (by omega))) (fun _ => ?_)
      refine aw_aload_n (i := 0) dX3_trim_7 rfl rfl ?_
      refine aw_getfield fX3_21 dX3_trim_8 (nu_o ha) rfl ?_
      refine aw_aload_n (i := 0) dX3_trim_11 rfl rfl ?_
      refine aw_getfield fX3_9 dX3_trim_12 (nu_o ha) rfl ?_
      refine aw_iconst (v := 1) dX3_trim_15 (by decide +kernel) ?_
      refine aw_isub dX3_trim_16 ?_
      rw [nI_pred]
      refine aw_iald dX3_trim_17 s (nu_a w ha) (nI_toInt (by omega)) (by omega) ?_
      by_cases hz : g s = 0
      · refine aw_if_ne (tgt := 34) dX3_trim_18 (by decide) (fun c => absurd c (fun c => c (by rw [hz]; rfl))) (fun _ => ?_)
        refine aw_aload_n (i := 0) dX3_trim_21 rfl rfl ?_
        refine aw_dup dX3_trim_22 rfl ?_
        refine aw_getfield fX3_9 dX3_trim_23 (nu_o ha) rfl ?_
        refine aw_iconst (v := 1) dX3_trim_26 (by decide +kernel) ?_
        refine aw_isub dX3_trim_27 ?_
        rw [nI_pred]
        refine aw_putfield fX3_9 dX3_trim_28 (nu_o ha) rfl rfl (Nat.le_of_ble_eq_true rfl) ?_
        dsimp only [List.set]
        refine AW.hp (nu_upo ha w) ?_
        refine aw_goto (tgt := 0) dX3_trim_31 (by decide) ?_
        refine ih ⟨by show s ≤ L a; omega, hr.2.1, ?_⟩
        have q : bv (2 ^ 32) g (s + 1) = v := hr.2.2
        rw [bv_s, hz, Nat.zero_mul, Nat.add_zero] at q
        exact q
      · refine aw_if_ne (tgt := 34) dX3_trim_18 (by decide) (fun _ => ?_) (fun c => ((fun c => hz (nI_inj (hr.2.1 s (by omega)) (by decide) (c : nI (g s) = nI 0))) c).elim)
        refine aw_return dX3_trim_34 rfl (Nat.le_of_ble_eq_true rfl) (Nat.le_of_ble_eq_true rfl) ?_
        exact hQ _ _ _ ⟨rfl, rfl, _, nu_nh, nOne_up ⟨hr, fun _ => hz⟩⟩
  exact loop s hr
theorem nto_up {n a b v s : Nat} {h : Hp} {L : Nat → Nat} {C : NC} {g : Nat → Nat} {r : Option Value} {h' : Hp} {n' : Nat} (q : nto n h L (va_up C a (s, g)) a v r n' h') : nto n h L C a v r n' h' := by
  obtain ⟨h1, h2, C', h3, h4, h5⟩ := q
  exact ⟨h1, h2, C', h3, h4, fun k hk => by rw [h5 k hk, va_up_off hk]⟩
theorem ct_X3_clear (n : Nat) (h : Hp) (L : Nat → Nat) (C : NC) (a v : Nat) (w : LW L) (ha : L a ≠ 0) (hr : num (L a) (C a) v) : CT mX3_clear 0 0 n (nh h L C) [.ref a] (nto n h L C a 0) := by
  refine CT.intro [some (.ref a)] 0 rfl rfl (by decide) ?_
  intro Q hQ
  refine AW.hp (nu_id h L C a) ?_
  refine aw_aload_n (i := 0) dX3_clear_0 rfl rfl ?_
  refine aw_iconst (v := 0) dX3_clear_1 (by decide +kernel) ?_
  refine aw_putfield fX3_9 dX3_clear_2 (nu_o ha) rfl rfl (Nat.le_of_ble_eq_true rfl) ?_
  dsimp only [List.set]
  refine AW.hp (nu_upo (s' := 0) ha w) ?_
  refine aw_return dX3_clear_5 rfl (Nat.le_of_ble_eq_true rfl) (Nat.le_of_ble_eq_true rfl) ?_
  exact hQ _ _ _ ⟨rfl, rfl, _, nu_nh, nOne_up ⟨⟨Nat.zero_le _, hr.1.2.1, bv_0 _ _⟩, fun q => absurd q (Nat.lt_irrefl 0)⟩⟩
theorem bv_2 (g : Nat → Nat) : bv (2 ^ 32) g 2 = g 0 + g 1 * 2 ^ 32 := by rw [bv_s _ _ 1, bv_s _ _ 0, bv_0]; simp
theorem ct_X3_put (n : Nat) (h : Hp) (L : Nat → Nat) (C : NC) (a v x : Nat) (w : LW L) (ha : L a ≠ 0) (hr : num (L a) (C a) v) (hx : x < 2 ^ 64) : CT mX3_put 0 0 n (nh h L C) [.ref a, .long (lN x)] (nto n h L C a x) := by
  refine CT.intro [some (.ref a), some (.long (lN x)), none] 0 rfl rfl (by decide) ?_
  intro Q hQ
  have hl := (w a).1
  have hl2 := ((w a).2 ha).1
  refine AW.hp (nu_id h L C a) ?_
  generalize (C a).1 = s
  have hg := hr.1.2.1
  generalize (C a).2 = g at *
  refine aw_aload_n (i := 0) dX3_put_0 rfl rfl ?_
  refine aw_getfield fX3_21 dX3_put_1 (nu_o ha) rfl ?_
  refine aw_iconst (v := 0) dX3_put_4 (by decide +kernel) ?_
  refine aw_lload_n (i := 1) dX3_put_5 rfl rfl ?_
  refine aw_l2i dX3_put_6 rfl ?_
  rw [lN_l2i]
  refine aw_iast dX3_put_7 0 _ rfl (nu_a w ha) (by decide +kernel) (by omega) ?_
  refine AW.hp (nu_upa w ha) ?_
  refine aw_aload_n (i := 0) dX3_put_8 rfl rfl ?_
  refine aw_getfield fX3_21 dX3_put_9 (nu_o ha) rfl ?_
  refine aw_iconst (v := 1) dX3_put_12 (by decide +kernel) ?_
  refine aw_lload_n (i := 1) dX3_put_13 rfl rfl ?_
  refine aw_bipush (v := 32) dX3_put_14 (by decide +kernel) ?_
  refine aw_lushr dX3_put_16 rfl ?_
  rw [lN_u32 hx]
  refine aw_l2i dX3_put_17 rfl ?_
  rw [lN_l2i]
  refine aw_iast dX3_put_18 1 _ rfl (nu_a w ha) (by decide +kernel) (by omega) ?_
  refine AW.hp (nu_upa w ha) ?_
  refine aw_aload_n (i := 0) dX3_put_19 rfl rfl ?_
  refine aw_iconst (v := 2) dX3_put_20 (by decide +kernel) ?_
  refine aw_putfield fX3_9 dX3_put_21 (nu_o ha) rfl rfl (Nat.le_of_ble_eq_true rfl) ?_
  dsimp only [List.set]
  refine AW.hp (nu_upo (s' := 2) ha w) ?_
  have hq : raw (L a) (2, va_up (va_up g 0 (x % 2 ^ 32)) 1 (x / 2 ^ 32 % 2 ^ 32)) x := by
    refine ⟨hl2, fun i hi => ?_, ?_⟩
    · show va_up (va_up g 0 _) 1 _ i < 2 ^ 32
      by_cases h1 : i = 1
      · rw [h1, va_up_at]; exact Nat.mod_lt _ (by decide)
      · rw [va_up_off h1]
        by_cases h0 : i = 0
        · rw [h0, va_up_at]; exact Nat.mod_lt _ (by decide)
        · rw [va_up_off h0]; exact hg i hi
    · show bv (2 ^ 32) (va_up (va_up g 0 (x % 2 ^ 32)) 1 (x / 2 ^ 32 % 2 ^ 32)) 2 = x
      rw [bv_2, va_up_at, va_up_off (by decide), va_up_at]
      omega
  refine aw_aload_n (i := 0) dX3_put_24 rfl rfl ?_
  refine aw_invokevirtual kX3_25 dX3_put_25 (nu_o ha) (ct_X3_trim n h L C a _ _ _ w ha hq) rfl rfl (Nat.le_of_ble_eq_true rfl) ⟨Nat.le_of_ble_eq_true rfl, Nat.le_of_ble_eq_true rfl⟩ ⟨Nat.le_of_ble_eq_true rfl, Nat.le_of_ble_eq_true rfl⟩ ?_
  rintro r n' h' ⟨rfl, rfl, hC⟩
  refine aw_return dX3_put_28 rfl (Nat.le_of_ble_eq_true rfl) (Nat.le_of_ble_eq_true rfl) ?_
  exact hQ _ _ _ ⟨rfl, rfl, hC⟩
