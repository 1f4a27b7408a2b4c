/-! the model's rows of longs, by their numbers behind the object -/
def lidx (k : Nat) : Bool := decide (1 ≤ k) && decide (k ≤ 31) && !(k == 8 || k == 17 || k == 18 || k == 21)
def mlen (k : Nat) : Nat := if k = 6 ∨ k = 7 then 640 else if k = 19 then 19360 else if k = 20 then 160 else if k = 26 ∨ k = 27 then 1210 else 96
def mh (h : Hp) (m : Nat) (A : Nat → Nat → Nat) : Hp := fun x => if m ≤ x ∧ lidx (x - m) = true then some (lar (mlen (x - m)) (A (x - m))) else h x
theorem mlen_lt (k : Nat) : mlen k < 2 ^ 31 := by
  unfold mlen
  (repeat' split) <;> decide
theorem mh_at (h : Hp) (m : Nat) (A : Nat → Nat → Nat) {k : Nat} (hk : lidx k = true) : mh h m A (m + k) = some (lar (mlen k) (A k)) := by
  unfold mh
  rw [Nat.add_sub_cancel_left, if_pos ⟨Nat.le_add_right _ _, hk⟩]
theorem mh_96 (h : Hp) (m : Nat) (A : Nat → Nat → Nat) {k : Nat} (hk : lidx k = true) (hl : mlen k = 96) : mh h m A (m + k) = some (lar 96 (A k)) := by rw [mh_at h m A hk, hl]
theorem mh_no (h : Hp) (m : Nat) (A : Nat → Nat → Nat) {k : Nat} (hk : lidx k = false) : mh h m A (m + k) = h (m + k) := by
  unfold mh
  rw [Nat.add_sub_cancel_left, if_neg (by simp [hk])]
theorem mh_0 (h : Hp) (m : Nat) (A : Nat → Nat → Nat) : mh h m A m = h m := mh_no h m A (k := 0) rfl
theorem mh_up (h : Hp) (m : Nat) (A : Nat → Nat → Nat) {k : Nat} (hk : lidx k = true) (g : Nat → Nat) : hup (mh h m A) (m + k) (lar (mlen k) g) = mh h m (va_up A k g) := by
  funext x
  by_cases hx : x = m + k
  · subst hx
    rw [hup_self, mh_at h m _ hk, va_up_at]
  · rw [hup_ne hx]
    unfold mh
    by_cases hc : m ≤ x ∧ lidx (x - m) = true
    · rw [if_pos hc, if_pos hc, va_up_off (by omega)]
    · rw [if_neg hc, if_neg hc]
theorem mh_up96 (h : Hp) (m : Nat) (A : Nat → Nat → Nat) {k : Nat} (hk : lidx k = true) (hl : mlen k = 96) (g : Nat → Nat) : hup (mh h m A) (m + k) (lar 96 g) = mh h m (va_up A k g) := by
  rw [← mh_up h m A hk, hl]
/-- the same but for one row, which holds v -/
def one (A A' : Nat → Nat → Nat) (i v : Nat) : Prop := dg (A' i) v ∧ ∀ k, k ≠ i → A' k = A k
theorem one_up {A : Nat → Nat → Nat} {i v : Nat} {g : Nat → Nat} (h : dg g v) : one A (va_up A i g) i v := ⟨by rw [va_up_at]; exact h, fun k hk => va_up_off hk⟩
theorem mpost {n m i v : Nat} {h : Hp} {A : Nat → Nat → Nat} {M : MI} {av : List Value} (hi : lidx i = true) (li : mlen i = 96) (c : CT M 0 0 n (mh h m A) av (pv n (fun h' => ∃ g', h' = hup (mh h m A) (m + i) (lar 96 g') ∧ dg g' v))) : CT M 0 0 n (mh h m A) av (pv n (fun h' => ∃ A', h' = mh h m A' ∧ one A A' i v)) :=
  c.weaken (fun r n' h' ⟨h1, h2, g', h3, h4⟩ => ⟨h1, h2, va_up A i g', by rw [h3, mh_up96 h m A hi li], one_up h4⟩)
theorem ix_ne {m i j : Nat} (h : i ≠ j) : m + i ≠ m + j := by omega
theorem mc_become (n : Nat) (h : Hp) (m : Nat) (A : Nat → Nat → Nat) (i v : Nat) (hi : lidx i = true) (li : mlen i = 96) (hv : v < 2 ^ 63) : CT mX8_become 0 0 n (mh h m A) [.ref (m + i), .long (lN v)] (pv n (fun h' => ∃ A', h' = mh h m A' ∧ one A A' i v)) :=
  mpost hi li (ct_X8_become n _ _ v _ (mh_96 h m A hi li) hv)
theorem mc_copy (n : Nat) (h : Hp) (m : Nat) (A : Nat → Nat → Nat) (i j v : Nat) (hi : lidx i = true) (li : mlen i = 96) (hj : lidx j = true) (lj : mlen j = 96) (ij : j ≠ i) (hv : dg (A j) v) : CT mX8_copy 0 0 n (mh h m A) [.ref (m + i), .ref (m + j)] (pv n (fun h' => ∃ A', h' = mh h m A' ∧ one A A' i v)) :=
  mpost hi li (ct_X8_copy n _ _ _ v _ _ (mh_96 h m A hi li) (mh_96 h m A hj lj) (ix_ne ij) hv)
theorem mc_load (n : Nat) (h : Hp) (m : Nat) (A : Nat → Nat → Nat) (i j p k0 : Nat) (hi : lidx i = true) (li : mlen i = 96) (hj : lidx j = true) (ij : j ≠ i) (hp : p + k0 ≤ mlen j) (hk : k0 ≤ 96) (hd : ∀ i, i < k0 → A j (p + i) < 2 ^ 28) : CT mX8_load 0 0 n (mh h m A) [.ref (m + i), .ref (m + j), .int (nI p), .int (nI k0)] (pv n (fun h' => ∃ A', h' = mh h m A' ∧ one A A' i (bv (2 ^ 28) (fun q => A j (p + q)) k0))) :=
  mpost hi li (ct_X8_load n _ _ _ p k0 (mlen j) _ _ (mh_96 h m A hi li) (mh_at h m A hj) (ix_ne ij) (mlen_lt j) hp hk hd)
theorem mc_top (n : Nat) (h : Hp) (m : Nat) (A : Nat → Nat → Nat) (i v : Nat) (hi : lidx i = true) (li : mlen i = 96) (hv : dg (A i) v) : CT mX8_top 0 0 n (mh h m A) [.ref (m + i)] (fun r n' h' => n = n' ∧ mh h m A = h' ∧ ∃ t, r = some (.int (pI t)) ∧ tpp (A i) t) :=
  ct_X8_top n _ _ _ (mh_96 h m A hi li) (fun i hi => Nat.lt_of_lt_of_le (hv.1 i hi) (by decide))
theorem mc_bits (n : Nat) (h : Hp) (m : Nat) (A : Nat → Nat → Nat) (i v : Nat) (hi : lidx i = true) (li : mlen i = 96) (hv : dg (A i) v) : CT mX8_bits 0 0 n (mh h m A) [.ref (m + i)] (pint n (mh h m A) (nI (nb v))) :=
  ct_X8_bits n _ _ v _ (mh_96 h m A hi li) hv
theorem mc_compare (n : Nat) (h : Hp) (m : Nat) (A : Nat → Nat → Nat) (i j va vb : Nat) (hi : lidx i = true) (li : mlen i = 96) (hj : lidx j = true) (lj : mlen j = 96) (hva : dg (A i) va) (hvb : dg (A j) vb) : CT mX8_compare 0 0 n (mh h m A) [.ref (m + i), .ref (m + j)] (pint n (mh h m A) (cmpI va vb)) :=
  ct_X8_compare n _ _ _ va vb _ _ (mh_96 h m A hi li) (mh_96 h m A hj lj) hva hvb
theorem mc_plus (n : Nat) (h : Hp) (m : Nat) (A : Nat → Nat → Nat) (i j va vb : Nat) (hi : lidx i = true) (li : mlen i = 96) (hj : lidx j = true) (lj : mlen j = 96) (ij : j ≠ i) (hva : dg (A i) va) (hvb : dg (A j) vb) (hs : va + vb < 2 ^ 2688) : CT mX8_plus 0 0 n (mh h m A) [.ref (m + i), .ref (m + j)] (pv n (fun h' => ∃ A', h' = mh h m A' ∧ one A A' i (va + vb))) :=
  mpost hi li (ct_X8_plus n _ _ _ va vb _ _ (mh_96 h m A hi li) (mh_96 h m A hj lj) (ix_ne ij) hva hvb hs)
theorem mc_minus (n : Nat) (h : Hp) (m : Nat) (A : Nat → Nat → Nat) (i j va vb : Nat) (hi : lidx i = true) (li : mlen i = 96) (hj : lidx j = true) (lj : mlen j = 96) (ij : j ≠ i) (hva : dg (A i) va) (hvb : dg (A j) vb) (hs : vb ≤ va) : CT mX8_minus 0 0 n (mh h m A) [.ref (m + i), .ref (m + j)] (pv n (fun h' => ∃ A', h' = mh h m A' ∧ one A A' i (va - vb))) :=
  mpost hi li (ct_X8_minus n _ _ _ va vb _ _ (mh_96 h m A hi li) (mh_96 h m A hj lj) (ix_ne ij) hva hvb hs)
theorem mc_times (n : Nat) (h : Hp) (m : Nat) (A : Nat → Nat → Nat) (i j k va vb pa pb : Nat) (hi : lidx i = true) (li : mlen i = 96) (hj : lidx j = true) (lj : mlen j = 96) (hk : lidx k = true) (lk : mlen k = 96) (ij : j ≠ i) (ik : k ≠ i) (hva : dg (A j) va) (hvb : dg (A k) vb) (hpa : va < 2 ^ (28 * pa)) (hpb : vb < 2 ^ (28 * pb)) (hpp : pa + pb ≤ 96) : CT mX8_times 0 0 n (mh h m A) [.ref (m + i), .ref (m + j), .ref (m + k)] (pv n (fun h' => ∃ A', h' = mh h m A' ∧ one A A' i (va * vb))) :=
  mpost hi li (ct_X8_times n _ _ _ _ va vb pa pb _ _ _ (mh_96 h m A hi li) (mh_96 h m A hj lj) (mh_96 h m A hk lk) (ix_ne ij) (ix_ne ik) hva hvb hpa hpb hpp)
theorem mc_by (n : Nat) (h : Hp) (m : Nat) (A : Nat → Nat → Nat) (i va m0 : Nat) (hi : lidx i = true) (li : mlen i = 96) (hva : dg (A i) va) (hm0 : m0 < 2 ^ 32) (hs : va * m0 < 2 ^ 2688) : CT mX8_by 0 0 n (mh h m A) [.ref (m + i), .long (lN m0)] (pv n (fun h' => ∃ A', h' = mh h m A' ∧ one A A' i (va * m0))) :=
  mpost hi li (ct_X8_by n _ _ va m0 _ (mh_96 h m A hi li) hva hm0 hs)
theorem mc_twice (n : Nat) (h : Hp) (m : Nat) (A : Nat → Nat → Nat) (i va b0 : Nat) (hi : lidx i = true) (li : mlen i = 96) (hva : dg (A i) va) (hb0 : b0 ≤ 1) (hs : va * 2 + b0 < 2 ^ 2688) : CT mX8_twice 0 0 n (mh h m A) [.ref (m + i), .long (lN b0)] (pv n (fun h' => ∃ A', h' = mh h m A' ∧ one A A' i (va * 2 + b0))) :=
  mpost hi li (ct_X8_twice n _ _ va b0 _ (mh_96 h m A hi li) hva hb0 hs)
theorem mc_bitOf (n : Nat) (h : Hp) (m : Nat) (A : Nat → Nat → Nat) (i va k : Nat) (hi : lidx i = true) (li : mlen i = 96) (hva : dg (A i) va) (hk : k < 2688) : CT mX8_bitOf 0 0 n (mh h m A) [.ref (m + i), .int (nI k)] (plong n (mh h m A) (lN (va / 2 ^ k % 2))) :=
  ct_X8_bitOf n _ _ va k _ (mh_96 h m A hi li) hva hk
theorem dg_small {g : Nat → Nat} {v k : Nat} (hv : dg g v) (hk : v < (2 ^ 28) ^ k) : ∀ i, k ≤ i → i < 96 → g i = 0 := by
  intro i h1 h2
  have := bv_ge (B := 2 ^ 28) (g := g) h2
  rw [hv.2] at this
  rcases Nat.eq_zero_or_pos (g i) with h | h
  · exact h
  · have h3 : 1 * (2 ^ 28) ^ i ≤ g i * (2 ^ 28) ^ i := Nat.mul_le_mul_right _ h
    have h4 : (2 ^ 28) ^ k ≤ (2 ^ 28) ^ i := Nat.pow_le_pow_right (by decide) h1
    omega
theorem mc_half (n : Nat) (h : Hp) (m : Nat) (A : Nat → Nat → Nat) (i va f : Nat) (hi : lidx i = true) (li : mlen i = 96) (hva : dg (A i) va) (hf : f < 96) (hs : va < (2 ^ 28) ^ (f + 1)) : CT mX8_half 0 0 n (mh h m A) [.ref (m + i), .int (nI f)] (pv n (fun h' => ∃ A', h' = mh h m A' ∧ one A A' i (va / 2))) :=
  mpost hi li ((ct_X8_half n _ _ va f _ (mh_96 h m A hi li) hva hf (fun j h1 h2 => dg_small hva hs j h1 h2)).weaken (fun r n' h' ⟨h1, h2, g', h3, h4, _⟩ => ⟨h1, h2, g', h3, h4⟩))
theorem dg_odd {g : Nat → Nat} {v : Nat} (hv : dg g v) : g 0 % 2 = v % 2 := by
  have := bv_digit (i := 0) (n := 96) (by decide) hv.1
  rw [hv.2, Nat.pow_zero, Nat.div_one] at this
  rw [← this, Nat.mod_mod_of_dvd _ (by decide)]
/-- the model's object -/
def mobj (m : Nat) (so we ba ca cb lc ld le : Int32) : AC := .inr (8, [.ref (m + 1), .ref (m + 2), .ref (m + 3), .ref (m + 4), .ref (m + 5), .ref (m + 6), .ref (m + 7), .ref (m + 8), .ref (m + 9), .ref (m + 10), .ref (m + 11), .ref (m + 12), .ref (m + 13), .ref (m + 14), .ref (m + 15), .ref (m + 16), .int so, .ref (m + 17), .ref (m + 18), .ref (m + 19), .ref (m + 20), .int we, .ref (m + 21), .ref (m + 22), .ref (m + 23), .ref (m + 24), .ref (m + 25), .ref (m + 26), .ref (m + 27), .ref (m + 28), .ref (m + 29), .int ba, .ref (m + 30), .ref (m + 31), .int ca, .int cb, .int lc, .int ld, .int le])
/-- it lies in the heap, its numbers whatever they are -/
def mob (h : Hp) (m : Nat) : Prop := ∃ so we ba ca cb lc ld le, h m = some (mobj m so we ba ca cb lc ld le)
theorem cmp_le0 {a b : Nat} : cmpI a b ≤ 0 ↔ a ≤ b := by
  unfold cmpI
  by_cases h1 : a < b
  · rw [if_pos h1]; exact ⟨fun _ => by omega, fun _ => by decide⟩
  · rw [if_neg h1]
    by_cases h2 : a = b
    · rw [if_pos h2]; exact ⟨fun _ => by omega, fun _ => by decide⟩
    · rw [if_neg h2]; exact ⟨fun q => absurd q (by decide), fun _ => by omega⟩
theorem cmp_ge0 {a b : Nat} : 0 ≤ cmpI a b ↔ b ≤ a := by
  unfold cmpI
  by_cases h1 : a < b
  · rw [if_pos h1]; exact ⟨fun q => absurd q (by decide), fun _ => by omega⟩
  · rw [if_neg h1]
    by_cases h2 : a = b
    · rw [if_pos h2]; exact ⟨fun _ => by omega, fun _ => by decide⟩
    · rw [if_neg h2]; exact ⟨fun _ => by omega, fun _ => by decide⟩
theorem cmp_lt0 {a b : Nat} : cmpI a b < 0 ↔ a < b := by rw [← Int32.not_le, cmp_ge0]; omega
theorem cmp_gt0 {a b : Nat} : 0 < cmpI a b ↔ b < a := by rw [← Int32.not_le, cmp_le0]; omega
