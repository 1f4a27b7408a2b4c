/-! the constructors: numbers up to offset c are made, all are 0 -/
def LT (X c a : Nat) : Nat := if a < X + c then LC X 0 a else 0
def NZ : NC := fun _ => zn
theorem NZ_up (a : Nat) : va_up NZ a zn = NZ := by funext k; unfold va_up NZ; split <;> rfl
theorem LT_ge {X c a : Nat} (h : X + c ≤ a) : LT X c a = 0 := by unfold LT; rw [if_neg (by omega)]
theorem LT_at {X c k : Nat} (h : k < c) : LT X c (X + k) = Lo 0 k := by unfold LT; rw [if_pos (by omega), LC_at]
theorem LT_z {X c k : Nat} (h : Lo 0 k = 0) : LT X c (X + k) = 0 := by
  unfold LT
  split
  · rw [LC_at]; exact h
  · rfl
theorem LT_zm {X c k : Nat} (h : k = 0 ∨ Lo 0 (k - 1) = 0) : LT X c (X + k - 1) = 0 := by
  rcases h with rfl | h
  · by_cases hX : X = 0
    · subst hX; exact LT_z (k := 0) rfl
    · unfold LT; split
      · exact LC_lt (by omega)
      · rfl
  · by_cases hk : k = 0
    · subst hk
      by_cases hX : X = 0
      · subst hX; exact LT_z (k := 0) rfl
      · unfold LT; split
        · exact LC_lt (by omega)
        · rfl
    · rw [show X + k - 1 = X + (k - 1) by omega]; exact LT_z h
/-- an object, no number -/
theorem LT_s {X c : Nat} (h : Lo 0 c = 0) : LT X (c + 1) = LT X c := by
  funext a
  unfold LT
  by_cases h1 : a < X + c
  · rw [if_pos h1, if_pos (by omega)]
  · rw [if_neg h1]
    by_cases h2 : a = X + c
    · rw [if_pos (by omega), h2, LC_at]; exact h
    · rw [if_neg (by omega)]
/-- a number -/
theorem LT_n {X c r : Nat} (h : Lo 0 c = r) (h1 : Lo 0 (c + 1) = 0) : va_up (LT X c) (X + c) r = LT X (c + 2) := by
  funext a
  by_cases e : a = X + c
  · rw [e, va_up_at, LT_at (by omega)]; exact h.symm
  · rw [va_up_off e]
    unfold LT
    by_cases h2 : a < X + c
    · rw [if_pos h2, if_pos (by omega)]
    · rw [if_neg h2]
      by_cases h3 : a = X + c + 1
      · rw [if_pos (by omega), h3, Nat.add_assoc, LC_at]; exact h1.symm
      · rw [if_neg (by omega)]
theorem LT_0 (X : Nat) (h : Hp) : h = nh h (LT X 0) NZ := by
  funext y
  have z : ∀ a, LT X 0 a = 0 := fun a => by
    unfold LT; split
    · exact LC_lt (by omega)
    · rfl
  rw [nh_no h NZ (z _) (z _)]
theorem LT_end (X : Nat) : LT X 126 = LC X 0 := by
  funext a
  unfold LT
  by_cases h : a < X + 126
  · rw [if_pos h]
  · rw [if_neg h]
    obtain ⟨o, rfl⟩ : ∃ o, a = X + o := ⟨a - X, by omega⟩
    rw [LC_at]
    unfold Lo
    rw [if_neg (by omega), if_neg (by omega)]
    split
    · rfl
    · rw [if_neg (by omega)]
theorem nt_x {hc : Hp} {X c k : Nat} (N : NC) (h0 : Lo 0 k = 0) (h1 : k = 0 ∨ Lo 0 (k - 1) = 0) : nh hc (LT X c) N (X + k) = hc (X + k) := nh_no hc N (LT_z h0) (LT_zm h1)
theorem nt_u {hc : Hp} {X c k : Nat} (N : NC) (h0 : Lo 0 k = 0) (h1 : k = 0 ∨ Lo 0 (k - 1) = 0) (ac : AC) : hup (nh hc (LT X c) N) (X + k) ac = nh (hup hc (X + k) ac) (LT X c) N := nh_upn hc N (LT_z h0) (LT_zm h1) ac
theorem nt_num {hc : Hp} {X c r : Nat} (ac : AC) (h : Lo 0 c = r) (h1 : Lo 0 (c + 1) = 0) (hm : c = 0 ∨ Lo 0 (c - 1) = 0) (hr : r ≠ 0) : hup (hup (hup (nh hc (LT X c) NZ) (X + c) ac) (X + c + 1) (iar r (fun _ => 0))) (X + c) (.inr (3, [.ref (X + c + 1), .int (nI 0)])) = nh hc (LT X (c + 2)) NZ := by
  rw [nh_new ac (LT_ge (Nat.le_refl _)) (LT_ge (by omega)) (LT_zm hm) hr, LT_n h h1, NZ_up]
