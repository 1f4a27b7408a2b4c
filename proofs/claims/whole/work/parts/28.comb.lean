theorem sg_s (f : Nat → Nat) (n : Nat) : sg f (n + 1) = sg f n + f n := rfl
theorem sg_0 (f : Nat → Nat) : sg f 0 = 0 := rfl
theorem sg_add (f g : Nat → Nat) : ∀ n, sg (fun i => f i + g i) n = sg f n + sg g n
  | 0 => rfl
  | n + 1 => by simp only [sg]; rw [sg_add f g n]; omega
theorem sg_mul (f : Nat → Nat) (c : Nat) : ∀ n, sg (fun i => f i * c) n = sg f n * c
  | 0 => by simp [sg]
  | n + 1 => by simp only [sg]; rw [sg_mul f c n, Nat.add_mul]
theorem sg_mull (f : Nat → Nat) (c : Nat) : ∀ n, sg (fun i => c * f i) n = c * sg f n
  | 0 => by simp [sg]
  | n + 1 => by simp only [sg]; rw [sg_mull f c n, Nat.mul_add]
theorem sg_shift (f : Nat → Nat) : ∀ n, sg f (n + 1) = f 0 + sg (fun i => f (i + 1)) n
  | 0 => by simp [sg]
  | n + 1 => by rw [sg_s, sg_shift f n, sg_s]; omega
theorem sg_zero {f : Nat → Nat} : ∀ {n : Nat}, (∀ i, i < n → f i = 0) → sg f n = 0
  | 0, _ => rfl
  | n + 1, h => by rw [sg_s, sg_zero (n := n) (fun i hi => h i (by omega)), h n (by omega)]
theorem sg_const (c : Nat) : ∀ n, sg (fun _ => c) n = c * n
  | 0 => by simp [sg]
  | n + 1 => by rw [sg_s, sg_const c n, Nat.mul_add]; omega
theorem sg_mono {f g : Nat → Nat} : ∀ {n : Nat}, (∀ i, i < n → f i ≤ g i) → sg f n ≤ sg g n
  | 0, _ => Nat.le_refl _
  | n + 1, h => by rw [sg_s, sg_s]; have := sg_mono (n := n) (fun i hi => h i (by omega)); have := h n (by omega); omega
theorem sg_bound {f : Nat → Nat} {c n : Nat} (h : ∀ i, i < n → f i ≤ c) : sg f n ≤ c * n := by rw [← sg_const]; exact sg_mono h
theorem sg_app (f : Nat → Nat) (m : Nat) : ∀ n, sg f (m + n) = sg f m + sg (fun i => f (m + i)) n
  | 0 => rfl
  | n + 1 => by rw [← Nat.add_assoc, sg_s, sg_app f m n, sg_s]; omega
theorem sg_high {f : Nat → Nat} {m n : Nat} (h : m ≤ n) (hz : ∀ i, m ≤ i → i < n → f i = 0) : sg f n = sg f m := by
  obtain ⟨k, rfl⟩ := Nat.le.dest h
  rw [sg_app, sg_zero (f := fun i => f (m + i)) (fun i hi => hz _ (by omega) (by omega))]; rfl
/-- sums over pairs may be taken in either order -/
theorem sg_swap (f : Nat → Nat → Nat) (a : Nat) : ∀ b, sg (fun i => sg (fun j => f i j) b) a = sg (fun j => sg (fun i => f i j) a) b
  | 0 => sg_zero (fun i _ => rfl)
  | b + 1 => by
    rw [sg_s, ← sg_swap f a b, ← sg_add]
    exact sg_congr (fun i _ => rfl)
def cC (a c n k : Nat) : Nat := cho n k * a ^ k * c ^ (n - k)
theorem cC_0 (a c n : Nat) : cC a c (n + 1) 0 = cC a c n 0 * c := by
  unfold cC
  rw [cho_0, cho_0, Nat.pow_zero, Nat.sub_zero, Nat.sub_zero, Nat.pow_succ]; simp
theorem cC_s (a c n k : Nat) : cC a c (n + 1) (k + 1) = cC a c n (k + 1) * c + cC a c n k * a := by
  unfold cC
  have e1 : cho (n + 1) (k + 1) = cho n k + cho n (k + 1) := rfl
  rw [e1, Nat.add_sub_add_right, Nat.pow_succ]
  by_cases hk : k + 1 ≤ n
  · have e2 : c ^ (n - k) = c ^ (n - (k + 1)) * c := by rw [← Nat.pow_succ]; congr 1; omega
    rw [e2, Nat.add_mul, Nat.add_mul]
    have q1 : cho n (k + 1) * (a ^ k * a) * (c ^ (n - (k + 1)) * c) = cho n (k + 1) * (a ^ k * a) * c ^ (n - (k + 1)) * c := by rw [Nat.mul_assoc _ (c ^ (n - (k + 1))) c]
    have q2 : cho n k * (a ^ k * a) * (c ^ (n - (k + 1)) * c) = cho n k * a ^ k * (c ^ (n - (k + 1)) * c) * a := by rw [← Nat.mul_assoc (cho n k), Nat.mul_right_comm]
    rw [q1, q2]; omega
  · rw [cho_big (show n < k + 1 by omega), Nat.add_zero, Nat.zero_mul, Nat.zero_mul, Nat.zero_mul, Nat.zero_add, ← Nat.mul_assoc (cho n k), Nat.mul_right_comm]
theorem cC_big {a c n k : Nat} (h : n < k) : cC a c n k = 0 := by unfold cC; rw [cho_big h]; simp
theorem cC_sum (a c : Nat) : ∀ n, sg (cC a c n) (n + 1) = (a + c) ^ n
  | 0 => by simp [sg, cC, cho]
  | n + 1 => by
    rw [sg_shift, cC_0]
    have e : sg (fun i => cC a c (n + 1) (i + 1)) (n + 1) = sg (fun i => cC a c n (i + 1)) (n + 1) * c + sg (cC a c n) (n + 1) * a := by
      rw [← sg_mul, ← sg_mul, ← sg_add]
      exact sg_congr (fun i _ => cC_s a c n i)
    rw [e, cC_sum a c n, sg_s (fun i => cC a c n (i + 1)) n, cC_big (show n < n + 1 by omega), Nat.add_zero]
    have e2 := sg_shift (cC a c n) n
    rw [cC_sum a c n] at e2
    rw [Nat.pow_succ, Nat.mul_add, e2, Nat.add_mul (cC a c n 0) _ c]
    omega
/-- Vandermonde -/
theorem cho_vand (a : Nat) : ∀ (b n : Nat), sg (fun k => cho a k * cho b (n - k)) (n + 1) = cho (a + b) n := by
  induction a with
  | zero =>
    intro b n
    rw [sg_shift, cho_0, Nat.one_mul, Nat.sub_zero, Nat.zero_add, sg_zero (fun i _ => by rw [cho_big (show 0 < i + 1 by omega)]; simp), Nat.add_zero]
  | succ a ih =>
    intro b n
    cases n with
    | zero => simp [sg, cho_0]
    | succ n =>
      rw [sg_shift, cho_0]
      have e1 : sg (fun i => cho (a + 1) (i + 1) * cho b (n + 1 - (i + 1))) (n + 1) = sg (fun i => cho a i * cho b (n - i)) (n + 1) + sg (fun i => cho a (i + 1) * cho b (n + 1 - (i + 1))) (n + 1) := by
        rw [← sg_add]
        refine sg_congr (fun i _ => ?_)
        rw [show cho (a + 1) (i + 1) = cho a i + cho a (i + 1) from rfl, Nat.add_mul, Nat.add_sub_add_right]
      have e2 := sg_shift (fun k => cho a k * cho b (n + 1 - k)) (n + 1)
      rw [ih b (n + 1), cho_0] at e2
      have e3 : cho (a + 1 + b) (n + 1) = cho (a + b) n + cho (a + b) (n + 1) := by rw [show a + 1 + b = (a + b) + 1 by omega]; rfl
      rw [e1, ih b n, e3]
      omega
theorem cho_pos : ∀ {n k : Nat}, k ≤ n → 0 < cho n k
  | n, 0, _ => by rw [cho_0]; decide
  | 0, k + 1, h => by omega
  | n + 1, k + 1, h => by have := cho_pos (n := n) (k := k) (by omega); simp only [cho]; omega
