/-! what is weighed for KIND 4 is convex in its base: the first that is not less ends the search -/
theorem pow_mid (a : Nat) : ∀ e, 2 * (a + 1) ^ e ≤ a ^ e + (a + 2) ^ e
  | 0 => by simp
  | e + 1 => by
    have ih := pow_mid a e
    have hm : a ^ e ≤ (a + 2) ^ e := Nat.pow_le_pow_left (by omega) e
    rw [Nat.pow_succ, Nat.pow_succ, Nat.pow_succ]
    generalize a ^ e = x at *
    generalize (a + 2) ^ e = z at *
    generalize (a + 1) ^ e = y at *
    have h1 : 2 * y * (a + 1) ≤ (x + z) * (a + 1) := Nat.mul_le_mul_right _ ih
    have h2 : 2 * (y * (a + 1)) = 2 * y * (a + 1) := (Nat.mul_assoc _ _ _).symm
    rw [h2]
    refine Nat.le_trans h1 ?_
    rw [Nat.add_mul, Nat.mul_add, Nat.mul_add, Nat.mul_add]
    omega
theorem pow_mid2 (a v k : Nat) : 2 * ((a + 1) ^ v * a ^ k * (a + 2) ^ k) ≤ a ^ v * (a + 1) ^ k * (a + 2) ^ k + (a + 2) ^ v * a ^ k * (a + 1) ^ k := by
  by_cases h : k ≤ v
  · obtain ⟨e, rfl⟩ : ∃ e, v = k + e := ⟨v - k, by omega⟩
    have q := pow_mid a e
    rw [Nat.pow_add, Nat.pow_add, Nat.pow_add]
    have := Nat.mul_le_mul_right (a ^ k * (a + 1) ^ k * (a + 2) ^ k) q
    refine Nat.le_trans (Nat.le_of_eq ?_) (Nat.le_trans this (Nat.le_of_eq ?_))
    · grind
    · grind
  · obtain ⟨d, rfl⟩ : ∃ d, k = v + d := ⟨k - v, by omega⟩
    have q := pow_mid a d
    have b : a ^ d * (a + 2) ^ d ≤ (a + 1) ^ d * (a + 1) ^ d := by
      rw [← Nat.mul_pow, ← Nat.mul_pow]
      refine Nat.pow_le_pow_left ?_ d
      rw [Nat.mul_add, Nat.mul_add, Nat.add_mul]; omega
    have r : 2 * (a ^ d * (a + 2) ^ d) ≤ (a ^ d + (a + 2) ^ d) * (a + 1) ^ d := by
      have := Nat.mul_le_mul_right ((a + 1) ^ d) q
      have e2 : 2 * (a + 1) ^ d * (a + 1) ^ d = 2 * ((a + 1) ^ d * (a + 1) ^ d) := Nat.mul_assoc _ _ _
      omega
    rw [Nat.pow_add, Nat.pow_add, Nat.pow_add]
    have := Nat.mul_le_mul_right (a ^ v * (a + 1) ^ v * (a + 2) ^ v) r
    refine Nat.le_trans (Nat.le_of_eq ?_) (Nat.le_trans this (Nat.le_of_eq ?_))
    · grind
    · grind
def wsm (S : TS) (j b : Nat) : Nat := sg (fun v => sC S j v * b ^ v * 4 ^ (sT S j - v)) (sT S j + 1)
theorem wsm_mid (S : TS) (j a k : Nat) : 2 * (wsm S j (a + 1) * a ^ k * (a + 2) ^ k) ≤ wsm S j a * (a + 1) ^ k * (a + 2) ^ k + wsm S j (a + 2) * a ^ k * (a + 1) ^ k := by
  unfold wsm
  rw [← sg_mul, ← sg_mul, ← sg_mul, ← sg_mul, ← sg_mul, ← sg_mul, ← sg_add, ← sg_mull]
  refine sg_mono (fun v _ => ?_)
  have := Nat.mul_le_mul_left (sC S j v * 4 ^ (sT S j - v)) (pow_mid2 a v k)
  refine Nat.le_trans (Nat.le_of_eq ?_) (Nat.le_trans this (Nat.le_of_eq ?_))
  · simp only [Nat.mul_assoc, Nat.mul_comm, Nat.mul_left_comm]
  · rw [Nat.mul_add]; simp only [Nat.mul_assoc, Nat.mul_comm, Nat.mul_left_comm]
theorem wsm_next {S : TS} {j a k : Nat} (ha : 0 < a) (h : wsm S j a * (a + 1) ^ k ≤ wsm S j (a + 1) * a ^ k) : wsm S j (a + 1) * (a + 2) ^ k ≤ wsm S j (a + 2) * (a + 1) ^ k := by
  have m := wsm_mid S j a k
  have h2 := Nat.mul_le_mul_right ((a + 2) ^ k) h
  have h3 : wsm S j (a + 1) * a ^ k * (a + 2) ^ k ≤ wsm S j (a + 2) * a ^ k * (a + 1) ^ k := by omega
  have e1 : wsm S j (a + 1) * a ^ k * (a + 2) ^ k = wsm S j (a + 1) * (a + 2) ^ k * a ^ k := Nat.mul_right_comm _ _ _
  have e2 : wsm S j (a + 2) * a ^ k * (a + 1) ^ k = wsm S j (a + 2) * (a + 1) ^ k * a ^ k := Nat.mul_right_comm _ _ _
  rw [e1, e2] at h3
  exact Nat.le_of_mul_le_mul_right h3 (Nat.pow_pos ha)
theorem fr_trans {x y z a b c : Nat} (hb : 0 < b) (h1 : x * b ≤ y * a) (h2 : y * c ≤ z * b) : x * c ≤ z * a := by
  have q1 := Nat.mul_le_mul_right c h1
  have q2 := Nat.mul_le_mul_right a h2
  refine Nat.le_of_mul_le_mul_right (c := b) ?_ hb
  have e1 : x * c * b = x * b * c := Nat.mul_right_comm _ _ _
  have e2 : z * a * b = z * b * a := Nat.mul_right_comm _ _ _
  have e3 : y * a * c = y * c * a := Nat.mul_right_comm _ _ _
  omega
theorem wsm_all {S : TS} {j m k : Nat} (hm : 0 < m) (h : wsm S j m * (m + 1) ^ k ≤ wsm S j (m + 1) * m ^ k) : ∀ d, wsm S j (m + d) * (m + d + 1) ^ k ≤ wsm S j (m + d + 1) * (m + d) ^ k ∧ wsm S j m * (m + d + 1) ^ k ≤ wsm S j (m + d + 1) * m ^ k
  | 0 => ⟨h, h⟩
  | d + 1 => by
    obtain ⟨i1, i2⟩ := wsm_all hm h d
    have n := wsm_next (show 0 < m + d by omega) i1
    exact ⟨n, fr_trans (Nat.pow_pos (show 0 < m + d + 1 by omega)) i2 n⟩
theorem ra_cmp {S : TS} {s k a b : Nat} (h : 0 < stot S s) : raA S s k a * raB S s k b < raA S s k b * raB S s k a ↔ wsm S s a * b ^ k < wsm S s b * a ^ k := by
  have ea : raA S s k a * raB S s k b = wsm S s a * b ^ k * (4 ^ k * stot S s * 4 ^ sT S s) := by
    show wsm S s a * 4 ^ k * (stot S s * b ^ k * 4 ^ sT S s) = _
    simp only [Nat.mul_assoc, Nat.mul_comm, Nat.mul_left_comm]
  have eb : raA S s k b * raB S s k a = wsm S s b * a ^ k * (4 ^ k * stot S s * 4 ^ sT S s) := by
    show wsm S s b * 4 ^ k * (stot S s * a ^ k * 4 ^ sT S s) = _
    simp only [Nat.mul_assoc, Nat.mul_comm, Nat.mul_left_comm]
  rw [ea, eb]
  exact Nat.mul_lt_mul_right (Nat.mul_pos (Nat.mul_pos (Nat.pow_pos (by decide)) h) (Nat.pow_pos (by decide)))
theorem raL_go {S : TS} {s k n : Nat} (h : 0 < stot S s) (h0 : n = 0 ∨ (raL S s k n = n + 4 ∧ wsm S s (n + 5) * (n + 4) ^ k < wsm S s (n + 4) * (n + 5) ^ k)) : raL S s k (n + 1) = n + 5 := by
  show (if raL S s k n = 0 ∨ raA S s k (n + 5) * raB S s k (raL S s k n) < raA S s k (raL S s k n) * raB S s k (n + 5) then n + 5 else raL S s k n) = n + 5
  rcases h0 with rfl | ⟨e, q⟩
  · exact if_pos (Or.inl rfl)
  · rw [if_pos (Or.inr (by rw [e]; exact (ra_cmp h).mpr q))]
theorem raL_stop {S : TS} {s k n : Nat} (h : 0 < stot S s) (e : raL S s k n = n + 4) (q : ¬ wsm S s (n + 5) * (n + 4) ^ k < wsm S s (n + 4) * (n + 5) ^ k) : ∀ d, raL S s k (n + d) = n + 4
  | 0 => e
  | d + 1 => by
    have ih := raL_stop h e q d
    show (if raL S s k (n + d) = 0 ∨ raA S s k (n + d + 5) * raB S s k (raL S s k (n + d)) < raA S s k (raL S s k (n + d)) * raB S s k (n + d + 5) then n + d + 5 else raL S s k (n + d)) = n + 4
    rw [ih, if_neg]
    rintro (z | z)
    · omega
    · have z2 := (ra_cmp h).mp z
      have w := (wsm_all (S := S) (j := s) (m := n + 4) (k := k) (by omega) (Nat.le_of_not_lt q) d).2
      rw [show n + 4 + d + 1 = n + d + 5 by omega] at w
      omega
/-- as it is reckoned: from the highest value down -/
def wq (c : Nat → Nat) (T b : Nat) : Nat → Nat
  | 0 => 0
  | i + 1 => wq c T b i * b + c (T - i) * 4 ^ i
theorem wq_sum (c : Nat → Nat) (T b : Nat) : ∀ i, i ≤ T + 1 → wq c T b i * b ^ (T + 1 - i) + sg (fun v => c v * b ^ v * 4 ^ (T - v)) (T + 1 - i) = sg (fun v => c v * b ^ v * 4 ^ (T - v)) (T + 1)
  | 0, _ => by show 0 * _ + _ = _; rw [Nat.zero_mul, Nat.zero_add]; rfl
  | i + 1, h => by
    have ih := wq_sum c T b i (by omega)
    rw [show T + 1 - i = (T - i) + 1 by omega, sg_s, Nat.pow_succ, show T - (T - i) = i by omega] at ih
    rw [show T + 1 - (i + 1) = T - i by omega, ← ih]
    show (wq c T b i * b + c (T - i) * 4 ^ i) * b ^ (T - i) + _ = _
    rw [Nat.add_mul]
    have e1 : wq c T b i * b * b ^ (T - i) = wq c T b i * (b ^ (T - i) * b) := by simp only [Nat.mul_assoc, Nat.mul_comm, Nat.mul_left_comm]
    have e2 : c (T - i) * 4 ^ i * b ^ (T - i) = c (T - i) * b ^ (T - i) * 4 ^ i := Nat.mul_right_comm _ _ _
    omega
theorem wq_le {c : Nat → Nat} {T b i : Nat} (hb : 0 < b) (h : i ≤ T + 1) : wq c T b i ≤ sg (fun v => c v * b ^ v * 4 ^ (T - v)) (T + 1) := by
  have := wq_sum c T b i h
  have := Nat.le_mul_of_pos_right (wq c T b i) (Nat.pow_pos (n := T + 1 - i) hb)
  omega
theorem wq_le2 {c : Nat → Nat} {T b i : Nat} (hb : 0 < b) (h : i ≤ T) : wq c T b i * b ≤ sg (fun v => c v * b ^ v * 4 ^ (T - v)) (T + 1) := by
  have q := wq_sum c T b i (by omega)
  rw [show T + 1 - i = (T - i) + 1 by omega, Nat.pow_succ] at q
  have := Nat.le_mul_of_pos_right (wq c T b i * b) (Nat.pow_pos (n := T - i) hb)
  have e1 : wq c T b i * b * b ^ (T - i) = wq c T b i * (b ^ (T - i) * b) := by simp only [Nat.mul_assoc, Nat.mul_comm, Nat.mul_left_comm]
  omega
theorem wq_end (S : TS) (j b : Nat) : wq (sC S j) (sT S j) b (sT S j + 1) = wsm S j b := by
  have := wq_sum (sC S j) (sT S j) b (sT S j + 1) (Nat.le_refl _)
  rw [Nat.sub_self, Nat.pow_zero, Nat.mul_one, sg_0, Nat.add_zero] at this
  exact this
theorem wsm_lt {S : TS} {j b : Nat} (hI : SInv S) (hj : j < sN S) (h4 : 4 ≤ b) (hb : b ≤ 12) : wsm S j b < (2 ^ 32) ^ 22 := Nat.lt_trans (ra_sum hI hj hb h4) (by decide +kernel)
theorem bk_lt {b k : Nat} (hb : b ≤ 12) (hk : k ≤ 120) : b ^ k < (2 ^ 32) ^ 14 := Nat.lt_of_le_of_lt (Nat.le_trans (Nat.pow_le_pow_left hb k) (Nat.pow_le_pow_right (by decide) hk)) (by decide +kernel)
