/-! numbers of the machine as whole numbers -/
abbrev lI (z : Int) : Int64 := Int64.ofInt z
abbrev iI (z : Int) : Int32 := Int32.ofInt z
theorem lI_N (n : Nat) : lN n = lI n := Int64.ofInt_eq_ofNat.symm
theorem iI_N (n : Nat) : nI n = iI n := Int32.ofInt_eq_ofNat.symm
theorem lI_add (a b : Int) : lI a + lI b = lI (a + b) := (Int64.ofInt_add a b).symm
theorem lI_sub (a b : Int) : lI a - lI b = lI (a - b) := (Int64.ofInt_sub a b).symm
theorem lI_mul (a b : Int) : lI a * lI b = lI (a * b) := (Int64.ofInt_mul a b).symm
theorem lI_T {z : Int} (h1 : -2 ^ 63 ≤ z) (h2 : z < 2 ^ 63) : (lI z).toInt = z := Int64.toInt_ofInt_of_le h1 h2
theorem lI_lt {a b : Int} (h1 : -2 ^ 63 ≤ a) (h2 : a < 2 ^ 63) (h3 : -2 ^ 63 ≤ b) (h4 : b < 2 ^ 63) : lI a < lI b ↔ a < b := by
  rw [Int64.lt_iff_toInt_lt, lI_T h1 h2, lI_T h3 h4]
theorem lI_le {a b : Int} (h1 : -2 ^ 63 ≤ a) (h2 : a < 2 ^ 63) (h3 : -2 ^ 63 ≤ b) (h4 : b < 2 ^ 63) : lI a ≤ lI b ↔ a ≤ b := by
  rw [Int64.le_iff_toInt_le, lI_T h1 h2, lI_T h3 h4]
theorem lI_eq {a b : Int} (h1 : -2 ^ 63 ≤ a) (h2 : a < 2 ^ 63) (h3 : -2 ^ 63 ≤ b) (h4 : b < 2 ^ 63) : lI a = lI b ↔ a = b := by
  rw [← Int64.toInt_inj, lI_T h1 h2, lI_T h3 h4]
theorem lI_i (z : Int) : (lI z).toInt32 = iI z := Int64.toInt32_ofInt
theorem lI_mod (z : Int) : lI z = lI (z % 2 ^ 64) := by
  apply Int64.toBitVec.inj
  rw [Int64.toBitVec_ofInt, Int64.toBitVec_ofInt]
  apply BitVec.eq_of_toNat_eq
  simp only [BitVec.toNat_ofInt]
  congr 1
  have : ((2 ^ 64 : Nat) : Int) = 2 ^ 64 := by norm_cast
  rw [this, Int.emod_emod_of_dvd _ (Int.dvd_refl _)]
theorem iI_mod (z : Int) : iI z = iI (z % 2 ^ 32) := by
  apply Int32.toBitVec.inj
  rw [Int32.toBitVec_ofInt, Int32.toBitVec_ofInt]
  apply BitVec.eq_of_toNat_eq
  simp only [BitVec.toNat_ofInt]
  congr 1
  have : ((2 ^ 32 : Nat) : Int) = 2 ^ 32 := by norm_cast
  rw [this, Int.emod_emod_of_dvd _ (Int.dvd_refl _)]
theorem lI_and (k : Nat) (hk : k < 64) (z : Int) : lI z &&& lI (2 ^ k - 1) = lI (z % 2 ^ k) := by
  apply Int64.toBitVec.inj
  rw [Int64.toBitVec_and, Int64.toBitVec_ofInt, Int64.toBitVec_ofInt, Int64.toBitVec_ofInt]
  apply BitVec.eq_of_toNat_eq
  have hp : (2 : Nat) ^ k ∣ 2 ^ 64 := Nat.pow_dvd_pow 2 (by omega)
  have hle : (2 : Nat) ^ k ≤ 2 ^ 64 := Nat.le_of_dvd (by decide) hp
  have hpos : 0 < (2 : Nat) ^ k := Nat.two_pow_pos k
  rw [BitVec.toNat_and]
  simp only [BitVec.toNat_ofInt]
  have e1 : (((2 : Int) ^ k - 1) % ((2 ^ 64 : Nat) : Int)).toNat = 2 ^ k - 1 := by
    rw [Int.emod_eq_of_lt]
    · have : ((2 : Int) ^ k) = ((2 ^ k : Nat) : Int) := by norm_cast
      rw [this]; omega
    · have : ((2 : Int) ^ k) = ((2 ^ k : Nat) : Int) := by norm_cast
      rw [this]; omega
    · have : ((2 : Int) ^ k) = ((2 ^ k : Nat) : Int) := by norm_cast
      rw [this]; omega
  rw [e1, Nat.and_two_pow_sub_one_eq_mod]
  have hz := Int.emod_nonneg z (show ((2 ^ 64 : Nat) : Int) ≠ 0 by decide)
  have e2 : ((2 : Int) ^ k) = ((2 ^ k : Nat) : Int) := by norm_cast
  rw [e2]
  have h1 := Int.emod_nonneg z (show ((2 ^ k : Nat) : Int) ≠ 0 by omega)
  have h2 := Int.emod_lt_of_pos z (show (0 : Int) < ((2 ^ k : Nat) : Int) by omega)
  rw [Int.emod_eq_of_lt (a := z % ((2 ^ k : Nat) : Int)) h1 (by omega)]
  apply Int.ofNat_inj.mp
  rw [Int.natCast_emod, Int.toNat_of_nonneg hz, Int.toNat_of_nonneg h1]
  exact Int.emod_emod_of_dvd z (Int.ofNat_dvd.mpr hp)
theorem lI_shr {z : Int} (h1 : -2 ^ 63 ≤ z) (h2 : z < 2 ^ 63) {c : Int64} (k : Nat) (hc : (c.toBitVec.smod 64).toNat = k) : lI z >>> c = lI (z / 2 ^ k) := by
  apply Int64.toInt.inj
  have h3 : -2 ^ 63 ≤ z / 2 ^ k := by
    have : (0 : Int) < 2 ^ k := Int.pow_pos (by decide)
    rw [Int.le_ediv_iff_mul_le this]
    have : (1 : Int) ≤ 2 ^ k := by omega
    have : (-2 ^ 63 : Int) * 2 ^ k ≤ -2 ^ 63 * 1 := Int.mul_le_mul_of_nonpos_left (by decide) this
    omega
  have h4 : z / 2 ^ k < 2 ^ 63 := by
    have : (0 : Int) < 2 ^ k := Int.pow_pos (by decide)
    rw [Int.ediv_lt_iff_lt_mul this]
    have : (1 : Int) ≤ 2 ^ k := by omega
    have : (2 ^ 63 : Int) * 1 ≤ 2 ^ 63 * 2 ^ k := Int.mul_le_mul_of_nonneg_left this (by decide)
    omega
  rw [lI_T h3 h4]
  show (Int64.toBitVec (lI z) |>.sshiftRight' (c.toBitVec.smod 64)).toInt = _
  rw [BitVec.toInt_sshiftRight', hc]
  have : (lI z).toBitVec.toInt = z := lI_T h1 h2
  rw [this, Int.shiftRight_eq_div_pow]
  norm_cast
theorem lN_mask28 (n : Nat) : lN n &&& 268435455 = lN (n % 2 ^ 28) := by
  have := lI_and 28 (by decide) n
  rw [lI_N, lI_N]
  have e : (268435455 : Int64) = lI (2 ^ 28 - 1) := by decide
  rw [e, this]; rfl
theorem lI_mask28 (z : Int) : lI z &&& 268435455 = lN (z % 2 ^ 28).toNat := by
  have := lI_and 28 (by decide) z
  have e : (268435455 : Int64) = lI (2 ^ 28 - 1) := by decide
  rw [e, this, lI_N, Int.toNat_of_nonneg (Int.emod_nonneg _ (by decide))]
theorem lN_shr28 {n : Nat} (h : n < 2 ^ 63) : lN n >>> ((28 : Int32).toInt64 &&& 63) = lN (n / 2 ^ 28) := by
  have := lI_shr (z := n) (by omega) (by omega) 28 (c := (28 : Int32).toInt64 &&& 63) (by decide)
  rw [lI_N, this, lI_N]; rfl
theorem lN_shr56 {n : Nat} (h : n < 2 ^ 63) : lN n >>> ((56 : Int32).toInt64 &&& 63) = lN (n / 2 ^ 56) := by
  have := lI_shr (z := n) (by omega) (by omega) 56 (c := (56 : Int32).toInt64 &&& 63) (by decide)
  rw [lI_N, this, lI_N]; rfl
theorem lN_shr1 {n : Nat} (h : n < 2 ^ 63) : lN n >>> ((1 : Int32).toInt64 &&& 63) = lN (n / 2) := by
  have := lI_shr (z := n) (by omega) (by omega) 1 (c := (1 : Int32).toInt64 &&& 63) (by decide)
  rw [lI_N, this, lI_N]; rfl
theorem va_up_at {α : Type} (f : Nat → α) (k : Nat) (v : α) : va_up f k v k = v := by simp [va_up]
theorem va_up_off {α : Type} {f : Nat → α} {k j : Nat} {v : α} (h : j ≠ k) : va_up f k v j = f j := by simp [va_up, h]
/-! big numbers: digits, the lowest first -/
def bv0 (B : Nat) (g : Nat → Nat) : Nat → Nat
  | 0 => 0
  | n + 1 => bv0 B g n + g n * B ^ n
noncomputable def bvs : { f : Nat → (Nat → Nat) → Nat → Nat // f = bv0 } := Classical.choice ⟨⟨bv0, rfl⟩⟩
/-- closed, so that no number of parts is ever unfolded -/
noncomputable def bv (B : Nat) (g : Nat → Nat) (n : Nat) : Nat := bvs.1 B g n
theorem bv_0 (B : Nat) (g : Nat → Nat) : bv B g 0 = 0 := by unfold bv; rw [bvs.2]; rfl
theorem bv_s (B : Nat) (g : Nat → Nat) (n : Nat) : bv B g (n + 1) = bv B g n + g n * B ^ n := by unfold bv; rw [bvs.2]; rfl
theorem bv_congr {B : Nat} {g g' : Nat → Nat} : ∀ {n : Nat}, (∀ i, i < n → g i = g' i) → bv B g n = bv B g' n
  | 0, _ => by rw [bv_0, bv_0]
  | n + 1, h => by simp only [bv_s]; rw [bv_congr (n := n) (fun i hi => h i (by omega)), h n (by omega)]
theorem bv_lt {B : Nat} {g : Nat → Nat} : ∀ {n : Nat}, (∀ i, i < n → g i < B) → bv B g n < B ^ n
  | 0, _ => by rw [bv_0]; simp
  | n + 1, h => by
    have h1 := bv_lt (n := n) (fun i hi => h i (by omega))
    have h2 : (g n + 1) * B ^ n ≤ B * B ^ n := Nat.mul_le_mul_right _ (h n (by omega))
    rw [Nat.add_mul, Nat.one_mul] at h2
    simp only [bv_s]
    rw [Nat.pow_succ, Nat.mul_comm (B ^ n) B]
    omega
theorem bv_zero {B : Nat} {g : Nat → Nat} : ∀ {n : Nat}, (∀ i, i < n → g i = 0) → bv B g n = 0
  | 0, _ => bv_0 B g
  | n + 1, h => by simp only [bv_s]; rw [bv_zero (n := n) (fun i hi => h i (by omega)), h n (by omega)]; simp
theorem bv_up_ge {B : Nat} {g : Nat → Nat} {n j x : Nat} (h : n ≤ j) : bv B (va_up g j x) n = bv B g n := bv_congr fun i hi => va_up_off (by omega)
theorem bv_up {B : Nat} {g : Nat → Nat} {j x : Nat} : ∀ {n : Nat}, j < n → bv B (va_up g j x) n + g j * B ^ j = bv B g n + x * B ^ j
  | 0, h => by omega
  | n + 1, h => by
    simp only [bv_s]
    by_cases hj : j = n
    · subst hj
      rw [bv_up_ge (Nat.le_refl _), va_up_at]; omega
    · have := bv_up (B := B) (g := g) (j := j) (x := x) (n := n) (by omega)
      rw [va_up_off (fun e => hj e.symm)]; omega
theorem bv_add {B : Nat} {g : Nat → Nat} (m : Nat) : ∀ (n : Nat), bv B g (m + n) = bv B g m + B ^ m * bv B (fun i => g (m + i)) n
  | 0 => by rw [bv_0]; simp
  | n + 1 => by
    rw [← Nat.add_assoc]
    simp only [bv_s]
    rw [bv_add m n, Nat.mul_add, Nat.pow_add, Nat.mul_left_comm (B ^ m) (g (m + n))]
    omega
theorem bv_ge {B : Nat} {g : Nat → Nat} {i n : Nat} (hi : i < n) : g i * B ^ i ≤ bv B g n := by
  induction n with
  | zero => omega
  | succ n ih =>
    simp only [bv_s]
    by_cases h : i = n
    · subst h; omega
    · have := ih (by omega); omega
theorem bv_le_of {B : Nat} {g : Nat → Nat} {m n : Nat} (h : m ≤ n) : bv B g m ≤ bv B g n := by
  obtain ⟨k, rfl⟩ := Nat.le.dest h
  rw [bv_add]; omega
theorem bv_high {B : Nat} {g : Nat → Nat} {m n : Nat} (h : m ≤ n) (hz : ∀ i, m ≤ i → i < n → g i = 0) : bv B g n = bv B g m := by
  obtain ⟨k, rfl⟩ := Nat.le.dest h
  rw [bv_add, bv_zero (g := fun i => g (m + i)) (fun i hi => hz _ (by omega) (by omega))]; simp
theorem bv_inj {B : Nat} {g g' : Nat → Nat} : ∀ {n : Nat}, (∀ i, i < n → g i < B) → (∀ i, i < n → g' i < B) → bv B g n = bv B g' n → ∀ i, i < n → g i = g' i
  | 0, _, _, _, i, hi => by omega
  | n + 1, h1, h2, e, i, hi => by
    have l1 := bv_lt (B := B) (g := g) (n := n) (fun i hi => h1 i (by omega))
    have l2 := bv_lt (B := B) (g := g') (n := n) (fun i hi => h2 i (by omega))
    simp only [bv_s] at e
    have hp : 0 < B ^ n := by omega
    have e1 : g n = g' n := by
      have a1 : (bv B g n + g n * B ^ n) / B ^ n = g n := by rw [Nat.add_mul_div_right _ _ hp, Nat.div_eq_of_lt l1, Nat.zero_add]
      have a2 : (bv B g' n + g' n * B ^ n) / B ^ n = g' n := by rw [Nat.add_mul_div_right _ _ hp, Nat.div_eq_of_lt l2, Nat.zero_add]
      rw [← a1, ← a2, e]
    have e2 : bv B g n = bv B g' n := by rw [e1] at e; omega
    by_cases hh : i = n
    · rw [hh]; exact e1
    · exact bv_inj (fun i hi => h1 i (by omega)) (fun i hi => h2 i (by omega)) e2 i (by omega)
theorem bv_eq_zero {B : Nat} (hB : 0 < B) {g : Nat → Nat} {n : Nat} (e : bv B g n = 0) : ∀ i, i < n → g i = 0 := by
  intro i hi
  have := bv_ge (B := B) (g := g) hi
  rw [e] at this
  rcases Nat.eq_zero_or_pos (g i) with h | h
  · exact h
  · have : 0 < g i * B ^ i := Nat.mul_pos h (Nat.pow_pos hB)
    omega
/-- two numbers that agree above a place differ as they do there -/
theorem bv_lt_at {B : Nat} {g g' : Nat → Nat} {i n : Nat} (hi : i < n) (h1 : ∀ j, j < n → g j < B) (hs : ∀ j, i < j → j < n → g j = g' j) (hl : g i < g' i) : bv B g n < bv B g' n := by
  obtain ⟨k, rfl⟩ := Nat.le.dest (show i + 1 ≤ n from hi)
  rw [bv_add (g := g) (i + 1) k, bv_add (g := g') (i + 1) k, bv_congr (n := k) (g := fun j => g (i + 1 + j)) (g' := fun j => g' (i + 1 + j)) (fun j hj => hs _ (by omega) (by omega))]
  have l1 := bv_lt (B := B) (g := g) (n := i) (fun j hj => h1 j (by omega))
  simp only [bv_s]
  have : (g i + 1) * B ^ i ≤ g' i * B ^ i := Nat.mul_le_mul_right _ hl
  rw [Nat.add_mul, Nat.one_mul] at this
  omega
theorem bv_digit {B : Nat} {g : Nat → Nat} {i n : Nat} (hi : i < n) (h : ∀ j, j < n → g j < B) : bv B g n / B ^ i % B = g i := by
  obtain ⟨k, rfl⟩ := Nat.le.dest (show i + 1 ≤ n from hi)
  have l1 := bv_lt (B := B) (g := g) (n := i) (fun j hj => h j (by omega))
  have hp : 0 < B ^ i := by omega
  rw [bv_add (i + 1) k]
  simp only [bv_s]
  rw [Nat.pow_succ, Nat.mul_assoc, Nat.add_assoc, Nat.mul_comm (g i) (B ^ i), ← Nat.mul_add, Nat.add_mul_div_left _ _ hp, Nat.div_eq_of_lt l1, Nat.zero_add, Nat.add_mul_mod_self_left, Nat.mod_eq_of_lt (h i hi)]
theorem carry_step {B P s x c : Nat} (hx : x = s % B) (hc : c = s / B) : x * P + c * (P * B) = s * P := by
  subst hx; subst hc
  have := Nat.mod_add_div s B
  rw [Nat.mul_comm P B, ← Nat.mul_assoc, ← Nat.add_mul, Nat.mul_comm (s / B) B, this]
/-- how many bits a number has -/
def nb (v : Nat) : Nat := if v = 0 then 0 else Nat.log2 v + 1
theorem nb_zero : nb 0 = 0 := rfl
theorem nb_le {v b : Nat} : nb v ≤ b ↔ v < 2 ^ b := by
  unfold nb
  by_cases h : v = 0
  · subst h; simp [Nat.two_pow_pos]
  · rw [if_neg h, ← Nat.log2_lt h]; omega
theorem nb_pos {v : Nat} (h : 0 < v) : 0 < nb v := by
  rcases Nat.eq_zero_or_pos (nb v) with e | e
  · have : v < 2 ^ 0 := nb_le.mp (by omega)
    omega
  · exact e
theorem nb_unique {v b : Nat} (h1 : v < 2 ^ b) (h2 : b = 0 ∨ 2 ^ (b - 1) ≤ v) : nb v = b := by
  have a1 : nb v ≤ b := nb_le.mpr h1
  rcases h2 with h2 | h2
  · omega
  · by_cases hb : b = 0
    · omega
    · have : ¬ nb v ≤ b - 1 := fun q => by have := nb_le.mp q; omega
      omega
theorem nb_half {v : Nat} (h : 0 < v) : nb v = nb (v / 2) + 1 := by
  apply nb_unique
  · have := (nb_le (v := v / 2) (b := nb (v / 2))).mp (Nat.le_refl _)
    rw [Nat.pow_succ]; omega
  · right
    rw [Nat.add_sub_cancel]
    by_cases h2 : v / 2 = 0
    · rw [h2, nb_zero]; simp; omega
    · have : ¬ nb (v / 2) ≤ nb (v / 2) - 1 := by have := nb_pos (v := v / 2) (by omega); omega
      rw [nb_le] at this
      have e := nb_pos (v := v / 2) (by omega)
      have : 2 ^ nb (v / 2) = 2 ^ (nb (v / 2) - 1) * 2 := by rw [← Nat.pow_succ]; congr 1; omega
      omega
theorem nb_add {x d k : Nat} (hx : x < 2 ^ k) (hd : 0 < d) : nb (x + d * 2 ^ k) = k + nb d := by
  have h0 := nb_pos hd
  apply nb_unique
  · have := (nb_le (v := d) (b := nb d)).mp (Nat.le_refl _)
    have h2 : (d + 1) * 2 ^ k ≤ 2 ^ nb d * 2 ^ k := Nat.mul_le_mul_right _ this
    rw [Nat.add_mul] at h2
    rw [Nat.pow_add, Nat.mul_comm (2 ^ k)]; omega
  · right
    have h1 : ¬ nb d ≤ nb d - 1 := by omega
    rw [nb_le] at h1
    have h2 : 2 ^ (nb d - 1) * 2 ^ k ≤ d * 2 ^ k := Nat.mul_le_mul_right _ (by omega)
    rw [show k + nb d - 1 = (nb d - 1) + k by omega, Nat.pow_add]; omega
theorem nb_lt {v : Nat} : v < 2 ^ nb v := nb_le.mp (Nat.le_refl _)
theorem nb_mono {a b : Nat} (h : a ≤ b) : nb a ≤ nb b := nb_le.mpr (Nat.lt_of_le_of_lt h nb_lt)
def cmpI (a b : Nat) : Int32 := if a < b then -1 else if a = b then 0 else 1
/-- one less, from 0 to -1 -/
def pI (m : Nat) : Int32 := iI ((m : Int) - 1)
theorem pI_0 : pI 0 = -1 := by decide +kernel
theorem pI_s (m : Nat) : pI (m + 1) = nI m := by unfold pI; rw [iI_N]; congr 1; omega
theorem pI_d (m : Nat) : nI m + (-1) = pI m := by
  unfold pI
  rw [iI_N, show (-1 : Int32) = iI (-1) by decide +kernel, show iI (m : Int) + iI (-1) = iI (m + -1) from (Int32.ofInt_add _ _).symm]
  rfl
theorem pI_u (m : Nat) : pI m + 1 = nI m := by
  cases m with
  | zero => decide +kernel
  | succ m => rw [pI_s, nI_1]
theorem pI_T {m : Nat} (h : m < 2 ^ 31) : (pI m).toInt = (m : Int) - 1 := Int32.toInt_ofInt_of_le (by omega) (by omega)
theorem nI_T {m : Nat} (h : m < 2 ^ 31) : (nI m).toInt = (m : Int) := nI_toInt h
theorem pI_lt0 {m : Nat} (h : m < 2 ^ 31) : pI m < 0 ↔ m = 0 := by
  rw [Int32.lt_iff_toInt_lt, pI_T h]
  have : (0 : Int32).toInt = 0 := by decide +kernel
  rw [this]; omega
theorem lN_or {x c k : Nat} (hx : x < 2 ^ k) : lN x ||| lN (c * 2 ^ k) = lN (x + c * 2 ^ k) := by
  apply Int64.toBitVec.inj
  rw [Int64.toBitVec_or]
  show BitVec.ofNat 64 x ||| BitVec.ofNat 64 (c * 2 ^ k) = BitVec.ofNat 64 (x + c * 2 ^ k)
  rw [← BitVec.ofNat_or]
  congr 1
  rw [Nat.or_comm, Nat.mul_comm c, ← Nat.two_pow_add_eq_or_of_lt hx]
  omega
theorem lN_shl (x : Nat) {c : Int64} (k : Nat) (hc : (c.toBitVec.smod 64).toNat = k) : lN x <<< c = lN (x * 2 ^ k) := by
  apply Int64.toBitVec.inj
  show BitVec.ofNat 64 x <<< (c.toBitVec.smod 64) = BitVec.ofNat 64 (x * 2 ^ k)
  apply BitVec.eq_of_toNat_eq
  rw [BitVec.shiftLeft_eq', BitVec.toNat_shiftLeft, hc, Nat.shiftLeft_eq, BitVec.toNat_ofNat, BitVec.toNat_ofNat, Nat.mod_mul_mod]
theorem sh_cnt : ∀ r, r < 64 → (((nI r).toInt64 &&& 63).toBitVec.smod 64).toNat = r := by decide +kernel
theorem lN_shr {x : Nat} (hx : x < 2 ^ 63) {r : Nat} (hr : r < 64) : lN x >>> ((nI r).toInt64 &&& 63) = lN (x / 2 ^ r) := by
  have := lI_shr (z := x) (by omega) (by omega) r (sh_cnt r hr)
  rw [lI_N, this, lI_N]; norm_cast
theorem lN_and1 (x : Nat) : lN x &&& 1 = lN (x % 2) := by
  have := lI_and 1 (by decide) x
  have e : (1 : Int64) = lI (2 ^ 1 - 1) := by decide +kernel
  rw [lI_N, lI_N, e, this]; rfl
