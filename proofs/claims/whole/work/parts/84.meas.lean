/-! the measurer: what it reckons, s / t the mean in lowest terms -/
def gS (S : TS) (j : Nat) : Nat := Nat.gcd (smean S j) (stot S j)
def sS (S : TS) (j : Nat) : Nat := smean S j / Nat.gcd (smean S j) (stot S j)
def tS (S : TS) (j : Nat) : Nat := stot S j / Nat.gcd (smean S j) (stot S j)
theorem gS_pos {S : TS} {j : Nat} (h : 0 < stot S j) : 0 < gS S j := Nat.gcd_pos_of_pos_right _ h
theorem sS_m (S : TS) (j : Nat) : smean S j = sS S j * gS S j := (Nat.div_mul_cancel (Nat.gcd_dvd_left _ _)).symm
theorem tS_m (S : TS) (j : Nat) : stot S j = tS S j * gS S j := (Nat.div_mul_cancel (Nat.gcd_dvd_right _ _)).symm
theorem tS_pos {S : TS} {j : Nat} (h : 0 < stot S j) : 0 < tS S j := by
  rcases Nat.eq_zero_or_pos (tS S j) with e | e
  · rw [tS_m, e, Nat.zero_mul] at h; exact absurd h (by decide)
  · exact e
theorem st_x (S : TS) (j : Nat) : sS S j * stot S j = smean S j * tS S j := by
  rw [tS_m S j]
  conv => rhs; rw [sS_m S j]
  simp only [Nat.mul_assoc, Nat.mul_comm, Nat.mul_left_comm]
/-- how far t v lies from s -/
def dvn (s t v : Nat) : Nat := if s < t * v then t * v - s else s - t * v
theorem away_dv {S : TS} {j : Nat} (h : 0 < stot S j) (v : Nat) : awayN S j v = gS S j * dvn (sS S j) (tS S j) v := by
  have hg := gS_pos h
  unfold awayN dvn
  rw [sS_m S j, tS_m S j]
  have e : tS S j * gS S j * v = gS S j * (tS S j * v) := by simp only [Nat.mul_assoc, Nat.mul_comm, Nat.mul_left_comm]
  have e2 : sS S j * gS S j = gS S j * sS S j := Nat.mul_comm _ _
  rw [e, e2]
  by_cases hc : sS S j < tS S j * v
  · rw [if_pos hc, if_pos (Nat.mul_lt_mul_of_pos_left hc hg), Nat.mul_sub]
  · rw [if_neg hc, if_neg (fun q => hc (Nat.lt_of_mul_lt_mul_left q)), Nat.mul_sub]
theorem dvn_2 (s t v : Nat) : dvn s t v ^ 2 + 2 * s * (t * v) = (t * v) ^ 2 + s ^ 2 := by
  unfold dvn
  generalize t * v = x
  split
  · obtain ⟨y, rfl⟩ : ∃ y, x = s + y := ⟨x - s, by omega⟩
    rw [Nat.add_sub_cancel_left]; grind
  · obtain ⟨y, rfl⟩ : ∃ y, s = x + y := ⟨s - x, by omega⟩
    rw [Nat.add_sub_cancel_left]; grind
theorem dvn_4 (s t v : Nat) : dvn s t v ^ 4 + 4 * s * (t * v) ^ 3 + 4 * s ^ 3 * (t * v) = (t * v) ^ 4 + 6 * s ^ 2 * (t * v) ^ 2 + s ^ 4 := by
  unfold dvn
  generalize t * v = x
  split
  · obtain ⟨y, rfl⟩ : ∃ y, x = s + y := ⟨x - s, by omega⟩
    rw [Nat.add_sub_cancel_left]; grind
  · obtain ⟨y, rfl⟩ : ∃ y, s = x + y := ⟨s - x, by omega⟩
    rw [Nat.add_sub_cancel_left]; grind
/-- the sum of powers; the sum of what lies away -/
def spw (S : TS) (j e : Nat) : Nat := sg (fun v => sC S j v * v ^ e) (sT S j + 1)
def spr (S : TS) (j e : Nat) : Nat := sg (fun v => sC S j v * dvn (sS S j) (tS S j) v ^ e) (sT S j + 1)
theorem spw_0 (S : TS) (j : Nat) : spw S j 0 = stot S j := sg_congr (fun v _ => by rw [Nat.pow_zero, Nat.mul_one])
theorem spw_1 (S : TS) (j : Nat) : spw S j 1 = smean S j := sg_congr (fun v _ => by rw [Nat.pow_one])
theorem smom_spr {S : TS} {j : Nat} (h : 0 < stot S j) (e : Nat) : smom S j e = gS S j ^ e * spr S j e := by
  unfold smom spr
  rw [← sg_mull]
  exact sg_congr (fun v _ => by rw [away_dv h, Nat.mul_pow]; simp only [Nat.mul_assoc, Nat.mul_comm, Nat.mul_left_comm])
theorem spr_2 (S : TS) (j : Nat) : spr S j 2 + sS S j ^ 2 * stot S j = tS S j ^ 2 * spw S j 2 := by
  have key : spr S j 2 + 2 * sS S j * tS S j * spw S j 1 = tS S j ^ 2 * spw S j 2 + sS S j ^ 2 * spw S j 0 := by
    unfold spr spw
    rw [← sg_mull, ← sg_mull, ← sg_mull, ← sg_add, ← sg_add]
    refine sg_congr (fun v _ => ?_)
    have := dvn_2 (sS S j) (tS S j) v
    have e : sC S j v * (dvn (sS S j) (tS S j) v ^ 2 + 2 * sS S j * (tS S j * v)) = sC S j v * ((tS S j * v) ^ 2 + sS S j ^ 2) := by rw [this]
    grind
  rw [spw_0, spw_1] at key
  have x := st_x S j
  grind
theorem spr_4 (S : TS) (j : Nat) : spr S j 4 + 4 * (tS S j ^ 3 * sS S j * spw S j 3) + 3 * (sS S j ^ 4 * stot S j) = tS S j ^ 4 * spw S j 4 + 6 * (tS S j ^ 2 * sS S j ^ 2 * spw S j 2) := by
  have key : spr S j 4 + 4 * tS S j ^ 3 * sS S j * spw S j 3 + 4 * tS S j * sS S j ^ 3 * spw S j 1 = tS S j ^ 4 * spw S j 4 + 6 * tS S j ^ 2 * sS S j ^ 2 * spw S j 2 + sS S j ^ 4 * spw S j 0 := by
    unfold spr spw
    rw [← sg_mull, ← sg_mull, ← sg_mull, ← sg_mull, ← sg_mull, ← sg_add, ← sg_add, ← sg_add, ← sg_add]
    refine sg_congr (fun v _ => ?_)
    have := dvn_4 (sS S j) (tS S j) v
    have e : sC S j v * (dvn (sS S j) (tS S j) v ^ 4 + 4 * sS S j * (tS S j * v) ^ 3 + 4 * sS S j ^ 3 * (tS S j * v)) = sC S j v * ((tS S j * v) ^ 4 + 6 * sS S j ^ 2 * (tS S j * v) ^ 2 + sS S j ^ 4) := by rw [this]
    grind
  rw [spw_0, spw_1] at key
  have x := st_x S j
  have x2 : tS S j * sS S j ^ 3 * smean S j = sS S j ^ 4 * stot S j := by
    have : sS S j ^ 3 * (sS S j * stot S j) = sS S j ^ 3 * (smean S j * tS S j) := by rw [x]
    grind
  grind
