/-! each side's room is its own -/
theorem MRep.fr {h h' : Hp} {m : Nat} {S : TS} (hR : MRep h m S) (e : ∀ y, m ≤ y → y < m + 32 → h' y = h y) : MRep h' m S := by
  obtain ⟨h0, A, bo, ki, mo, wt, rfl, ⟨b1, b2, b3, b4, b5, b6, b7⟩, hA⟩ := hR
  have l : ∀ k, lidx k = true → k < 32 := fun k hk => by unfold lidx at hk; simp at hk; omega
  have z : ∀ k, k < 32 → lidx k = false → h' (m + k) = h0 (m + k) := fun k hk hl => by
    rw [e _ (by omega) (by omega)]
    unfold mh
    rw [Nat.add_sub_cancel_left, if_neg (fun q => by rw [hl] at q; exact absurd q.2 (by decide))]
  refine ⟨h', A, bo, ki, mo, wt, ?_, ⟨?_, ?_, ?_, ?_, ?_, b6, b7⟩, hA⟩
  · funext y
    unfold mh
    split
    · next hc =>
      obtain ⟨h1, h2⟩ := hc
      have := l _ h2
      rw [e y h1 (by omega)]
      unfold mh
      rw [if_pos ⟨h1, h2⟩]
    · rfl
  · have := z 0 (by decide) rfl; rw [Nat.add_zero] at this; rw [this]; exact b1
  · rw [z 8 (by decide) rfl]; exact b2
  · rw [z 17 (by decide) rfl]; exact b3
  · rw [z 18 (by decide) rfl]; exact b4
  · rw [z 21 (by decide) rfl]; exact b5
theorem CRep.fr {h h' : Hp} {X : Nat} {S : TS} (hR : CRep h X S) (e : ∀ y, y < X + 126 ∨ X + 158 ≤ y → h' y = h y) : CRep h' X S := by
  obtain ⟨hc, N, rfl, h1, h2, h3, h4, h5⟩ := hR
  have z : ∀ o, 126 ≤ o → o < 158 → Lo (sN S) o = 0 ∧ Lo (sN S) (o - 1) = 0 := fun o o1 o2 => by
    constructor
    · unfold Lo; rw [if_neg (by omega), if_neg (by omega), if_pos (by omega)]
    · by_cases ho : o = 126
      · subst ho; rfl
      · unfold Lo; rw [if_neg (by omega), if_neg (by omega), if_pos (by omega)]
  have hf : ∀ y, y < X + 126 ∨ X + 158 ≤ y → (fun y => if X + 126 ≤ y ∧ y < X + 158 then h' y else hc y) y = hc y := fun y hy => if_neg (by omega)
  refine ⟨fun y => if X + 126 ≤ y ∧ y < X + 158 then h' y else hc y, N, ?_, ?_⟩
  · funext y
    by_cases hy : X + 126 ≤ y ∧ y < X + 158
    · obtain ⟨o, rfl⟩ : ∃ o, y = X + o := ⟨y - X, by omega⟩
      obtain ⟨z1, z2⟩ := z o (by omega) (by omega)
      rw [nh_X N z1 (Or.inr z2), if_pos hy]
    · rw [e y (by omega)]
      unfold nh
      rw [hf y (by omega)]
  · generalize (fun y => if X + 126 ≤ y ∧ y < X + 158 then h' y else hc y) = hc' at *
    obtain ⟨o1, ⟨wt, o2, o3⟩, ⟨fs, o4, o5⟩, ⟨fp, o6, o7⟩, ⟨od, o8⟩, o9, o10, td, sh, g, o11, o12, o13⟩ := h2
    obtain ⟨R, H, W, ⟨a, b, c0, d, y1, y2⟩, q⟩ := h5
    refine ⟨h1, ⟨by rw [hf _ (by omega)]; exact o1, ⟨wt, by rw [hf _ (by omega)]; exact o2, o3⟩, ⟨fs, by rw [hf _ (by omega)]; exact o4, o5⟩, ⟨fp, by rw [hf _ (by omega)]; exact o6, o7⟩, ⟨od, by rw [hf _ (by omega)]; exact o8⟩, by rw [hf _ (by omega)]; exact o9, by rw [hf _ (by omega)]; exact o10, td, sh, g, by rw [hf _ (by omega)]; exact o11, by rw [hf _ (by omega)]; exact o12, by rw [hf _ (by omega)]; exact o13.1, by rw [hf _ (by omega)]; exact o13.2.1, o13.2.2⟩, fun p hp => ?_, fun j hj => ?_, R, H, W, ⟨a, b, c0, d, by rw [hf _ (by omega)]; exact y1, y2⟩, q⟩
    · obtain ⟨a1, a2⟩ := h3 p hp
      have ep : plb X p = X + (46 + 5 * p) := rfl
      exact ⟨by rw [hf _ (by omega)]; exact a1, a2⟩
    · obtain ⟨a1, ⟨g', a2, a3⟩, a4, a5⟩ := h4 j hj
      have ej : sob X j = X + (158 + 10 * j) := rfl
      exact ⟨by rw [hf _ (by omega)]; exact a1, ⟨g', ⟨by rw [hf _ (by omega)]; exact a2.1, by rw [hf _ (by omega)]; exact a2.2.1, a2.2.2⟩, a3⟩, by rw [hf _ (by omega)]; exact a4, a5⟩
/-! what holds of every state -/
theorem SInv_0 : SInv S0 := ⟨⟨by decide, fun i hi => absurd hi (Nat.not_lt_zero i)⟩, ⟨by decide, fun i hi => absurd hi (Nat.not_lt_zero i)⟩, fun p u d q => (by cases q), by decide, ⟨by decide, by decide, by decide⟩, ⟨by decide, by decide, by decide, by decide⟩⟩
theorem iv_newS {S : TS} {kd t : Nat} {c : Nat → Nat} (hI : SInv S) (hk : kd ≤ 4) (ht : t ≤ 120) (h0 : 0 < sg c (t + 1)) (h1 : sg c (t + 1) < 2 ^ 256) : SInv (newS S kd t c).2 := by
  obtain ⟨i1, ⟨i2, i3⟩, i4⟩ := id hI
  unfold newS
  by_cases hf : sN S = 16
  · rw [if_pos hf]; exact hI
  · rw [if_neg hf]
    refine ⟨i1, ⟨show sN S + 1 ≤ 16 by omega, fun s hs => ?_⟩, i4⟩
    have hs' : s < sN S + 1 := hs
    by_cases e : s = sN S
    · subst e
      unfold stot
      show va_up (sK S) (sN S) kd (sN S) ≤ 4 ∧ va_up (sT S) (sN S) t (sN S) ≤ 120 ∧ 0 < sg (va_up (sC S) (sN S) c (sN S)) (va_up (sT S) (sN S) t (sN S) + 1) ∧ sg (va_up (sC S) (sN S) c (sN S)) (va_up (sT S) (sN S) t (sN S) + 1) < 2 ^ 256
      rw [va_up_at, va_up_at, va_up_at]
      exact ⟨hk, ht, h0, h1⟩
    · have := i3 s (by omega)
      unfold stot at this ⊢
      show va_up (sK S) (sN S) kd s ≤ 4 ∧ va_up (sT S) (sN S) t s ≤ 120 ∧ 0 < sg (va_up (sC S) (sN S) c s) (va_up (sT S) (sN S) t s + 1) ∧ sg (va_up (sC S) (sN S) c s) (va_up (sT S) (sN S) t s + 1) < 2 ^ 256
      rw [va_up_off e, va_up_off e, va_up_off e]
      exact this
theorem iv_setP {S : TS} {p : Nat} {o : Option (Nat × Nat)} (hI : SInv S) (h : ∀ u d, o = some (u, d) → 0 < d ∧ Nat.gcd u d = 1 ∧ u < 2 ^ 1024 ∧ d < 2 ^ 1024) : SInv (setP S p o) := by
  obtain ⟨i1, i2, i3, i4⟩ := hI
  refine ⟨i1, i2, fun q u d e => ?_, i4⟩
  have e' : va_up (sP S) p o q = some (u, d) := e
  by_cases hq : q = p
  · rw [hq, va_up_at] at e'; exact h u d e'
  · rw [va_up_off hq] at e'; exact i3 q u d e'
theorem iv_putP {S : TS} {p u d : Nat} (hI : SInv S) (hd : 0 < d) : SInv (putP S p u d).2 := by
  unfold putP
  split
  · next hc =>
    refine iv_setP hI (fun a b e => ?_)
    cases e
    exact ⟨Nat.div_pos (Nat.le_of_dvd hd (Nat.gcd_dvd_right u d)) (Nat.gcd_pos_of_pos_right _ hd), Nat.gcd_div_gcd_div_gcd_of_pos_right hd, nb_le.mp hc.1, nb_le.mp hc.2⟩
  · exact hI
theorem iv_capP {S : TS} {p u d : Nat} (hI : SInv S) (hd : 0 < d) : SInv (capP S p u d).2 := by
  unfold capP
  split
  · exact iv_putP hI (by decide)
  · exact iv_putP hI hd
theorem iv_setB {S : TS} {b : Nat} (hI : SInv S) (hb : b ≤ 12) : SInv (setB S b) := ⟨hI.1, hI.2.1, hI.2.2.1, hb, hI.2.2.2.2⟩
theorem iv_weight {S : TS} (hI : SInv S) (x : Int32) : SInv (opWeight S x).2 := by
  unfold opWeight
  split
  · next hr =>
    obtain ⟨-, -, -, hx⟩ := rg_N hr (by decide)
    obtain ⟨⟨i1, i2⟩, i3⟩ := id hI
    split
    · exact hI
    · refine ⟨⟨show sNw S + 1 ≤ 8 by omega, fun i hi => ?_⟩, i3⟩
      have hi' : i < sNw S + 1 := hi
      show va_up (sW S) (sNw S) (tN x) i ≤ 1000
      by_cases e : i = sNw S
      · rw [e, va_up_at]; omega
      · rw [va_up_off e]; exact i2 i (by omega)
  · exact hI
theorem iv_wipe {S : TS} (hI : SInv S) : SInv (opWipe S).2 := ⟨⟨Nat.zero_le _, fun i hi => absurd hi (Nat.not_lt_zero i)⟩, hI.2⟩
theorem iv_coins {S : TS} (hI : SInv S) (n a b : Int32) : SInv (opCoins S n a b).2 := by
  unfold opCoins
  split
  · next hr =>
    obtain ⟨h1, h2⟩ := Bool.and_eq_true_iff.mp hr
    obtain ⟨h3, h4⟩ := Bool.and_eq_true_iff.mp h2
    obtain ⟨-, -, -, hn⟩ := rg_N h1 (by decide)
    obtain ⟨-, eb, hb1, hb2⟩ := rg_N h3 (by decide)
    obtain ⟨-, -, -, ha⟩ := rg_N h4 (by decide)
    have ht := cCoins_tot (n := tN n) (a := tN a) (b := tN b) (by omega)
    exact iv_newS hI (by decide) (by omega) (by rw [ht]; exact Nat.pow_pos (by omega)) (by rw [ht]; exact coins_lt (by omega) (by omega))
  · exact hI
theorem iv_drawn {S : TS} (hI : SInv S) (al go x : Int32) : SInv (opDrawn S al go x).2 := by
  unfold opDrawn
  split
  · next hr =>
    obtain ⟨h1, h2⟩ := Bool.and_eq_true_iff.mp hr
    obtain ⟨h3, h4⟩ := Bool.and_eq_true_iff.mp h2
    obtain ⟨-, ea, ha1, ha2⟩ := rg_N h1 (by decide)
    obtain ⟨-, -, -, hg⟩ := rg_N h3 (by decide)
    obtain ⟨-, -, -, hx⟩ := rg_N h4 (by decide)
    have ht := cDrawn_tot (all := tN al) (good := tN go) (x := tN x) (by omega)
    exact iv_newS hI (by decide) (by omega) (by rw [ht]; exact cho_pos (by omega)) (by rw [ht]; exact Nat.lt_trans (cho_bd (by omega) _) (by decide))
  · exact hI
theorem iv_sums {S : TS} (hI : SInv S) (n : Int32) : SInv (opSums S n).2 := by
  unfold opSums
  split
  · next hr =>
    obtain ⟨h1, h2⟩ := Bool.and_eq_true_iff.mp hr
    obtain ⟨-, -, -, hn⟩ := rg_N h1 (by decide)
    have h3 : sg (sW S) (sNw S) ≠ 0 := fun q => by rw [q] at h2; exact absurd h2 (by decide)
    have hw : 1 ≤ sNw S := by
      rcases hm : sNw S with _ | k
      · rw [hm] at h3; exact absurd rfl h3
      · omega
    have h8 := hI.1.1
    have ht := cS_tot (sW S) hw (tN n)
    have hk : tN n * (sNw S - 1) ≤ 12 * 7 := Nat.mul_le_mul (by omega) (by omega)
    exact iv_newS hI (by decide) (by omega) (by rw [ht]; exact Nat.pow_pos (by omega)) (by rw [ht]; exact sums_lt hI (by omega))
  · exact hI
theorem isS_lt {S : TS} {s : Int32} (h : isS S s = true) : tN s < sN S := by
  obtain ⟨-, -, -, hs⟩ := rg_N h (by decide)
  omega
theorem iv_both {S : TS} (hI : SInv S) (x y : Int32) : SInv (opBoth S x y).2 := by
  unfold opBoth
  split
  · next hr =>
    obtain ⟨h1, h2⟩ := Bool.and_eq_true_iff.mp hr
    obtain ⟨h3, h4⟩ := Bool.and_eq_true_iff.mp h2
    have hx := hI.2.1.2 _ (isS_lt h1)
    have hy := hI.2.1.2 _ (isS_lt h3)
    split
    · exact hI
    · split
      · next hb =>
        have ht : sg (cBoth (sC S (tN x)) (sC S (tN y)) (sT S (tN x)) (sT S (tN y))) (sT S (tN x) + sT S (tN y) + 1) = stot S (tN x) * stot S (tN y) := cBoth_tot _ _ _ _
        exact iv_newS hI (by decide) (of_decide_eq_true h4) (by rw [ht]; exact Nat.mul_pos hx.2.2.1 hy.2.2.1) (by rw [ht]; exact nb_le.mp hb)
      · exact hI
  · exact hI
theorem iv_held {S : TS} (hI : SInv S) (x lo hi : Int32) : SInv (opHeld S x lo hi).2 := by
  unfold opHeld
  split
  · next hr =>
    obtain ⟨h1, h2⟩ := Bool.and_eq_true_iff.mp hr
    have hx := hI.2.1.2 _ (isS_lt h1)
    rw [← held_iff] at h2
    obtain ⟨h3, h4⟩ := Bool.and_eq_true_iff.mp h2
    obtain ⟨-, e3, -, hh⟩ := rg_N h3 (by decide)
    obtain ⟨-, -, -, hl⟩ := rg_N h4 (by decide)
    have ht : sg (cHeld (sC S (tN x)) (sT S (tN x)) (tN lo) (tN hi)) (sT S (tN x) + 1) = stot S (tN x) := cHeld_tot (by omega) (by omega)
    exact iv_newS hI (by decide) hx.2.1 (by rw [ht]; exact hx.2.2.1) (by rw [ht]; exact hx.2.2.2)
  · exact hI
theorem iv_set {S : TS} (hI : SInv S) (p a b : Int32) : SInv (opSet S p a b).2 := by
  unfold opSet
  split
  · next hr =>
    obtain ⟨h1, h2⟩ := Bool.and_eq_true_iff.mp hr
    obtain ⟨h3, h4⟩ := Bool.and_eq_true_iff.mp h2
    have := of_decide_eq_true h4
    exact iv_putP hI (by unfold tN; omega)
  · exact hI
theorem iv_mean {S : TS} (hI : SInv S) (p s : Int32) : SInv (opMean S p s).2 := by
  unfold opMean
  split
  · next hr =>
    obtain ⟨h1, h2⟩ := Bool.and_eq_true_iff.mp hr
    exact iv_putP hI (hI.2.1.2 _ (isS_lt h2)).2.2.1
  · exact hI
theorem iv_moment {S : TS} (hI : SInv S) (p s e : Int32) : SInv (opMoment S p s e).2 := by
  unfold opMoment
  split
  · next hr =>
    obtain ⟨h1, h2⟩ := Bool.and_eq_true_iff.mp hr
    obtain ⟨h3, h4⟩ := Bool.and_eq_true_iff.mp h2
    exact iv_putP hI (Nat.pow_pos (hI.2.1.2 _ (isS_lt h3)).2.2.1)
  · exact hI
theorem iv_tail {S : TS} (hI : SInv S) (p s k sd : Int32) : SInv (opTail S p s k sd).2 := by
  unfold opTail
  split
  · next hr =>
    obtain ⟨h1, h2⟩ := Bool.and_eq_true_iff.mp hr
    obtain ⟨h3, h4⟩ := Bool.and_eq_true_iff.mp h2
    exact iv_putP hI (hI.2.1.2 _ (isS_lt h3)).2.2.1
  · exact hI
theorem raL_le (S : TS) (s k : Nat) : ∀ n, raL S s k n ≤ n + 4
  | 0 => Nat.zero_le _
  | n + 1 => by
    have := raL_le S s k n
    show (if raL S s k n = 0 ∨ raA S s k (n + 5) * raB S s k (raL S s k n) < raA S s k (raL S s k n) * raB S s k (n + 5) then n + 5 else raL S s k n) ≤ n + 1 + 4
    split <;> omega
theorem base_le (S : TS) (s k : Nat) : bndBase S s k 4 ≤ 12 := by
  unfold bndBase
  rw [if_pos rfl]
  split
  · exact raL_le S s k 8
  · omega
theorem iv_bound {S : TS} (hI : SInv S) (p s k kd : Int32) : SInv (opBound S p s k kd).2 := by
  unfold opBound
  split
  · next hr =>
    obtain ⟨h1, h2⟩ := Bool.and_eq_true_iff.mp hr
    obtain ⟨h3, h4⟩ := Bool.and_eq_true_iff.mp h2
    have h := iv_capP (p := tN p) (u := bndA S (tN s) (tN k) (tN kd)) (d := bndB S (tN s) (tN k) (tN kd)) hI (bnd_pos hI (isS_lt h3))
    dsimp only
    split
    · exact iv_setB h (base_le _ _ _)
    · exact h
  · exact hI
theorem iv_work {S : TS} (hI : SInv S) (act p q r : Int32) : SInv (opWork S act p q r).2 := by
  unfold opWork
  split
  · split
    · next u d u2 d2 e1 e2 =>
      have hd := (hI.2.2.1 _ _ _ e1).1
      have hd2 : 0 < d2 := by
        split at e2
        · cases e2; decide
        · exact (hI.2.2.1 _ _ _ e2).1
      refine iv_putP hI ?_
      unfold wrkB
      split
      · exact Nat.mul_pos hd hd2
      · split
        · split
          · exact hd
          · exact hd2
        · exact hd
    · exact hI
  · exact hI
theorem iv_free {S : TS} (hI : SInv S) (p : Int32) : SInv (opFree S p).2 := by
  unfold opFree
  split
  · exact iv_setP hI (fun u d q => by cases q)
  · exact hI
theorem iv_coin {S : TS} (hI : SInv S) (a b : Int32) : SInv (opCoin S a b).2 := by
  unfold opCoin
  split
  · next hr =>
    obtain ⟨h3, h4⟩ := Bool.and_eq_true_iff.mp hr
    obtain ⟨-, eb, hb1, hb2⟩ := rg_N h3 (by decide)
    obtain ⟨-, -, -, ha⟩ := rg_N h4 (by decide)
    exact ⟨hI.1, hI.2.1, hI.2.2.1, hI.2.2.2.1, ⟨show tN a ≤ tN b by omega, show 1 ≤ tN b by omega, show tN b ≤ 60 by omega⟩, hI.2.2.2.2.2⟩
  · exact hI
theorem iv_line {S : TS} (hI : SInv S) (c d e : Int32) : SInv (opLine S c d e).2 := by
  unfold opLine
  split
  · next hr =>
    obtain ⟨h1, h2⟩ := Bool.and_eq_true_iff.mp hr
    obtain ⟨h3, h4⟩ := Bool.and_eq_true_iff.mp h2
    obtain ⟨-, -, -, a1⟩ := rg_N h1 (by decide)
    obtain ⟨-, -, -, a2⟩ := rg_N h3 (by decide)
    obtain ⟨-, -, b3, a3⟩ := rg_N h4 (by decide)
    exact ⟨hI.1, hI.2.1, hI.2.2.1, hI.2.2.2.1, hI.2.2.2.2.1, ⟨show tN c ≤ 60 by omega, show tN d ≤ 60 by omega, show 1 ≤ tN e by omega, show tN e ≤ 60 by omega⟩⟩
  · exact hI
theorem iv_crossed {S : TS} (hI : SInv S) (p how n : Int32) : SInv (opCrossed S p how n).2 := by
  unfold opCrossed
  split
  · exact iv_putP hI (Nat.pow_pos hI.2.2.2.2.1.2.1)
  · exact hI
