/-! the line that is crossed -/
def nwC (a b c d e how i h : Nat) : Nat := wayC a b c d e how i h * (b - a) + (if h = 0 then 0 else wayC a b c d e how i (h - 1) * a)
theorem wayC_s (a b c d e how i h : Nat) : wayC a b c d e how (i + 1) h = (if crs c d e (i + 1) h && decide (how < 2) then 0 else nwC a b c d e how i h) := rfl
theorem hitC_eq (a b c d e how i : Nat) : hitC a b c d e how i = sg (fun h => if crs c d e (i + 1) h then nwC a b c d e how i h else 0) (i + 2) := rfl
theorem nwC_le {a b c d e how i h P : Nat} (hab : a ≤ b) (hw : ∀ h, wayC a b c d e how i h ≤ P) : nwC a b c d e how i h ≤ P * b := by
  have e1 : wayC a b c d e how i h * (b - a) ≤ P * (b - a) := Nat.mul_le_mul_right _ (hw h)
  have e2 : wayC a b c d e how i (h - 1) * a ≤ P * a := Nat.mul_le_mul_right _ (hw _)
  have e3 : P * b = P * (b - a) + P * a := by rw [← Nat.mul_add, Nat.sub_add_cancel hab]
  unfold nwC
  split <;> omega
theorem wayC_le {a b c d e how : Nat} (hab : a ≤ b) : ∀ i h, wayC a b c d e how i h ≤ b ^ i
  | 0, h => by unfold wayC; split <;> simp
  | i + 1, h => by
    rw [wayC_s]
    split
    · exact Nat.zero_le _
    · rw [Nat.pow_succ]; exact nwC_le hab (wayC_le hab i)
theorem wayC_0 {a b c d e how : Nat} : ∀ {i h}, i < h → wayC a b c d e how i h = 0
  | 0, h, hh => by unfold wayC; rw [if_neg (by omega)]
  | i + 1, h, hh => by
    rw [wayC_s]
    split
    · rfl
    · unfold nwC; rw [wayC_0 (i := i) (h := h) (by omega), wayC_0 (i := i) (h := h - 1) (by omega)]; simp
theorem hitC_le {a b c d e how i : Nat} (hab : a ≤ b) (hi : i < 40) : hitC a b c d e how i ≤ b ^ (i + 1) * 42 := by
  rw [hitC_eq]
  refine Nat.le_trans (sg_bound (c := b ^ (i + 1)) (fun h _ => ?_)) (Nat.mul_le_mul_left _ (by omega))
  split
  · rw [Nat.pow_succ]; exact nwC_le hab (wayC_le hab i)
  · exact Nat.zero_le _
theorem allC_le {a b c d e how : Nat} (hab : a ≤ b) : ∀ {i}, i ≤ 40 → allC a b c d e how i ≤ b ^ i * (42 * i)
  | 0, _ => Nat.zero_le _
  | i + 1, hi => by
    have h1 := allC_le (c := c) (d := d) (e := e) (how := how) hab (i := i) (by omega)
    have h2 := hitC_le (c := c) (d := d) (e := e) (how := how) hab (i := i) (by omega)
    have h3 : allC a b c d e how i * b ≤ b ^ i * (42 * i) * b := Nat.mul_le_mul_right _ h1
    have h4 : b ^ i * (42 * i) * b = b ^ (i + 1) * (42 * i) := by rw [Nat.pow_succ]; ac_rfl
    have h5 : b ^ (i + 1) * (42 * (i + 1)) = b ^ (i + 1) * (42 * i) + b ^ (i + 1) * 42 := by rw [← Nat.mul_add, Nat.mul_succ]
    show allC a b c d e how i * b + hitC a b c d e how i ≤ _
    omega
theorem row0 {g : Nat → Nat} (hz : ∀ i, i < 1210 → i ≠ 0 → g i = 0) (h1 : g 0 = 1) (q : Nat) (hq : q ≤ 40) : mD g (10 * q) 10 (if q = 0 then 1 else 0) := by
  refine ⟨fun i hi => ?_, ?_⟩
  · by_cases h0' : 10 * q + i = 0
    · rw [h0', h1]; decide
    · rw [hz _ (by omega) h0']; decide
  · by_cases hq0 : q = 0
    · subst hq0
      rw [if_pos rfl, bv_high (m := 1) (by decide) (fun i h1 h2 => hz _ (by omega) (by omega)), bv_s _ _ 0, bv_0]
      show 0 + g (10 * 0 + 0) * (2 ^ 28) ^ 0 = 1
      rw [show 10 * 0 + 0 = 0 from rfl, h1]
    · rw [if_neg hq0, bv_zero (fun i hi => hz _ (by omega) (by omega))]
theorem lt31 {t i j X : Nat} (h : t + 1 + 1 ≤ i + 2) (h2 : i + (j + 1) = X) (h3 : (X : Int) ≤ 40) : t + 1 < 2 ^ 31 := by omega
theorem c1680 : 2 ^ 256 * (42 * 40) < 2 ^ 280 := by decide +kernel
theorem mt_crossed (n : Nat) (h : Hp) (m : Nat) (S : TS) (p ho x : Int32) (hR : MRep h m S) (hI : SInv S) : CT mX8_crossed 0 0 n h [.ref m, .int p, .int ho, .int x] (MOK n m h (opCrossed S p ho x)) := by
  obtain ⟨h0, A, bo, ki, mo, wt, rfl, B, hA⟩ := id hR
  refine CT.intro [some (.ref m), some (.int p), some (.int ho), some (.int x), none, none] 2 rfl rfl (by decide) ?_
  intro Q hQ
  have bad : (isP p && (rg ho 0 2 && rg x 1 40)) = false → AW mX8_crossed (gq 0 0 Q) 26 [some (.ref m), some (.int p), some (.int ho), some (.int x), none, none] [] 0 0 n (mh h0 m A) := by
    intro hb
    refine aw_iconst (v := (-1)) dX8_crossed_26 (by decide +kernel) ?_
    refine aw_ireturn dX8_crossed_27 rfl rfl (Nat.le_of_ble_eq_true rfl) (Nat.le_of_ble_eq_true rfl) ?_
    exact hQ _ _ _ (bad_ret hR (by unfold opCrossed; rw [hb]; rfl))
  refine aw_iload_n (i := 1) dX8_crossed_0 rfl rfl ?_
  refine aw_invokestatic kX8_211 dX8_crossed_1 (ct_isP n (mh h0 m A) p) rfl rfl (Nat.le_of_ble_eq_true rfl) ⟨Nat.le_of_ble_eq_true rfl, Nat.le_of_ble_eq_true rfl⟩ ⟨Nat.le_of_ble_eq_true rfl, Nat.le_of_ble_eq_true rfl⟩ ?_
  rintro _ _ _ ⟨rfl, rfl, rfl⟩
  by_cases h1 : isP p = true
  case neg =>
    refine aw_if_eq (tgt := 26) dX8_crossed_4 (by decide) (fun _ => ?_) (fun c => (c (bI_eq0.mpr (by simpa using h1))).elim)
    exact bad (by simp [h1])
  refine aw_if_eq (tgt := 26) dX8_crossed_4 (by decide) (fun c => absurd c (bI_ne0.mpr h1)) (fun _ => ?_)
  refine aw_iload_n (i := 2) dX8_crossed_7 rfl rfl ?_
  refine aw_iconst (v := 0) dX8_crossed_8 (by decide +kernel) ?_
  refine aw_iconst (v := 2) dX8_crossed_9 (by decide +kernel) ?_
  refine aw_invokestatic kX8_153 dX8_crossed_10 (ct_in n (mh h0 m A) ho 0 2 toInt_lit0 toInt_2) rfl rfl (Nat.le_of_ble_eq_true rfl) ⟨Nat.le_of_ble_eq_true rfl, Nat.le_of_ble_eq_true rfl⟩ ⟨Nat.le_of_ble_eq_true rfl, Nat.le_of_ble_eq_true rfl⟩ ?_
  rintro _ _ _ ⟨rfl, rfl, rfl⟩
  by_cases h2 : rg ho 0 2 = true
  case neg =>
    refine aw_if_eq (tgt := 26) dX8_crossed_13 (by decide) (fun _ => ?_) (fun c => (c (bI_eq0.mpr (by simpa using h2))).elim)
    exact bad (by simp [h2])
  refine aw_if_eq (tgt := 26) dX8_crossed_13 (by decide) (fun c => absurd c (bI_ne0.mpr h2)) (fun _ => ?_)
  refine aw_iload_n (i := 3) dX8_crossed_16 rfl rfl ?_
  refine aw_iconst (v := 1) dX8_crossed_17 (by decide +kernel) ?_
  refine aw_bipush (v := 40) dX8_crossed_18 (by decide +kernel) ?_
  refine aw_invokestatic kX8_153 dX8_crossed_20 (ct_in n (mh h0 m A) x 1 40 toInt_1 toInt_40) rfl rfl (Nat.le_of_ble_eq_true rfl) ⟨Nat.le_of_ble_eq_true rfl, Nat.le_of_ble_eq_true rfl⟩ ⟨Nat.le_of_ble_eq_true rfl, Nat.le_of_ble_eq_true rfl⟩ ?_
  rintro _ _ _ ⟨rfl, rfl, rfl⟩
  by_cases h3 : rg x 1 40 = true
  case neg =>
    refine aw_if_ne (tgt := 28) dX8_crossed_23 (by decide) (fun c => absurd c (fun c => c (bI_eq0.mpr (by simpa using h3)))) (fun _ => ?_)
    exact bad (by simp [h3])
  obtain ⟨ep, hp⟩ := isP_N h1
  obtain ⟨e2, -, -, q2⟩ := rg_N h2 (by decide)
  obtain ⟨e3, -, q30, q3⟩ := rg_N h3 (by decide)
  have hop : opCrossed S p ho x = putP S (tN p) (min (if tN ho = 1 then hitC (sCA S) (sCB S) (sLC S) (sLD S) (sLE S) 1 (tN x - 1) else allC (sCA S) (sCB S) (sLC S) (sLD S) (sLE S) (tN ho) (tN x)) (sCB S ^ tN x)) (sCB S ^ tN x) := by unfold opCrossed; rw [h1, h2, h3]; rfl
  rw [hop] at hQ
  clear bad hop
  generalize tN p = p' at *
  generalize tN ho = w at *
  generalize tN x = X at *
  subst ep e2 e3
  obtain ⟨hab, hb1, hb60⟩ := hI.2.2.2.2.1
  have hpow : ∀ i, i ≤ 40 → sCB S ^ i < 2 ^ 256 := fun i hi => coin_pow hi hb60 hb1
  have w1 : 2 ^ 280 * 2 ^ 32 < 2 ^ 2688 := by decide +kernel
  have w2 : 2 ^ 280 < 2 ^ 2688 := Nat.pow_lt_pow_right (by decide) (by decide)
  have w3 : 2 ^ 256 < 2 ^ 280 := Nat.pow_lt_pow_right (by decide) (by decide)
  have w4 := c1680
  have crsCT := fun (A' : Nat → Nat → Nat) (i y : Nat) (hi : i ≤ 40) (hy : y ≤ 40) => ct_X8_isCrossed n h0 m A' S bo ki mo wt i y B hI hi hy
  have hB1 := B.1
  unfold mobS at hB1
  generalize ha : sCA S = a at *
  generalize hb : sCB S = b at *
  generalize hlc : sLC S = c at *
  generalize hld : sLD S = d at *
  generalize hle : sLE S = e at *
  have hwle : ∀ i y, i ≤ 40 → wayC a b c d e w i y < 2 ^ 256 := fun i y hi => Nat.lt_of_le_of_lt (wayC_le hab i y) (hpow i hi)
  have hnle : ∀ i y, i < 40 → nwC a b c d e w i y < 2 ^ 256 := fun i y hi => Nat.lt_of_le_of_lt (by rw [Nat.pow_succ]; exact nwC_le hab (wayC_le hab i)) (hpow (i + 1) (by omega))
  have hhle : ∀ i, i < 40 → hitC a b c d e w i < 2 ^ 280 := fun i hi => by
    have q := hitC_le (c := c) (d := d) (e := e) (how := w) hab hi
    have := hpow (i + 1) (by omega)
    omega
  have hale : ∀ i, i ≤ 40 → allC a b c d e w i < 2 ^ 280 := fun i hi => by
    have q := allC_le (c := c) (d := d) (e := e) (how := w) hab hi
    have q1 : b ^ i * (42 * i) ≤ 2 ^ 256 * (42 * 40) := Nat.mul_le_mul (Nat.le_of_lt (hpow i hi)) (by omega)
    omega
  -- the end
  have fin : ∀ (u : Nat) (A' : Nat → Nat → Nat) (y4 y5 : Option Value), u < 2 ^ 280 → u = (if w = 1 then hitC a b c d e 1 (X - 1) else allC a b c d e w X) → dg (A' 9) u → (∀ k, k = 6 ∨ k = 7 ∨ k = 19 ∨ k = 20 → A' k = A k) → AW mX8_crossed (gq 0 0 Q) 296 [some (.ref m), some (.int (nI p')), some (.int (nI w)), some (.int (nI X)), y4, y5] [] 0 0 n (mh h0 m A') := by
    intro u A' y4 y5 hu hu2 d9 fr
    rw [← hu2] at hQ
    have hbX := hpow X (by omega)
    have hbp : 0 < b ^ X := Nat.pow_pos (Nat.lt_of_lt_of_le Nat.zero_lt_one hb1)
    refine aw_aload_n (i := 0) dX8_crossed_296 rfl rfl ?_
    refine aw_getfield fX8_38 dX8_crossed_297 (by rw [mh_0]; exact hB1) rfl ?_
    refine aw_lconst (v := 1) dX8_crossed_300 (by decide) ?_
    refine aw_invokestatic kX8_124 dX8_crossed_301 (mc_become n h0 m A' 10 1 rfl rfl (by decide)) rfl rfl (Nat.le_of_ble_eq_true rfl) ⟨Nat.le_of_ble_eq_true rfl, Nat.le_of_ble_eq_true rfl⟩ ⟨Nat.le_of_ble_eq_true rfl, Nat.le_of_ble_eq_true rfl⟩ ?_
    rintro _ _ _ ⟨rfl, rfl, A1, rfl, d1, f1⟩
    refine aw_aload_n (i := 0) dX8_crossed_304 rfl rfl ?_
    refine aw_aload_n (i := 0) dX8_crossed_305 rfl rfl ?_
    refine aw_getfield fX8_38 dX8_crossed_306 (by rw [mh_0]; exact hB1) rfl ?_
    refine aw_aload_n (i := 0) dX8_crossed_309 rfl rfl ?_
    refine aw_getfield fX8_109 dX8_crossed_310 (by rw [mh_0]; exact hB1) rfl ?_
    refine aw_i2l dX8_crossed_313 rfl ?_
    rw [nI_l (show b < 2 ^ 31 by omega)]
    refine aw_iload_n (i := 3) dX8_crossed_314 rfl rfl ?_
    refine aw_invokevirtual kX8_198 dX8_crossed_315 (by rw [mh_0]; exact hB1) (ct_X8_power n h0 m A1 10 1 b X rfl rfl d1 (by omega) (by omega) (by omega)) rfl rfl (Nat.le_of_ble_eq_true rfl) ⟨Nat.le_of_ble_eq_true rfl, Nat.le_of_ble_eq_true rfl⟩ ⟨Nat.le_of_ble_eq_true rfl, Nat.le_of_ble_eq_true rfl⟩ ?_
    rintro _ _ _ ⟨rfl, rfl, A2, rfl, d2, f2⟩
    rw [Nat.one_mul] at d2
    have d9' : dg (A2 9) u := by rw [f2 9 (by decide), f1 9 (by decide)]; exact d9
    refine aw_aload_n (i := 0) dX8_crossed_318 rfl rfl ?_
    refine aw_getfield fX8_35 dX8_crossed_319 (by rw [mh_0]; exact hB1) rfl ?_
    refine aw_aload_n (i := 0) dX8_crossed_322 rfl rfl ?_
    refine aw_getfield fX8_38 dX8_crossed_323 (by rw [mh_0]; exact hB1) rfl ?_
    refine aw_invokestatic kX8_136 dX8_crossed_326 (mc_compare n h0 m A2 9 10 u (b ^ X) rfl rfl rfl rfl d9' d2) rfl rfl (Nat.le_of_ble_eq_true rfl) ⟨Nat.le_of_ble_eq_true rfl, Nat.le_of_ble_eq_true rfl⟩ ⟨Nat.le_of_ble_eq_true rfl, Nat.le_of_ble_eq_true rfl⟩ ?_
    rintro _ _ _ ⟨rfl, rfl, rfl⟩
    -- give
    have gv : ∀ (A3 : Nat → Nat → Nat), dg (A3 9) (min u (b ^ X)) → dg (A3 10) (b ^ X) → (∀ k, k ≠ 9 → A3 k = A2 k) → AW mX8_crossed (gq 0 0 Q) 343 [some (.ref m), some (.int (nI p')), some (.int (nI w)), some (.int (nI X)), y4, y5] [] 0 0 n (mh h0 m A3) := by
      intro A3 d3 d4 f3
      refine aw_aload_n (i := 0) dX8_crossed_343 rfl rfl ?_
      refine aw_iload_n (i := 1) dX8_crossed_344 rfl rfl ?_
      refine aw_invokevirtual kX8_214 dX8_crossed_345 (by rw [mh_0]; exact hB1) (ct_X8_give n h0 m A3 bo p' (min u (b ^ X)) (b ^ X) hp B.ob B.2.1 d3 d4 hbp) rfl rfl (Nat.le_of_ble_eq_true rfl) ⟨Nat.le_of_ble_eq_true rfl, Nat.le_of_ble_eq_true rfl⟩ ⟨Nat.le_of_ble_eq_true rfl, Nat.le_of_ble_eq_true rfl⟩ ?_
      rintro r _ h' ⟨rfl, hg⟩
      have hOK := gave_rep (n := n) (h := mh h0 m A) B hA hp (fun k hk => by rw [f3 k (by omega), f2 k (by omega), f1 k (by omega)]; exact fr k hk) (fun y hy => (mh_fr hy).symm) hg
      obtain ⟨-, hr, -⟩ := id hOK
      subst hr
      refine aw_ireturn dX8_crossed_348 rfl rfl (Nat.le_of_ble_eq_true rfl) (Nat.le_of_ble_eq_true rfl) ?_
      exact hQ _ _ _ hOK
    by_cases hc : u ≤ b ^ X
    · rw [Nat.min_eq_left hc] at gv
      refine aw_if_le (tgt := 343) dX8_crossed_329 (by decide) (fun _ => ?_) (fun c => (c (Int32.not_lt.mp fun q => by have := cmp_gt0.mp q; omega)).elim)
      exact gv A2 d9' d2 (fun _ _ => rfl)
    · rw [Nat.min_eq_right (by omega)] at gv
      refine aw_if_le (tgt := 343) dX8_crossed_329 (by decide) (fun c => absurd c (Int32.not_le.mpr (cmp_gt0.mpr (by omega)))) (fun _ => ?_)
      refine aw_aload_n (i := 0) dX8_crossed_332 rfl rfl ?_
      refine aw_getfield fX8_35 dX8_crossed_333 (by rw [mh_0]; exact hB1) rfl ?_
      refine aw_aload_n (i := 0) dX8_crossed_336 rfl rfl ?_
      refine aw_getfield fX8_38 dX8_crossed_337 (by rw [mh_0]; exact hB1) rfl ?_
      refine aw_invokestatic kX8_128 dX8_crossed_340 (mc_copy n h0 m A2 9 10 (b ^ X) rfl rfl rfl rfl (by decide) d2) rfl rfl (Nat.le_of_ble_eq_true rfl) ⟨Nat.le_of_ble_eq_true rfl, Nat.le_of_ble_eq_true rfl⟩ ⟨Nat.le_of_ble_eq_true rfl, Nat.le_of_ble_eq_true rfl⟩ ?_
      rintro _ _ _ ⟨rfl, rfl, A3, rfl, d3, f3⟩
      exact gv A3 d3 (by rw [f3 10 (by decide)]; exact d2) f3
  -- the throws
  have rounds : ∀ (j i : Nat) (A' : Nat → Nat → Nat) (y5 : Option Value), i + j = X → (∀ q, q ≤ 40 → mD (A' 26) (10 * q) 10 (wayC a b c d e w i q)) → (∀ i', i = i' + 1 → dg (A' 15) (hitC a b c d e w i')) → dg (A' 16) (allC a b c d e w i) → (∀ k, k = 6 ∨ k = 7 ∨ k = 19 ∨ k = 20 → A' k = A k) → AW mX8_crossed (gq 0 0 Q) 79 [some (.ref m), some (.int (nI p')), some (.int (nI w)), some (.int (nI X)), some (.int (nI (i + 1))), y5] [] 0 0 n (mh h0 m A') := by
    intro j
    induction j with
    | zero =>
      intro i A' y5 hi hrow hcr hal fr
      obtain rfl : i = X := by omega
      have hc15 := hcr (i - 1) (by omega)
      refine aw_iload dX8_crossed_79 rfl ?_
      refine aw_iload_n (i := 3) dX8_crossed_81 rfl rfl ?_
      refine aw_icmp_gt (tgt := 273) dX8_crossed_82 (by decide) (fun _ => ?_) (fun c => (c (nI_lt (by omega) (by omega))).elim)
      refine aw_aload_n (i := 0) dX8_crossed_273 rfl rfl ?_
      refine aw_getfield fX8_35 dX8_crossed_274 (by rw [mh_0]; exact hB1) rfl ?_
      refine aw_iload_n (i := 2) dX8_crossed_277 rfl rfl ?_
      refine aw_iconst (v := 1) dX8_crossed_278 (by decide +kernel) ?_
      by_cases hw1 : w = 1
      · subst hw1
        refine aw_icmp_ne (tgt := 289) dX8_crossed_279 (by decide) (fun c => absurd c (fun c => c rfl)) (fun _ => ?_)
        refine aw_aload_n (i := 0) dX8_crossed_282 rfl rfl ?_
        refine aw_getfield fX8_53 dX8_crossed_283 (by rw [mh_0]; exact hB1) rfl ?_
        refine aw_goto (tgt := 293) dX8_crossed_286 (by decide) ?_
        refine aw_invokestatic kX8_128 dX8_crossed_293 (mc_copy n h0 m A' 9 15 _ rfl rfl rfl rfl (by decide) hc15) rfl rfl (Nat.le_of_ble_eq_true rfl) ⟨Nat.le_of_ble_eq_true rfl, Nat.le_of_ble_eq_true rfl⟩ ⟨Nat.le_of_ble_eq_true rfl, Nat.le_of_ble_eq_true rfl⟩ ?_
        rintro _ _ _ ⟨rfl, rfl, A2, rfl, d2, f2⟩
        exact fin _ A2 _ _ (hhle (i - 1) (by omega)) (by rw [if_pos rfl]) d2 (fun k hk => by rw [f2 k (by omega)]; exact fr k hk)
      · refine aw_icmp_ne (tgt := 289) dX8_crossed_279 (by decide) (fun _ => ?_) (fun c => ((fun c => hw1 ((nI_eq (b := 1) (by omega) (by decide)).mp c)) c).elim)
        refine aw_aload_n (i := 0) dX8_crossed_289 rfl rfl ?_
        refine aw_getfield fX8_56 dX8_crossed_290 (by rw [mh_0]; exact hB1) rfl ?_
        refine aw_invokestatic kX8_128 dX8_crossed_293 (mc_copy n h0 m A' 9 16 _ rfl rfl rfl rfl (by decide) hal) rfl rfl (Nat.le_of_ble_eq_true rfl) ⟨Nat.le_of_ble_eq_true rfl, Nat.le_of_ble_eq_true rfl⟩ ⟨Nat.le_of_ble_eq_true rfl, Nat.le_of_ble_eq_true rfl⟩ ?_
        rintro _ _ _ ⟨rfl, rfl, A2, rfl, d2, f2⟩
        exact fin _ A2 _ _ (hale i (by omega)) (by rw [if_neg hw1]) d2 (fun k hk => by rw [f2 k (by omega)]; exact fr k hk)
    | succ j ihr =>
      intro i A' y5 hi hrow hcr hal fr
      have hab2 := hale i (by omega)
      have hab3 := hale (i + 1) (by omega)
      have hht := hhle i (by omega)
      have hal2 : allC a b c d e w (i + 1) = allC a b c d e w i * b + hitC a b c d e w i := rfl
      refine aw_iload dX8_crossed_79 rfl ?_
      refine aw_iload_n (i := 3) dX8_crossed_81 rfl rfl ?_
      refine aw_icmp_gt (tgt := 273) dX8_crossed_82 (by decide) (fun c => absurd c (nI_nlt (by omega) (by omega))) (fun _ => ?_)
      refine aw_aload_n (i := 0) dX8_crossed_85 rfl rfl ?_
      refine aw_getfield fX8_56 dX8_crossed_86 (by rw [mh_0]; exact hB1) rfl ?_
      refine aw_aload_n (i := 0) dX8_crossed_89 rfl rfl ?_
      refine aw_getfield fX8_109 dX8_crossed_90 (by rw [mh_0]; exact hB1) rfl ?_
      refine aw_i2l dX8_crossed_93 rfl ?_
      rw [nI_l (show b < 2 ^ 31 by omega)]
      refine aw_invokestatic kX8_184 dX8_crossed_94 (mc_by n h0 m A' 16 _ b rfl rfl hal (by omega) (by omega)) rfl rfl (Nat.le_of_ble_eq_true rfl) ⟨Nat.le_of_ble_eq_true rfl, Nat.le_of_ble_eq_true rfl⟩ ⟨Nat.le_of_ble_eq_true rfl, Nat.le_of_ble_eq_true rfl⟩ ?_
      rintro _ _ _ ⟨rfl, rfl, A1, rfl, d1, f1⟩
      refine aw_aload_n (i := 0) dX8_crossed_97 rfl rfl ?_
      refine aw_getfield fX8_53 dX8_crossed_98 (by rw [mh_0]; exact hB1) rfl ?_
      refine aw_lconst (v := 0) dX8_crossed_101 (by decide) ?_
      refine aw_invokestatic kX8_124 dX8_crossed_102 (mc_become n h0 m A1 15 0 rfl rfl (by decide)) rfl rfl (Nat.le_of_ble_eq_true rfl) ⟨Nat.le_of_ble_eq_true rfl, Nat.le_of_ble_eq_true rfl⟩ ⟨Nat.le_of_ble_eq_true rfl, Nat.le_of_ble_eq_true rfl⟩ ?_
      rintro _ _ _ ⟨rfl, rfl, A2, rfl, d2, f2⟩
      refine aw_iload dX8_crossed_105 rfl ?_
      refine aw_istore_5 dX8_crossed_107 (by decide) rfl ?_
      have inner : ∀ (t : Nat) (A4 : Nat → Nat → Nat) (z : Nat), t ≤ i + 2 → (∀ q, q ≤ 40 → mD (A4 26) (10 * q) 10 (if t ≤ q then wayC a b c d e w (i + 1) q else wayC a b c d e w i q)) → dg (A4 15) z → z + sg (fun y => if crs c d e (i + 1) y then nwC a b c d e w i y else 0) t = hitC a b c d e w i → dg (A4 16) (allC a b c d e w i * b) → (∀ k, k = 6 ∨ k = 7 ∨ k = 19 ∨ k = 20 → A4 k = A k) → AW mX8_crossed (gq 0 0 Q) 109 [some (.ref m), some (.int (nI p')), some (.int (nI w)), some (.int (nI X)), some (.int (nI (i + 1))), some (.int (pI t))] [] 0 0 n (mh h0 m A4) := by
        intro t
        induction t with
        | zero =>
          intro A4 z ht hr d15 hz d16 f4
          rw [sg_0, Nat.add_zero] at hz
          rw [hz] at d15
          refine aw_iload dX8_crossed_109 rfl ?_
          refine aw_if_lt (tgt := 256) dX8_crossed_111 (by decide) (fun _ => ?_) (fun c => (c ((pI_lt0 (by decide)).mpr rfl)).elim)
          refine aw_aload_n (i := 0) dX8_crossed_256 rfl rfl ?_
          refine aw_getfield fX8_56 dX8_crossed_257 (by rw [mh_0]; exact hB1) rfl ?_
          refine aw_aload_n (i := 0) dX8_crossed_260 rfl rfl ?_
          refine aw_getfield fX8_53 dX8_crossed_261 (by rw [mh_0]; exact hB1) rfl ?_
          refine aw_invokestatic kX8_191 dX8_crossed_264 (mc_plus n h0 m A4 16 15 _ _ rfl rfl rfl rfl (by decide) d16 d15 (by omega)) rfl rfl (Nat.le_of_ble_eq_true rfl) ⟨Nat.le_of_ble_eq_true rfl, Nat.le_of_ble_eq_true rfl⟩ ⟨Nat.le_of_ble_eq_true rfl, Nat.le_of_ble_eq_true rfl⟩ ?_
          rintro _ _ _ ⟨rfl, rfl, A5, rfl, d5, f5⟩
          refine aw_iinc_4 (c0 := 1) dX8_crossed_267 (by decide) (by decide) rfl ?_
          refine aw_goto (tgt := 79) dX8_crossed_270 (by decide) ?_
          rw [nI_1]
          refine ihr (i + 1) A5 _ (by omega) (fun q hq => ?_) (fun i' hi' => ?_) d5 (fun k hk => by rw [f5 k (by omega)]; exact f4 k hk)
          · rw [f5 26 (by decide)]
            have := hr q hq
            rw [if_pos (Nat.zero_le _)] at this; exact this
          · obtain rfl : i' = i := by omega
            rw [f5 15 (by decide)]; exact d15
        | succ t iht =>
          intro A4 z ht hr d15 hz d16 f4
          rw [sg_s] at hz
          have hb26 := hr t (by omega)
          rw [if_neg (by omega)] at hb26
          have hwt2 := hwle i t (by omega)
          have hnt := hnle i t (by omega)
          have hn1 : wayC a b c d e w i t * (b - a) ≤ nwC a b c d e w i t := Nat.le_add_right _ _
          rw [pI_s]
          refine aw_iload dX8_crossed_109 rfl ?_
          refine aw_if_lt (tgt := 256) dX8_crossed_111 (by decide) (fun c => absurd c (Int32.not_lt.mpr (nI_pos' (by omega)))) (fun _ => ?_)
          refine aw_aload_n (i := 0) dX8_crossed_114 rfl rfl ?_
          refine aw_getfield fX8_75 dX8_crossed_115 (by rw [mh_0]; exact hB1) rfl ?_
          refine aw_aload_n (i := 0) dX8_crossed_118 rfl rfl ?_
          refine aw_getfield fX8_87 dX8_crossed_119 (by rw [mh_0]; exact hB1) rfl ?_
          refine aw_bipush (v := 10) dX8_crossed_122 (by decide +kernel) ?_
          refine aw_iload dX8_crossed_124 rfl ?_
          refine aw_imul dX8_crossed_126 ?_
          rw [c10]
          refine aw_bipush (v := 10) dX8_crossed_127 (by decide +kernel) ?_
          refine aw_invokestatic kX8_170 dX8_crossed_129 (mc_load n h0 m A4 22 26 (10 * t) 10 rfl rfl rfl (by decide) (show 10 * t + 10 ≤ 1210 by omega) (by decide) hb26.1) rfl rfl (Nat.le_of_ble_eq_true rfl) ⟨Nat.le_of_ble_eq_true rfl, Nat.le_of_ble_eq_true rfl⟩ ⟨Nat.le_of_ble_eq_true rfl, Nat.le_of_ble_eq_true rfl⟩ ?_
          rintro _ _ _ ⟨rfl, rfl, A5, rfl, d5, f5⟩
          rw [hb26.2] at d5
          refine aw_aload_n (i := 0) dX8_crossed_132 rfl rfl ?_
          refine aw_getfield fX8_75 dX8_crossed_133 (by rw [mh_0]; exact hB1) rfl ?_
          refine aw_aload_n (i := 0) dX8_crossed_136 rfl rfl ?_
          refine aw_getfield fX8_109 dX8_crossed_137 (by rw [mh_0]; exact hB1) rfl ?_
          refine aw_aload_n (i := 0) dX8_crossed_140 rfl rfl ?_
          refine aw_getfield fX8_105 dX8_crossed_141 (by rw [mh_0]; exact hB1) rfl ?_
          refine aw_isub dX8_crossed_144 ?_
          refine aw_i2l dX8_crossed_145 rfl ?_
          rw [pk_sub hab, nI_l (show b - a < 2 ^ 31 by omega)]
          refine aw_invokestatic kX8_184 dX8_crossed_146 (mc_by n h0 m A5 22 _ (b - a) rfl rfl d5 (by omega) (by omega)) rfl rfl (Nat.le_of_ble_eq_true rfl) ⟨Nat.le_of_ble_eq_true rfl, Nat.le_of_ble_eq_true rfl⟩ ⟨Nat.le_of_ble_eq_true rfl, Nat.le_of_ble_eq_true rfl⟩ ?_
          rintro _ _ _ ⟨rfl, rfl, A6, rfl, d6, f6⟩
          -- behind the sum of two
          have tail : ∀ (A7 : Nat → Nat → Nat), dg (A7 22) (nwC a b c d e w i t) → (∀ k, k ≠ 22 → k ≠ 23 → A7 k = A4 k) → AW mX8_crossed (gq 0 0 Q) 197 [some (.ref m), some (.int (nI p')), some (.int (nI w)), some (.int (nI X)), some (.int (nI (i + 1))), some (.int (nI t))] [] 0 0 n (mh h0 m A7) := by
            intro A7 d7 f7
            -- the row is written
            have wr : ∀ (A8 : Nat → Nat → Nat) (z2 : Nat), dg (A8 22) (wayC a b c d e w (i + 1) t) → (∀ k, k ≠ 15 → k ≠ 22 → k ≠ 23 → A8 k = A4 k) → dg (A8 15) z2 → z2 + sg (fun y => if crs c d e (i + 1) y then nwC a b c d e w i y else 0) t = hitC a b c d e w i → AW mX8_crossed (gq 0 0 Q) 232 [some (.ref m), some (.int (nI p')), some (.int (nI w)), some (.int (nI X)), some (.int (nI (i + 1))), some (.int (nI t))] [] 0 0 n (mh h0 m A8) := by
              intro A8 z2 d8 f8 e15 hz2
              have hwt3 := hwle (i + 1) t (by omega)
              refine aw_aload_n (i := 0) dX8_crossed_232 rfl rfl ?_
              refine aw_getfield fX8_87 dX8_crossed_233 (by rw [mh_0]; exact hB1) rfl ?_
              refine aw_bipush (v := 10) dX8_crossed_236 (by decide +kernel) ?_
              refine aw_iload dX8_crossed_238 rfl ?_
              refine aw_imul dX8_crossed_240 ?_
              rw [c10]
              refine aw_bipush (v := 10) dX8_crossed_241 (by decide +kernel) ?_
              refine aw_aload_n (i := 0) dX8_crossed_243 rfl rfl ?_
              refine aw_getfield fX8_75 dX8_crossed_244 (by rw [mh_0]; exact hB1) rfl ?_
              refine aw_invokestatic kX8_166 dX8_crossed_247 (ct_X8_store n (mh h0 m A8) (m + 22) (m + 26) (10 * t) 10 1210 (A8 26) (A8 22) (mh_at h0 m A8 (k := 26) rfl) (mh_96 h0 m A8 rfl rfl) (by omega) (by decide) (by omega) (by decide)) rfl rfl (Nat.le_of_ble_eq_true rfl) ⟨Nat.le_of_ble_eq_true rfl, Nat.le_of_ble_eq_true rfl⟩ ⟨Nat.le_of_ble_eq_true rfl, Nat.le_of_ble_eq_true rfl⟩ ?_
              rintro _ _ _ ⟨rfl, rfl, rfl⟩
              refine AW.hp (mh_up h0 m A8 (k := 26) rfl _) ?_
              refine aw_iinc_5 (c0 := (-1)) dX8_crossed_250 (by decide) (by decide) rfl ?_
              refine aw_goto (tgt := 109) dX8_crossed_253 (by decide) ?_
              rw [pI_d]
              refine iht _ z2 (by omega) (fun q hq => ?_) (by rw [va_up_off (by decide)]; exact e15) hz2 (by rw [va_up_off (by decide), f8 16 (by decide) (by decide) (by decide)]; exact d16) (fun k hk => by rw [va_up_off (by omega), f8 k (by omega) (by omega) (by omega)]; exact f4 k hk)
              rw [va_up_at]
              by_cases hqt : q = t
              · rw [hqt, if_pos (Nat.le_refl _)]; exact mD_spl (by decide) d8 (by rw [← Nat.pow_mul]; omega)
              · have := hr q hq
                have e1 : (if t ≤ q then wayC a b c d e w (i + 1) q else wayC a b c d e w i q) = (if t + 1 ≤ q then wayC a b c d e w (i + 1) q else wayC a b c d e w i q) := by
                  by_cases h5 : t ≤ q
                  · rw [if_pos h5, if_pos (by omega)]
                  · rw [if_neg h5, if_neg (by omega)]
                rw [e1]
                exact mD_congr this (fun p h1 h2 => by rw [spl_out (by omega), f8 26 (by decide) (by decide) (by decide)])
            refine aw_aload_n (i := 0) dX8_crossed_197 rfl rfl ?_
            refine aw_iload dX8_crossed_198 rfl ?_
            refine aw_iload dX8_crossed_200 rfl ?_
            refine aw_invokevirtual kX8_279 dX8_crossed_202 (by rw [mh_0]; exact hB1) (crsCT A7 (i + 1) t (by omega) (by omega)) rfl rfl (Nat.le_of_ble_eq_true rfl) ⟨Nat.le_of_ble_eq_true rfl, Nat.le_of_ble_eq_true rfl⟩ ⟨Nat.le_of_ble_eq_true rfl, Nat.le_of_ble_eq_true rfl⟩ ?_
            rintro _ _ _ ⟨rfl, rfl, rfl⟩
            rw [wayC_s] at wr
            by_cases hcr2 : crs c d e (i + 1) t = true
            · rw [hcr2, if_pos rfl] at hz
              have hz3 : z + nwC a b c d e w i t < 2 ^ 2688 := by omega
              refine aw_if_eq (tgt := 232) dX8_crossed_205 (by decide) (fun c => absurd c (bI_ne0.mpr hcr2)) (fun _ => ?_)
              refine aw_aload_n (i := 0) dX8_crossed_208 rfl rfl ?_
              refine aw_getfield fX8_53 dX8_crossed_209 (by rw [mh_0]; exact hB1) rfl ?_
              refine aw_aload_n (i := 0) dX8_crossed_212 rfl rfl ?_
              refine aw_getfield fX8_75 dX8_crossed_213 (by rw [mh_0]; exact hB1) rfl ?_
              refine aw_invokestatic kX8_191 dX8_crossed_216 (mc_plus n h0 m A7 15 22 z _ rfl rfl rfl rfl (by decide) (by rw [f7 15 (by decide) (by decide)]; exact d15) d7 hz3) rfl rfl (Nat.le_of_ble_eq_true rfl) ⟨Nat.le_of_ble_eq_true rfl, Nat.le_of_ble_eq_true rfl⟩ ⟨Nat.le_of_ble_eq_true rfl, Nat.le_of_ble_eq_true rfl⟩ ?_
              rintro _ _ _ ⟨rfl, rfl, A8, rfl, d8, f8⟩
              by_cases hw2 : w < 2
              · rw [hcr2, decide_eq_true hw2] at wr
                refine aw_iload_n (i := 2) dX8_crossed_219 rfl rfl ?_
                refine aw_iconst (v := 2) dX8_crossed_220 (by decide +kernel) ?_
                refine aw_icmp_ge (tgt := 232) dX8_crossed_221 (by decide) (fun c => absurd c (nI_ge (b := 2) hw2 (by decide))) (fun _ => ?_)
                refine aw_aload_n (i := 0) dX8_crossed_224 rfl rfl ?_
                refine aw_getfield fX8_75 dX8_crossed_225 (by rw [mh_0]; exact hB1) rfl ?_
                refine aw_lconst (v := 0) dX8_crossed_228 (by decide) ?_
                refine aw_invokestatic kX8_124 dX8_crossed_229 (mc_become n h0 m A8 22 0 rfl rfl (by decide)) rfl rfl (Nat.le_of_ble_eq_true rfl) ⟨Nat.le_of_ble_eq_true rfl, Nat.le_of_ble_eq_true rfl⟩ ⟨Nat.le_of_ble_eq_true rfl, Nat.le_of_ble_eq_true rfl⟩ ?_
                rintro _ _ _ ⟨rfl, rfl, A9, rfl, d9, f9⟩
                exact wr A9 _ d9 (fun k k1 k2 k3 => by rw [f9 k k2, f8 k k1]; exact f7 k k2 k3) (by rw [f9 15 (by decide)]; exact d8) (by omega)
              · rw [hcr2, decide_eq_false hw2] at wr
                refine aw_iload_n (i := 2) dX8_crossed_219 rfl rfl ?_
                refine aw_iconst (v := 2) dX8_crossed_220 (by decide +kernel) ?_
                refine aw_icmp_ge (tgt := 232) dX8_crossed_221 (by decide) (fun _ => ?_) (fun c => (c (nI_le (a := 2) (by omega) (by omega))).elim)
                exact wr A8 _ (by rw [f8 22 (by decide)]; exact d7) (fun k k1 k2 k3 => by rw [f8 k k1]; exact f7 k k2 k3) d8 (by omega)
            · rw [if_neg hcr2] at hz
              rw [Bool.eq_false_iff.mpr hcr2] at wr
              refine aw_if_eq (tgt := 232) dX8_crossed_205 (by decide) (fun _ => ?_) (fun c => (c (bI_eq0.mpr (by simpa using hcr2))).elim)
              exact wr A7 z d7 (fun k k1 k2 k3 => f7 k k2 k3) (by rw [f7 15 (by decide) (by decide)]; exact d15) (by omega)
          by_cases ht0 : t = 0
          · subst ht0
            refine aw_iload dX8_crossed_149 rfl ?_
            refine aw_if_le (tgt := 197) dX8_crossed_151 (by decide) (fun _ => ?_) (fun c => (c (by decide)).elim)
            exact tail A6 (by unfold nwC; rw [if_pos rfl, Nat.add_zero]; exact d6) (fun k k1 k2 => by rw [f6 k k1, f5 k k1])
          · obtain ⟨t', rfl⟩ : ∃ t', t = t' + 1 := ⟨t - 1, by omega⟩
            have hb27 := hr t' (by omega)
            rw [if_neg (by omega), ← f5 26 (by decide), ← f6 26 (by decide)] at hb27
            have hwt4 := hwle i t' (by omega)
            have hn2 : nwC a b c d e w i (t' + 1) = wayC a b c d e w i (t' + 1) * (b - a) + wayC a b c d e w i t' * a := by unfold nwC; rw [if_neg (by omega), Nat.add_sub_cancel]
            have ht31 : t' + 1 < 2 ^ 31 := lt31 ht hi q3
            refine aw_iload dX8_crossed_149 rfl ?_
            refine aw_if_le (tgt := 197) dX8_crossed_151 (by decide) (fun c => absurd c (Int32.not_le.mpr (nI_lt (a := 0) (Nat.succ_pos _) ht31))) (fun _ => ?_)
            refine aw_aload_n (i := 0) dX8_crossed_154 rfl rfl ?_
            refine aw_getfield fX8_78 dX8_crossed_155 (by rw [mh_0]; exact hB1) rfl ?_
            refine aw_aload_n (i := 0) dX8_crossed_158 rfl rfl ?_
            refine aw_getfield fX8_87 dX8_crossed_159 (by rw [mh_0]; exact hB1) rfl ?_
            refine aw_bipush (v := 10) dX8_crossed_162 (by decide +kernel) ?_
            refine aw_iload dX8_crossed_164 rfl ?_
            refine aw_iconst (v := 1) dX8_crossed_166 (by decide +kernel) ?_
            refine aw_isub dX8_crossed_167 ?_
            rw [nI_pred]
            refine aw_imul dX8_crossed_168 ?_
            rw [c10]
            refine aw_bipush (v := 10) dX8_crossed_169 (by decide +kernel) ?_
            refine aw_invokestatic kX8_170 dX8_crossed_171 (mc_load n h0 m A6 23 26 (10 * t') 10 rfl rfl rfl (by decide) (show 10 * t' + 10 ≤ 1210 by omega) (by decide) hb27.1) rfl rfl (Nat.le_of_ble_eq_true rfl) ⟨Nat.le_of_ble_eq_true rfl, Nat.le_of_ble_eq_true rfl⟩ ⟨Nat.le_of_ble_eq_true rfl, Nat.le_of_ble_eq_true rfl⟩ ?_
            rintro _ _ _ ⟨rfl, rfl, A7, rfl, d7, f7⟩
            rw [hb27.2] at d7
            refine aw_aload_n (i := 0) dX8_crossed_174 rfl rfl ?_
            refine aw_getfield fX8_78 dX8_crossed_175 (by rw [mh_0]; exact hB1) rfl ?_
            refine aw_aload_n (i := 0) dX8_crossed_178 rfl rfl ?_
            refine aw_getfield fX8_105 dX8_crossed_179 (by rw [mh_0]; exact hB1) rfl ?_
            refine aw_i2l dX8_crossed_182 rfl ?_
            rw [nI_l (show a < 2 ^ 31 by omega)]
            refine aw_invokestatic kX8_184 dX8_crossed_183 (mc_by n h0 m A7 23 _ a rfl rfl d7 (by omega) (by omega)) rfl rfl (Nat.le_of_ble_eq_true rfl) ⟨Nat.le_of_ble_eq_true rfl, Nat.le_of_ble_eq_true rfl⟩ ⟨Nat.le_of_ble_eq_true rfl, Nat.le_of_ble_eq_true rfl⟩ ?_
            rintro _ _ _ ⟨rfl, rfl, A8, rfl, d8, f8⟩
            refine aw_aload_n (i := 0) dX8_crossed_186 rfl rfl ?_
            refine aw_getfield fX8_75 dX8_crossed_187 (by rw [mh_0]; exact hB1) rfl ?_
            refine aw_aload_n (i := 0) dX8_crossed_190 rfl rfl ?_
            refine aw_getfield fX8_78 dX8_crossed_191 (by rw [mh_0]; exact hB1) rfl ?_
            refine aw_invokestatic kX8_191 dX8_crossed_194 (mc_plus n h0 m A8 22 23 _ _ rfl rfl rfl rfl (by decide) (by rw [f8 22 (by decide), f7 22 (by decide)]; exact d6) d8 (by omega)) rfl rfl (Nat.le_of_ble_eq_true rfl) ⟨Nat.le_of_ble_eq_true rfl, Nat.le_of_ble_eq_true rfl⟩ ⟨Nat.le_of_ble_eq_true rfl, Nat.le_of_ble_eq_true rfl⟩ ?_
            rintro _ _ _ ⟨rfl, rfl, A9, rfl, d9, f9⟩
            exact tail A9 (by rw [hn2]; exact d9) (fun k k1 k2 => by rw [f9 k k1, f8 k k2, f7 k k2, f6 k k1, f5 k k1])
      have key := inner (i + 2) A2 0 (Nat.le_refl _) (fun q hq => ?_) d2 (by rw [Nat.zero_add, ← hitC_eq]) (by rw [f2 16 (by decide)]; exact d1) (fun k hk => by rw [f2 k (by omega), f1 k (by omega)]; exact fr k hk)
      · rw [pI_s] at key; exact key
      have := hrow q hq
      rw [f2 26 (by decide), f1 26 (by decide)]
      split
      · rw [wayC_0 (by omega)] at this ⊢; exact this
      · exact this
  -- the row is cleared
  have clear : ∀ (j k : Nat) (A' : Nat → Nat → Nat), k + j = 1210 → (∀ q, q < k → A' 26 q = 0) → (∀ i, i ≠ 26 → A' i = A i) → AW mX8_crossed (gq 0 0 Q) 31 [some (.ref m), some (.int (nI p')), some (.int (nI w)), some (.int (nI X)), some (.int (nI k)), none] [] 0 0 n (mh h0 m A') := by
    intro j
    induction j with
    | zero =>
      intro k A' hk hz fr
      obtain rfl : k = 1210 := by omega
      refine aw_iload dX8_crossed_31 rfl ?_
      refine aw_sipush (v := 1210) dX8_crossed_33 (by decide +kernel) ?_
      refine aw_icmp_ge (tgt := 53) dX8_crossed_36 (by decide) (fun _ => ?_) (fun c => (c (by decide)).elim)
      refine aw_aload_n (i := 0) dX8_crossed_53 rfl rfl ?_
      refine aw_getfield fX8_87 dX8_crossed_54 (by rw [mh_0]; exact hB1) rfl ?_
      refine aw_iconst (v := 0) dX8_crossed_57 (by decide +kernel) ?_
      refine aw_lconst (v := 1) dX8_crossed_58 (by decide) ?_
      refine aw_last dX8_crossed_59 0 1 lN_1' (mh_at h0 m A' (k := 26) rfl) (by decide +kernel) (show 0 < 1210 by decide) ?_
      refine AW.hp (mh_up h0 m A' (k := 26) rfl _) ?_
      refine aw_aload_n (i := 0) dX8_crossed_60 rfl rfl ?_
      refine aw_getfield fX8_96 dX8_crossed_61 (by rw [mh_0]; exact hB1) rfl ?_
      refine aw_lconst (v := 0) dX8_crossed_64 (by decide) ?_
      refine aw_invokestatic kX8_124 dX8_crossed_65 (mc_become n h0 m (va_up A' 26 (va_up (A' 26) 0 1)) 29 0 rfl rfl (by decide)) rfl rfl (Nat.le_of_ble_eq_true rfl) ⟨Nat.le_of_ble_eq_true rfl, Nat.le_of_ble_eq_true rfl⟩ ⟨Nat.le_of_ble_eq_true rfl, Nat.le_of_ble_eq_true rfl⟩ ?_
      rintro _ _ _ ⟨rfl, rfl, A2, rfl, d2, f2⟩
      refine aw_aload_n (i := 0) dX8_crossed_68 rfl rfl ?_
      refine aw_getfield fX8_56 dX8_crossed_69 (by rw [mh_0]; exact hB1) rfl ?_
      refine aw_lconst (v := 0) dX8_crossed_72 (by decide) ?_
      refine aw_invokestatic kX8_124 dX8_crossed_73 (mc_become n h0 m A2 16 0 rfl rfl (by decide)) rfl rfl (Nat.le_of_ble_eq_true rfl) ⟨Nat.le_of_ble_eq_true rfl, Nat.le_of_ble_eq_true rfl⟩ ⟨Nat.le_of_ble_eq_true rfl, Nat.le_of_ble_eq_true rfl⟩ ?_
      rintro _ _ _ ⟨rfl, rfl, A3, rfl, d3, f3⟩
      refine aw_iconst (v := 1) dX8_crossed_76 (by decide +kernel) ?_
      refine aw_istore_4 dX8_crossed_77 (by decide) rfl ?_
      refine rounds X 0 A3 none (by omega) (fun q hq => ?_) (fun i' hi' => by omega) d3 (fun k hk => by rw [f3 k (by omega), f2 k (by omega), va_up_off (by omega)]; exact fr k (by omega))
      rw [f3 26 (by decide), f2 26 (by decide), va_up_at]
      exact row0 (fun i h1 h2 => by rw [va_up_off h2]; exact hz i h1) (va_up_at _ _ _) q hq
    | succ j ih =>
      intro k A' hk hz fr
      refine aw_iload dX8_crossed_31 rfl ?_
      refine aw_sipush (v := 1210) dX8_crossed_33 (by decide +kernel) ?_
      refine aw_icmp_ge (tgt := 53) dX8_crossed_36 (by decide) (fun c => absurd c (nI_ge (b := 1210) (by omega) (by decide))) (fun _ => ?_)
      refine aw_aload_n (i := 0) dX8_crossed_39 rfl rfl ?_
      refine aw_getfield fX8_87 dX8_crossed_40 (by rw [mh_0]; exact hB1) rfl ?_
      refine aw_iload dX8_crossed_43 rfl ?_
      refine aw_lconst (v := 0) dX8_crossed_45 (by decide) ?_
      refine aw_last dX8_crossed_46 k 0 lN_0 (mh_at h0 m A' (k := 26) rfl) (nI_toInt (by omega)) (show k < 1210 by omega) ?_
      refine aw_iinc_4 (c0 := 1) dX8_crossed_47 (by decide) (by decide) rfl ?_
      refine aw_goto (tgt := 31) dX8_crossed_50 (by decide) ?_
      rw [nI_1]
      refine AW.hp (mh_up h0 m A' (k := 26) rfl _) ?_
      refine ih (k + 1) _ (by omega) (fun q hq => ?_) (fun i hi => by rw [va_up_off hi]; exact fr i hi)
      rw [va_up_at]
      by_cases hqk : q = k
      · rw [hqk, va_up_at]
      · rw [va_up_off hqk]; exact hz q (by omega)
  refine aw_if_ne (tgt := 28) dX8_crossed_23 (by decide) (fun _ => ?_) (fun c => ((bI_ne0.mpr h3) c).elim)
  refine aw_iconst (v := 0) dX8_crossed_28 (by decide +kernel) ?_
  refine aw_istore_4 dX8_crossed_29 (by decide) rfl ?_
  exact clear 1210 0 A (by omega) (fun q hq => by omega) (fun i _ => rfl)
