def vC (a b c d e how i : Nat) : Nat := if how = 1 then (if i = 0 then 0 else hitC a b c d e 1 (i - 1)) else allC a b c d e how i
theorem vC_s (a b c d e how i : Nat) : vC a b c d e how (i + 1) = (if how = 1 then 0 else vC a b c d e how i * b) + hitC a b c d e how i := by
  unfold vC
  by_cases h : how = 1
  · rw [if_pos h, if_pos h, if_neg (by omega), Nat.add_sub_cancel, h, Nat.zero_add]
  · rw [if_neg h, if_neg h, if_neg h]; rfl
theorem vC_lt {a b c d e how i : Nat} (hab : a ≤ b) (hb : b ≤ 60) (hi : i ≤ 40) : vC a b c d e how i < (2 ^ 32) ^ 9 := by
  have hB : b ^ i < 2 ^ 256 := coins_lt hb hi
  have lim : (2 : Nat) ^ 256 * (42 * 40) < (2 ^ 32) ^ 9 := by decide +kernel
  have h1 : allC a b c d e how i ≤ b ^ i * (42 * 40) := Nat.le_trans (allC_le hab hi) (Nat.mul_le_mul_left _ (by omega))
  have h2 : b ^ i * (42 * 40) ≤ 2 ^ 256 * (42 * 40) := Nat.mul_le_mul_right _ (Nat.le_of_lt hB)
  unfold vC
  split
  · split
    · exact Nat.pow_pos (by decide)
    · have h3 := hitC_le (c := c) (d := d) (e := e) (how := 1) hab (show i - 1 < 40 by omega)
      rw [show i - 1 + 1 = i by omega] at h3
      have h4 : b ^ i * 42 ≤ b ^ i * (42 * 40) := Nat.mul_le_mul_left _ (by decide)
      omega
  · omega
theorem least_iff {c d e i h : Nat} (he : 1 ≤ e) : c + (d * i + e - 1) / e ≤ h ↔ crs c d e i h = true := by
  unfold crs
  rw [decide_eq_true_iff]
  by_cases hc : c ≤ h
  · obtain ⟨m, rfl⟩ : ∃ m, h = c + m := ⟨h - c, by omega⟩
    rw [Nat.mul_add, Nat.add_le_add_iff_left, Nat.add_le_add_iff_left, Nat.div_le_iff_le_mul_add_pred (by omega)]
    omega
  · have : e * h < e * c := Nat.mul_lt_mul_of_pos_left (by omega) (by omega)
    constructor
    · intro q; have := Nat.le_add_right c ((d * i + e - 1) / e); omega
    · intro q; omega
theorem cap_min {S : TS} {p u d : Nat} (hd : 0 < d) : capP S p u d = putP S p (min u d) d := by
  unfold capP
  by_cases h : d < u
  · rw [if_pos h, Nat.min_eq_right (by omega)]
    exact putP_eq (by decide) hd (by omega)
  · rw [if_neg h, Nat.min_eq_left (by omega)]
theorem nI_dv {a b : Nat} (ha : a < 2 ^ 31) (hb : b < 2 ^ 31) : nI a / nI b = nI (a / b) := by
  apply Int32.toInt_inj.mp
  have hab := Nat.div_le_self a b
  rw [Int32.toInt_div, nI_toInt ha, nI_toInt hb, nI_toInt (by omega)]
  rw [← Int.ofNat_tdiv]
  generalize a / b = q at *
  exact Int.bmod_eq_of_le (by omega) (by omega)
theorem ck_crossed (h : Hp) (X : Nat) (S : TS) (p ho x : Int32) (hR : CRep h X S) (hI : SInv S) : CT mX7_crossed 0 0 (cn X S) h [.ref X, .int p, .int ho, .int x] (COK X h (opCrossed S p ho x)) := by
  obtain ⟨hc, N, rfl, hS⟩ := hR
  refine CT.intro [some (.ref X), some (.int p), some (.int ho), some (.int x), none, none, none] 3 rfl rfl (by decide) ?_
  intro Q hQ
  have bad : ∀ y4 : Option Value, (isP p && (rg ho 0 2 && rg x 1 40)) = false → AW mX7_crossed (gq 0 0 Q) 31 [some (.ref X), some (.int p), some (.int ho), some (.int x), y4, none, none] [] 0 0 (cn X S) (nh hc (LC X (sN S)) N) := by
    intro y4 hb
    refine aw_iconst (v := (-1)) dX7_crossed_31 (by decide +kernel) ?_
    refine aw_ireturn dX7_crossed_32 rfl rfl (Nat.le_of_ble_eq_true rfl) (Nat.le_of_ble_eq_true rfl) ?_
    exact hQ _ _ _ (cbad hS _ (by unfold opCrossed; rw [hb]; rfl))
  refine aw_aload_n (i := 0) dX7_crossed_0 rfl rfl ?_
  refine aw_iload_n (i := 1) dX7_crossed_1 rfl rfl ?_
  refine aw_invokevirtual kX7_191 dX7_crossed_2 (hS.X0 N) (hS.placeAt (cn X S) N p) rfl rfl (Nat.le_of_ble_eq_true rfl) ⟨Nat.le_of_ble_eq_true rfl, Nat.le_of_ble_eq_true rfl⟩ ⟨Nat.le_of_ble_eq_true rfl, Nat.le_of_ble_eq_true rfl⟩ ?_
  rintro _ _ _ ⟨rfl, rfl, rfl⟩
  by_cases h1 : isP p = true
  case neg =>
    rw [if_neg h1]
    refine aw_astore_4N dX7_crossed_5 (by decide) rfl ?_
    refine aw_aloadN dX7_crossed_7 rfl ?_
    refine aw_ifnullN (tgt := 31) dX7_crossed_9 (by decide) ?_
    exact bad _ (by simp [h1])
  rw [if_pos h1]
  refine aw_astore_4 dX7_crossed_5 (by decide) rfl ?_
  refine aw_aload dX7_crossed_7 rfl ?_
  refine aw_ifnull dX7_crossed_9 ?_
  refine aw_iload_n (i := 2) dX7_crossed_12 rfl rfl ?_
  refine aw_iconst (v := 0) dX7_crossed_13 (by decide +kernel) ?_
  refine aw_iconst (v := 2) dX7_crossed_14 (by decide +kernel) ?_
  refine aw_invokestatic kX7_88 dX7_crossed_15 (ct_out (b := 2) _ (nh hc (LC X (sN S)) N) ho 0 2 toInt_lit0 (by decide +kernel)) rfl rfl (Nat.le_of_ble_eq_true rfl) ⟨Nat.le_of_ble_eq_true rfl, Nat.le_of_ble_eq_true rfl⟩ ⟨Nat.le_of_ble_eq_true rfl, Nat.le_of_ble_eq_true rfl⟩ ?_
  rintro _ _ _ ⟨rfl, rfl, rfl⟩
  by_cases h2 : rg ho 0 2 = true
  case neg =>
    refine aw_if_ne (tgt := 31) dX7_crossed_18 (by decide) (fun _ => ?_) (fun c => ((bn0 h2) c).elim)
    exact bad _ (by simp [h2])
  refine aw_if_ne (tgt := 31) dX7_crossed_18 (by decide) (fun c => absurd c (fun e => e (bn1 h2))) (fun _ => ?_)
  refine aw_iload_n (i := 3) dX7_crossed_21 rfl rfl ?_
  refine aw_iconst (v := 1) dX7_crossed_22 (by decide +kernel) ?_
  refine aw_bipush (v := 40) dX7_crossed_23 (by decide +kernel) ?_
  refine aw_invokestatic kX7_88 dX7_crossed_25 (ct_out (a := 1) (b := 40) _ (nh hc (LC X (sN S)) N) x 1 40 (by decide +kernel) (by decide +kernel)) rfl rfl (Nat.le_of_ble_eq_true rfl) ⟨Nat.le_of_ble_eq_true rfl, Nat.le_of_ble_eq_true rfl⟩ ⟨Nat.le_of_ble_eq_true rfl, Nat.le_of_ble_eq_true rfl⟩ ?_
  rintro _ _ _ ⟨rfl, rfl, rfl⟩
  by_cases h3 : rg x 1 40 = true
  case neg =>
    refine aw_if_eq (tgt := 33) dX7_crossed_28 (by decide) (fun c => absurd c (bn0 h3)) (fun _ => ?_)
    exact bad _ (by simp [h3])
  obtain ⟨ep, hp⟩ := isP_N h1
  obtain ⟨eo, -, -, ho2⟩ := rg_N h2 (by decide)
  obtain ⟨ex, -, hx1, hx2⟩ := rg_N h3 (by decide)
  have hop : opCrossed S p ho x = putP S (tN p) (min (vC (sCA S) (sCB S) (sLC S) (sLD S) (sLE S) (tN ho) (tN x)) (sCB S ^ tN x)) (sCB S ^ tN x) := by
    unfold opCrossed vC
    rw [h1, h2, h3, if_neg (show ¬ tN x = 0 by omega)]
    by_cases q : tN ho = 1
    · rw [if_pos q]; simp only [Bool.and_self, if_true]
    · rw [if_neg q]; simp only [Bool.and_self, if_true]
  rw [hop] at hQ
  clear bad hop
  generalize tN p = p' at *
  generalize tN ho = o' at *
  generalize tN x = x' at *
  subst eo ex
  obtain ⟨hab, h1b, hb⟩ := hI.2.2.2.2.1
  obtain ⟨hlc, hld, hle1, hle⟩ := hI.2.2.2.2.2
  obtain ⟨td0, htd0⟩ := hS.tos N
  have W := LC_W X (sN S)
  have hO := hS.ou
  have l6 : LC X (sN S) (X + 6) = 72 := L72 rfl
  have l8 : LC X (sN S) (X + 8) = 72 := L72 rfl
  have z6 : LC X (sN S) (X + 6) ≠ 0 := by rw [l6]; decide
  have z8 : LC X (sN S) (X + 8) ≠ 0 := by rw [l8]; decide
  refine aw_if_eq (tgt := 33) dX7_crossed_28 (by decide) (fun _ => ?_) (fun c => (c (bn1 h3)).elim)
  refine aw_aload_n (i := 0) dX7_crossed_33 rfl rfl ?_
  refine aw_getfield fX7_59 dX7_crossed_34 (hS.X0 N) rfl ?_
  refine aw_aload_n (i := 0) dX7_crossed_37 rfl rfl ?_
  refine aw_getfield fX7_73 dX7_crossed_38 (hS.X0 N) rfl ?_
  refine aw_aload_n (i := 0) dX7_crossed_41 rfl rfl ?_
  refine aw_getfield fX7_76 dX7_crossed_42 (hS.X0 N) rfl ?_
  refine aw_invokevirtual kX7_287 dX7_crossed_45 htd0 (ct_X6_start (cn X S) hc N X (sCA S) (sCB S) S hS hab hb) rfl rfl (Nat.le_of_ble_eq_true rfl) ⟨Nat.le_of_ble_eq_true rfl, Nat.le_of_ble_eq_true rfl⟩ ⟨Nat.le_of_ble_eq_true rfl, Nat.le_of_ble_eq_true rfl⟩ ?_
  rintro _ _ _ ⟨rfl, rfl, sh, g0, N1, rfl, hs, hr0, v37, A1, f1⟩
  have hOt : ∀ td g N', nh (th hc X td sh g) (LC X (sN S)) N' (X + 5) = some (fobj (X + 5) 0) := fun td g N' => by rw [nh_X (c := 5) N' rfl (Or.inr rfl), th_x (by omega) (by omega) (by omega)]; exact hO.1
  have hXt : ∀ td g N', nh (th hc X td sh g) (LC X (sN S)) N' X = some (cob X S) := fun td g N' => X0_k (by rw [th_x (by omega) (by omega) (by omega)]; exact hS.2.1.1) N'
  refine aw_aload_n (i := 0) dX7_crossed_48 rfl rfl ?_
  refine aw_getfield fX7_31 dX7_crossed_49 (hXt _ _ _) rfl ?_
  refine aw_getfield fX7_108 dX7_crossed_52 (hOt _ _ _) rfl ?_
  refine aw_invokevirtual kX7_297 dX7_crossed_55 (nh_o _ N1 z6) (cp_clear (cn X S) _ (LC X (sN S)) N1 (X + 6) W A1 z6) rfl rfl (Nat.le_of_ble_eq_true rfl) ⟨Nat.le_of_ble_eq_true rfl, Nat.le_of_ble_eq_true rfl⟩ ⟨Nat.le_of_ble_eq_true rfl, Nat.le_of_ble_eq_true rfl⟩ ?_
  rintro _ _ _ ⟨rfl, rfl, N2, rfl, v2, A2, f2⟩
  generalize sCA S = a at *
  generalize hB : sCB S = b at *
  generalize hC : sLC S = c at *
  generalize hD : sLD S = d at *
  generalize hE : sLE S = e at *
  have after : ∀ (g : Nat → Nat) (N' : NC) (y5 y6 : Option Value), nv (LC X (sN S)) N' (X + 6) 9 (vC a b c d e o' x') → nv (LC X (sN S)) N' (X + 37) 8 (b ^ x') → NA (LC X (sN S)) N' → (∀ k, k < X + 6 ∨ X + 46 ≤ k → N' k = N k) → AW mX7_crossed (gq 0 0 Q) 160 [some (.ref X), some (.int p), some (.int (nI o')), some (.int (nI x')), some (.ref (plb X p')), y5, y6] [] 0 0 (cn X S) (nh (th hc X x' sh g) (LC X (sN S)) N') := by
    intro g N' y5 y6 h6 h37 A' f'
    refine aw_aload_n (i := 0) dX7_crossed_160 rfl rfl ?_
    refine aw_getfield fX7_31 dX7_crossed_161 (hXt _ _ _) rfl ?_
    refine aw_getfield fX7_273 dX7_crossed_164 (hOt _ _ _) rfl ?_
    refine aw_aload_n (i := 0) dX7_crossed_167 rfl rfl ?_
    refine aw_getfield fX7_59 dX7_crossed_168 (hXt _ _ _) rfl ?_
    refine aw_getfield fX7_306 dX7_crossed_171 (n36 _) rfl ?_
    refine aw_invokevirtual kX7_265 dX7_crossed_174 (nh_o _ N' z8) (cp_copy (cn X S) _ (LC X (sN S)) N' (X + 8) (X + 37) _ 8 W A' z8 h37 (by omega) (by rw [l8]; decide)) rfl rfl (Nat.le_of_ble_eq_true rfl) ⟨Nat.le_of_ble_eq_true rfl, Nat.le_of_ble_eq_true rfl⟩ ⟨Nat.le_of_ble_eq_true rfl, Nat.le_of_ble_eq_true rfl⟩ ?_
    rintro _ _ _ ⟨rfl, rfl, N3, rfl, v3, A3, f3⟩
    have hSt := hS.th x' sh g A3 (fun k hk => by rw [f3 _ (by omega), f' _ hk])
    have h6' := h6.fr (N' := N3) (f3 _ (by omega))
    refine aw_aload_n (i := 0) dX7_crossed_177 rfl rfl ?_
    refine aw_getfield fX7_31 dX7_crossed_178 (hXt _ _ _) rfl ?_
    refine aw_invokevirtual kX7_233 dX7_crossed_181 (hOt _ _ _) (ct_X1_capAtOne (cn X S) _ (LC X (sN S)) N3 (X + 5) 0 _ _ W hSt.ou A3 h6'.2.1 v3.2.1) rfl rfl (Nat.le_of_ble_eq_true rfl) ⟨Nat.le_of_ble_eq_true rfl, Nat.le_of_ble_eq_true rfl⟩ ⟨Nat.le_of_ble_eq_true rfl, Nat.le_of_ble_eq_true rfl⟩ ?_
    rintro _ _ _ ⟨rfl, rfl, N4, rfl, d6, d8, f4⟩
    have hS4 := hSt.numK (A3.two d6 d8 f4) (fun k hk => f4 k (by omega) (by omega))
    have hpos : 0 < b ^ x' := Nat.pow_pos (by omega)
    refine aw_aload_n (i := 0) dX7_crossed_184 rfl rfl ?_
    refine aw_aload dX7_crossed_185 rfl ?_
    refine aw_invokevirtual kX7_197 dX7_crossed_187 (hS4.X0 N4) (cp_settle (cn X S) _ N4 X S p' _ _ 70 70 hS4 hp ⟨z6, d6, one_lt70 h6.2.2 (by decide)⟩ ⟨z8, d8, one_lt70 v3.2.2 (by decide)⟩ (by split <;> omega) (by decide) (by decide)) rfl rfl (Nat.le_of_ble_eq_true rfl) ⟨Nat.le_of_ble_eq_true rfl, Nat.le_of_ble_eq_true rfl⟩ ⟨Nat.le_of_ble_eq_true rfl, Nat.le_of_ble_eq_true rfl⟩ ?_
    rintro _ _ h' ⟨rfl, rfl, hR', hF⟩
    rw [capP_put, cap_min hpos] at hR' ⊢
    refine aw_ireturn dX7_crossed_190 rfl rfl (Nat.le_of_ble_eq_true rfl) (Nat.le_of_ble_eq_true rfl) ?_
    refine hQ _ _ _ ⟨?_, rfl, hR', fun y h1 h2 => ?_⟩
    · unfold cn; rw [putP_N]
    · rw [hF y h1 h2]; exact cfr_nh (fun y h1 h2 => th_x (by omega) (by omega) (by omega)) y h1 h2
  have loop : ∀ (z i : Nat) (g : Nat → Nat) (N' : NC) (y6 : Option Value), i + z = x' → rok 40 8 g (wayC a b c d e o' i) → nv (LC X (sN S)) N' (X + 6) 9 (vC a b c d e o' i) → nv (LC X (sN S)) N' (X + 37) 8 (b ^ i) → NA (LC X (sN S)) N' → (∀ k, k < X + 6 ∨ X + 46 ≤ k → N' k = N k) → AW mX7_crossed (gq 0 0 Q) 61 [some (.ref X), some (.int p), some (.int (nI o')), some (.int (nI x')), some (.ref (plb X p')), some (.int (nI (i + 1))), y6] [] 0 0 (cn X S) (nh (th hc X i sh g) (LC X (sN S)) N') := by
    intro z
    induction z with
    | zero =>
      intro i g N' y6 hi hr h6 h37 A' f'
      obtain rfl : i = x' := by omega
      refine aw_iload dX7_crossed_61 rfl ?_
      refine aw_iload_n (i := 3) dX7_crossed_63 rfl rfl ?_
      refine aw_icmp_gt (tgt := 160) dX7_crossed_64 (by decide) (fun _ => ?_) (fun c => (c (nI_lt (by omega) (by omega))).elim)
      exact after g N' _ _ h6 h37 A' f'
    | succ z ih =>
      intro i g N' y6 hi hr h6 h37 A' f'
      have hbn : b ^ (i + 1) < (2 ^ 32) ^ 8 := bn_lt hb (by omega)
      have hvs := vC_s a b c d e o' i
      have hvl := vC_lt (c := c) (d := d) (e := e) (how := o') hab hb (show i + 1 ≤ 40 by omega)
      have hst : ∀ v, stepC a b (wayC a b c d e o' i) v = nwC a b c d e o' i v := fun v => rfl
      have go88 : ∀ f, f < 2 ^ 32 → vC a b c d e o' i * f = (if o' = 1 then 0 else vC a b c d e o' i * b) → AW mX7_crossed (gq 0 0 Q) 88 [some (.ref X), some (.int p), some (.int (nI o')), some (.int (nI x')), some (.ref (plb X p')), some (.int (nI (i + 1))), y6] [.long (lN f), .ref (X + 6)] 0 0 (cn X S) (nh (th hc X i sh g) (LC X (sN S)) N') := by
        intro f hf hfe
        refine aw_invokevirtual kX7_270 dX7_crossed_88 (nh_o _ N' z6) (cp_scale (cn X S) _ (LC X (sN S)) N' (X + 6) _ f 9 W A' h6 hf (by rw [l6]; decide)) rfl rfl (Nat.le_of_ble_eq_true rfl) ⟨Nat.le_of_ble_eq_true rfl, Nat.le_of_ble_eq_true rfl⟩ ⟨Nat.le_of_ble_eq_true rfl, Nat.le_of_ble_eq_true rfl⟩ ?_
        rintro _ _ _ ⟨rfl, rfl, N3, rfl, v3, A3, f3⟩
        rw [hfe] at v3
        refine aw_aload_n (i := 0) dX7_crossed_91 rfl rfl ?_
        refine aw_getfield fX7_59 dX7_crossed_92 (hXt _ _ _) rfl ?_
        refine aw_invokevirtual kX7_300 dX7_crossed_95 (n36 _) (ct_X6_tossNext (cn X S) hc N3 N X i a b (b ^ i) S sh g (wayC a b c d e o' i) hS A3 hs hab hb (by omega) hr (fun v hv => wayC_0 hv) (fun v => by rw [hst]; exact Nat.lt_of_le_of_lt (nwC_le hab (wayC_le hab i)) hbn) (h37.fr (f3 _ (by omega))) hbn) rfl rfl (Nat.le_of_ble_eq_true rfl) ⟨Nat.le_of_ble_eq_true rfl, Nat.le_of_ble_eq_true rfl⟩ ⟨Nat.le_of_ble_eq_true rfl, Nat.le_of_ble_eq_true rfl⟩ ?_
        rintro _ _ _ ⟨rfl, rfl, g4, N4, rfl, hr4, v4, A4, f4⟩
        have hdi : d * (i + 1) ≤ 60 * 40 := Nat.mul_le_mul hld (by omega)
        have hq : (d * (i + 1) + e - 1) / e ≤ d * (i + 1) + e - 1 := Nat.div_le_self _ _
        have hco : cob X S = .inr (7, [.ref (X + 1), .ref (X + 2), .ref (X + 3), .ref (X + 4), .ref (X + 5), .ref (X + 10), .ref (X + 12), .ref (X + 23), .ref (X + 36), .int (nI (sNw S)), .int (nI (sN S)), .int (nI (sB S)), .int (nI (sCA S)), .int (nI b), .int (nI c), .int (nI d), .int (nI e)]) := by unfold cob; rw [hB, hC, hD, hE]
        refine aw_aload_n (i := 0) dX7_crossed_98 rfl rfl ?_
        refine aw_getfield fX7_79 dX7_crossed_99 (by rw [hXt, hco]) rfl ?_
        refine aw_aload_n (i := 0) dX7_crossed_102 rfl rfl ?_
        refine aw_getfield fX7_82 dX7_crossed_103 (by rw [hXt, hco]) rfl ?_
        refine aw_iload dX7_crossed_106 rfl ?_
        refine aw_imul dX7_crossed_108 ?_
        refine aw_aload_n (i := 0) dX7_crossed_109 rfl rfl ?_
        refine aw_getfield fX7_85 dX7_crossed_110 (by rw [hXt, hco]) rfl ?_
        refine aw_iadd dX7_crossed_113 ?_
        refine aw_iconst (v := 1) dX7_crossed_114 (by decide +kernel) ?_
        rw [pk_mul, nI_add, show d * (i + 1) + e = (d * (i + 1) + e - 1) + 1 by omega]
        refine aw_isub dX7_crossed_115 ?_
        refine aw_aload_n (i := 0) dX7_crossed_116 rfl rfl ?_
        refine aw_getfield fX7_85 dX7_crossed_117 (by rw [hXt, hco]) rfl ?_
        refine aw_iconst (v := 1) dX7_crossed_120 (by decide +kernel) ?_
        refine aw_mmax kX7_170 mathmax_s math_i mathmax_c dX7_crossed_121 (by decide) (Nat.le_of_ble_eq_true rfl) (Nat.le_of_ble_eq_true rfl) (Nat.le_of_ble_eq_true rfl) ?_
        rw [nI_pred, show (if nI e < 1 then (1 : Int32) else nI e) = nI e from if_neg (nI_nlt (b := 1) hle1 (by omega))]
        refine aw_idiv dX7_crossed_124 (nI_ne0 (by omega) (by omega)) ?_
        rw [nI_dv (by omega) (by omega)]
        refine aw_iadd dX7_crossed_125 ?_
        rw [nI_add]
        have hlh : c + (d * (i + 1) + e - 1) / e < 2 ^ 30 := by omega
        have hli : ∀ h, c + (d * (i + 1) + e - 1) / e ≤ h ↔ crs c d e (i + 1) h = true := fun h => least_iff hle1
        generalize c + (d * (i + 1) + e - 1) / e = le at *
        have hhit : sg (fun y => if le ≤ y then stepC a b (wayC a b c d e o' i) y else 0) (i + 1 + 1) = hitC a b c d e o' i := by
          rw [hitC_eq]
          refine sg_congr (fun y _ => ?_)
          by_cases q : le ≤ y
          · rw [if_pos q, if_pos ((hli y).mp q), hst]
          · rw [if_neg q, if_neg (fun z => q ((hli y).mpr z))]
        have go144 : AW mX7_crossed (gq 0 0 Q) 144 [some (.ref X), some (.int p), some (.int (nI o')), some (.int (nI x')), some (.ref (plb X p')), some (.int (nI (i + 1))), some (.int (nI le))] [.int (bI (decide (o' < 2))), .int (nI le), .ref (X + 36)] 0 0 (cn X S) (nh (th hc X (i + 1) sh g4) (LC X (sN S)) N4) := by
          have hfit : (if o' = 1 then 0 else vC a b c d e o' i * b) + sg (fun y => if le ≤ y then stepC a b (wayC a b c d e o' i) y else 0) (i + 1 + 1) < (2 ^ 32) ^ 9 := by rw [hhit, ← hvs]; exact hvl
          have n6' : nv (LC X (sN S)) N4 (X + 6) 9 (if o' = 1 then 0 else vC a b c d e o' i * b) := (v3.up (by omega)).fr (f4 _ (by omega))
          refine aw_aload_n (i := 0) dX7_crossed_144 rfl rfl ?_
          refine aw_getfield fX7_31 dX7_crossed_145 (hXt _ _ _) rfl ?_
          refine aw_getfield fX7_108 dX7_crossed_148 (hOt _ _ _) rfl ?_
          refine aw_invokevirtual kX7_303 dX7_crossed_151 (n36 _) (ct_X6_addFrom (cn X S) hc N4 N X (i + 1) le _ 9 (decide (o' < 2)) S sh g4 _ hS A4 (by omega) hlh hr4 n6' (by decide) hfit) rfl rfl (Nat.le_of_ble_eq_true rfl) ⟨Nat.le_of_ble_eq_true rfl, Nat.le_of_ble_eq_true rfl⟩ ⟨Nat.le_of_ble_eq_true rfl, Nat.le_of_ble_eq_true rfl⟩ ?_
          rintro _ _ _ ⟨rfl, rfl, g5, N5, rfl, hr5, v5, A5, f5⟩
          rw [hhit, ← hvs] at v5
          refine aw_iinc_5 (c0 := 1) dX7_crossed_154 (by decide) (by decide) rfl ?_
          refine aw_goto (tgt := 61) dX7_crossed_157 (by decide) ?_
          rw [nI_1]
          refine ih (i + 1) g5 N5 _ (by omega) (rok_congr hr5 (fun y hy => ?_)) v5 (v4.fr (f5 _ (by omega))) A5 (fun k hk => by rw [f5 _ (by omega), f4 _ (by omega), f3 _ (by omega), f' _ hk])
          rw [wayC_s]
          by_cases q1 : crs c d e (i + 1) y = true
          · by_cases q2 : o' < 2
            · rw [q1, decide_eq_true q2, Bool.and_true, if_pos rfl]
              by_cases q3 : y ≤ i + 1
              · rw [if_pos ⟨rfl, (hli y).mpr q1, q3⟩]
              · rw [if_neg (fun z => q3 z.2.2), hst]
                unfold nwC
                rw [wayC_0 (by omega), if_neg (by omega), wayC_0 (by omega), Nat.zero_mul, Nat.zero_mul]
            · rw [decide_eq_false q2, Bool.and_false, if_neg (by decide), if_neg (fun z => absurd z.1 (by decide)), hst]
          · rw [Bool.eq_false_iff.mpr q1, Bool.false_and, if_neg (by decide), if_neg (fun z => q1 ((hli y).mp z.2.1)), hst]
        by_cases q2 : o' = 2
        · rw [decide_eq_false (by omega)] at go144
          refine aw_istore_6 dX7_crossed_126 (by decide) rfl ?_
          refine aw_aload_n (i := 0) dX7_crossed_128 rfl rfl ?_
          refine aw_getfield fX7_59 dX7_crossed_129 (hXt _ _ _) rfl ?_
          refine aw_iload dX7_crossed_132 rfl ?_
          refine aw_iload_n (i := 2) dX7_crossed_134 rfl rfl ?_
          refine aw_iconst (v := 2) dX7_crossed_135 (by decide +kernel) ?_
          refine aw_icmp_eq (tgt := 143) dX7_crossed_136 (by decide) (fun _ => ?_) (fun c => (c (by rw [q2]; rfl)).elim)
          refine aw_iconst (v := 0) dX7_crossed_143 (by decide +kernel) ?_
          exact go144
        · rw [decide_eq_true (by omega)] at go144
          refine aw_istore_6 dX7_crossed_126 (by decide) rfl ?_
          refine aw_aload_n (i := 0) dX7_crossed_128 rfl rfl ?_
          refine aw_getfield fX7_59 dX7_crossed_129 (hXt _ _ _) rfl ?_
          refine aw_iload dX7_crossed_132 rfl ?_
          refine aw_iload_n (i := 2) dX7_crossed_134 rfl rfl ?_
          refine aw_iconst (v := 2) dX7_crossed_135 (by decide +kernel) ?_
          refine aw_icmp_eq (tgt := 143) dX7_crossed_136 (by decide) (fun c => absurd c (fun c => q2 ((nI_eq (b := 2) (by omega) (by decide)).mp c))) (fun _ => ?_)
          refine aw_iconst (v := 1) dX7_crossed_139 (by decide +kernel) ?_
          refine aw_goto (tgt := 144) dX7_crossed_140 (by decide) ?_
          exact go144
      by_cases q1 : o' = 1
      · refine aw_iload dX7_crossed_61 rfl ?_
        refine aw_iload_n (i := 3) dX7_crossed_63 rfl rfl ?_
        refine aw_icmp_gt (tgt := 160) dX7_crossed_64 (by decide) (fun c => absurd c (nI_nlt (by omega) (by omega))) (fun _ => ?_)
        refine aw_aload_n (i := 0) dX7_crossed_67 rfl rfl ?_
        refine aw_getfield fX7_31 dX7_crossed_68 (hXt _ _ _) rfl ?_
        refine aw_getfield fX7_108 dX7_crossed_71 (hOt _ _ _) rfl ?_
        refine aw_iload_n (i := 2) dX7_crossed_74 rfl rfl ?_
        refine aw_iconst (v := 1) dX7_crossed_75 (by decide +kernel) ?_
        refine aw_icmp_ne (tgt := 83) dX7_crossed_76 (by decide) (fun c => absurd c (fun c => c (by rw [q1]; rfl))) (fun _ => ?_)
        refine aw_lconst (v := 0) dX7_crossed_79 (by decide) ?_
        refine aw_goto (tgt := 88) dX7_crossed_80 (by decide) ?_
        exact go88 0 (by decide) (by rw [if_pos q1, Nat.mul_zero])
      · refine aw_iload dX7_crossed_61 rfl ?_
        refine aw_iload_n (i := 3) dX7_crossed_63 rfl rfl ?_
        refine aw_icmp_gt (tgt := 160) dX7_crossed_64 (by decide) (fun c => absurd c (nI_nlt (by omega) (by omega))) (fun _ => ?_)
        refine aw_aload_n (i := 0) dX7_crossed_67 rfl rfl ?_
        refine aw_getfield fX7_31 dX7_crossed_68 (hXt _ _ _) rfl ?_
        refine aw_getfield fX7_108 dX7_crossed_71 (hOt _ _ _) rfl ?_
        refine aw_iload_n (i := 2) dX7_crossed_74 rfl rfl ?_
        refine aw_iconst (v := 1) dX7_crossed_75 (by decide +kernel) ?_
        refine aw_icmp_ne (tgt := 83) dX7_crossed_76 (by decide) (fun _ => ?_) (fun c => ((fun c => q1 ((nI_eq (b := 1) (by omega) (by decide)).mp c)) c).elim)
        refine aw_aload_n (i := 0) dX7_crossed_83 rfl rfl ?_
        refine aw_getfield fX7_76 dX7_crossed_84 (hXt _ _ _) rfl ?_
        refine aw_i2l dX7_crossed_87 rfl ?_
        try dsimp only
        rw [hB, nI_l (by omega)]
        exact go88 b (by omega) (by rw [if_neg q1])
  refine aw_iconst (v := 1) dX7_crossed_58 (by decide +kernel) ?_
  refine aw_istore_5 dX7_crossed_59 (by decide) rfl ?_
  refine loop x' 0 g0 N2 none (by omega) (rok_congr hr0 (fun v _ => rfl)) ?_ (v37.fr (f2 _ (by omega))) A2 (fun k hk => by rw [f2 _ (by omega), f1 _ (by omega)])
  have e0 : vC a b c d e o' 0 = 0 := by unfold vC; split <;> rfl
  rw [e0]
  exact v2.up (Nat.pow_pos (by decide))
