theorem cS_supp {nw : Nat} (w : Nat → Nat) (h1 : 1 ≤ nw) : ∀ n v, n * (nw - 1) < v → cSums nw w n v = 0
  | 0, v, h => by simp only [cSums]; rw [if_neg (by omega)]
  | n + 1, v, h => by
    simp only [cSums]
    refine sg_zero (fun i hi => ?_)
    split
    · rw [Nat.add_mul, Nat.one_mul] at h
      rw [cS_supp w h1 n (v - i) (by omega), Nat.zero_mul]
    · rfl
theorem cS_tot {nw : Nat} (w : Nat → Nat) (h1 : 1 ≤ nw) : ∀ n, sg (cSums nw w n) (n * (nw - 1) + 1) = sg w nw ^ n
  | 0 => by rw [Nat.zero_mul, sg_s, sg_0]; rfl
  | n + 1 => by
    have e : ∀ v, cSums nw w (n + 1) v = sg (fun i => if i ≤ v then cSums nw w n (v - i) * w i else 0) nw := fun v => rfl
    rw [sg_congr (fun v _ => e v), sg_swap (fun v i => if i ≤ v then cSums nw w n (v - i) * w i else 0)]
    have : ∀ i, i < nw → sg (fun v => if i ≤ v then cSums nw w n (v - i) * w i else 0) ((n + 1) * (nw - 1) + 1) = sg w nw ^ n * w i := by
      intro i hi
      have hT : (n + 1) * (nw - 1) = n * (nw - 1) + (nw - 1) := by rw [Nat.add_mul, Nat.one_mul]
      rw [show (n + 1) * (nw - 1) + 1 = i + (n * (nw - 1) + 1 + (nw - 1 - i)) by omega, sg_app, sg_zero (fun v hv => if_neg (by omega)), Nat.zero_add]
      rw [sg_congr (g := fun u => cSums nw w n u * w i) (fun u _ => by rw [if_pos (by omega), Nat.add_sub_cancel_left]), sg_mul, sg_high (m := n * (nw - 1) + 1) (by omega) (fun u h2 _ => cS_supp w h1 n u (by omega)), cS_tot w h1 n]
    rw [sg_congr this, sg_mull, Nat.pow_succ]
theorem sumW_le {S : TS} (hI : SInv S) : sg (sW S) (sNw S) ≤ 8000 := by
  have := sg_bound (f := sW S) (c := 1000) (n := sNw S) hI.1.2
  have := hI.1.1
  omega
theorem eight : (8000 : Nat) ^ 12 < 2 ^ 256 := by decide +kernel
theorem sums_lt {S : TS} (hI : SInv S) {n : Nat} (hn : n ≤ 12) : sg (sW S) (sNw S) ^ n < 2 ^ 256 := by
  have h1 := sumW_le hI
  have e1 : sg (sW S) (sNw S) ^ n ≤ 8000 ^ n := Nat.pow_le_pow_left h1 n
  have e2 : 8000 ^ n ≤ 8000 ^ 12 := Nat.pow_le_pow_right (by decide) hn
  have := eight
  omega
theorem mt_sums (n : Nat) (h : Hp) (m : Nat) (S : TS) (x : Int32) (hR : MRep h m S) (hI : SInv S) : CT mX8_sums 0 0 n h [.ref m, .int x] (MOK n m h (opSums S x)) := by
  obtain ⟨h0, A, bo, ki, mo, wt, rfl, B, hA⟩ := id hR
  refine CT.intro [some (.ref m), some (.int x), none, none, none, none, none, none] 6 rfl rfl (by decide) ?_
  intro Q hQ
  have hnw := hI.1.1
  have hn16 := hI.2.1.1
  have hwt := B.2.2.2.2.2.1
  have hwC : ∀ A' : Nat → Nat → Nat, mh h0 m A' (m + 21) = some (iar 8 wt) := fun A' => by rw [mh_no h0 m A' rfl]; exact B.2.2.2.2.1
  refine aw_iconst (v := 0) dX8_sums_0 (by decide +kernel) ?_
  refine aw_istore_2 dX8_sums_1 (by decide) rfl ?_
  refine aw_iconst (v := 0) dX8_sums_2 (by decide +kernel) ?_
  refine aw_istore_3 dX8_sums_3 (by decide) rfl ?_
  -- behind the first loop
  have rest : AW mX8_sums (gq 0 0 Q) 27 [some (.ref m), some (.int x), some (.int (nI (sg (sW S) (sNw S)))), some (.int (nI (sNw S))), none, none, none, none] [] 0 0 n (mh h0 m A) := by
    have hsw := sumW_le hI
    have bad : (rg x 0 12 && !(sg (sW S) (sNw S) == 0)) = false → AW mX8_sums (gq 0 0 Q) 41 [some (.ref m), some (.int x), some (.int (nI (sg (sW S) (sNw S)))), some (.int (nI (sNw S))), none, none, none, none] [] 0 0 n (mh h0 m A) := by
      intro hb
      refine aw_iconst (v := (-1)) dX8_sums_41 (by decide +kernel) ?_
      refine aw_ireturn dX8_sums_42 rfl rfl (Nat.le_of_ble_eq_true rfl) (Nat.le_of_ble_eq_true rfl) ?_
      refine hQ _ _ _ (bad_ret hR ?_)
      unfold opSums; rw [hb]; rfl
    refine aw_iload_n (i := 1) dX8_sums_27 rfl rfl ?_
    refine aw_iconst (v := 0) dX8_sums_28 (by decide +kernel) ?_
    refine aw_bipush (v := 12) dX8_sums_29 (by decide +kernel) ?_
    refine aw_invokestatic kX8_153 dX8_sums_31 (ct_in n (mh h0 m A) x 0 12 toInt_lit0 toInt_12) rfl rfl (Nat.le_of_ble_eq_true rfl) ⟨Nat.le_of_ble_eq_true rfl, Nat.le_of_ble_eq_true rfl⟩ ⟨Nat.le_of_ble_eq_true rfl, Nat.le_of_ble_eq_true rfl⟩ ?_
    rintro _ _ _ ⟨rfl, rfl, rfl⟩
    by_cases h1 : rg x 0 12 = true
    case neg =>
      refine aw_if_eq (tgt := 41) dX8_sums_34 (by decide) (fun _ => ?_) (fun c => (c (bI_eq0.mpr (by simpa using h1))).elim)
      exact bad (by simp [h1])
    refine aw_if_eq (tgt := 41) dX8_sums_34 (by decide) (fun c => absurd c (bI_ne0.mpr h1)) (fun _ => ?_)
    refine aw_iload_n (i := 2) dX8_sums_37 rfl rfl ?_
    by_cases h2 : sg (sW S) (sNw S) = 0
    · refine aw_if_ne (tgt := 43) dX8_sums_38 (by decide) (fun c => absurd c (fun c => c (by rw [h2]; rfl))) (fun _ => ?_)
      exact bad (by simp [h2])
    obtain ⟨ex, -, -, hx⟩ := rg_N h1 (by decide)
    have hop : opSums S x = newS S 2 (tN x * (sNw S - 1)) (cSums (sNw S) (sW S) (tN x)) := by unfold opSums; rw [h1]; simp [h2]
    rw [hop] at hQ
    generalize tN x = X at *
    subst ex
    refine aw_if_ne (tgt := 43) dX8_sums_38 (by decide) (fun _ => ?_) (fun c => ((nI_ne0 (by omega) (by omega)) c).elim)
    refine aw_aload_n (i := 0) dX8_sums_43 rfl rfl ?_
    refine aw_getfield fX8_178 dX8_sums_44 (by rw [mh_0]; exact B.1) rfl ?_
    refine aw_bipush (v := 16) dX8_sums_47 (by decide +kernel) ?_
    by_cases h16 : sN S = 16
    · refine aw_icmp_ne (tgt := 55) dX8_sums_49 (by decide) (fun c => absurd c (fun c => c (by rw [h16]; rfl))) (fun _ => ?_)
      refine aw_bipush (v := (-3)) dX8_sums_52 (by decide +kernel) ?_
      refine aw_ireturn dX8_sums_54 rfl rfl (Nat.le_of_ble_eq_true rfl) (Nat.le_of_ble_eq_true rfl) ?_
      refine hQ _ _ _ ?_
      unfold newS; rw [if_pos h16]
      exact ⟨rfl, rfl, hR, mfr_rf⟩
    unfold newS at hQ; rw [if_neg h16] at hQ
    refine aw_icmp_ne (tgt := 55) dX8_sums_49 (by decide) (fun _ => ?_) (fun c => ((fun c => h16 ((nI_eq (b := 16) (by omega) (by decide)).mp c)) c).elim)
    refine aw_iconst (v := 0) dX8_sums_55 (by decide +kernel) ?_
    refine aw_istore_3 dX8_sums_56 (by decide) rfl ?_
    have hw1 : 1 ≤ sNw S := by
      rcases Nat.eq_zero_or_pos (sNw S) with q | q
      · rw [q] at h2; exact absurd rfl h2
      · exact q
    obtain ⟨W, hW⟩ : ∃ W, W = sNw S - 1 := ⟨_, rfl⟩
    rw [← hW] at hQ
    have hTX : X * W ≤ 12 * 7 := Nat.mul_le_mul (by omega) (by omega)
    have bnd : ∀ i v, i ≤ X → cSums (sNw S) (sW S) i v < 2 ^ 256 := by
      intro i v hi
      by_cases hv : v ≤ i * W
      · have e1 := cS_tot (sW S) hw1 i
        have e2 : cSums (sNw S) (sW S) i v ≤ sg (cSums (sNw S) (sW S) i) (i * (sNw S - 1) + 1) := sg_ge (by rw [← hW]; omega)
        have e3 := sums_lt hI (n := i) (by omega)
        omega
      · rw [cS_supp (sW S) hw1 i v (by rw [← hW]; omega)]; exact Nat.two_pow_pos _
    have w0 : 2 ^ 256 < 2 ^ 280 := Nat.pow_lt_pow_right (by decide) (by decide)
    have w1 : 2 ^ 280 < 2 ^ 2688 := Nat.pow_lt_pow_right (by decide) (by decide)
    -- the last loop: into the counts
    have last : ∀ (j v : Nat) (A' : Nat → Nat → Nat) (y5 y6 y7 : Option Value), v + j = X * W + 1 → (∀ q, q < v → mD (A' 19) (10 * (121 * sN S + q)) 10 (cSums (sNw S) (sW S) X q)) → (∀ i, i < 1210 * sN S → A' 19 i = A 19 i) → (∀ q, q ≤ X * W → mD (A' 26) (10 * q) 10 (cSums (sNw S) (sW S) X q)) → (∀ i, i ≠ 19 → i ≠ 22 → i ≠ 25 → i ≠ 26 → i ≠ 27 → A' i = A i) → AW mX8_sums (gq 0 0 Q) 271 [some (.ref m), some (.int (nI X)), some (.int (nI (sg (sW S) (sNw S)))), some (.int (nI (X * W))), some (.int (nI v)), y5, y6, y7] [] 0 0 n (mh h0 m A') := by
      intro j
      induction j with
      | zero =>
        intro v A' y5 y6 y7 hv hd e19 hrow fr
        obtain rfl : v = X * W + 1 := by omega
        refine aw_iload dX8_sums_271 rfl ?_
        refine aw_iload_n (i := 3) dX8_sums_273 rfl rfl ?_
        refine aw_icmp_gt (tgt := 323) dX8_sums_274 (by decide) (fun _ => ?_) (fun c => (c (nI_lt (by omega) (by omega))).elim)
        refine aw_aload_n (i := 0) dX8_sums_323 rfl rfl ?_
        refine aw_iconst (v := 2) dX8_sums_324 (by decide +kernel) ?_
        refine aw_iload_n (i := 3) dX8_sums_325 rfl rfl ?_
        refine aw_invokevirtual kX8_202 dX8_sums_326 (by rw [mh_0]; exact B.1) (ct_X8_comes n h0 m A' S bo ki mo wt 2 (X * W) (cSums (sNw S) (sW S) X) B (hA.keepC hI e19 (fr 6 (by decide) (by decide) (by decide) (by decide) (by decide)) (fr 7 (by decide) (by decide) (by decide) (by decide) (by decide)) (fr 20 (by decide) (by decide) (by decide) (by decide) (by decide))) (by omega) (by omega) (fun v hv => hd v (by omega)) (by have e := cS_tot (sW S) hw1 X; rw [← hW] at e; rw [e]; exact sums_lt hI (by omega))) rfl rfl (Nat.le_of_ble_eq_true rfl) ⟨Nat.le_of_ble_eq_true rfl, Nat.le_of_ble_eq_true rfl⟩ ⟨Nat.le_of_ble_eq_true rfl, Nat.le_of_ble_eq_true rfl⟩ ?_
        rintro _ _ _ ⟨rfl, rfl, hR', hF⟩
        refine aw_ireturn dX8_sums_329 rfl rfl (Nat.le_of_ble_eq_true rfl) (Nat.le_of_ble_eq_true rfl) ?_
        exact hQ _ _ _ ⟨rfl, rfl, hR', fun y hy => by rw [hF y hy, mh_fr hy, mh_fr hy]⟩
      | succ j ih =>
        intro v A' y5 y6 y7 hv hd e19 hrow fr
        have hb := bnd X v (Nat.le_refl _)
        refine aw_iload dX8_sums_271 rfl ?_
        refine aw_iload_n (i := 3) dX8_sums_273 rfl rfl ?_
        refine aw_icmp_gt (tgt := 323) dX8_sums_274 (by decide) (fun c => absurd c (nI_nlt (by omega) (by omega))) (fun _ => ?_)
        refine aw_aload_n (i := 0) dX8_sums_277 rfl rfl ?_
        refine aw_getfield fX8_75 dX8_sums_278 (by rw [mh_0]; exact B.1) rfl ?_
        refine aw_aload_n (i := 0) dX8_sums_281 rfl rfl ?_
        refine aw_getfield fX8_87 dX8_sums_282 (by rw [mh_0]; exact B.1) rfl ?_
        refine aw_bipush (v := 10) dX8_sums_285 (by decide +kernel) ?_
        refine aw_iload dX8_sums_287 rfl ?_
        refine aw_imul dX8_sums_289 ?_
        rw [c10]
        refine aw_bipush (v := 10) dX8_sums_290 (by decide +kernel) ?_
        refine aw_invokestatic kX8_170 dX8_sums_292 (mc_load n h0 m A' 22 26 (10 * v) 10 rfl rfl rfl (by decide) (show 10 * v + 10 ≤ 1210 by omega) (by decide) (hrow v (by omega)).1) rfl rfl (Nat.le_of_ble_eq_true rfl) ⟨Nat.le_of_ble_eq_true rfl, Nat.le_of_ble_eq_true rfl⟩ ⟨Nat.le_of_ble_eq_true rfl, Nat.le_of_ble_eq_true rfl⟩ ?_
        rintro _ _ _ ⟨rfl, rfl, A1, rfl, d1, f1⟩
        rw [(hrow v (by omega)).2] at d1
        refine aw_aload_n (i := 0) dX8_sums_295 rfl rfl ?_
        refine aw_getfield fX8_66 dX8_sums_296 (by rw [mh_0]; exact B.1) rfl ?_
        refine aw_aload_n (i := 0) dX8_sums_299 rfl rfl ?_
        refine aw_getfield fX8_178 dX8_sums_300 (by rw [mh_0]; exact B.1) rfl ?_
        refine aw_iload dX8_sums_303 rfl ?_
        refine aw_invokestatic kX8_187 dX8_sums_305 (ct_X8_at n (mh h0 m A1) (sN S) v) rfl rfl (Nat.le_of_ble_eq_true rfl) ⟨Nat.le_of_ble_eq_true rfl, Nat.le_of_ble_eq_true rfl⟩ ⟨Nat.le_of_ble_eq_true rfl, Nat.le_of_ble_eq_true rfl⟩ ?_
        rintro _ _ _ ⟨rfl, rfl, rfl⟩
        refine aw_bipush (v := 10) dX8_sums_308 (by decide +kernel) ?_
        refine aw_aload_n (i := 0) dX8_sums_310 rfl rfl ?_
        refine aw_getfield fX8_75 dX8_sums_311 (by rw [mh_0]; exact B.1) rfl ?_
        refine aw_invokestatic kX8_166 dX8_sums_314 (mc_storeC n h0 m A1 22 (sN S) v _ rfl rfl (by decide) (by omega) (by omega) d1 (by omega)) rfl rfl (Nat.le_of_ble_eq_true rfl) ⟨Nat.le_of_ble_eq_true rfl, Nat.le_of_ble_eq_true rfl⟩ ⟨Nat.le_of_ble_eq_true rfl, Nat.le_of_ble_eq_true rfl⟩ ?_
        rintro _ _ _ ⟨rfl, rfl, A4, rfl, d4, g4, f4⟩
        refine aw_iinc_4 (c0 := 1) dX8_sums_317 (by decide) (by decide) rfl ?_
        refine aw_goto (tgt := 271) dX8_sums_320 (by decide) ?_
        rw [nI_1]
        refine ih (v + 1) A4 y5 y6 y7 (by omega) (fun q hq => ?_) (fun i hi => ?_) (fun q hq => by rw [f4 26 (by decide), f1 26 (by decide)]; exact hrow q hq) (fun i i0 i1 i2 i3 i4 => by rw [f4 i i0, f1 i i1]; exact fr i i0 i1 i2 i3 i4)
        · by_cases hqv : q = v
          · rw [hqv]; exact d4
          · exact mD_congr (hd q (by omega)) (fun i h1 h2 => by rw [g4 i (by omega), f1 19 (by decide)])
        · rw [g4 i (by omega), f1 19 (by decide)]; exact e19 i hi
    -- the rounds
    have rounds : ∀ (j i : Nat) (A' : Nat → Nat → Nat) (y5 y6 y7 : Option Value), i + j = X → (∀ q, q ≤ i * W → mD (A' 26) (10 * q) 10 (cSums (sNw S) (sW S) i q)) → (∀ k, k ≠ 22 → k ≠ 25 → k ≠ 26 → k ≠ 27 → A' k = A k) → AW mX8_sums (gq 0 0 Q) 89 [some (.ref m), some (.int (nI X)), some (.int (nI (sg (sW S) (sNw S)))), some (.int (nI (i * W))), some (.int (nI i)), y5, y6, y7] [] 0 0 n (mh h0 m A') := by
      intro j
      induction j with
      | zero =>
        intro i A' y5 y6 y7 hi hrow fr
        obtain rfl : i = X := by omega
        refine aw_iload dX8_sums_89 rfl ?_
        refine aw_iload_n (i := 1) dX8_sums_91 rfl rfl ?_
        refine aw_icmp_ge (tgt := 268) dX8_sums_92 (by decide) (fun _ => ?_) (fun c => (c (nI_le (Nat.le_refl _) (by omega))).elim)
        refine aw_iconst (v := 0) dX8_sums_268 (by decide +kernel) ?_
        refine aw_istore_4 dX8_sums_269 (by decide) rfl ?_
        exact last (i * W + 1) 0 A' y5 y6 y7 (by omega) (fun q hq => by omega) (fun i _ => by rw [fr 19 (by decide) (by decide) (by decide) (by decide)]) hrow (fun i i0 i1 i2 i3 i4 => fr i i1 i2 i3 i4)
      | succ j ihr =>
        intro i A' y5 y6 y7 hi hrow fr
        have hiW : i * W ≤ X * W := Nat.mul_le_mul_right _ (by omega)
        have hiW2 : (i + 1) * W ≤ X * W := Nat.mul_le_mul_right _ (by omega)
        have hT : (i + 1) * W = i * W + W := by rw [Nat.add_mul, Nat.one_mul]
        have hth : nI (i * W) + nI (sNw S) - 1 = nI ((i + 1) * W) := by
          rw [nI_add, show i * W + sNw S = (i + 1) * W + 1 by omega, nI_pred]
        refine aw_iload dX8_sums_89 rfl ?_
        refine aw_iload_n (i := 1) dX8_sums_91 rfl rfl ?_
        refine aw_icmp_ge (tgt := 268) dX8_sums_92 (by decide) (fun c => absurd c (nI_ge (by omega) (by omega))) (fun _ => ?_)
        refine aw_iload_n (i := 3) dX8_sums_95 rfl rfl ?_
        refine aw_aload_n (i := 0) dX8_sums_96 rfl rfl ?_
        refine aw_getfield fX8_181 dX8_sums_97 (by rw [mh_0]; exact B.1) rfl ?_
        refine aw_iadd dX8_sums_100 ?_
        refine aw_iconst (v := 1) dX8_sums_101 (by decide +kernel) ?_
        refine aw_isub dX8_sums_102 ?_
        rw [hth]
        refine aw_istore_5 dX8_sums_103 (by decide) rfl ?_
        refine aw_iconst (v := 0) dX8_sums_105 (by decide +kernel) ?_
        refine aw_istore_6 dX8_sums_106 (by decide) rfl ?_
        -- copy next to row
        have cpy : ∀ (j k : Nat) (A2 : Nat → Nat → Nat) (y7 : Option Value), k + j = 10 * ((i + 1) * W + 1) → (∀ q, q < k → A2 26 q = A2 27 q) → (∀ q, q ≤ (i + 1) * W → mD (A2 27) (10 * q) 10 (cSums (sNw S) (sW S) (i + 1) q)) → (∀ k, k ≠ 22 → k ≠ 25 → k ≠ 26 → k ≠ 27 → A2 k = A k) → AW mX8_sums (gq 0 0 Q) 231 [some (.ref m), some (.int (nI X)), some (.int (nI (sg (sW S) (sNw S)))), some (.int (nI ((i + 1) * W))), some (.int (nI i)), some (.int (nI ((i + 1) * W))), some (.int (nI k)), y7] [] 0 0 n (mh h0 m A2) := by
          intro j
          induction j with
          | zero =>
            intro k A2 y7 hk hc hn fr2
            obtain rfl : k = 10 * ((i + 1) * W + 1) := by omega
            refine aw_iload dX8_sums_231 rfl ?_
            refine aw_bipush (v := 10) dX8_sums_233 (by decide +kernel) ?_
            refine aw_iload_n (i := 3) dX8_sums_235 rfl rfl ?_
            refine aw_iconst (v := 1) dX8_sums_236 (by decide +kernel) ?_
            refine aw_iadd dX8_sums_237 ?_
            refine aw_imul dX8_sums_238 ?_
            rw [nI_1, c10]
            refine aw_icmp_ge (tgt := 262) dX8_sums_239 (by decide) (fun _ => ?_) (fun c => (c (nI_le (Nat.le_refl _) (by omega))).elim)
            refine aw_iinc_4 (c0 := 1) dX8_sums_262 (by decide) (by decide) rfl ?_
            refine aw_goto (tgt := 89) dX8_sums_265 (by decide) ?_
            rw [nI_1]
            exact ihr (i + 1) A2 _ _ _ (by omega) (fun q hq => mD_congr (hn q hq) (fun p h1 h2 => hc p (by omega))) fr2
          | succ j ihc =>
            intro k A2 y7 hk hc hn fr2
            refine aw_iload dX8_sums_231 rfl ?_
            refine aw_bipush (v := 10) dX8_sums_233 (by decide +kernel) ?_
            refine aw_iload_n (i := 3) dX8_sums_235 rfl rfl ?_
            refine aw_iconst (v := 1) dX8_sums_236 (by decide +kernel) ?_
            refine aw_iadd dX8_sums_237 ?_
            refine aw_imul dX8_sums_238 ?_
            rw [nI_1, c10]
            refine aw_icmp_ge (tgt := 262) dX8_sums_239 (by decide) (fun c => absurd c (nI_ge (by omega) (by omega))) (fun _ => ?_)
            refine aw_aload_n (i := 0) dX8_sums_242 rfl rfl ?_
            refine aw_getfield fX8_87 dX8_sums_243 (by rw [mh_0]; exact B.1) rfl ?_
            refine aw_iload dX8_sums_246 rfl ?_
            refine aw_aload_n (i := 0) dX8_sums_248 rfl rfl ?_
            refine aw_getfield fX8_90 dX8_sums_249 (by rw [mh_0]; exact B.1) rfl ?_
            refine aw_iload dX8_sums_252 rfl ?_
            refine aw_lald dX8_sums_254 k (mh_at h0 m A2 (k := 27) rfl) (nI_toInt (by omega)) (show k < 1210 by omega) ?_
            refine aw_last dX8_sums_255 k (A2 27 k) rfl (mh_at h0 m A2 (k := 26) rfl) (nI_toInt (by omega)) (show k < 1210 by omega) ?_
            refine aw_iinc_6 (c0 := 1) dX8_sums_256 (by decide) (by decide) rfl ?_
            refine aw_goto (tgt := 231) dX8_sums_259 (by decide) ?_
            rw [nI_1]
            refine AW.hp (mh_up h0 m A2 (k := 26) rfl _) ?_
            refine ihc (k + 1) _ y7 (by omega) (fun q hq => ?_) (fun q hq => by rw [va_up_off (by decide)]; exact hn q hq) (fun k k1 k2 k3 k4 => by rw [va_up_off k3]; exact fr2 k k1 k2 k3 k4)
            rw [va_up_at, va_up_off (show 27 ≠ 26 by decide)]
            by_cases hqk : q = k
            · rw [hqk, va_up_at]
            · rw [va_up_off hqk]; exact hc q (by omega)
        have vloop : ∀ (j v : Nat) (A2 : Nat → Nat → Nat) (y7 : Option Value), v + j = (i + 1) * W + 1 → (∀ q, q < v → mD (A2 27) (10 * q) 10 (cSums (sNw S) (sW S) (i + 1) q)) → (∀ q, q ≤ i * W → mD (A2 26) (10 * q) 10 (cSums (sNw S) (sW S) i q)) → (∀ k, k ≠ 22 → k ≠ 25 → k ≠ 26 → k ≠ 27 → A2 k = A k) → AW mX8_sums (gq 0 0 Q) 108 [some (.ref m), some (.int (nI X)), some (.int (nI (sg (sW S) (sNw S)))), some (.int (nI (i * W))), some (.int (nI i)), some (.int (nI ((i + 1) * W))), some (.int (nI v)), y7] [] 0 0 n (mh h0 m A2) := by
          intro j
          induction j with
          | zero =>
            intro v A2 y7 hv hn hr fr2
            obtain rfl : v = (i + 1) * W + 1 := by omega
            refine aw_iload dX8_sums_108 rfl ?_
            refine aw_iload dX8_sums_110 rfl ?_
            refine aw_icmp_gt (tgt := 225) dX8_sums_112 (by decide) (fun _ => ?_) (fun c => (c (nI_lt (by omega) (by omega))).elim)
            refine aw_iload dX8_sums_225 rfl ?_
            refine aw_istore_3 dX8_sums_227 (by decide) rfl ?_
            refine aw_iconst (v := 0) dX8_sums_228 (by decide +kernel) ?_
            refine aw_istore_6 dX8_sums_229 (by decide) rfl ?_
            exact cpy (10 * ((i + 1) * W + 1)) 0 A2 y7 (by omega) (fun q hq => by omega) (fun q hq => hn q (by omega)) fr2
          | succ j ihv =>
            intro v A2 y7 hv hn hr fr2
            refine aw_iload dX8_sums_108 rfl ?_
            refine aw_iload dX8_sums_110 rfl ?_
            refine aw_icmp_gt (tgt := 225) dX8_sums_112 (by decide) (fun c => absurd c (nI_nlt (by omega) (by omega))) (fun _ => ?_)
            refine aw_aload_n (i := 0) dX8_sums_115 rfl rfl ?_
            refine aw_getfield fX8_84 dX8_sums_116 (by rw [mh_0]; exact B.1) rfl ?_
            refine aw_lconst (v := 0) dX8_sums_119 (by decide) ?_
            refine aw_invokestatic kX8_124 dX8_sums_120 (mc_become n h0 m A2 25 0 rfl rfl (by decide)) rfl rfl (Nat.le_of_ble_eq_true rfl) ⟨Nat.le_of_ble_eq_true rfl, Nat.le_of_ble_eq_true rfl⟩ ⟨Nat.le_of_ble_eq_true rfl, Nat.le_of_ble_eq_true rfl⟩ ?_
            rintro _ _ _ ⟨rfl, rfl, A3, rfl, d3, f3⟩
            refine aw_iconst (v := 0) dX8_sums_123 (by decide +kernel) ?_
            refine aw_istore_7 dX8_sums_124 (by decide) rfl ?_
            have hbv := bnd (i + 1) v (by omega)
            have wloop : ∀ (j w : Nat) (A4 : Nat → Nat → Nat), w + j = sNw S → dg (A4 25) (sg (fun q => if q ≤ v then cSums (sNw S) (sW S) i (v - q) * sW S q else 0) w) → (∀ k, k ≠ 22 → k ≠ 25 → A4 k = A2 k) → AW mX8_sums (gq 0 0 Q) 126 [some (.ref m), some (.int (nI X)), some (.int (nI (sg (sW S) (sNw S)))), some (.int (nI (i * W))), some (.int (nI i)), some (.int (nI ((i + 1) * W))), some (.int (nI v)), some (.int (nI w))] [] 0 0 n (mh h0 m A4) := by
              intro j
              induction j with
              | zero =>
                intro w A4 hw d4 f4
                obtain rfl : w = sNw S := by omega
                refine aw_iload dX8_sums_126 rfl ?_
                refine aw_aload_n (i := 0) dX8_sums_128 rfl rfl ?_
                refine aw_getfield fX8_181 dX8_sums_129 (by rw [mh_0]; exact B.1) rfl ?_
                refine aw_icmp_ge (tgt := 201) dX8_sums_132 (by decide) (fun _ => ?_) (fun c => (c (nI_le (Nat.le_refl _) (by omega))).elim)
                refine aw_aload_n (i := 0) dX8_sums_201 rfl rfl ?_
                refine aw_getfield fX8_90 dX8_sums_202 (by rw [mh_0]; exact B.1) rfl ?_
                refine aw_bipush (v := 10) dX8_sums_205 (by decide +kernel) ?_
                refine aw_iload dX8_sums_207 rfl ?_
                refine aw_imul dX8_sums_209 ?_
                rw [c10]
                refine aw_bipush (v := 10) dX8_sums_210 (by decide +kernel) ?_
                refine aw_aload_n (i := 0) dX8_sums_212 rfl rfl ?_
                refine aw_getfield fX8_84 dX8_sums_213 (by rw [mh_0]; exact B.1) rfl ?_
                refine aw_invokestatic kX8_166 dX8_sums_216 (ct_X8_store n (mh h0 m A4) (m + 25) (m + 27) (10 * v) 10 1210 (A4 27) (A4 25) (mh_at h0 m A4 (k := 27) rfl) (mh_96 h0 m A4 rfl rfl) (by omega) (by decide) (by omega) (by decide)) rfl rfl (Nat.le_of_ble_eq_true rfl) ⟨Nat.le_of_ble_eq_true rfl, Nat.le_of_ble_eq_true rfl⟩ ⟨Nat.le_of_ble_eq_true rfl, Nat.le_of_ble_eq_true rfl⟩ ?_
                rintro _ _ _ ⟨rfl, rfl, rfl⟩
                refine AW.hp (mh_up h0 m A4 (k := 27) rfl _) ?_
                refine aw_iinc_6 (c0 := 1) dX8_sums_219 (by decide) (by decide) rfl ?_
                refine aw_goto (tgt := 108) dX8_sums_222 (by decide) ?_
                rw [nI_1]
                have dv : dg (A4 25) (cSums (sNw S) (sW S) (i + 1) v) := d4
                refine ihv (v + 1) _ _ (by omega) (fun q hq => ?_) (fun q hq => by rw [va_up_off (by decide), f4 26 (by decide) (by decide)]; exact hr q hq) (fun k k1 k2 k3 k4 => by rw [va_up_off k4, f4 k k1 k2]; exact fr2 k k1 k2 k3 k4)
                rw [va_up_at]
                by_cases hqv : q = v
                · rw [hqv]; exact mD_spl (by decide) dv (by rw [← Nat.pow_mul]; omega)
                · exact mD_congr (hn q (by omega)) (fun p h1 h2 => by rw [spl_out (by omega), f4 27 (by decide) (by decide)])
              | succ j ihw =>
                intro w A4 hw d4 f4
                have hws := hwt w (by omega)
                have hws2 := hI.1.2 w (by omega)
                have hle : sg (fun q => if q ≤ v then cSums (sNw S) (sW S) i (v - q) * sW S q else 0) (w + 1) ≤ cSums (sNw S) (sW S) (i + 1) v := sg_le (by omega)
                rw [sg_s] at hle
                refine aw_iload dX8_sums_126 rfl ?_
                refine aw_aload_n (i := 0) dX8_sums_128 rfl rfl ?_
                refine aw_getfield fX8_181 dX8_sums_129 (by rw [mh_0]; exact B.1) rfl ?_
                refine aw_icmp_ge (tgt := 201) dX8_sums_132 (by decide) (fun c => absurd c (nI_ge (by omega) (by omega))) (fun _ => ?_)
                refine aw_iload dX8_sums_135 rfl ?_
                refine aw_iload dX8_sums_137 rfl ?_
                refine aw_isub dX8_sums_139 ?_
                by_cases hwv : w ≤ v
                · rw [if_pos hwv] at hle
                  rw [pk_sub hwv]
                  refine aw_iconst (v := 0) dX8_sums_140 (by decide +kernel) ?_
                  refine aw_iload_n (i := 3) dX8_sums_141 rfl rfl ?_
                  refine aw_invokestatic kX8_153 dX8_sums_142 (ct_in n (mh h0 m A4) (nI (v - w)) 0 (nI (i * W)) toInt_lit0 (nI_toInt (by omega))) rfl rfl (Nat.le_of_ble_eq_true rfl) ⟨Nat.le_of_ble_eq_true rfl, Nat.le_of_ble_eq_true rfl⟩ ⟨Nat.le_of_ble_eq_true rfl, Nat.le_of_ble_eq_true rfl⟩ ?_
                  rintro _ _ _ ⟨rfl, rfl, rfl⟩
                  by_cases hin : v - w ≤ i * W
                  · have hbc := bnd i (v - w) (by omega)
                    refine aw_if_eq (tgt := 195) dX8_sums_145 (by decide) (fun c => absurd c (bI_ne0.mpr (rg_iff.mpr ⟨by rw [nI_toInt (by omega)]; omega, by rw [nI_toInt (by omega)]; omega⟩))) (fun _ => ?_)
                    refine aw_aload_n (i := 0) dX8_sums_148 rfl rfl ?_
                    refine aw_getfield fX8_75 dX8_sums_149 (by rw [mh_0]; exact B.1) rfl ?_
                    refine aw_aload_n (i := 0) dX8_sums_152 rfl rfl ?_
                    refine aw_getfield fX8_87 dX8_sums_153 (by rw [mh_0]; exact B.1) rfl ?_
                    refine aw_bipush (v := 10) dX8_sums_156 (by decide +kernel) ?_
                    refine aw_iload dX8_sums_158 rfl ?_
                    refine aw_iload dX8_sums_160 rfl ?_
                    refine aw_isub dX8_sums_162 ?_
                    refine aw_imul dX8_sums_163 ?_
                    rw [pk_sub hwv, c10]
                    have hrr := hr (v - w) hin
                    rw [← f4 26 (by decide) (by decide)] at hrr
                    refine aw_bipush (v := 10) dX8_sums_164 (by decide +kernel) ?_
                    refine aw_invokestatic kX8_170 dX8_sums_166 (mc_load n h0 m A4 22 26 (10 * (v - w)) 10 rfl rfl rfl (by decide) (show 10 * (v - w) + 10 ≤ 1210 by omega) (by decide) hrr.1) rfl rfl (Nat.le_of_ble_eq_true rfl) ⟨Nat.le_of_ble_eq_true rfl, Nat.le_of_ble_eq_true rfl⟩ ⟨Nat.le_of_ble_eq_true rfl, Nat.le_of_ble_eq_true rfl⟩ ?_
                    rintro _ _ _ ⟨rfl, rfl, A5, rfl, d5, f5⟩
                    rw [hrr.2] at d5
                    refine aw_aload_n (i := 0) dX8_sums_169 rfl rfl ?_
                    refine aw_getfield fX8_75 dX8_sums_170 (by rw [mh_0]; exact B.1) rfl ?_
                    refine aw_aload_n (i := 0) dX8_sums_173 rfl rfl ?_
                    refine aw_getfield fX8_72 dX8_sums_174 (by rw [mh_0]; exact B.1) rfl ?_
                    refine aw_iload dX8_sums_177 rfl ?_
                    refine aw_iald dX8_sums_179 w (hwC A5) (nI_toInt (by omega)) (by omega) ?_
                    refine aw_i2l dX8_sums_180 rfl ?_
                    rw [hws, nI_l (show sW S w < 2 ^ 31 by omega)]
                    refine aw_invokestatic kX8_184 dX8_sums_181 (mc_by n h0 m A5 22 _ (sW S w) rfl rfl d5 (by omega) (by omega)) rfl rfl (Nat.le_of_ble_eq_true rfl) ⟨Nat.le_of_ble_eq_true rfl, Nat.le_of_ble_eq_true rfl⟩ ⟨Nat.le_of_ble_eq_true rfl, Nat.le_of_ble_eq_true rfl⟩ ?_
                    rintro _ _ _ ⟨rfl, rfl, A6, rfl, d6, f6⟩
                    refine aw_aload_n (i := 0) dX8_sums_184 rfl rfl ?_
                    refine aw_getfield fX8_84 dX8_sums_185 (by rw [mh_0]; exact B.1) rfl ?_
                    refine aw_aload_n (i := 0) dX8_sums_188 rfl rfl ?_
                    refine aw_getfield fX8_75 dX8_sums_189 (by rw [mh_0]; exact B.1) rfl ?_
                    refine aw_invokestatic kX8_191 dX8_sums_192 (mc_plus n h0 m A6 25 22 _ _ rfl rfl rfl rfl (by decide) (by rw [f6 25 (by decide), f5 25 (by decide)]; exact d4) d6 (by omega)) rfl rfl (Nat.le_of_ble_eq_true rfl) ⟨Nat.le_of_ble_eq_true rfl, Nat.le_of_ble_eq_true rfl⟩ ⟨Nat.le_of_ble_eq_true rfl, Nat.le_of_ble_eq_true rfl⟩ ?_
                    rintro _ _ _ ⟨rfl, rfl, A7, rfl, d7, f7⟩
                    refine aw_iinc_7 (c0 := 1) dX8_sums_195 (by decide) (by decide) rfl ?_
                    refine aw_goto (tgt := 126) dX8_sums_198 (by decide) ?_
                    rw [nI_1]
                    exact ihw (w + 1) A7 (by omega) (by rw [sg_s, if_pos hwv]; exact d7) (fun k k1 k2 => by rw [f7 k k2, f6 k k1, f5 k k1]; exact f4 k k1 k2)
                  · refine aw_if_eq (tgt := 195) dX8_sums_145 (by decide) (fun _ => ?_) (fun c => (c (bI_eq0.mpr (by rw [Bool.eq_false_iff]; intro q; have := (rg_iff.mp q).2; rw [nI_toInt (by omega)] at this; omega))).elim)
                    refine aw_iinc_7 (c0 := 1) dX8_sums_195 (by decide) (by decide) rfl ?_
                    refine aw_goto (tgt := 126) dX8_sums_198 (by decide) ?_
                    rw [nI_1]
                    exact ihw (w + 1) A4 (by omega) (by rw [sg_s, if_pos hwv, cS_supp (sW S) hw1 i (v - w) (by rw [← hW]; omega), Nat.zero_mul]; exact d4) f4
                · have hneg : (nI v - nI w).toInt = (v : Int) - w := pk_sub_toInt (by omega) (by omega)
                  refine aw_iconst (v := 0) dX8_sums_140 (by decide +kernel) ?_
                  refine aw_iload_n (i := 3) dX8_sums_141 rfl rfl ?_
                  refine aw_invokestatic kX8_153 dX8_sums_142 (ct_in n (mh h0 m A4) (nI v - nI w) 0 (nI (i * W)) toInt_lit0 (nI_toInt (by omega))) rfl rfl (Nat.le_of_ble_eq_true rfl) ⟨Nat.le_of_ble_eq_true rfl, Nat.le_of_ble_eq_true rfl⟩ ⟨Nat.le_of_ble_eq_true rfl, Nat.le_of_ble_eq_true rfl⟩ ?_
                  rintro _ _ _ ⟨rfl, rfl, rfl⟩
                  refine aw_if_eq (tgt := 195) dX8_sums_145 (by decide) (fun _ => ?_) (fun c => (c (bI_eq0.mpr (by rw [Bool.eq_false_iff]; intro q; have := (rg_iff.mp q).1; rw [hneg] at this; omega))).elim)
                  refine aw_iinc_7 (c0 := 1) dX8_sums_195 (by decide) (by decide) rfl ?_
                  refine aw_goto (tgt := 126) dX8_sums_198 (by decide) ?_
                  rw [nI_1]
                  exact ihw (w + 1) A4 (by omega) (by rw [sg_s, if_neg hwv]; exact d4) f4
            exact wloop (sNw S) 0 A3 (by omega) d3 (fun k k1 k2 => f3 k k2)
        exact vloop ((i + 1) * W + 1) 0 A' y7 (by omega) (fun q hq => by omega) hrow fr
    -- the row is cleared
    have clear : ∀ (j k : Nat) (A' : Nat → Nat → Nat), k + j = 1210 → (∀ q, q < k → A' 26 q = 0) → (∀ i, i ≠ 26 → A' i = A i) → AW mX8_sums (gq 0 0 Q) 57 [some (.ref m), some (.int (nI X)), some (.int (nI (sg (sW S) (sNw S)))), some (.int (nI k)), none, none, none, none] [] 0 0 n (mh h0 m A') := by
      intro j
      induction j with
      | zero =>
        intro k A' hk hz fr
        obtain rfl : k = 1210 := by omega
        refine aw_iload_n (i := 3) dX8_sums_57 rfl rfl ?_
        refine aw_sipush (v := 1210) dX8_sums_58 (by decide +kernel) ?_
        refine aw_icmp_ge (tgt := 77) dX8_sums_61 (by decide) (fun _ => ?_) (fun c => (c (by decide)).elim)
        refine aw_aload_n (i := 0) dX8_sums_77 rfl rfl ?_
        refine aw_getfield fX8_87 dX8_sums_78 (by rw [mh_0]; exact B.1) rfl ?_
        refine aw_iconst (v := 0) dX8_sums_81 (by decide +kernel) ?_
        refine aw_lconst (v := 1) dX8_sums_82 (by decide) ?_
        refine aw_last dX8_sums_83 0 1 lN_1' (mh_at h0 m A' (k := 26) rfl) (by decide +kernel) (show 0 < 1210 by decide) ?_
        refine AW.hp (mh_up h0 m A' (k := 26) rfl _) ?_
        refine aw_iconst (v := 0) dX8_sums_84 (by decide +kernel) ?_
        refine aw_istore_3 dX8_sums_85 (by decide) rfl ?_
        refine aw_iconst (v := 0) dX8_sums_86 (by decide +kernel) ?_
        refine aw_istore_4 dX8_sums_87 (by decide) rfl ?_
        have := rounds X 0 (va_up A' 26 (va_up (A' 26) 0 1)) none none none (by omega) (fun q hq => ?_) (fun k k1 k2 k3 k4 => by rw [va_up_off k3]; exact fr k k3)
        · rw [Nat.zero_mul] at this; exact this
        · obtain rfl : q = 0 := by omega
          rw [va_up_at]
          refine ⟨fun i hi => ?_, ?_⟩
          · by_cases h0' : i = 0
            · rw [h0']; show va_up (A' 26) 0 1 0 < 2 ^ 28; rw [va_up_at]; decide
            · rw [va_up_off (by omega), hz _ (by omega)]; decide
          · rw [bv_high (m := 1) (by decide) (fun i h1 h2 => by rw [va_up_off (by omega), hz _ (by omega)]), bv_s _ _ 0, bv_0]
            rfl
      | succ j ih =>
        intro k A' hk hz fr
        refine aw_iload_n (i := 3) dX8_sums_57 rfl rfl ?_
        refine aw_sipush (v := 1210) dX8_sums_58 (by decide +kernel) ?_
        refine aw_icmp_ge (tgt := 77) dX8_sums_61 (by decide) (fun c => absurd c (nI_ge (b := 1210) (by omega) (by decide))) (fun _ => ?_)
        refine aw_aload_n (i := 0) dX8_sums_64 rfl rfl ?_
        refine aw_getfield fX8_87 dX8_sums_65 (by rw [mh_0]; exact B.1) rfl ?_
        refine aw_iload_n (i := 3) dX8_sums_68 rfl rfl ?_
        refine aw_lconst (v := 0) dX8_sums_69 (by decide) ?_
        refine aw_last dX8_sums_70 k 0 lN_0 (mh_at h0 m A' (k := 26) rfl) (nI_toInt (by omega)) (show k < 1210 by omega) ?_
        refine aw_iinc_3 (c0 := 1) dX8_sums_71 (by decide) (by decide) rfl ?_
        refine aw_goto (tgt := 57) dX8_sums_74 (by decide) ?_
        rw [nI_1]
        refine AW.hp (mh_up h0 m A' (k := 26) rfl _) ?_
        refine ih (k + 1) _ (by omega) (fun q hq => ?_) (fun i hi => by rw [va_up_off hi]; exact fr i hi)
        rw [va_up_at]
        by_cases hqk : q = k
        · rw [hqk, va_up_at]
        · rw [va_up_off hqk]; exact hz q (by omega)
    refine AW.forget [some (.ref m), some (.int (nI X)), some (.int (nI (sg (sW S) (sNw S)))), some (.int (nI 0)), none, none, none, none] ⟨rfl, rfl, rfl, rfl, trivial⟩ ?_
    exact clear 1210 0 A (by omega) (fun q hq => by omega) (fun i _ => rfl)
  have loop : ∀ (j k : Nat), k + j = sNw S → AW mX8_sums (gq 0 0 Q) 4 [some (.ref m), some (.int x), some (.int (nI (sg (sW S) k))), some (.int (nI k)), none, none, none, none] [] 0 0 n (mh h0 m A) := by
    intro j
    induction j with
    | zero =>
      intro k hk
      obtain rfl : k = sNw S := by omega
      refine aw_iload_n (i := 3) dX8_sums_4 rfl rfl ?_
      refine aw_aload_n (i := 0) dX8_sums_5 rfl rfl ?_
      refine aw_getfield fX8_181 dX8_sums_6 (by rw [mh_0]; exact B.1) rfl ?_
      refine aw_icmp_ge (tgt := 27) dX8_sums_9 (by decide) (fun _ => ?_) (fun c => (c (nI_le (Nat.le_refl _) (by omega))).elim)
      exact rest
    | succ j ih =>
      intro k hk
      refine aw_iload_n (i := 3) dX8_sums_4 rfl rfl ?_
      refine aw_aload_n (i := 0) dX8_sums_5 rfl rfl ?_
      refine aw_getfield fX8_181 dX8_sums_6 (by rw [mh_0]; exact B.1) rfl ?_
      refine aw_icmp_ge (tgt := 27) dX8_sums_9 (by decide) (fun c => absurd c (nI_ge (by omega) (by omega))) (fun _ => ?_)
      refine aw_iload_n (i := 2) dX8_sums_12 rfl rfl ?_
      refine aw_aload_n (i := 0) dX8_sums_13 rfl rfl ?_
      refine aw_getfield fX8_72 dX8_sums_14 (by rw [mh_0]; exact B.1) rfl ?_
      refine aw_iload_n (i := 3) dX8_sums_17 rfl rfl ?_
      refine aw_iald dX8_sums_18 k (hwC A) (nI_toInt (by omega)) (by omega) ?_
      refine aw_iadd dX8_sums_19 ?_
      rw [hwt k (by omega), nI_add]
      refine aw_istore_2 dX8_sums_20 (by decide) rfl ?_
      refine aw_iinc_3 (c0 := 1) dX8_sums_21 (by decide) (by decide) rfl ?_
      refine aw_goto (tgt := 4) dX8_sums_24 (by decide) ?_
      rw [nI_1]
      exact ih (k + 1) (by omega)
  exact loop (sNw S) 0 (by omega)
