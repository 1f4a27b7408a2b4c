theorem nI_sb {a b : Nat} (h : a ≤ b) : nI b - nI a = nI (b - a) := by
  have := nI_add (b - a) a
  rw [Nat.sub_add_cancel h] at this
  rw [← this, Int32.add_sub_cancel]
theorem cS_coins (a b : Nat) (sh : Nat → Nat) (h0 : sh 0 = b - a) (h1 : sh 1 = a) : ∀ n, cSums 2 sh n = cC a (b - a) n
  | 0 => by
    funext v
    show (if v = 0 then 1 else 0) = cho 0 v * a ^ v * (b - a) ^ (0 - v)
    cases v with
    | zero => rw [cho_0]; rfl
    | succ v => rw [cho_big (by omega), if_neg (by omega), Nat.zero_mul, Nat.zero_mul]
  | n + 1 => by
    funext v
    show 0 + (if 0 ≤ v then cSums 2 sh n (v - 0) * sh 0 else 0) + (if 1 ≤ v then cSums 2 sh n (v - 1) * sh 1 else 0) = _
    rw [cS_coins a b sh h0 h1 n, h0, h1, if_pos (Nat.zero_le _), Nat.sub_zero, Nat.zero_add]
    cases v with
    | zero => rw [if_neg (by decide), cC_0, Nat.add_zero]
    | succ v => rw [if_pos (by omega), cC_s, Nat.add_sub_cancel]
theorem cS_congr {k : Nat} {w w' : Nat → Nat} (e : ∀ i, i < k → w i = w' i) : ∀ n, cSums k w n = cSums k w' n
  | 0 => rfl
  | n + 1 => by
    funext v
    show sg (fun i => if i ≤ v then cSums k w n (v - i) * w i else 0) k = sg (fun i => if i ≤ v then cSums k w' n (v - i) * w' i else 0) k
    rw [cS_congr e n]
    exact sg_congr (fun i hi => by rw [e i hi])
theorem coins_lt {b n : Nat} (hb : b ≤ 60) (hn : n ≤ 40) : b ^ n < 2 ^ 256 :=
  Nat.lt_of_le_of_lt (Nat.le_trans (Nat.pow_le_pow_left hb n) (Nat.pow_le_pow_right (by decide) hn)) (show (60 : Nat) ^ 40 < 2 ^ 256 by decide +kernel)
theorem ck_coins (h : Hp) (X : Nat) (S : TS) (n a b : Int32) (hR : CRep h X S) (hI : SInv S) : CT mX7_coins 10 1010 (cn X S) h [.ref X, .int n, .int a, .int b] (COK X h (opCoins S n a b)) := by
  obtain ⟨hc, N, rfl, hS⟩ := hR
  refine CT.intro [some (.ref X), some (.int n), some (.int a), some (.int b)] 0 rfl rfl (by decide) ?_
  intro Q hQ
  have eb : sob X (sN S) = X + (158 + 10 * sN S) := rfl
  have bad : (rg n 0 40 && (rg b 1 60 && rg a 0 b.toInt)) = false → AW mX7_coins (gq 10 1010 Q) 18 [some (.ref X), some (.int n), some (.int a), some (.int b)] [] 0 0 (cn X S) (nh hc (LC X (sN S)) N) := by
    intro hb
    refine aw_iconst (v := (-1)) dX7_coins_18 (by decide +kernel) ?_
    refine aw_ireturn dX7_coins_19 rfl rfl (Nat.le_of_ble_eq_true rfl) (Nat.le_of_ble_eq_true rfl) ?_
    exact hQ _ _ _ (cbad hS _ (by unfold opCoins; rw [hb]; rfl))
  refine aw_iload_n (i := 1) dX7_coins_0 rfl rfl ?_
  refine aw_iconst (v := 0) dX7_coins_1 (by decide +kernel) ?_
  refine aw_bipush (v := 40) dX7_coins_2 (by decide +kernel) ?_
  refine aw_invokestatic kX7_88 dX7_coins_4 (ct_out (b := 40) _ (nh hc (LC X (sN S)) N) n 0 40 toInt_lit0 (by decide +kernel)) rfl rfl (Nat.le_of_ble_eq_true rfl) ⟨Nat.le_of_ble_eq_true rfl, Nat.le_of_ble_eq_true rfl⟩ ⟨Nat.le_of_ble_eq_true rfl, Nat.le_of_ble_eq_true rfl⟩ ?_
  rintro _ _ _ ⟨rfl, rfl, rfl⟩
  by_cases h1 : rg n 0 40 = true
  case neg =>
    refine aw_if_ne (tgt := 18) dX7_coins_7 (by decide) (fun _ => ?_) (fun c => ((bn0 h1) c).elim)
    exact bad (by simp [h1])
  refine aw_if_ne (tgt := 18) dX7_coins_7 (by decide) (fun c => absurd c (fun e => e (bn1 h1))) (fun _ => ?_)
  refine aw_iload_n (i := 2) dX7_coins_10 rfl rfl ?_
  refine aw_iload_n (i := 3) dX7_coins_11 rfl rfl ?_
  refine aw_invokestatic kX7_92 dX7_coins_12 (ct_X7_notOdds _ (nh hc (LC X (sN S)) N) a b) rfl rfl (Nat.le_of_ble_eq_true rfl) ⟨Nat.le_of_ble_eq_true rfl, Nat.le_of_ble_eq_true rfl⟩ ⟨Nat.le_of_ble_eq_true rfl, Nat.le_of_ble_eq_true rfl⟩ ?_
  rintro _ _ _ ⟨rfl, rfl, rfl⟩
  by_cases h2 : (rg b 1 60 && rg a 0 b.toInt) = true
  case neg =>
    refine aw_if_eq (tgt := 20) dX7_coins_15 (by decide) (fun c => absurd c (bn0 h2)) (fun _ => ?_)
    exact bad (by rw [h1, Bool.true_and]; exact Bool.eq_false_iff.mpr h2)
  have hop : opCoins S n a b = newS S 0 (tN n) (cCoins (tN n) (tN a) (tN b)) := by unfold opCoins; rw [h1, h2]; rfl
  rw [hop] at hQ
  obtain ⟨h3, h4⟩ := Bool.and_eq_true_iff.mp h2
  obtain ⟨en, -, -, hn⟩ := rg_N h1 (by decide)
  obtain ⟨ebb, ebi, hb1, hb2⟩ := rg_N h3 (by decide)
  obtain ⟨ea, -, -, ha⟩ := rg_N h4 (by decide)
  refine aw_if_eq (tgt := 20) dX7_coins_15 (by decide) (fun _ => ?_) (fun c => (c (bn1 h2)).elim)
  refine aw_aload_n (i := 0) dX7_coins_20 rfl rfl ?_
  refine aw_invokevirtual kX7_96 dX7_coins_21 (hS.X0 N) (hS.isFull hI _ N) rfl rfl (Nat.le_of_ble_eq_true rfl) ⟨Nat.le_of_ble_eq_true rfl, Nat.le_of_ble_eq_true rfl⟩ ⟨Nat.le_of_ble_eq_true rfl, Nat.le_of_ble_eq_true rfl⟩ ?_
  rintro _ _ _ ⟨rfl, rfl, rfl⟩
  unfold newS at hQ
  by_cases hf : sN S = 16
  · rw [if_pos hf] at hQ
    rw [decide_eq_true hf]
    refine aw_if_eq (tgt := 30) dX7_coins_24 (by decide) (fun c => absurd c (by decide)) (fun _ => ?_)
    refine aw_bipush (v := (-3)) dX7_coins_27 (by decide +kernel) ?_
    refine aw_ireturn dX7_coins_29 rfl rfl (Nat.le_of_ble_eq_true rfl) (Nat.le_of_ble_eq_true rfl) ?_
    exact hQ _ _ _ (cbad hS _ rfl)
  rw [if_neg hf] at hQ
  rw [decide_eq_false hf]
  have hk : sN S < 16 := by have := hI.2.1.1; omega
  have hab : tN a ≤ tN b := by omega
  have hb1' : 1 ≤ tN b := by omega
  have hb2' : tN b ≤ 60 := by omega
  have hn' : tN n ≤ 40 := by omega
  generalize tN n = n' at *
  generalize tN a = a' at *
  generalize tN b = b' at *
  subst en ea ebb
  obtain ⟨od, ho4⟩ := hS.2.1.2.2.2.2.1
  have ho4' : nh hc (LC X (sN S)) N (X + 4) = some (iar 2 od) := by rw [nh_X (c := 4) N rfl (Or.inr rfl)]; exact ho4
  refine aw_if_eq (tgt := 30) dX7_coins_24 (by decide) (fun _ => ?_) (fun c => (c rfl).elim)
  refine aw_aload_n (i := 0) dX7_coins_30 rfl rfl ?_
  refine aw_getfield fX7_25 dX7_coins_31 (hS.X0 N) rfl ?_
  refine aw_iconst (v := 0) dX7_coins_34 (by decide +kernel) ?_
  refine aw_iload_n (i := 3) dX7_coins_35 rfl rfl ?_
  refine aw_iload_n (i := 2) dX7_coins_36 rfl rfl ?_
  refine aw_isub dX7_coins_37 ?_
  refine aw_iast dX7_coins_38 0 (b' - a') (nI_sb hab) ho4' (by decide +kernel) (by decide) ?_
  refine AW.hp (upn_X (c := 4) N rfl (Or.inr rfl) _) ?_
  refine aw_aload_n (i := 0) dX7_coins_39 rfl rfl ?_
  refine aw_getfield fX7_25 dX7_coins_40 (X0_k (by rw [hup_ne (by omega)]; exact hS.2.1.1) N) rfl ?_
  refine aw_iconst (v := 1) dX7_coins_43 (by decide +kernel) ?_
  refine aw_iload_n (i := 2) dX7_coins_44 rfl rfl ?_
  refine aw_iast dX7_coins_45 1 a' rfl (by rw [nh_X (c := 4) N rfl (Or.inr rfl)]; exact hup_self _ _ _) (by decide +kernel) (by decide) ?_
  refine AW.hp (upn_X (c := 4) N rfl (Or.inr rfl) _) ?_
  rw [hup_hup]
  have s0 : va_up (va_up od 0 (b' - a')) 1 a' 0 = b' - a' := by rw [va_up_off (by decide), va_up_at]
  have s1 : va_up (va_up od 0 (b' - a')) 1 a' 1 = a' := va_up_at _ _ _
  generalize va_up (va_up od 0 (b' - a')) 1 a' = sh at *
  have hT : sg sh 2 = b' := by rw [sg_s, sg_s, sg_0, s0, s1]; omega
  have hS2 := hS.fr (hc' := hup hc (X + 4) (iar 2 sh)) hS.1 (fun _ _ _ => rfl) (fun y _ hy => hup_ne hy) ⟨sh, hup_self _ _ _⟩
  have htot : sg (cSums 2 sh n') (n' * 1 + 1) = sg sh 2 ^ n' := cS_tot (nw := 2) sh (by decide) n'
  refine aw_aload_n (i := 0) dX7_coins_46 rfl rfl ?_
  refine aw_iconst (v := 0) dX7_coins_47 (by decide +kernel) ?_
  refine aw_aload_n (i := 0) dX7_coins_48 rfl rfl ?_
  refine aw_iload_n (i := 1) dX7_coins_49 rfl rfl ?_
  refine aw_aload_n (i := 0) dX7_coins_50 rfl rfl ?_
  refine aw_getfield fX7_25 dX7_coins_51 (hS2.X0 N) rfl ?_
  refine aw_iconst (v := 2) dX7_coins_54 (by decide +kernel) ?_
  refine aw_invokevirtual kX7_100 dX7_coins_55 (hS2.X0 N) (ct_X7_makeRounds (hup hc (X + 4) (iar 2 sh)) N X n' 4 2 1 S sh hS2 (Or.inr rfl) (hup_self _ _ _) (by decide) (by decide) (fun i hi => by rcases (show i = 0 ∨ i = 1 by omega) with rfl | rfl <;> omega) hn' (by omega) (show 0 < sg sh 2 by omega) (show sg sh 2 ≤ 8000 by omega) (by rw [hT]; exact coins_lt hb2' hn')) rfl rfl (Nat.le_of_ble_eq_true rfl) ⟨Nat.le_of_ble_eq_true rfl, Nat.le_of_ble_eq_true rfl⟩ ⟨Nat.le_of_ble_eq_true rfl, Nat.le_of_ble_eq_true rfl⟩ ?_
  rintro _ _ _ ⟨rfl, rfl, hc3, N3, g, rfl, hS3, hRow, hrok, ho3⟩
  refine aw_invokevirtual kX7_104 dX7_coins_58 (hS3.X0 N3) (ct_X7_keep hc3 N3 X 0 (n' * 1) S (cSums 2 sh n') g hS3 hI hk (by rw [htot]; exact hRow) (by rw [htot]; exact hrok) (by rw [htot, hT]; exact Nat.pow_pos (by omega)) (by rw [htot, hT]; exact coins_lt hb2' hn')) rfl rfl (Nat.le_of_ble_eq_true rfl) ⟨Nat.le_of_ble_eq_true rfl, Nat.le_of_ble_eq_true rfl⟩ ⟨Nat.le_of_ble_eq_true rfl, Nat.le_of_ble_eq_true rfl⟩ ?_
  rintro _ _ h' ⟨rfl, rfl, hR', hF⟩
  refine aw_ireturn dX7_coins_61 rfl rfl (Nat.le_of_ble_eq_true rfl) (Nat.le_of_ble_eq_true rfl) ?_
  have eS : addS S 0 (n' * 1) (cSums 2 sh n') = addS S 0 n' (cCoins n' a' b') := by rw [Nat.mul_one, cCoins_eq, cS_coins a' b' sh s0 s1 n']
  rw [eS] at hR' ⊢
  refine hQ _ _ _ ⟨rfl, rfl, hR', fun y h1 h2 => ?_⟩
  rw [hF y h1 h2]
  exact cfr_nh (fun y h1 h2 => by rw [ho3 _ (by omega) (by omega), hup_ne (by omega)]) y h1 h2
theorem ck_sums (h : Hp) (X : Nat) (S : TS) (n : Int32) (hR : CRep h X S) (hI : SInv S) : CT mX7_sums 10 1010 (cn X S) h [.ref X, .int n] (COK X h (opSums S n)) := by
  obtain ⟨hc, N, rfl, hS⟩ := hR
  refine CT.intro [some (.ref X), some (.int n)] 0 rfl rfl (by decide) ?_
  intro Q hQ
  have eb : sob X (sN S) = X + (158 + 10 * sN S) := rfl
  obtain ⟨wt, o2, o3⟩ := hS.2.1.2.1
  have o2' : nh hc (LC X (sN S)) N (X + 1) = some (iar 8 wt) := by rw [nh_X (c := 1) N rfl (Or.inr rfl)]; exact o2
  have hn8 := hI.1.1
  have hsg : sg wt (sNw S) = sg (sW S) (sNw S) := sg_congr o3
  have hsl := sumW_le hI
  have bad : (rg n 0 12 && !(sg (sW S) (sNw S) == 0)) = false → AW mX7_sums (gq 10 1010 Q) 24 [some (.ref X), some (.int n)] [] 0 0 (cn X S) (nh hc (LC X (sN S)) N) := by
    intro hb
    refine aw_iconst (v := (-1)) dX7_sums_24 (by decide +kernel) ?_
    refine aw_ireturn dX7_sums_25 rfl rfl (Nat.le_of_ble_eq_true rfl) (Nat.le_of_ble_eq_true rfl) ?_
    exact hQ _ _ _ (cbad hS _ (by unfold opSums; rw [hb]; rfl))
  refine aw_iload_n (i := 1) dX7_sums_0 rfl rfl ?_
  refine aw_iconst (v := 0) dX7_sums_1 (by decide +kernel) ?_
  refine aw_bipush (v := 12) dX7_sums_2 (by decide +kernel) ?_
  refine aw_invokestatic kX7_88 dX7_sums_4 (ct_out (b := 12) _ (nh hc (LC X (sN S)) N) n 0 12 toInt_lit0 (by decide +kernel)) rfl rfl (Nat.le_of_ble_eq_true rfl) ⟨Nat.le_of_ble_eq_true rfl, Nat.le_of_ble_eq_true rfl⟩ ⟨Nat.le_of_ble_eq_true rfl, Nat.le_of_ble_eq_true rfl⟩ ?_
  rintro _ _ _ ⟨rfl, rfl, rfl⟩
  by_cases h1 : rg n 0 12 = true
  case neg =>
    refine aw_if_ne (tgt := 24) dX7_sums_7 (by decide) (fun _ => ?_) (fun c => ((bn0 h1) c).elim)
    exact bad (by simp [h1])
  refine aw_if_ne (tgt := 24) dX7_sums_7 (by decide) (fun c => absurd c (fun e => e (bn1 h1))) (fun _ => ?_)
  refine aw_aload_n (i := 0) dX7_sums_10 rfl rfl ?_
  refine aw_getfield fX7_9 dX7_sums_11 (hS.X0 N) rfl ?_
  refine aw_aload_n (i := 0) dX7_sums_14 rfl rfl ?_
  refine aw_getfield fX7_63 dX7_sums_15 (hS.X0 N) rfl ?_
  refine aw_invokestatic kX7_131 dX7_sums_18 (ct_X7_together _ (nh hc (LC X (sN S)) N) (X + 1) 8 (sNw S) wt o2' hn8 (by decide)) rfl rfl (Nat.le_of_ble_eq_true rfl) ⟨Nat.le_of_ble_eq_true rfl, Nat.le_of_ble_eq_true rfl⟩ ⟨Nat.le_of_ble_eq_true rfl, Nat.le_of_ble_eq_true rfl⟩ ?_
  rintro _ _ _ ⟨rfl, rfl, rfl⟩
  rw [hsg]
  by_cases h2 : sg (sW S) (sNw S) = 0
  case pos =>
    rw [h2]
    refine aw_if_ne (tgt := 26) dX7_sums_21 (by decide) (fun c => absurd c (fun e => e rfl)) (fun _ => ?_)
    exact bad (by rw [h2, h1]; rfl)
  have hop : opSums S n = newS S 2 (tN n * (sNw S - 1)) (cSums (sNw S) (sW S) (tN n)) := by unfold opSums; rw [h1, beq_eq_false_iff_ne.mpr h2]; rfl
  rw [hop] at hQ
  obtain ⟨en, -, -, hn⟩ := rg_N h1 (by decide)
  have hn' : tN n ≤ 12 := by omega
  have hlt := sums_lt hI hn'
  generalize tN n = n' at *
  subst en
  refine aw_if_ne (tgt := 26) dX7_sums_21 (by decide) (fun _ => ?_) (fun c => ((nI_ne0 (by omega) (by omega)) c).elim)
  refine aw_aload_n (i := 0) dX7_sums_26 rfl rfl ?_
  refine aw_invokevirtual kX7_96 dX7_sums_27 (hS.X0 N) (hS.isFull hI _ N) rfl rfl (Nat.le_of_ble_eq_true rfl) ⟨Nat.le_of_ble_eq_true rfl, Nat.le_of_ble_eq_true rfl⟩ ⟨Nat.le_of_ble_eq_true rfl, Nat.le_of_ble_eq_true rfl⟩ ?_
  rintro _ _ _ ⟨rfl, rfl, rfl⟩
  unfold newS at hQ
  by_cases hf : sN S = 16
  · rw [if_pos hf] at hQ
    rw [decide_eq_true hf]
    refine aw_if_eq (tgt := 38) dX7_sums_30 (by decide) (fun c => absurd c (by decide)) (fun _ => ?_)
    refine aw_bipush (v := (-3)) dX7_sums_33 (by decide +kernel) ?_
    refine aw_goto (tgt := 56) dX7_sums_35 (by decide) ?_
    refine aw_ireturn dX7_sums_56 rfl rfl (Nat.le_of_ble_eq_true rfl) (Nat.le_of_ble_eq_true rfl) ?_
    exact hQ _ _ _ (cbad hS _ rfl)
  rw [if_neg hf] at hQ
  rw [decide_eq_false hf]
  have hk : sN S < 16 := by have := hI.2.1.1; omega
  obtain ⟨k, hkk⟩ : ∃ k, sNw S = k + 1 := by
    rcases hm : sNw S with _ | k
    · rw [hm] at h2; exact absurd rfl h2
    · exact ⟨k, rfl⟩
  have hw := hI.1.2
  rw [hkk] at hsg hsl h2 hlt hw hn8 o3 hQ
  rw [Nat.add_sub_cancel] at hQ
  have htot : sg (cSums (k + 1) wt n') (n' * k + 1) = sg wt (k + 1) ^ n' := by have := cS_tot (nw := k + 1) wt (by omega) n'; rwa [Nat.add_sub_cancel] at this
  have hnk : n' * k ≤ 120 := Nat.le_trans (Nat.mul_le_mul hn' (show k ≤ 7 by omega)) (by decide)
  refine aw_if_eq (tgt := 38) dX7_sums_30 (by decide) (fun _ => ?_) (fun c => (c rfl).elim)
  refine aw_aload_n (i := 0) dX7_sums_38 rfl rfl ?_
  refine aw_iconst (v := 2) dX7_sums_39 (by decide +kernel) ?_
  refine aw_aload_n (i := 0) dX7_sums_40 rfl rfl ?_
  refine aw_iload_n (i := 1) dX7_sums_41 rfl rfl ?_
  refine aw_aload_n (i := 0) dX7_sums_42 rfl rfl ?_
  refine aw_getfield fX7_9 dX7_sums_43 (hS.X0 N) rfl ?_
  refine aw_aload_n (i := 0) dX7_sums_46 rfl rfl ?_
  refine aw_getfield fX7_63 dX7_sums_47 (hS.X0 N) rfl ?_
  try dsimp only
  rw [hkk]
  refine aw_invokevirtual kX7_100 dX7_sums_50 (hS.X0 N) (ct_X7_makeRounds hc N X n' 1 8 k S wt hS (Or.inl rfl) o2 hn8 (by decide) (fun i hi => by rw [o3 i hi]; exact hw i hi) (by omega) hnk (by omega) (by omega) (by rw [hsg]; exact hlt)) rfl rfl (Nat.le_of_ble_eq_true rfl) ⟨Nat.le_of_ble_eq_true rfl, Nat.le_of_ble_eq_true rfl⟩ ⟨Nat.le_of_ble_eq_true rfl, Nat.le_of_ble_eq_true rfl⟩ ?_
  rintro _ _ _ ⟨rfl, rfl, hc3, N3, g, rfl, hS3, hRow, hrok, ho3⟩
  refine aw_invokevirtual kX7_104 dX7_sums_53 (hS3.X0 N3) (ct_X7_keep hc3 N3 X 2 (n' * k) S (cSums (k + 1) wt n') g hS3 hI hk (by rw [htot]; exact hRow) (by rw [htot]; exact hrok) (by rw [htot, hsg]; exact Nat.pow_pos (by omega)) (by rw [htot, hsg]; exact hlt)) rfl rfl (Nat.le_of_ble_eq_true rfl) ⟨Nat.le_of_ble_eq_true rfl, Nat.le_of_ble_eq_true rfl⟩ ⟨Nat.le_of_ble_eq_true rfl, Nat.le_of_ble_eq_true rfl⟩ ?_
  rintro _ _ h' ⟨rfl, rfl, hR', hF⟩
  refine aw_ireturn dX7_sums_56 rfl rfl (Nat.le_of_ble_eq_true rfl) (Nat.le_of_ble_eq_true rfl) ?_
  have eS : addS S 2 (n' * k) (cSums (k + 1) wt n') = addS S 2 (n' * k) (cSums (k + 1) (sW S) n') := by rw [cS_congr o3 n']
  rw [eS] at hR' ⊢
  refine hQ _ _ _ ⟨rfl, rfl, hR', fun y h1 h2 => ?_⟩
  rw [hF y h1 h2]
  exact cfr_nh (fun y h1 h2 => by rw [ho3 _ (by omega) (by omega)]) y h1 h2
