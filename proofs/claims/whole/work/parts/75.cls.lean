theorem nl2_rf (z : Option Nat) : nl2 (some (va_rf z)) = true := by cases z <;> rfl
theorem aw_astore_5G {M : MI} {G : AG} {pc kc ks n : Nat} {h : Hp} {rest : List Value} {a0 a1 a2 a3 a4 a5 : Option Value} {r : List (Option Value)} {z : Option Nat} (hdg : decode M.2.1 pc = .ok (.astore 5, 2)) (hn : 5 < M.2.2.1) (h2 : nl2 a4 = true) (kk : AW M G (pc + 2) (a0 :: a1 :: a2 :: a3 :: a4 :: some (va_rf z) :: r) rest kc ks n h) : AW M G pc (a0 :: a1 :: a2 :: a3 :: a4 :: a5 :: r) (va_rf z :: rest) kc ks n h := by
  cases z with
  | none => exact aw_astore_5N hdg hn h2 kk
  | some x => exact aw_astore_5 hdg hn h2 kk
theorem aw_astore_6G {M : MI} {G : AG} {pc kc ks n : Nat} {h : Hp} {rest : List Value} {a0 a1 a2 a3 a4 a5 a6 : Option Value} {r : List (Option Value)} {z : Option Nat} (hdg : decode M.2.1 pc = .ok (.astore 6, 2)) (hn : 6 < M.2.2.1) (h2 : nl2 a5 = true) (kk : AW M G (pc + 2) (a0 :: a1 :: a2 :: a3 :: a4 :: a5 :: some (va_rf z) :: r) rest kc ks n h) : AW M G pc (a0 :: a1 :: a2 :: a3 :: a4 :: a5 :: a6 :: r) (va_rf z :: rest) kc ks n h := by
  cases z with
  | none => exact aw_astore_6N hdg hn h2 kk
  | some x => exact aw_astore_6 hdg hn h2 kk
theorem aw_astore_7G {M : MI} {G : AG} {pc kc ks n : Nat} {h : Hp} {rest : List Value} {a0 a1 a2 a3 a4 a5 a6 a7 : Option Value} {r : List (Option Value)} {z : Option Nat} (hdg : decode M.2.1 pc = .ok (.astore 7, 2)) (hn : 7 < M.2.2.1) (h2 : nl2 a6 = true) (kk : AW M G (pc + 2) (a0 :: a1 :: a2 :: a3 :: a4 :: a5 :: a6 :: some (va_rf z) :: r) rest kc ks n h) : AW M G pc (a0 :: a1 :: a2 :: a3 :: a4 :: a5 :: a6 :: a7 :: r) (va_rf z :: rest) kc ks n h := by
  cases z with
  | none => exact aw_astore_7N hdg hn h2 kk
  | some x => exact aw_astore_7 hdg hn h2 kk
theorem aw_aloadG {M : MI} {G : AG} {pc kc ks n : Nat} {lv : List (Option Value)} {h : Hp} {rest : List Value} {i : Nat} {z : Option Nat} (hdg : decode M.2.1 pc = .ok (.aload i, 2)) (hl : lv[i]? = some (some (va_rf z))) (k : AW M G (pc + 2) lv (va_rf z :: rest) kc ks n h) : AW M G pc lv rest kc ks n h := by
  cases z with
  | none => exact aw_aloadN hdg hl k
  | some x => exact aw_aload hdg hl k
theorem rf_if {b : Bool} {a : Nat} : (if b = true then Value.ref a else Value.null) = va_rf (if b = true then some a else none) := by cases b <;> rfl
theorem work_lim {l : Nat} {c : Nat × (Nat → Nat)} {z : Nat} (h1 : num l c z) (h2 : l ≤ 32) : z < (2 ^ 32) ^ 32 := Nat.lt_of_lt_of_le (raw_lt h1.1) (Nat.pow_le_pow_right (by decide) (Nat.le_trans h1.1.1 h2))
theorem lim70 : ((2 : Nat) ^ 32) ^ 32 * (2 ^ 32) ^ 32 + (2 ^ 32) ^ 32 * (2 ^ 32) ^ 32 < (2 ^ 32) ^ 70 ∧ ((2 : Nat) ^ 32) ^ 32 < (2 ^ 32) ^ 70 := by decide +kernel
theorem ck_work (h : Hp) (X : Nat) (S : TS) (act p q r : Int32) (hR : CRep h X S) (hI : SInv S) : CT mX7_work 0 0 (cn X S) h [.ref X, .int act, .int p, .int q, .int r] (COK X h (opWork S act p q r)) := by
  obtain ⟨hc, N, rfl, hS⟩ := hR
  refine CT.intro [some (.ref X), some (.int act), some (.int p), some (.int q), some (.int r), none, none, none] 3 rfl rfl (by decide) ?_
  intro Q hQ
  have w := LC_W X (sN S)
  have cp := hS.placeAt (cn X S) N p
  have cq := hS.placeAt (cn X S) N q
  have cr := hS.placeAt (cn X S) N r
  rw [rf_if] at cp cq cr
  have bad : ∀ y5 y6 y7 : Option Value, (rg act 0 3 && (isP p && (isP q && (decide (act.toInt = 3) || isP r)))) = false → AW mX7_work (gq 0 0 Q) 56 [some (.ref X), some (.int act), some (.int p), some (.int q), some (.int r), y5, y6, y7] [] 0 0 (cn X S) (nh hc (LC X (sN S)) N) := by
    intro y5 y6 y7 hb
    refine aw_iconst (v := (-1)) dX7_work_56 (by decide +kernel) ?_
    refine aw_ireturn dX7_work_57 rfl rfl (Nat.le_of_ble_eq_true rfl) (Nat.le_of_ble_eq_true rfl) ?_
    exact hQ _ _ _ (cbad hS _ (by unfold opWork; rw [hb]; rfl))
  have h3i : act = 3 ↔ act.toInt = 3 := by rw [← Int32.toInt_inj, toInt_3]
  -- behind the three places
  have mid : ∀ z7 : Option Nat, z7 = (if act.toInt = 3 then (if isP q = true then some (plb X (tN q)) else none) else (if isP r = true then some (plb X (tN r)) else none)) → AW mX7_work (gq 0 0 Q) 32 [some (.ref X), some (.int act), some (.int p), some (.int q), some (.int r), some (va_rf (if isP p = true then some (plb X (tN p)) else none)), some (va_rf (if isP q = true then some (plb X (tN q)) else none)), some (va_rf z7)] [] 0 0 (cn X S) (nh hc (LC X (sN S)) N) := by
    intro z7 hz7
    refine aw_iload_n (i := 1) dX7_work_32 rfl rfl ?_
    refine aw_iconst (v := 0) dX7_work_33 (by decide +kernel) ?_
    refine aw_iconst (v := 3) dX7_work_34 (by decide +kernel) ?_
    refine aw_invokestatic kX7_88 dX7_work_35 (ct_out _ (nh hc (LC X (sN S)) N) act 0 3 toInt_lit0 toInt_3) rfl rfl (Nat.le_of_ble_eq_true rfl) ⟨Nat.le_of_ble_eq_true rfl, Nat.le_of_ble_eq_true rfl⟩ ⟨Nat.le_of_ble_eq_true rfl, Nat.le_of_ble_eq_true rfl⟩ ?_
    rintro _ _ _ ⟨rfl, rfl, rfl⟩
    by_cases h0 : rg act 0 3 = true
    case neg =>
      refine aw_if_ne (tgt := 56) dX7_work_38 (by decide) (fun _ => ?_) (fun c => ((bn0 h0) c).elim)
      exact bad _ _ _ (by simp [h0])
    by_cases h1 : isP p = true
    case neg =>
      rw [if_neg h1]
      refine aw_if_ne (tgt := 56) dX7_work_38 (by decide) (fun c => absurd c (fun c => c (bn1 h0))) (fun _ => ?_)
      refine aw_aloadN dX7_work_41 rfl ?_
      refine aw_ifnullN (tgt := 56) dX7_work_43 (by decide) ?_
      exact bad _ _ _ (by simp [h1])
    rw [if_pos h1]
    refine aw_if_ne (tgt := 56) dX7_work_38 (by decide) (fun c => absurd c (fun c => c (bn1 h0))) (fun _ => ?_)
    refine aw_aload dX7_work_41 rfl ?_
    refine aw_ifnull dX7_work_43 ?_
    by_cases h2 : isP q = true
    case neg =>
      rw [if_neg h2]
      refine aw_aloadN dX7_work_46 rfl ?_
      refine aw_ifnullN (tgt := 56) dX7_work_48 (by decide) ?_
      exact bad _ _ _ (by simp [h2])
    rw [if_pos h2] at hz7 ⊢
    refine aw_aload dX7_work_46 rfl ?_
    refine aw_ifnull dX7_work_48 ?_
    by_cases h3 : (decide (act.toInt = 3) || isP r) = true
    case neg =>
      have hz : z7 = none := by
        rw [hz7, if_neg (by intro e; exact h3 (by simp [e])), if_neg (by intro e; exact h3 (by simp [e]))]
      rw [hz]
      refine aw_aloadN dX7_work_51 rfl ?_
      refine aw_ifnonnullN dX7_work_53 ?_
      exact bad _ _ _ (by simp [Bool.eq_false_iff.mpr h3])
    obtain ⟨ep, hp⟩ := isP_N h1
    obtain ⟨eq, hq⟩ := isP_N h2
    obtain ⟨ea, -, -, ha⟩ := rg_N h0 (by decide)
    have hop : opWork S act p q r = (match sP S (tN q), (if act.toInt = 3 then some (1, 1) else sP S (tN r)) with
     | some (u, d), some (u2, d2) => putP S (tN p) (wrkA (tN act) u d u2 d2) (wrkB (tN act) u d u2 d2)
     | _, _ => (-2, S)) := by unfold opWork; rw [h0, h1, h2, h3]; rfl
    rw [hop] at hQ
    -- the right one
    obtain ⟨k, hk, hzk, hsr⟩ : ∃ k, k < 16 ∧ z7 = some (plb X k) ∧ (if act.toInt = 3 then k = tN q else k = tN r) := by
      by_cases e3 : act.toInt = 3
      · exact ⟨tN q, hq, by rw [hz7, if_pos e3], by rw [if_pos e3]⟩
      · have h4 : isP r = true := by simpa [e3] using h3
        obtain ⟨er, hr⟩ := isP_N h4
        exact ⟨tN r, hr, by rw [hz7, if_neg e3, if_pos h4], by rw [if_neg e3]⟩
    rw [hzk]
    generalize tN p = p' at *
    generalize hqq : tN q = q' at *
    have hP := hS.pl hp
    have hL := hS.pl hq
    have hK := hS.pl hk
    have none' : (sP S q').isSome = false ∨ (sP S k).isSome = false → AW mX7_work (gq 0 0 Q) 74 [some (.ref X), some (.int act), some (.int p), some (.int q), some (.int r), some (.ref (plb X p')), some (.ref (plb X q')), some (.ref (plb X k))] [] 0 0 (cn X S) (nh hc (LC X (sN S)) N) := by
      intro hn
      refine aw_bipush (v := (-2)) dX7_work_74 (by decide +kernel) ?_
      refine aw_ireturn dX7_work_76 rfl rfl (Nat.le_of_ble_eq_true rfl) (Nat.le_of_ble_eq_true rfl) ?_
      refine hQ _ _ _ (cbad hS _ ?_)
      by_cases e3 : act.toInt = 3
      · rw [if_pos e3] at hsr ⊢
        subst hsr
        have : sP S k = none := by
          cases hh : sP S k with
          | none => rfl
          | some x => rw [hh] at hn; simp at hn
        rw [this]
      · rw [if_neg e3] at hsr ⊢
        rw [← hsr]
        rcases hn with e | e
        · cases hh : sP S q' with
          | none => rfl
          | some x => rw [hh] at e; cases e
        · cases hh : sP S k with
          | none => cases sP S q' <;> rfl
          | some x => rw [hh] at e; cases e
    refine aw_aload dX7_work_51 rfl ?_
    refine aw_ifnonnull (tgt := 58) dX7_work_53 (by decide) ?_
    refine aw_aload dX7_work_58 rfl ?_
    refine aw_getfield fX7_236 dX7_work_60 (hL.at N) rfl ?_
    by_cases s1 : (sP S q').isSome = true
    case neg =>
      rw [if_neg s1]
      refine aw_if_eq (tgt := 74) dX7_work_63 (by decide) (fun _ => ?_) (fun c => (c rfl).elim)
      exact none' (Or.inl (by simpa using s1))
    rw [if_pos s1]
    refine aw_if_eq (tgt := 74) dX7_work_63 (by decide) (fun c => absurd c (by decide)) (fun _ => ?_)
    refine aw_aload dX7_work_66 rfl ?_
    refine aw_getfield fX7_236 dX7_work_68 (hK.at N) rfl ?_
    by_cases s2 : (sP S k).isSome = true
    case neg =>
      rw [if_neg s2]
      refine aw_if_ne (tgt := 77) dX7_work_71 (by decide) (fun c => absurd c (fun c => c rfl)) (fun _ => ?_)
      exact none' (Or.inr (by simpa using s2))
    rw [if_pos s2]
    obtain ⟨u, d, e1⟩ := sP_iss s1
    obtain ⟨u2, d2, e2⟩ := sP_iss s2
    obtain ⟨n1, n2⟩ := (hS.2.2.1 q' hq).2 u d e1
    obtain ⟨n3, n4⟩ := (hS.2.2.1 k hk).2 u2 d2 e2
    obtain ⟨hd0, -, -, -⟩ := hI.2.2.1 q' u d e1
    obtain ⟨hd20, -, -, -⟩ := hI.2.2.1 k u2 d2 e2
    obtain ⟨a1, a3⟩ := L32 (X := X) (k := sN S) hq
    obtain ⟨b1, b3⟩ := L32 (X := X) (k := sN S) hk
    have hO := hS.ou
    have l6 : LC X (sN S) (X + 5 + 1) = 72 := L72 (c := 6) rfl
    have l8 : LC X (sN S) (X + 5 + 3) = 72 := L72 (c := 8) rfl
    have l10 : LC X (sN S) (X + 10) = 72 := L72 rfl
    have eX : plb X q' = X + (46 + 5 * q') := rfl
    have eX2 : plb X k = X + (46 + 5 * k) := rfl
    have m1 := work_lim n1 (Nat.le_refl _)
    have m2 := work_lim n2 (Nat.le_refl _)
    have m3 := work_lim n3 (Nat.le_refl _)
    have m4 := work_lim n4 (Nat.le_refl _)
    have l70 := lim70
    have prod : ∀ a b : Nat, a < (2 ^ 32) ^ 32 → b < (2 ^ 32) ^ 32 → a * b ≤ (2 ^ 32) ^ 32 * (2 ^ 32) ^ 32 := fun a b h1 h2 => Nat.mul_le_mul (Nat.le_of_lt h1) (Nat.le_of_lt h2)
    -- the end
    have fin : ∀ (A B : Nat) (hc1 : Hp) (N1 : NC), CS hc1 N1 X S → hc1 = hc → num 72 (N1 (X + 6)) A → num 72 (N1 (X + 8)) B → 0 < B → A < (2 ^ 32) ^ 70 → B < (2 ^ 32) ^ 70 → opWork S act p q r = putP S p' A B → AW mX7_work (gq 0 0 Q) 160 [some (.ref X), some (.int act), some (.int p), some (.int q), some (.int r), some (.ref (plb X p')), some (.ref (plb X q')), some (.ref (plb X k))] [] 0 0 (cn X S) (nh hc1 (LC X (sN S)) N1) := by
      intro A B hc1 N1 hS1 e0 nA nB hB0 lA lB hopp
      subst e0
      rw [← hop, hopp] at hQ
      refine aw_aload_n (i := 0) dX7_work_160 rfl rfl ?_
      refine aw_aload dX7_work_161 rfl ?_
      refine aw_invokevirtual kX7_197 dX7_work_163 (hS1.X0 N1) (ct_X7_settle (cn X S) hc1 N1 X S p' A B hS1 hp nA nB hB0 lA lB) rfl rfl (Nat.le_of_ble_eq_true rfl) ⟨Nat.le_of_ble_eq_true rfl, Nat.le_of_ble_eq_true rfl⟩ ⟨Nat.le_of_ble_eq_true rfl, Nat.le_of_ble_eq_true rfl⟩ ?_
      rintro rr _ h' ⟨rfl, rfl, hR', hF⟩
      refine aw_ireturn dX7_work_166 rfl rfl (Nat.le_of_ble_eq_true rfl) (Nat.le_of_ble_eq_true rfl) ?_
      refine hQ _ _ _ ⟨?_, rfl, hR', fun y h1 h2 => by rw [hF y h1 h2]; exact cfr_nh (fun _ _ _ => rfl) y h1 h2⟩
      unfold cn; rw [putP_N]
    refine aw_if_ne (tgt := 77) dX7_work_71 (by decide) (fun _ => ?_) (fun c => ((show ¬ nI 1 = 0 by decide +kernel) c).elim)
    refine aw_iload_n (i := 1) dX7_work_77 rfl rfl ?_
    by_cases c0 : act.toInt = 0
    · have t0 : tN act = 0 := by unfold tN; rw [c0]; rfl
      rw [if_neg (by omega)] at hsr
      refine aw_if_ne (tgt := 99) dX7_work_78 (by decide) (fun c => absurd c (fun c => c (Int32.toInt_inj.mp (by rw [c0, toInt_lit0])))) (fun _ => ?_)
      refine aw_aload_n (i := 0) dX7_work_81 rfl rfl ?_
      refine aw_getfield fX7_31 dX7_work_82 (hS.X0 N) rfl ?_
      refine aw_aload dX7_work_85 rfl ?_
      refine aw_aload dX7_work_87 rfl ?_
      refine aw_aload_n (i := 0) dX7_work_89 rfl rfl ?_
      refine aw_getfield fX7_38 dX7_work_90 (hS.X0 N) rfl ?_
      refine aw_invokevirtual kX7_240 dX7_work_93 (hO.at N) (ct_X1_addUp (cn X S) hc (LC X (sN S)) N (X + 5) (plb X q') (plb X k) (X + 10) 0 _ _ u d u2 d2 w hO hL hK hS.1 (by omega) (by omega) l6 l8 l10 (by rw [a1]; exact n1) (by rw [a3]; exact n2) (by rw [b1]; exact n3) (by rw [b3]; exact n4) (by omega)) rfl rfl (Nat.le_of_ble_eq_true rfl) ⟨Nat.le_of_ble_eq_true rfl, Nat.le_of_ble_eq_true rfl⟩ ⟨Nat.le_of_ble_eq_true rfl, Nat.le_of_ble_eq_true rfl⟩ ?_
      rintro _ _ _ ⟨rfl, rfl, N1, rfl, d1, d3, A1, f1⟩
      rw [l6] at d1
      rw [l8] at d3
      refine aw_goto (tgt := 160) dX7_work_96 (by decide) ?_
      have q1 := prod u d2 m1 m4
      have q2 := prod u2 d m3 m2
      have q3 := prod d d2 m2 m4
      refine fin _ _ hc N1 (hS.numK A1 (fun k hk => f1 k (by omega) (by omega) (by omega))) rfl d1 d3 (Nat.mul_pos hd0 hd20) (by omega) (by omega) ?_
      rw [hop, e1, if_neg (by omega), ← hsr, e2, t0]
      rfl
    · refine aw_if_ne (tgt := 99) dX7_work_78 (by decide) (fun _ => ?_) (fun c => ((fun c => c0 (by rw [(c : act = 0), toInt_lit0])) c).elim)
      refine aw_iload_n (i := 1) dX7_work_99 rfl rfl ?_
      refine aw_iconst (v := 1) dX7_work_100 (by decide +kernel) ?_
      by_cases c1 : act.toInt = 1
      · have t0 : tN act = 1 := by unfold tN; rw [c1]; rfl
        rw [if_neg (by omega)] at hsr
        refine aw_icmp_ne (tgt := 118) dX7_work_101 (by decide) (fun c => absurd c (fun c => c (Int32.toInt_inj.mp (by rw [c1, toInt_1])))) (fun _ => ?_)
        refine aw_aload_n (i := 0) dX7_work_104 rfl rfl ?_
        refine aw_getfield fX7_31 dX7_work_105 (hS.X0 N) rfl ?_
        refine aw_aload dX7_work_108 rfl ?_
        refine aw_aload dX7_work_110 rfl ?_
        refine aw_invokevirtual kX7_244 dX7_work_112 (hO.at N) (ct_X1_multiply (cn X S) hc (LC X (sN S)) N (X + 5) (plb X q') (plb X k) 0 _ _ u d u2 d2 w hO hL hK hS.1 (by omega) l6 l8 (by rw [a1]; exact n1) (by rw [a3]; exact n2) (by rw [b1]; exact n3) (by rw [b3]; exact n4) (by omega)) rfl rfl (Nat.le_of_ble_eq_true rfl) ⟨Nat.le_of_ble_eq_true rfl, Nat.le_of_ble_eq_true rfl⟩ ⟨Nat.le_of_ble_eq_true rfl, Nat.le_of_ble_eq_true rfl⟩ ?_
        rintro _ _ _ ⟨rfl, rfl, N1, rfl, d1, d3, f1⟩
        have A1 := hS.1.two d1 d3 f1
        rw [l6] at d1
        rw [l8] at d3
        refine aw_goto (tgt := 160) dX7_work_115 (by decide) ?_
        have q1 := prod u u2 m1 m3
        have q3 := prod d d2 m2 m4
        refine fin _ _ hc N1 (hS.numK A1 (fun k hk => f1 k (by omega) (by omega))) rfl d1 d3 (Nat.mul_pos hd0 hd20) (by omega) (by omega) ?_
        rw [hop, e1, if_neg (by omega), ← hsr, e2, t0]
        rfl
      · refine aw_icmp_ne (tgt := 118) dX7_work_101 (by decide) (fun _ => ?_) (fun c => ((fun c => c1 (by rw [c, toInt_1])) c).elim)
        refine aw_iload_n (i := 1) dX7_work_118 rfl rfl ?_
        refine aw_iconst (v := 2) dX7_work_119 (by decide +kernel) ?_
        by_cases c2 : act.toInt = 2
        · have t0 : tN act = 2 := by unfold tN; rw [c2]; rfl
          rw [if_neg (by omega)] at hsr
          have hopp : opWork S act p q r = putP S p' (if u * d2 < u2 * d then u else u2) (if u * d2 < u2 * d then d else d2) := by
            rw [hop, e1, if_neg (by omega), ← hsr, e2, t0]
            rfl
          refine aw_icmp_ne (tgt := 151) dX7_work_120 (by decide) (fun c => absurd c (fun c => c (Int32.toInt_inj.mp (by rw [c2, toInt_2])))) (fun _ => ?_)
          refine aw_aload_n (i := 0) dX7_work_123 rfl rfl ?_
          refine aw_getfield fX7_31 dX7_work_124 (hS.X0 N) rfl ?_
          refine aw_aload_n (i := 0) dX7_work_127 rfl rfl ?_
          refine aw_aload dX7_work_128 rfl ?_
          refine aw_aload dX7_work_130 rfl ?_
          refine aw_invokevirtual kX7_248 dX7_work_132 (hS.X0 N) (ct_X7_compare (cn X S) hc N X S q' k u d u2 d2 hS hq hk n1 n2 n3 n4) rfl rfl (Nat.le_of_ble_eq_true rfl) ⟨Nat.le_of_ble_eq_true rfl, Nat.le_of_ble_eq_true rfl⟩ ⟨Nat.le_of_ble_eq_true rfl, Nat.le_of_ble_eq_true rfl⟩ ?_
          rintro _ _ _ ⟨rfl, rfl, N1, rfl, A1, f1⟩
          have hS1 : CS hc N1 X S := hS.numK A1 (fun k hk => f1 k (by omega) (by omega))
          by_cases hle : u * d2 ≤ u2 * d
          · refine aw_if_gt (tgt := 143) dX7_work_135 (by decide) (fun c => absurd c (fun c => by have := cmp_gt0.mp c; omega)) (fun _ => ?_)
            refine aw_aload dX7_work_138 rfl ?_
            refine aw_goto (tgt := 145) dX7_work_140 (by decide) ?_
            refine aw_invokevirtual kX7_204 dX7_work_145 (hO.at N1) (ct_X1_copy (cn X S) hc (LC X (sN S)) N1 (X + 5) (plb X q') 0 _ u d w hO hL A1 (by omega) (by omega) (by omega) (by rw [a1, f1 _ (by omega) (by omega)]; exact n1) (by rw [a3, f1 _ (by omega) (by omega)]; exact n2) (by rw [l6]; exact Nat.lt_of_lt_of_le m1 (Nat.pow_le_pow_right (by decide) (by decide))) (by rw [l8]; exact Nat.lt_of_lt_of_le m2 (Nat.pow_le_pow_right (by decide) (by decide)))) rfl rfl (Nat.le_of_ble_eq_true rfl) ⟨Nat.le_of_ble_eq_true rfl, Nat.le_of_ble_eq_true rfl⟩ ⟨Nat.le_of_ble_eq_true rfl, Nat.le_of_ble_eq_true rfl⟩ ?_
            rintro _ _ _ ⟨rfl, rfl, N2, rfl, d1, d3, f2⟩
            have A2 := A1.two d1 d3 f2
            rw [l6] at d1
            rw [l8] at d3
            refine aw_goto (tgt := 160) dX7_work_148 (by decide) ?_
            refine fin u d hc N2 (hS1.numK A2 (fun k hk => f2 k (by omega) (by omega))) rfl d1 d3 hd0 (by omega) (by omega) ?_
            rw [hopp]
            by_cases hlt : u * d2 < u2 * d
            · rw [if_pos hlt, if_pos hlt]
            · rw [if_neg hlt, if_neg hlt]
              exact putP_eq hd20 hd0 (by omega)
          · refine aw_if_gt (tgt := 143) dX7_work_135 (by decide) (fun _ => ?_) (fun c => (c (cmp_gt0.mpr (by omega))).elim)
            refine aw_aload dX7_work_143 rfl ?_
            refine aw_invokevirtual kX7_204 dX7_work_145 (hO.at N1) (ct_X1_copy (cn X S) hc (LC X (sN S)) N1 (X + 5) (plb X k) 0 _ u2 d2 w hO hK A1 (by omega) (by omega) (by omega) (by rw [b1, f1 _ (by omega) (by omega)]; exact n3) (by rw [b3, f1 _ (by omega) (by omega)]; exact n4) (by rw [l6]; exact Nat.lt_of_lt_of_le m3 (Nat.pow_le_pow_right (by decide) (by decide))) (by rw [l8]; exact Nat.lt_of_lt_of_le m4 (Nat.pow_le_pow_right (by decide) (by decide)))) rfl rfl (Nat.le_of_ble_eq_true rfl) ⟨Nat.le_of_ble_eq_true rfl, Nat.le_of_ble_eq_true rfl⟩ ⟨Nat.le_of_ble_eq_true rfl, Nat.le_of_ble_eq_true rfl⟩ ?_
            rintro _ _ _ ⟨rfl, rfl, N2, rfl, d1, d3, f2⟩
            have A2 := A1.two d1 d3 f2
            rw [l6] at d1
            rw [l8] at d3
            refine aw_goto (tgt := 160) dX7_work_148 (by decide) ?_
            refine fin u2 d2 hc N2 (hS1.numK A2 (fun k hk => f2 k (by omega) (by omega))) rfl d1 d3 hd20 (by omega) (by omega) ?_
            rw [hopp, if_neg (by omega), if_neg (by omega)]
        · have c3 : act.toInt = 3 := by have hai := rg_iff.mp h0; omega
          have t0 : tN act = 3 := by unfold tN; rw [c3]; rfl
          refine aw_icmp_ne (tgt := 151) dX7_work_120 (by decide) (fun _ => ?_) (fun c => ((fun c => c2 (by rw [c, toInt_2])) c).elim)
          refine aw_aload_n (i := 0) dX7_work_151 rfl rfl ?_
          refine aw_getfield fX7_31 dX7_work_152 (hS.X0 N) rfl ?_
          refine aw_aload dX7_work_155 rfl ?_
          refine aw_invokevirtual kX7_252 dX7_work_157 (hO.at N) (ct_X1_lessThanOne (cn X S) hc (LC X (sN S)) N (X + 5) (plb X q') 0 _ u d w hO hL hS.1 (by omega) (by rw [a1]; exact n1) (by rw [a3]; exact n2) (by rw [l8]; exact Nat.lt_of_lt_of_le m2 (Nat.pow_le_pow_right (by decide) (by decide))) (by rw [l6]; exact Nat.lt_of_lt_of_le m2 (Nat.pow_le_pow_right (by decide) (by decide)))) rfl rfl (Nat.le_of_ble_eq_true rfl) ⟨Nat.le_of_ble_eq_true rfl, Nat.le_of_ble_eq_true rfl⟩ ⟨Nat.le_of_ble_eq_true rfl, Nat.le_of_ble_eq_true rfl⟩ ?_
          rintro _ _ _ ⟨rfl, rfl, N1, rfl, d1, d3, f1⟩
          have A1 := hS.1.two d1 d3 f1
          rw [l6] at d1
          rw [l8] at d3
          refine fin _ _ hc N1 (hS.numK A1 (fun k hk => f1 k (by omega) (by omega))) rfl d1 d3 hd0 (by split <;> omega) (by omega) ?_
          rw [hop, e1, if_pos c3, t0]
          rfl
  refine aw_aload_n (i := 0) dX7_work_0 rfl rfl ?_
  refine aw_iload_n (i := 2) dX7_work_1 rfl rfl ?_
  refine aw_invokevirtual kX7_191 dX7_work_2 (hS.X0 N) cp rfl rfl (Nat.le_of_ble_eq_true rfl) ⟨Nat.le_of_ble_eq_true rfl, Nat.le_of_ble_eq_true rfl⟩ ⟨Nat.le_of_ble_eq_true rfl, Nat.le_of_ble_eq_true rfl⟩ ?_
  rintro _ _ _ ⟨rfl, rfl, rfl⟩
  refine aw_astore_5G dX7_work_5 (by decide) rfl ?_
  refine aw_aload_n (i := 0) dX7_work_7 rfl rfl ?_
  refine aw_iload_n (i := 3) dX7_work_8 rfl rfl ?_
  refine aw_invokevirtual kX7_191 dX7_work_9 (hS.X0 N) cq rfl rfl (Nat.le_of_ble_eq_true rfl) ⟨Nat.le_of_ble_eq_true rfl, Nat.le_of_ble_eq_true rfl⟩ ⟨Nat.le_of_ble_eq_true rfl, Nat.le_of_ble_eq_true rfl⟩ ?_
  rintro _ _ _ ⟨rfl, rfl, rfl⟩
  refine aw_astore_6G dX7_work_12 (by decide) (nl2_rf _) ?_
  refine aw_iload_n (i := 1) dX7_work_14 rfl rfl ?_
  refine aw_iconst (v := 3) dX7_work_15 (by decide +kernel) ?_
  by_cases c3 : act.toInt = 3
  · refine aw_icmp_ne (tgt := 24) dX7_work_16 (by decide) (fun c => absurd c (fun c => c (h3i.mpr c3))) (fun _ => ?_)
    refine aw_aloadG dX7_work_19 rfl ?_
    refine aw_goto (tgt := 30) dX7_work_21 (by decide) ?_
    refine aw_astore_7G dX7_work_30 (by decide) (nl2_rf _) ?_
    exact mid _ (by rw [if_pos c3])
  · refine aw_icmp_ne (tgt := 24) dX7_work_16 (by decide) (fun _ => ?_) (fun c => ((fun c => c3 (h3i.mp c)) c).elim)
    refine aw_aload_n (i := 0) dX7_work_24 rfl rfl ?_
    refine aw_iload dX7_work_25 rfl ?_
    refine aw_invokevirtual kX7_191 dX7_work_27 (hS.X0 N) cr rfl rfl (Nat.le_of_ble_eq_true rfl) ⟨Nat.le_of_ble_eq_true rfl, Nat.le_of_ble_eq_true rfl⟩ ⟨Nat.le_of_ble_eq_true rfl, Nat.le_of_ble_eq_true rfl⟩ ?_
    rintro _ _ _ ⟨rfl, rfl, rfl⟩
    refine aw_astore_7G dX7_work_30 (by decide) (nl2_rf _) ?_
    exact mid _ (by rw [if_neg c3])
