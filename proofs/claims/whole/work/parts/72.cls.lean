theorem low_eq {u d u2 d2 : Nat} (hd : 0 < d) (hd2 : 0 < d2) (e : u * d2 = u2 * d) : u / Nat.gcd u d = u2 / Nat.gcd u2 d2 ∧ d / Nat.gcd u d = d2 / Nat.gcd u2 d2 := by
  have k : ∀ a b c : Nat, 0 < c → a / Nat.gcd a b = (a * c) / Nat.gcd (a * c) (b * c) ∧ b / Nat.gcd a b = (b * c) / Nat.gcd (a * c) (b * c) := fun a b c hc => by
    rw [Nat.gcd_mul_right, Nat.mul_div_mul_right _ _ hc, Nat.mul_div_mul_right _ _ hc]
    exact ⟨rfl, rfl⟩
  obtain ⟨a1, a2⟩ := k u d d2 hd2
  obtain ⟨b1, b2⟩ := k u2 d2 d hd
  rw [a1, a2, b1, b2, e, Nat.mul_comm d d2]
  exact ⟨rfl, rfl⟩
theorem putP_eq {S : TS} {p u d u2 d2 : Nat} (hd : 0 < d) (hd2 : 0 < d2) (e : u * d2 = u2 * d) : putP S p u d = putP S p u2 d2 := by
  obtain ⟨a, b⟩ := low_eq hd hd2 e
  rw [putP_store, putP_store, a, b]
theorem ck_free (h : Hp) (X : Nat) (S : TS) (p : Int32) (hR : CRep h X S) : CT mX7_free 0 0 (cn X S) h [.ref X, .int p] (COK X h (opFree S p)) := by
  obtain ⟨hc, N, rfl, hS⟩ := hR
  refine CT.intro [some (.ref X), some (.int p), none, none] 2 rfl rfl (by decide) ?_
  intro Q hQ
  have cp := hS.placeAt (cn X S) N p
  refine aw_aload_n (i := 0) dX7_free_0 rfl rfl ?_
  refine aw_iload_n (i := 1) dX7_free_1 rfl rfl ?_
  refine aw_invokevirtual kX7_191 dX7_free_2 (hS.X0 N) cp rfl rfl (Nat.le_of_ble_eq_true rfl) ⟨Nat.le_of_ble_eq_true rfl, Nat.le_of_ble_eq_true rfl⟩ ⟨Nat.le_of_ble_eq_true rfl, Nat.le_of_ble_eq_true rfl⟩ ?_
  rintro _ _ _ ⟨rfl, rfl, rfl⟩
  by_cases h1 : isP p = true
  case neg =>
    rw [if_neg h1]
    refine aw_astore_2N dX7_free_5 (by decide) rfl ?_
    refine aw_aload_nN (i := 2) dX7_free_6 rfl rfl ?_
    refine aw_ifnonnullN dX7_free_7 ?_
    refine aw_iconst (v := (-1)) dX7_free_10 (by decide +kernel) ?_
    refine aw_ireturn dX7_free_11 rfl rfl (Nat.le_of_ble_eq_true rfl) (Nat.le_of_ble_eq_true rfl) ?_
    exact hQ _ _ _ (cbad hS _ (by unfold opFree; rw [if_neg h1]))
  rw [if_pos h1]
  obtain ⟨ep, hp⟩ := isP_N h1
  unfold opFree at hQ
  rw [if_pos h1] at hQ
  generalize tN p = p' at *
  have hP := hS.pl hp
  have fin : ∀ x : Nat, x = (if (sP S p').isSome then 1 else 0) → AW mX7_free (gq 0 0 Q) 24 [some (.ref X), some (.int p), some (.ref (plb X p')), none] [.int (nI x)] 0 0 (cn X S) (nh hc (LC X (sN S)) N) := by
    intro x hx
    refine aw_istore_3 dX7_free_24 (by decide) rfl ?_
    refine aw_aload_n (i := 2) dX7_free_25 rfl rfl ?_
    refine aw_iconst (v := 0) dX7_free_26 (by decide +kernel) ?_
    refine aw_putfield fX7_236 dX7_free_27 (hP.at N) rfl rfl (Nat.le_of_ble_eq_true rfl) ?_
    dsimp only [List.set]
    refine AW.hp (plb_lo hp N hc (fobj (plb X p') 0)) ?_
    refine aw_iload_n (i := 3) dX7_free_30 rfl rfl ?_
    refine aw_ireturn dX7_free_31 rfl rfl (Nat.le_of_ble_eq_true rfl) (Nat.le_of_ble_eq_true rfl) ?_
    refine hQ _ _ _ ⟨rfl, ?_, ⟨_, N, rfl, hS.putx hp none hS.1 (fun u d hh => by cases hh) (fun _ _ _ => rfl)⟩, cfr_nh (fun y h1 h2 => by rw [hup_ne (by unfold plb; omega)])⟩
    rw [hx]
    cases (sP S p').isSome <;> rfl
  refine aw_astore_2 dX7_free_5 (by decide) rfl ?_
  refine aw_aload_n (i := 2) dX7_free_6 rfl rfl ?_
  refine aw_ifnonnull (tgt := 12) dX7_free_7 (by decide) ?_
  refine aw_aload_n (i := 2) dX7_free_12 rfl rfl ?_
  refine aw_getfield fX7_236 dX7_free_13 (hP.at N) rfl ?_
  by_cases hs : (sP S p').isSome = true
  · rw [if_pos hs] at fin
    rw [if_pos hs]
    refine aw_if_eq (tgt := 23) dX7_free_16 (by decide) (fun c => absurd c (by decide)) (fun _ => ?_)
    refine aw_iconst (v := 1) dX7_free_19 (by decide +kernel) ?_
    refine aw_goto (tgt := 24) dX7_free_20 (by decide) ?_
    exact fin 1 rfl
  · rw [if_neg hs] at fin
    rw [if_neg hs]
    refine aw_if_eq (tgt := 23) dX7_free_16 (by decide) (fun _ => ?_) (fun c => (c rfl).elim)
    refine aw_iconst (v := 0) dX7_free_23 (by decide +kernel) ?_
    exact fin 0 rfl
theorem ck_set (h : Hp) (X : Nat) (S : TS) (p a b : Int32) (hR : CRep h X S) : CT mX7_set 0 0 (cn X S) h [.ref X, .int p, .int a, .int b] (COK X h (opSet S p a b)) := by
  obtain ⟨hc, N, rfl, hS⟩ := hR
  refine CT.intro [some (.ref X), some (.int p), some (.int a), some (.int b), none] 1 rfl rfl (by decide) ?_
  intro Q hQ
  have w := LC_W X (sN S)
  have cp := hS.placeAt (cn X S) N p
  have bad : ∀ y4 : Option Value, (isP p && (decide (0 ≤ a.toInt) && decide (1 ≤ b.toInt))) = false → AW mX7_set (gq 0 0 Q) 20 [some (.ref X), some (.int p), some (.int a), some (.int b), y4] [] 0 0 (cn X S) (nh hc (LC X (sN S)) N) := by
    intro y4 hb
    refine aw_iconst (v := (-1)) dX7_set_20 (by decide +kernel) ?_
    refine aw_ireturn dX7_set_21 rfl rfl (Nat.le_of_ble_eq_true rfl) (Nat.le_of_ble_eq_true rfl) ?_
    exact hQ _ _ _ (cbad hS _ (by unfold opSet; rw [hb]; rfl))
  refine aw_aload_n (i := 0) dX7_set_0 rfl rfl ?_
  refine aw_iload_n (i := 1) dX7_set_1 rfl rfl ?_
  refine aw_invokevirtual kX7_191 dX7_set_2 (hS.X0 N) cp rfl rfl (Nat.le_of_ble_eq_true rfl) ⟨Nat.le_of_ble_eq_true rfl, Nat.le_of_ble_eq_true rfl⟩ ⟨Nat.le_of_ble_eq_true rfl, Nat.le_of_ble_eq_true rfl⟩ ?_
  rintro _ _ _ ⟨rfl, rfl, rfl⟩
  by_cases h1 : isP p = true
  case neg =>
    rw [if_neg h1]
    refine aw_astore_4N dX7_set_5 (by decide) rfl ?_
    refine aw_aloadN dX7_set_7 rfl ?_
    refine aw_ifnullN (tgt := 20) dX7_set_9 (by decide) ?_
    exact bad _ (by simp [h1])
  rw [if_pos h1]
  refine aw_astore_4 dX7_set_5 (by decide) rfl ?_
  refine aw_aload dX7_set_7 rfl ?_
  refine aw_ifnull dX7_set_9 ?_
  refine aw_iload_n (i := 2) dX7_set_12 rfl rfl ?_
  by_cases h2 : 0 ≤ a.toInt
  case neg =>
    refine aw_if_lt (tgt := 20) dX7_set_13 (by decide) (fun _ => ?_) (fun c => (c (by rw [Int32.lt_iff_toInt_lt, toInt_lit0]; omega)).elim)
    exact bad _ (by simp [h2])
  refine aw_if_lt (tgt := 20) dX7_set_13 (by decide) (fun c => absurd c (by rw [Int32.lt_iff_toInt_lt, toInt_lit0]; omega)) (fun _ => ?_)
  refine aw_iload_n (i := 3) dX7_set_16 rfl rfl ?_
  by_cases h3 : 1 ≤ b.toInt
  case neg =>
    refine aw_if_gt (tgt := 22) dX7_set_17 (by decide) (fun c => absurd c (by show ¬ (0 : Int32) < b; rw [Int32.lt_iff_toInt_lt, toInt_lit0]; omega)) (fun _ => ?_)
    exact bad _ (by simp [h3])
  obtain ⟨ep, hp⟩ := isP_N h1
  have hop : opSet S p a b = putP S (tN p) (tN a) (tN b) := by unfold opSet; rw [h1]; simp [h2, h3]
  rw [hop] at hQ
  have ba := Int32.toInt_lt a
  have bb := Int32.toInt_lt b
  have eqN : ∀ z : Int32, 0 ≤ z.toInt → z = nI (tN z) ∧ tN z < 2 ^ 31 := fun z hz => by
    have hb := Int32.toInt_lt z
    have e : ((tN z : Nat) : Int) = z.toInt := by unfold tN; omega
    refine ⟨?_, by omega⟩
    apply Int32.toInt_inj.mp
    rw [nI_toInt (by omega)]; omega
  obtain ⟨ea, ha⟩ := eqN a h2
  obtain ⟨eb, hb⟩ := eqN b (by omega)
  have hb0 : 0 < tN b := by unfold tN; omega
  generalize tN a = a' at *
  generalize tN b = b' at *
  generalize tN p = p' at *
  subst ea eb
  have hO := hS.ou
  have l6 : LC X (sN S) (X + 6) = 72 := L72 rfl
  have l8 : LC X (sN S) (X + 8) = 72 := L72 rfl
  refine aw_if_gt (tgt := 22) dX7_set_17 (by decide) (fun _ => ?_) (fun c => (c (by show (0 : Int32) < nI b'; rw [Int32.lt_iff_toInt_lt, toInt_lit0]; omega)).elim)
  refine aw_aload_n (i := 0) dX7_set_22 rfl rfl ?_
  refine aw_getfield fX7_31 dX7_set_23 (hS.X0 N) rfl ?_
  refine aw_iload_n (i := 2) dX7_set_26 rfl rfl ?_
  refine aw_iload_n (i := 3) dX7_set_27 rfl rfl ?_
  refine aw_invokevirtual kX7_195 dX7_set_28 (hO.at N) (ct_X1_put (cn X S) hc (LC X (sN S)) N (X + 5) 0 a' b' w hO hS.1 ha hb) rfl rfl (Nat.le_of_ble_eq_true rfl) ⟨Nat.le_of_ble_eq_true rfl, Nat.le_of_ble_eq_true rfl⟩ ⟨Nat.le_of_ble_eq_true rfl, Nat.le_of_ble_eq_true rfl⟩ ?_
  rintro _ _ _ ⟨rfl, rfl, N1, rfl, d1, d3, f1⟩
  have l6' : LC X (sN S) (X + 5 + 1) = 72 := l6
  have l8' : LC X (sN S) (X + 5 + 3) = 72 := l8
  have hS1 := hS.numK (hS.1.two d1 d3 f1) (fun k hk => f1 k (by omega) (by omega))
  rw [l6'] at d1
  rw [l8'] at d3
  have big : (2 : Nat) ^ 31 < (2 ^ 32) ^ 70 := by decide +kernel
  refine aw_aload_n (i := 0) dX7_set_31 rfl rfl ?_
  refine aw_aload dX7_set_32 rfl ?_
  refine aw_invokevirtual kX7_197 dX7_set_34 (hS1.X0 N1) (ct_X7_settle (cn X S) hc N1 X S p' a' b' hS1 hp d1 d3 hb0 (by omega) (by omega)) rfl rfl (Nat.le_of_ble_eq_true rfl) ⟨Nat.le_of_ble_eq_true rfl, Nat.le_of_ble_eq_true rfl⟩ ⟨Nat.le_of_ble_eq_true rfl, Nat.le_of_ble_eq_true rfl⟩ ?_
  rintro r _ h' ⟨rfl, rfl, hR', hF⟩
  refine aw_ireturn dX7_set_37 rfl rfl (Nat.le_of_ble_eq_true rfl) (Nat.le_of_ble_eq_true rfl) ?_
  refine hQ _ _ _ ⟨?_, rfl, hR', fun y h1 h2 => by rw [hF y h1 h2]; exact cfr_nh (fun _ _ _ => rfl) y h1 h2⟩
  unfold putP cn
  split <;> rfl
theorem putP_N (S : TS) (p u d : Nat) : sN (putP S p u d).2 = sN S := by unfold putP; split <;> rfl
theorem storeP_N (S : TS) (p u d : Nat) : sN (storeP S p u d).2 = sN S := by unfold storeP; split <;> rfl
theorem CS.so {hc : Hp} {N : NC} {X j : Nat} {S : TS} (h : CS hc N X S) (hj : j < sN S) (N' : NC) : nh hc (LC X (sN S)) N' (sob X j + 2) = some (sor (sob X j) (sK S j)) := by
  have l0 := Lo_so (k := sN S) (c := 2) hj (by decide)
  have l1 := Lo_so (k := sN S) (c := 1) hj (by decide)
  have := nh_X (hc := hc) (X := X) (k := sN S) (c := 158 + 10 * j + 2) N' l0 (Or.inr l1)
  rw [show X + (158 + 10 * j + 2) = sob X j + 2 from rfl] at this
  rw [this]; exact (h.2.2.2.1 j hj).1
theorem L_so {X k j c : Nat} (hj : j < k) (hc : c < 10) : LC X k (sob X j + c) = (if c = 3 then 8 else if c = 6 ∨ c = 8 then 9 else 0) := by
  unfold sob; rw [Nat.add_assoc, LC_at]; exact Lo_so hj hc
theorem CS.me {hc : Hp} {N : NC} {X j : Nat} {S : TS} (h : CS hc N X S) (hj : j < sN S) : FR hc (LC X (sN S)) (sob X j + 5) 0 := by
  refine ⟨(h.2.2.2.1 j hj).2.2.1, L_so hj (by decide), ?_, ?_, ?_⟩
  · rw [show sob X j + 5 - 1 = sob X j + 4 from rfl]; exact L_so hj (by decide)
  · rw [show sob X j + 5 + 1 = sob X j + 6 from rfl, L_so hj (by decide)]; decide
  · rw [show sob X j + 5 + 3 = sob X j + 8 from rfl, L_so hj (by decide)]; decide
theorem fit9 {c : Nat × (Nat → Nat)} {v : Nat} (h : num 9 c v) : v < (2 ^ 32) ^ 72 := Nat.lt_of_lt_of_le (raw_lt h.1) (Nat.pow_le_pow_right (by decide) (Nat.le_trans h.1.1 (by decide)))
theorem ck_mean (h : Hp) (X : Nat) (S : TS) (p s : Int32) (hR : CRep h X S) (hI : SInv S) : CT mX7_mean 0 0 (cn X S) h [.ref X, .int p, .int s] (COK X h (opMean S p s)) := by
  obtain ⟨hc, N, rfl, hS⟩ := hR
  refine CT.intro [some (.ref X), some (.int p), some (.int s), none, none] 2 rfl rfl (by decide) ?_
  intro Q hQ
  have w := LC_W X (sN S)
  have cp := hS.placeAt (cn X S) N p
  have cs := hS.sourceAt hI (cn X S) N s
  have bad : ∀ y3 y4 : Option Value, (isP p && isS S s) = false → AW mX7_mean (gq 0 0 Q) 22 [some (.ref X), some (.int p), some (.int s), y3, y4] [] 0 0 (cn X S) (nh hc (LC X (sN S)) N) := by
    intro y3 y4 hb
    refine aw_iconst (v := (-1)) dX7_mean_22 (by decide +kernel) ?_
    refine aw_ireturn dX7_mean_23 rfl rfl (Nat.le_of_ble_eq_true rfl) (Nat.le_of_ble_eq_true rfl) ?_
    exact hQ _ _ _ (cbad hS _ (by unfold opMean; rw [hb]; rfl))
  refine aw_aload_n (i := 0) dX7_mean_0 rfl rfl ?_
  refine aw_iload_n (i := 1) dX7_mean_1 rfl rfl ?_
  refine aw_invokevirtual kX7_191 dX7_mean_2 (hS.X0 N) cp rfl rfl (Nat.le_of_ble_eq_true rfl) ⟨Nat.le_of_ble_eq_true rfl, Nat.le_of_ble_eq_true rfl⟩ ⟨Nat.le_of_ble_eq_true rfl, Nat.le_of_ble_eq_true rfl⟩ ?_
  rintro _ _ _ ⟨rfl, rfl, rfl⟩
  by_cases h1 : isP p = true
  case neg =>
    rw [if_neg h1]
    refine aw_astore_3N dX7_mean_5 (by decide) rfl ?_
    refine aw_aload_n (i := 0) dX7_mean_6 rfl rfl ?_
    refine aw_iload_n (i := 2) dX7_mean_7 rfl rfl ?_
    refine aw_invokevirtual kX7_135 dX7_mean_8 (hS.X0 N) cs rfl rfl (Nat.le_of_ble_eq_true rfl) ⟨Nat.le_of_ble_eq_true rfl, Nat.le_of_ble_eq_true rfl⟩ ⟨Nat.le_of_ble_eq_true rfl, Nat.le_of_ble_eq_true rfl⟩ ?_
    rintro _ _ _ ⟨rfl, rfl, rfl⟩
    by_cases h2 : isS S s = true
    · rw [if_pos h2]
      refine aw_astore_4 dX7_mean_11 (by decide) rfl ?_
      refine aw_aload_nN (i := 3) dX7_mean_13 rfl rfl ?_
      refine aw_ifnullN (tgt := 22) dX7_mean_14 (by decide) ?_
      exact bad _ _ (by simp [h1])
    · rw [if_neg h2]
      refine aw_astore_4N dX7_mean_11 (by decide) rfl ?_
      refine aw_aload_nN (i := 3) dX7_mean_13 rfl rfl ?_
      refine aw_ifnullN (tgt := 22) dX7_mean_14 (by decide) ?_
      exact bad _ _ (by simp [h1])
  rw [if_pos h1]
  refine aw_astore_3 dX7_mean_5 (by decide) rfl ?_
  refine aw_aload_n (i := 0) dX7_mean_6 rfl rfl ?_
  refine aw_iload_n (i := 2) dX7_mean_7 rfl rfl ?_
  refine aw_invokevirtual kX7_135 dX7_mean_8 (hS.X0 N) cs rfl rfl (Nat.le_of_ble_eq_true rfl) ⟨Nat.le_of_ble_eq_true rfl, Nat.le_of_ble_eq_true rfl⟩ ⟨Nat.le_of_ble_eq_true rfl, Nat.le_of_ble_eq_true rfl⟩ ?_
  rintro _ _ _ ⟨rfl, rfl, rfl⟩
  by_cases h2 : isS S s = true
  case neg =>
    rw [if_neg h2]
    refine aw_astore_4N dX7_mean_11 (by decide) rfl ?_
    refine aw_aload_n (i := 3) dX7_mean_13 rfl rfl ?_
    refine aw_ifnull dX7_mean_14 ?_
    refine aw_aloadN dX7_mean_17 rfl ?_
    refine aw_ifnonnullN dX7_mean_19 ?_
    exact bad _ _ (by simp [h2])
  rw [if_pos h2]
  obtain ⟨ep, hp⟩ := isP_N h1
  obtain ⟨es, -, -, hs⟩ := rg_N h2 (by decide)
  have hop : opMean S p s = putP S (tN p) (smean S (tN s)) (stot S (tN s)) := by unfold opMean; rw [h1, h2]; rfl
  rw [hop] at hQ
  have hj : tN s < sN S := by omega
  generalize tN s = j at *
  generalize tN p = p' at *
  have hO := hS.ou
  have hM := hS.me hj
  obtain ⟨-, -, -, n3, n6, n8⟩ := hS.2.2.2.1 j hj
  have l6 : LC X (sN S) (X + 5 + 1) = 72 := L72 (c := 6) rfl
  have l8 : LC X (sN S) (X + 5 + 3) = 72 := L72 (c := 8) rfl
  have m6 : LC X (sN S) (sob X j + 5 + 1) = 9 := L_so (c := 6) hj (by decide)
  have m8 : LC X (sN S) (sob X j + 5 + 3) = 9 := L_so (c := 8) hj (by decide)
  have e : sob X j = X + (158 + 10 * j) := rfl
  refine aw_astore_4 dX7_mean_11 (by decide) rfl ?_
  refine aw_aload_n (i := 3) dX7_mean_13 rfl rfl ?_
  refine aw_ifnull dX7_mean_14 ?_
  refine aw_aload dX7_mean_17 rfl ?_
  refine aw_ifnonnull (tgt := 24) dX7_mean_19 (by decide) ?_
  refine aw_aload_n (i := 0) dX7_mean_24 rfl rfl ?_
  refine aw_getfield fX7_31 dX7_mean_25 (hS.X0 N) rfl ?_
  refine aw_aload dX7_mean_28 rfl ?_
  refine aw_getfield fX7_201 dX7_mean_30 (hS.so hj N) rfl ?_
  refine aw_invokevirtual kX7_204 dX7_mean_33 (hO.at N) (ct_X1_copy (cn X S) hc (LC X (sN S)) N (X + 5) (sob X j + 5) 0 0 _ _ w hO hM hS.1 (by omega) (by omega) (by omega) (by rw [m6]; exact n6) (by rw [m8]; exact n8) (by rw [l6]; exact fit9 n6) (by rw [l8]; exact fit9 n8)) rfl rfl (Nat.le_of_ble_eq_true rfl) ⟨Nat.le_of_ble_eq_true rfl, Nat.le_of_ble_eq_true rfl⟩ ⟨Nat.le_of_ble_eq_true rfl, Nat.le_of_ble_eq_true rfl⟩ ?_
  rintro _ _ _ ⟨rfl, rfl, N1, rfl, d1, d3, f1⟩
  have hS1 := hS.numK (hS.1.two d1 d3 f1) (fun k hk => f1 k (by omega) (by omega))
  rw [l6] at d1
  rw [l8] at d3
  refine aw_aload_n (i := 0) dX7_mean_36 rfl rfl ?_
  refine aw_aload_n (i := 3) dX7_mean_37 rfl rfl ?_
  refine aw_invokevirtual kX7_208 dX7_mean_38 (hS1.X0 N1) (ct_X7_store (cn X S) hc N1 X S p' _ _ hS1 hp d1 d3) rfl rfl (Nat.le_of_ble_eq_true rfl) ⟨Nat.le_of_ble_eq_true rfl, Nat.le_of_ble_eq_true rfl⟩ ⟨Nat.le_of_ble_eq_true rfl, Nat.le_of_ble_eq_true rfl⟩ ?_
  rintro r _ h' ⟨rfl, rfl, hR', hF⟩
  refine aw_ireturn dX7_mean_41 rfl rfl (Nat.le_of_ble_eq_true rfl) (Nat.le_of_ble_eq_true rfl) ?_
  rw [← putP_store] at hR' ⊢
  refine hQ _ _ _ ⟨?_, rfl, hR', fun y h1 h2 => by rw [hF y h1 h2]; exact cfr_nh (fun _ _ _ => rfl) y h1 h2⟩
  unfold cn; rw [putP_N]
