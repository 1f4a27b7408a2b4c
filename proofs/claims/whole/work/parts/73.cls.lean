theorem ct_X7_compare (n : Nat) (hc : Hp) (N : NC) (X : Nat) (S : TS) (p q u d u2 d2 : Nat) (h : CS hc N X S) (hp : p < 16) (hq : q < 16) (n1 : num 32 (N (plb X p + 1)) u) (n2 : num 32 (N (plb X p + 3)) d) (n3 : num 32 (N (plb X q + 1)) u2) (n4 : num 32 (N (plb X q + 3)) d2) : CT mX7_compare 0 0 n (nh hc (LC X (sN S)) N) [.ref X, .ref (plb X p), .ref (plb X q)] (fun r n' h' => n = n' ∧ r = some (.int (cmpI (u * d2) (u2 * d))) ∧ ∃ N', h' = nh hc (LC X (sN S)) N' ∧ NA (LC X (sN S)) N' ∧ ∀ k, k ≠ X + 6 → k ≠ X + 8 → N' k = N k) := by
  refine CT.intro [some (.ref X), some (.ref (plb X p)), some (.ref (plb X q))] 0 rfl rfl (by decide) ?_
  intro Q hQ
  have w := LC_W X (sN S)
  have hO := h.ou
  have hP := h.pl hp
  have hQ' := h.pl hq
  have l6 : LC X (sN S) (X + 6) = 72 := L72 rfl
  have l8 : LC X (sN S) (X + 8) = 72 := L72 rfl
  have k6 : LC X (sN S) (X + 6) ≠ 0 := by rw [l6]; decide
  have k8 : LC X (sN S) (X + 8) ≠ 0 := by rw [l8]; decide
  obtain ⟨a1, a3⟩ := L32 (X := X) (k := sN S) hp
  obtain ⟨b1, b3⟩ := L32 (X := X) (k := sN S) hq
  obtain ⟨z6, m6⟩ := h.1 _ k6
  obtain ⟨z8, m8⟩ := h.1 _ k8
  have s1 := n1.1.1
  have s2 := n2.1.1
  have s3 := n3.1.1
  have s4 := n4.1.1
  have e1 : plb X p = X + (46 + 5 * p) := rfl
  have e2 : plb X q = X + (46 + 5 * q) := rfl
  refine aw_aload_n (i := 0) dX7_compare_0 rfl rfl ?_
  refine aw_getfield fX7_31 dX7_compare_1 (h.X0 _) rfl ?_
  refine aw_getfield fX7_108 dX7_compare_4 (hO.at _) rfl ?_
  refine aw_aload_n (i := 1) dX7_compare_7 rfl rfl ?_
  refine aw_getfield fX7_108 dX7_compare_8 (hP.at _) rfl ?_
  refine aw_aload_n (i := 2) dX7_compare_11 rfl rfl ?_
  refine aw_getfield fX7_273 dX7_compare_12 (hQ'.at _) rfl ?_
  refine aw_invokevirtual kX7_149 dX7_compare_15 (nh_o hc N k6) (ct_X3_product n hc (LC X (sN S)) N (X + 6) (plb X p + 1) (plb X q + 3) u d2 z6 w k6 (by rw [a1]; decide) (by rw [b3]; decide) (by omega) (by omega) m6 (by rw [a1]; exact n1) (by rw [b3]; exact n4) (by rw [l6]; omega)) rfl rfl (Nat.le_of_ble_eq_true rfl) ⟨Nat.le_of_ble_eq_true rfl, Nat.le_of_ble_eq_true rfl⟩ ⟨Nat.le_of_ble_eq_true rfl, Nat.le_of_ble_eq_true rfl⟩ ?_
  rintro _ _ _ ⟨rfl, rfl, N1, rfl, d1, f1⟩
  have g1 : N1 (plb X q + 1) = N (plb X q + 1) := f1 _ (by omega)
  have g2 : N1 (plb X p + 3) = N (plb X p + 3) := f1 _ (by omega)
  refine aw_aload_n (i := 0) dX7_compare_18 rfl rfl ?_
  refine aw_getfield fX7_31 dX7_compare_19 (h.X0 _) rfl ?_
  refine aw_getfield fX7_273 dX7_compare_22 (hO.at _) rfl ?_
  refine aw_aload_n (i := 2) dX7_compare_25 rfl rfl ?_
  refine aw_getfield fX7_108 dX7_compare_26 (hQ'.at _) rfl ?_
  refine aw_aload_n (i := 1) dX7_compare_29 rfl rfl ?_
  refine aw_getfield fX7_273 dX7_compare_30 (hP.at _) rfl ?_
  refine aw_invokevirtual kX7_149 dX7_compare_33 (nh_o hc N1 k8) (ct_X3_product n hc (LC X (sN S)) N1 (X + 8) (plb X q + 1) (plb X p + 3) u2 d z8 w k8 (by rw [b1]; decide) (by rw [a3]; decide) (by omega) (by omega) (by rw [f1 _ (by omega)]; exact m8) (by rw [b1, g1]; exact n3) (by rw [a3, g2]; exact n2) (by rw [l8, g1, g2]; omega)) rfl rfl (Nat.le_of_ble_eq_true rfl) ⟨Nat.le_of_ble_eq_true rfl, Nat.le_of_ble_eq_true rfl⟩ ⟨Nat.le_of_ble_eq_true rfl, Nat.le_of_ble_eq_true rfl⟩ ?_
  rintro _ _ _ ⟨rfl, rfl, N2, rfl, d2', f2⟩
  have d1' : num (LC X (sN S) (X + 6)) (N2 (X + 6)) (u * d2) := by rw [f2 _ (by omega)]; exact d1
  refine aw_aload_n (i := 0) dX7_compare_36 rfl rfl ?_
  refine aw_getfield fX7_31 dX7_compare_37 (h.X0 _) rfl ?_
  refine aw_getfield fX7_108 dX7_compare_40 (hO.at _) rfl ?_
  refine aw_aload_n (i := 0) dX7_compare_43 rfl rfl ?_
  refine aw_getfield fX7_31 dX7_compare_44 (h.X0 _) rfl ?_
  refine aw_getfield fX7_273 dX7_compare_47 (hO.at _) rfl ?_
  refine aw_invokevirtual kX7_331 dX7_compare_50 (nh_o hc N2 k6) (ct_X3_against n hc (LC X (sN S)) N2 (X + 6) (X + 8) _ _ w k6 k8 d1' d2') rfl rfl (Nat.le_of_ble_eq_true rfl) ⟨Nat.le_of_ble_eq_true rfl, Nat.le_of_ble_eq_true rfl⟩ ⟨Nat.le_of_ble_eq_true rfl, Nat.le_of_ble_eq_true rfl⟩ ?_
  rintro _ _ _ ⟨rfl, rfl, rfl⟩
  refine aw_ireturn dX7_compare_53 rfl rfl (Nat.le_of_ble_eq_true rfl) (Nat.le_of_ble_eq_true rfl) ?_
  have fr : ∀ k, k ≠ X + 6 → k ≠ X + 8 → N2 k = N k := fun k k1 k2 => by rw [f2 k k2, f1 k k1]
  exact hQ _ _ _ ⟨rfl, rfl, N2, rfl, h.1.two d1' d2' fr, fr⟩
theorem sP_iss {o : Option (Nat × Nat)} (h : o.isSome = true) : ∃ u d, o = some (u, d) := by
  cases o with
  | none => cases h
  | some x => exact ⟨x.1, x.2, rfl⟩
theorem ck_order (h : Hp) (X : Nat) (S : TS) (p q : Int32) (hR : CRep h X S) : CT mX7_order 0 0 (cn X S) h [.ref X, .int p, .int q] (COK X h (opOrder S p q)) := by
  obtain ⟨hc, N, rfl, hS⟩ := hR
  refine CT.intro [some (.ref X), some (.int p), some (.int q), none, none] 2 rfl rfl (by decide) ?_
  intro Q hQ
  have cp := hS.placeAt (cn X S) N p
  have cq := hS.placeAt (cn X S) N q
  have bad : ∀ y3 y4 : Option Value, (isP p && isP q) = false → AW mX7_order (gq 0 0 Q) 22 [some (.ref X), some (.int p), some (.int q), y3, y4] [] 0 0 (cn X S) (nh hc (LC X (sN S)) N) := by
    intro y3 y4 hb
    refine aw_iconst (v := (-1)) dX7_order_22 (by decide +kernel) ?_
    refine aw_ireturn dX7_order_23 rfl rfl (Nat.le_of_ble_eq_true rfl) (Nat.le_of_ble_eq_true rfl) ?_
    exact hQ _ _ _ (cbad hS _ (by unfold opOrder; rw [hb]; rfl))
  refine aw_aload_n (i := 0) dX7_order_0 rfl rfl ?_
  refine aw_iload_n (i := 1) dX7_order_1 rfl rfl ?_
  refine aw_invokevirtual kX7_191 dX7_order_2 (hS.X0 N) cp rfl rfl (Nat.le_of_ble_eq_true rfl) ⟨Nat.le_of_ble_eq_true rfl, Nat.le_of_ble_eq_true rfl⟩ ⟨Nat.le_of_ble_eq_true rfl, Nat.le_of_ble_eq_true rfl⟩ ?_
  rintro _ _ _ ⟨rfl, rfl, rfl⟩
  by_cases h1 : isP p = true
  case neg =>
    rw [if_neg h1]
    refine aw_astore_3N dX7_order_5 (by decide) rfl ?_
    refine aw_aload_n (i := 0) dX7_order_6 rfl rfl ?_
    refine aw_iload_n (i := 2) dX7_order_7 rfl rfl ?_
    refine aw_invokevirtual kX7_191 dX7_order_8 (hS.X0 N) cq rfl rfl (Nat.le_of_ble_eq_true rfl) ⟨Nat.le_of_ble_eq_true rfl, Nat.le_of_ble_eq_true rfl⟩ ⟨Nat.le_of_ble_eq_true rfl, Nat.le_of_ble_eq_true rfl⟩ ?_
    rintro _ _ _ ⟨rfl, rfl, rfl⟩
    by_cases h2 : isP q = true
    · rw [if_pos h2]
      refine aw_astore_4 dX7_order_11 (by decide) rfl ?_
      refine aw_aload_nN (i := 3) dX7_order_13 rfl rfl ?_
      refine aw_ifnullN (tgt := 22) dX7_order_14 (by decide) ?_
      exact bad _ _ (by simp [h1])
    · rw [if_neg h2]
      refine aw_astore_4N dX7_order_11 (by decide) rfl ?_
      refine aw_aload_nN (i := 3) dX7_order_13 rfl rfl ?_
      refine aw_ifnullN (tgt := 22) dX7_order_14 (by decide) ?_
      exact bad _ _ (by simp [h1])
  rw [if_pos h1]
  refine aw_astore_3 dX7_order_5 (by decide) rfl ?_
  refine aw_aload_n (i := 0) dX7_order_6 rfl rfl ?_
  refine aw_iload_n (i := 2) dX7_order_7 rfl rfl ?_
  refine aw_invokevirtual kX7_191 dX7_order_8 (hS.X0 N) cq rfl rfl (Nat.le_of_ble_eq_true rfl) ⟨Nat.le_of_ble_eq_true rfl, Nat.le_of_ble_eq_true rfl⟩ ⟨Nat.le_of_ble_eq_true rfl, Nat.le_of_ble_eq_true rfl⟩ ?_
  rintro _ _ _ ⟨rfl, rfl, rfl⟩
  by_cases h2 : isP q = true
  case neg =>
    rw [if_neg h2]
    refine aw_astore_4N dX7_order_11 (by decide) rfl ?_
    refine aw_aload_n (i := 3) dX7_order_13 rfl rfl ?_
    refine aw_ifnull dX7_order_14 ?_
    refine aw_aloadN dX7_order_17 rfl ?_
    refine aw_ifnonnullN dX7_order_19 ?_
    exact bad _ _ (by simp [h2])
  rw [if_pos h2]
  obtain ⟨ep, hp⟩ := isP_N h1
  obtain ⟨eq, hq⟩ := isP_N h2
  have hop : opOrder S p q = (match sP S (tN p), sP S (tN q) with
    | some (u, d), some (u2, d2) => (cmpI (u * d2) (u2 * d) + 1, S)
    | _, _ => (-2, S)) := by unfold opOrder; rw [h1, h2]; rfl
  rw [hop] at hQ
  generalize tN p = p' at *
  generalize tN q = q' at *
  have hP := hS.pl hp
  have hP2 := hS.pl hq
  have none' : (sP S p').isSome = false ∨ (sP S q').isSome = false → AW mX7_order (gq 0 0 Q) 39 [some (.ref X), some (.int p), some (.int q), some (.ref (plb X p')), some (.ref (plb X q'))] [] 0 0 (cn X S) (nh hc (LC X (sN S)) N) := by
    intro hn
    refine aw_bipush (v := (-2)) dX7_order_39 (by decide +kernel) ?_
    refine aw_ireturn dX7_order_41 rfl rfl (Nat.le_of_ble_eq_true rfl) (Nat.le_of_ble_eq_true rfl) ?_
    refine hQ _ _ _ (cbad hS _ ?_)
    rcases hn with e | e
    · cases hh : sP S p' with
      | none => rfl
      | some x => rw [hh] at e; cases e
    · cases hh : sP S q' with
      | none => cases sP S p' <;> rfl
      | some x => rw [hh] at e; cases e
  refine aw_astore_4 dX7_order_11 (by decide) rfl ?_
  refine aw_aload_n (i := 3) dX7_order_13 rfl rfl ?_
  refine aw_ifnull dX7_order_14 ?_
  refine aw_aload dX7_order_17 rfl ?_
  refine aw_ifnonnull (tgt := 24) dX7_order_19 (by decide) ?_
  refine aw_aload_n (i := 3) dX7_order_24 rfl rfl ?_
  refine aw_getfield fX7_236 dX7_order_25 (hP.at N) rfl ?_
  by_cases s1 : (sP S p').isSome = true
  case neg =>
    rw [if_neg s1]
    refine aw_if_eq (tgt := 39) dX7_order_28 (by decide) (fun _ => ?_) (fun c => (c rfl).elim)
    exact none' (Or.inl (by simpa using s1))
  rw [if_pos s1]
  refine aw_if_eq (tgt := 39) dX7_order_28 (by decide) (fun c => absurd c (by decide)) (fun _ => ?_)
  refine aw_aload dX7_order_31 rfl ?_
  refine aw_getfield fX7_236 dX7_order_33 (hP2.at N) rfl ?_
  by_cases s2 : (sP S q').isSome = true
  case neg =>
    rw [if_neg s2]
    refine aw_if_ne (tgt := 42) dX7_order_36 (by decide) (fun c => absurd c (fun c => c rfl)) (fun _ => ?_)
    exact none' (Or.inr (by simpa using s2))
  rw [if_pos s2]
  obtain ⟨u, d, e1⟩ := sP_iss s1
  obtain ⟨u2, d2, e2⟩ := sP_iss s2
  rw [e1, e2] at hQ
  obtain ⟨n1, n2⟩ := (hS.2.2.1 p' hp).2 u d e1
  obtain ⟨n3, n4⟩ := (hS.2.2.1 q' hq).2 u2 d2 e2
  refine aw_if_ne (tgt := 42) dX7_order_36 (by decide) (fun _ => ?_) (fun c => ((show ¬ nI 1 = 0 by decide +kernel) c).elim)
  refine aw_aload_n (i := 0) dX7_order_42 rfl rfl ?_
  refine aw_aload_n (i := 3) dX7_order_43 rfl rfl ?_
  refine aw_aload dX7_order_44 rfl ?_
  refine aw_invokevirtual kX7_248 dX7_order_46 (hS.X0 N) (ct_X7_compare (cn X S) hc N X S p' q' u d u2 d2 hS hp hq n1 n2 n3 n4) rfl rfl (Nat.le_of_ble_eq_true rfl) ⟨Nat.le_of_ble_eq_true rfl, Nat.le_of_ble_eq_true rfl⟩ ⟨Nat.le_of_ble_eq_true rfl, Nat.le_of_ble_eq_true rfl⟩ ?_
  rintro _ _ _ ⟨rfl, rfl, N1, rfl, A1, f1⟩
  refine aw_iconst (v := 1) dX7_order_49 (by decide +kernel) ?_
  refine aw_iadd dX7_order_50 ?_
  refine aw_ireturn dX7_order_51 rfl rfl (Nat.le_of_ble_eq_true rfl) (Nat.le_of_ble_eq_true rfl) ?_
  exact hQ _ _ _ ⟨rfl, rfl, ⟨hc, N1, rfl, hS.numK A1 (fun k hk => f1 k (by omega) (by omega))⟩, cfr_nh (fun _ _ _ => rfl)⟩
theorem ck_limbs (h : Hp) (X : Nat) (S : TS) (p part : Int32) (hR : CRep h X S) : CT mX7_limbs 0 0 (cn X S) h [.ref X, .int p, .int part] (COK X h (opLimbs S p part)) := by
  obtain ⟨hc, N, rfl, hS⟩ := hR
  refine CT.intro [some (.ref X), some (.int p), some (.int part), none] 1 rfl rfl (by decide) ?_
  intro Q hQ
  have cp := hS.placeAt (cn X S) N p
  have bad : ∀ y3 : Option Value, (isP p && rg part 0 1) = false → AW mX7_limbs (gq 0 0 Q) 19 [some (.ref X), some (.int p), some (.int part), y3] [] 0 0 (cn X S) (nh hc (LC X (sN S)) N) := by
    intro y3 hb
    refine aw_iconst (v := (-1)) dX7_limbs_19 (by decide +kernel) ?_
    refine aw_ireturn dX7_limbs_20 rfl rfl (Nat.le_of_ble_eq_true rfl) (Nat.le_of_ble_eq_true rfl) ?_
    exact hQ _ _ _ (cbad hS _ (by unfold opLimbs; rw [hb]; rfl))
  refine aw_aload_n (i := 0) dX7_limbs_0 rfl rfl ?_
  refine aw_iload_n (i := 1) dX7_limbs_1 rfl rfl ?_
  refine aw_invokevirtual kX7_191 dX7_limbs_2 (hS.X0 N) cp rfl rfl (Nat.le_of_ble_eq_true rfl) ⟨Nat.le_of_ble_eq_true rfl, Nat.le_of_ble_eq_true rfl⟩ ⟨Nat.le_of_ble_eq_true rfl, Nat.le_of_ble_eq_true rfl⟩ ?_
  rintro _ _ _ ⟨rfl, rfl, rfl⟩
  by_cases h1 : isP p = true
  case neg =>
    rw [if_neg h1]
    refine aw_astore_3N dX7_limbs_5 (by decide) rfl ?_
    refine aw_aload_nN (i := 3) dX7_limbs_6 rfl rfl ?_
    refine aw_ifnullN (tgt := 19) dX7_limbs_7 (by decide) ?_
    exact bad _ (by simp [h1])
  rw [if_pos h1]
  refine aw_astore_3 dX7_limbs_5 (by decide) rfl ?_
  refine aw_aload_n (i := 3) dX7_limbs_6 rfl rfl ?_
  refine aw_ifnull dX7_limbs_7 ?_
  refine aw_iload_n (i := 2) dX7_limbs_10 rfl rfl ?_
  refine aw_iconst (v := 0) dX7_limbs_11 (by decide +kernel) ?_
  refine aw_iconst (v := 1) dX7_limbs_12 (by decide +kernel) ?_
  refine aw_invokestatic kX7_88 dX7_limbs_13 (ct_out _ (nh hc (LC X (sN S)) N) part 0 1 toInt_lit0 toInt_1) rfl rfl (Nat.le_of_ble_eq_true rfl) ⟨Nat.le_of_ble_eq_true rfl, Nat.le_of_ble_eq_true rfl⟩ ⟨Nat.le_of_ble_eq_true rfl, Nat.le_of_ble_eq_true rfl⟩ ?_
  rintro _ _ _ ⟨rfl, rfl, rfl⟩
  by_cases h2 : rg part 0 1 = true
  case neg =>
    refine aw_if_eq (tgt := 21) dX7_limbs_16 (by decide) (fun c => absurd c (bn0 h2)) (fun _ => ?_)
    exact bad _ (by simp [h2])
  obtain ⟨ep, hp⟩ := isP_N h1
  obtain ⟨et, -, -, ht⟩ := rg_N h2 (by decide)
  have hop : opLimbs S p part = (match sP S (tN p) with
    | some (u, d) => (nI ((nb (if tN part = 0 then u else d) + 31) / 32), S)
    | none => (-2, S)) := by unfold opLimbs; rw [h1, h2]; rfl
  rw [hop] at hQ
  generalize tN p = p' at *
  generalize tN part = t at *
  subst et
  have hP := hS.pl hp
  refine aw_if_eq (tgt := 21) dX7_limbs_16 (by decide) (fun _ => ?_) (fun c => (c (bn1 h2)).elim)
  refine aw_aload_n (i := 3) dX7_limbs_21 rfl rfl ?_
  refine aw_getfield fX7_236 dX7_limbs_22 (hP.at N) rfl ?_
  by_cases s1 : (sP S p').isSome = true
  case neg =>
    rw [if_neg s1]
    refine aw_if_ne (tgt := 31) dX7_limbs_25 (by decide) (fun c => absurd c (fun c => c rfl)) (fun _ => ?_)
    refine aw_bipush (v := (-2)) dX7_limbs_28 (by decide +kernel) ?_
    refine aw_ireturn dX7_limbs_30 rfl rfl (Nat.le_of_ble_eq_true rfl) (Nat.le_of_ble_eq_true rfl) ?_
    refine hQ _ _ _ (cbad hS _ ?_)
    cases hh : sP S p' with
    | none => rfl
    | some x => rw [hh] at s1; exact absurd rfl s1
  rw [if_pos s1]
  obtain ⟨u, d, e1⟩ := sP_iss s1
  rw [e1] at hQ
  dsimp only at hQ
  obtain ⟨n1, n2⟩ := (hS.2.2.1 p' hp).2 u d e1
  obtain ⟨a1, a3⟩ := L32 (X := X) (k := sN S) hp
  refine aw_if_ne (tgt := 31) dX7_limbs_25 (by decide) (fun _ => ?_) (fun c => ((show ¬ nI 1 = 0 by decide +kernel) c).elim)
  refine aw_aload_n (i := 3) dX7_limbs_31 rfl rfl ?_
  refine aw_iload_n (i := 2) dX7_limbs_32 rfl rfl ?_
  refine aw_invokevirtual kX7_255 dX7_limbs_33 (hP.at N) (ct_X1_half (cn X S) hc (LC X (sN S)) N (plb X p') _ t hP (by omega)) rfl rfl (Nat.le_of_ble_eq_true rfl) ⟨Nat.le_of_ble_eq_true rfl, Nat.le_of_ble_eq_true rfl⟩ ⟨Nat.le_of_ble_eq_true rfl, Nat.le_of_ble_eq_true rfl⟩ ?_
  rintro _ _ _ ⟨rfl, rfl, rfl⟩
  by_cases t0 : t = 0
  · rw [if_pos t0] at hQ ⊢
    refine aw_getfield fX7_121 dX7_limbs_36 (nh_o hc N (by rw [a1]; decide)) rfl ?_
    refine aw_ireturn dX7_limbs_39 rfl rfl (Nat.le_of_ble_eq_true rfl) (Nat.le_of_ble_eq_true rfl) ?_
    exact hQ _ _ _ (cbad hS _ (by rw [num_sz n1]))
  · rw [if_neg t0] at hQ ⊢
    refine aw_getfield fX7_121 dX7_limbs_36 (nh_o hc N (by rw [a3]; decide)) rfl ?_
    refine aw_ireturn dX7_limbs_39 rfl rfl (Nat.le_of_ble_eq_true rfl) (Nat.le_of_ble_eq_true rfl) ?_
    exact hQ _ _ _ (cbad hS _ (by rw [num_sz n2]))
theorem cbadl {hc : Hp} {N : NC} {X : Nat} {S : TS} (h : CS hc N X S) {q : Int64 × TS} (x : Int64) (e : q = (x, S)) : COKl X (nh hc (LC X (sN S)) N) q (some (.long x)) (cn X S) (nh hc (LC X (sN S)) N) := by
  subst e; exact ⟨rfl, rfl, ⟨hc, N, rfl, h⟩, cfr_rf⟩
theorem ck_limb (h : Hp) (X : Nat) (S : TS) (p part i : Int32) (hR : CRep h X S) : CT mX7_limb 0 0 (cn X S) h [.ref X, .int p, .int part, .int i] (COKl X h (opLimb S p part i)) := by
  obtain ⟨hc, N, rfl, hS⟩ := hR
  refine CT.intro [some (.ref X), some (.int p), some (.int part), some (.int i), none, none] 2 rfl rfl (by decide) ?_
  intro Q hQ
  have w := LC_W X (sN S)
  have cp := hS.placeAt (cn X S) N p
  have bad : ∀ y4 : Option Value, (isP p && rg part 0 1) = false → AW mX7_limb (gq 0 0 Q) 21 [some (.ref X), some (.int p), some (.int part), some (.int i), y4, none] [] 0 0 (cn X S) (nh hc (LC X (sN S)) N) := by
    intro y4 hb
    refine aw_ldc2_w qX7_259 dX7_limb_21 ?_
    refine aw_lreturn dX7_limb_24 rfl (Nat.le_of_ble_eq_true rfl) (Nat.le_of_ble_eq_true rfl) ?_
    exact hQ _ _ _ (cbadl hS _ (by unfold opLimb; rw [hb]; rfl))
  refine aw_aload_n (i := 0) dX7_limb_0 rfl rfl ?_
  refine aw_iload_n (i := 1) dX7_limb_1 rfl rfl ?_
  refine aw_invokevirtual kX7_191 dX7_limb_2 (hS.X0 N) cp rfl rfl (Nat.le_of_ble_eq_true rfl) ⟨Nat.le_of_ble_eq_true rfl, Nat.le_of_ble_eq_true rfl⟩ ⟨Nat.le_of_ble_eq_true rfl, Nat.le_of_ble_eq_true rfl⟩ ?_
  rintro _ _ _ ⟨rfl, rfl, rfl⟩
  by_cases h1 : isP p = true
  case neg =>
    rw [if_neg h1]
    refine aw_astore_4N dX7_limb_5 (by decide) rfl ?_
    refine aw_aloadN dX7_limb_7 rfl ?_
    refine aw_ifnullN (tgt := 21) dX7_limb_9 (by decide) ?_
    exact bad _ (by simp [h1])
  rw [if_pos h1]
  refine aw_astore_4 dX7_limb_5 (by decide) rfl ?_
  refine aw_aload dX7_limb_7 rfl ?_
  refine aw_ifnull dX7_limb_9 ?_
  refine aw_iload_n (i := 2) dX7_limb_12 rfl rfl ?_
  refine aw_iconst (v := 0) dX7_limb_13 (by decide +kernel) ?_
  refine aw_iconst (v := 1) dX7_limb_14 (by decide +kernel) ?_
  refine aw_invokestatic kX7_88 dX7_limb_15 (ct_out _ (nh hc (LC X (sN S)) N) part 0 1 toInt_lit0 toInt_1) rfl rfl (Nat.le_of_ble_eq_true rfl) ⟨Nat.le_of_ble_eq_true rfl, Nat.le_of_ble_eq_true rfl⟩ ⟨Nat.le_of_ble_eq_true rfl, Nat.le_of_ble_eq_true rfl⟩ ?_
  rintro _ _ _ ⟨rfl, rfl, rfl⟩
  by_cases h2 : rg part 0 1 = true
  case neg =>
    refine aw_if_eq (tgt := 25) dX7_limb_18 (by decide) (fun c => absurd c (bn0 h2)) (fun _ => ?_)
    exact bad _ (by simp [h2])
  obtain ⟨ep, hp⟩ := isP_N h1
  obtain ⟨et, -, -, ht⟩ := rg_N h2 (by decide)
  have hop : opLimb S p part i = (match sP S (tN p) with
    | some (u, d) => (if rg i 0 (((nb (if tN part = 0 then u else d) + 31) / 32 : Nat) - 1) then (lN ((if tN part = 0 then u else d) / 2 ^ (32 * tN i) % 2 ^ 32), S) else (-5, S))
    | none => (-2, S)) := by unfold opLimb; rw [h1, h2]; rfl
  rw [hop] at hQ
  generalize tN p = p' at *
  generalize tN part = t at *
  subst et
  have hP := hS.pl hp
  refine aw_if_eq (tgt := 25) dX7_limb_18 (by decide) (fun _ => ?_) (fun c => (c (bn1 h2)).elim)
  refine aw_aload dX7_limb_25 rfl ?_
  refine aw_getfield fX7_236 dX7_limb_27 (hP.at N) rfl ?_
  by_cases s1 : (sP S p').isSome = true
  case neg =>
    rw [if_neg s1]
    refine aw_if_ne (tgt := 37) dX7_limb_30 (by decide) (fun c => absurd c (fun c => c rfl)) (fun _ => ?_)
    refine aw_ldc2_w qX7_261 dX7_limb_33 ?_
    refine aw_lreturn dX7_limb_36 rfl (Nat.le_of_ble_eq_true rfl) (Nat.le_of_ble_eq_true rfl) ?_
    refine hQ _ _ _ (cbadl hS _ ?_)
    cases hh : sP S p' with
    | none => rfl
    | some x => rw [hh] at s1; exact absurd rfl s1
  rw [if_pos s1]
  obtain ⟨u, d, e1⟩ := sP_iss s1
  rw [e1] at hQ
  dsimp only at hQ
  obtain ⟨n1, n2⟩ := (hS.2.2.1 p' hp).2 u d e1
  obtain ⟨a1, a3⟩ := L32 (X := X) (k := sN S) hp
  refine aw_if_ne (tgt := 37) dX7_limb_30 (by decide) (fun _ => ?_) (fun c => ((show ¬ nI 1 = 0 by decide +kernel) c).elim)
  refine aw_aload dX7_limb_37 rfl ?_
  refine aw_iload_n (i := 2) dX7_limb_39 rfl rfl ?_
  refine aw_invokevirtual kX7_255 dX7_limb_40 (hP.at N) (ct_X1_half (cn X S) hc (LC X (sN S)) N (plb X p') _ t hP (by omega)) rfl rfl (Nat.le_of_ble_eq_true rfl) ⟨Nat.le_of_ble_eq_true rfl, Nat.le_of_ble_eq_true rfl⟩ ⟨Nat.le_of_ble_eq_true rfl, Nat.le_of_ble_eq_true rfl⟩ ?_
  rintro _ _ _ ⟨rfl, rfl, rfl⟩
  -- of either half
  have half : ∀ (a v : Nat), LC X (sN S) a = 32 → num 32 (N a) v → (if t = 0 then u else d) = v → AW mX7_limb (gq 0 0 Q) 43 [some (.ref X), some (.int p), some (.int (nI t)), some (.int i), some (.ref (plb X p')), none] [.ref a] 0 0 (cn X S) (nh hc (LC X (sN S)) N) := by
    intro a v la na hv
    rw [hv] at hQ
    have sz := num_sz na
    have sl := na.1.1
    have nona : ¬ rg i 0 (((nb v + 31) / 32 : Nat) - 1) = true → AW mX7_limb (gq 0 0 Q) 58 [some (.ref X), some (.int p), some (.int (nI t)), some (.int i), some (.ref (plb X p')), some (.ref a)] [] 0 0 (cn X S) (nh hc (LC X (sN S)) N) := by
      intro hb
      refine aw_ldc2_w qX7_263 dX7_limb_58 ?_
      refine aw_goto (tgt := 70) dX7_limb_61 (by decide) ?_
      refine aw_lreturn dX7_limb_70 rfl (Nat.le_of_ble_eq_true rfl) (Nat.le_of_ble_eq_true rfl) ?_
      exact hQ _ _ _ (cbadl hS _ (by rw [if_neg hb]))
    refine aw_astore_5 dX7_limb_43 (by decide) rfl ?_
    refine aw_iload_n (i := 3) dX7_limb_45 rfl rfl ?_
    by_cases hi0 : i < 0
    · refine aw_if_lt (tgt := 58) dX7_limb_46 (by decide) (fun _ => ?_) (fun c => (c hi0).elim)
      rw [Int32.lt_iff_toInt_lt, toInt_lit0] at hi0
      exact nona (fun q => by have := (rg_iff.mp q).1; omega)
    · refine aw_if_lt (tgt := 58) dX7_limb_46 (by decide) (fun c => absurd c hi0) (fun _ => ?_)
      refine aw_iload_n (i := 3) dX7_limb_49 rfl rfl ?_
      refine aw_aload dX7_limb_50 rfl ?_
      refine aw_getfield fX7_121 dX7_limb_52 (nh_o hc N (by rw [la]; decide)) rfl ?_
      rw [Int32.lt_iff_toInt_lt, toInt_lit0] at hi0
      by_cases hr : rg i 0 (((nb v + 31) / 32 : Nat) - 1) = true
      · obtain ⟨ei, e2, -, e4⟩ := rg_N hr (by decide)
        rw [if_pos hr] at hQ
        have hlt : tN i < (N a).1 := by omega
        generalize tN i = k at *
        subst ei
        have cw := nc_word (cn X S) hc (LC X (sN S)) N a k v w (by rw [la]; decide) (by rw [la]; exact na.1) (by omega)
        rw [wd_eq na.1, p32] at cw
        refine aw_icmp_lt (tgt := 64) dX7_limb_55 (by decide) (fun _ => ?_) (fun c => (c (nI_lt hlt (by omega))).elim)
        refine aw_aload dX7_limb_64 rfl ?_
        refine aw_iload_n (i := 3) dX7_limb_66 rfl rfl ?_
        refine aw_invokevirtual kX7_183 dX7_limb_67 (nh_o hc N (by rw [la]; decide)) cw rfl rfl (Nat.le_of_ble_eq_true rfl) ⟨Nat.le_of_ble_eq_true rfl, Nat.le_of_ble_eq_true rfl⟩ ⟨Nat.le_of_ble_eq_true rfl, Nat.le_of_ble_eq_true rfl⟩ ?_
        rintro _ _ _ ⟨rfl, rfl, rfl⟩
        refine aw_lreturn dX7_limb_70 rfl (Nat.le_of_ble_eq_true rfl) (Nat.le_of_ble_eq_true rfl) ?_
        exact hQ _ _ _ (cbadl hS _ rfl)
      · refine aw_icmp_lt (tgt := 64) dX7_limb_55 (by decide) (fun c => absurd c (by rw [Int32.lt_iff_toInt_lt, nI_toInt (by omega)]; intro q; exact hr (rg_iff.mpr ⟨by omega, by omega⟩))) (fun _ => ?_)
        exact nona hr
  by_cases t0 : t = 0
  · rw [if_pos t0]
    exact half _ u a1 n1 (if_pos t0)
  · rw [if_neg t0]
    exact half _ d a3 n2 (if_neg t0)
