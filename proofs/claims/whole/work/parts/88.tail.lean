theorem cmpI_neg {u v : Nat} : cmpI u v < 0 ↔ u < v := by
  unfold cmpI
  by_cases h1 : u < v
  · rw [if_pos h1]; exact ⟨fun _ => h1, fun _ => by decide⟩
  · rw [if_neg h1]
    by_cases h2 : u = v
    · rw [if_pos h2]; exact ⟨fun q => absurd q (by decide), fun q => absurd q h1⟩
    · rw [if_neg h2]; exact ⟨fun q => absurd q (by decide), fun q => absurd q h1⟩
theorem cmpI_pos {u v : Nat} : 0 < cmpI u v ↔ v < u := by
  unfold cmpI
  by_cases h1 : u < v
  · rw [if_pos h1]; exact ⟨fun q => absurd q (by decide), fun q => absurd q (by omega)⟩
  · rw [if_neg h1]
    by_cases h2 : u = v
    · rw [if_pos h2]; exact ⟨fun q => absurd q (by decide), fun q => absurd q (by omega)⟩
    · rw [if_neg h2]; exact ⟨fun _ => by omega, fun _ => by decide⟩
theorem tail_hi {S : TS} {j k v : Nat} (h : 0 < stot S j) (hv : k < v) : awayN S j k ≤ awayN S j v ↔ sS S j * 2 ≤ tS S j * (v + k) := by
  rw [away_dv h, away_dv h, Nat.mul_le_mul_left_iff (gS_pos h), Nat.mul_add]
  have := Nat.mul_lt_mul_of_pos_left hv (tS_pos h)
  unfold dvn
  generalize tS S j * v = x at *
  generalize tS S j * k = y at *
  split <;> split <;> omega
theorem tail_lo {S : TS} {j k v : Nat} (h : 0 < stot S j) (hv : v < k) : awayN S j k ≤ awayN S j v ↔ tS S j * (v + k) ≤ sS S j * 2 := by
  rw [away_dv h, away_dv h, Nat.mul_le_mul_left_iff (gS_pos h), Nat.mul_add]
  have := Nat.mul_lt_mul_of_pos_left hv (tS_pos h)
  unfold dvn
  generalize tS S j * v = x at *
  generalize tS S j * k = y at *
  split <;> split <;> omega
theorem ct_X2_isInTail (n : Nat) (hc : Hp) (N N0 : NC) (X j v k sd : Nat) (S : TS) (h : CS hc N0 X S) (hI : SInv S) (hj : j < sN S) (hA : NA (LC X (sN S)) N) (hv : v ≤ 120) (hk : k ≤ 120) (hsd : sd ≤ 2) (n8 : nv (LC X (sN S)) N (sob X j + 8) 8 (tS S j)) (nf : nv (LC X (sN S)) N (X + 24) 10 (sS S j * 2)) : CT mX2_isInTail 0 0 n (nh hc (LC X (sN S)) N) [.ref (X + 23), .ref (sob X j + 2), .int (nI v), .int (nI k), .int (nI sd)] (fun r n' h' => r = some (.int (bI (inTail S j k sd v))) ∧ n = n' ∧ ∃ N', h' = nh hc (LC X (sN S)) N' ∧ NA (LC X (sN S)) N' ∧ ∀ a, a ≠ X + 26 → N' a = N a) := by
  refine CT.intro [some (.ref (X + 23)), some (.ref (sob X j + 2)), some (.int (nI v)), some (.int (nI k)), some (.int (nI sd)), none] 1 rfl rfl (by decide) ?_
  intro Q hQ
  have W := LC_W X (sN S)
  have ej : sob X j = X + (158 + 10 * j) := rfl
  have p1 := (hI.2.1.2 _ hj).2.2.1
  have fin : ∀ b : Bool, inTail S j k sd v = b → Q (some (.int (bI b))) n (nh hc (LC X (sN S)) N) := fun b e => hQ _ _ _ ⟨by rw [e], rfl, N, rfl, hA, fun _ _ => rfl⟩
  have first : sd = 0 ∨ v = k → AW mX2_isInTail (gq 0 0 Q) 10 [some (.ref (X + 23)), some (.ref (sob X j + 2)), some (.int (nI v)), some (.int (nI k)), some (.int (nI sd)), none] [] 0 0 n (nh hc (LC X (sN S)) N) := by
    intro hs
    by_cases hkv : k ≤ v
    · refine aw_iload_n (i := 2) dX2_isInTail_10 rfl rfl ?_
      refine aw_iload_n (i := 3) dX2_isInTail_11 rfl rfl ?_
      refine aw_icmp_lt (tgt := 19) dX2_isInTail_12 (by decide) (fun c => absurd c (nI_nlt hkv (by omega))) (fun _ => ?_)
      refine aw_iconst (v := 1) dX2_isInTail_15 (by decide +kernel) ?_
      refine aw_goto (tgt := 20) dX2_isInTail_16 (by decide) ?_
      refine aw_ireturn dX2_isInTail_20 rfl rfl (Nat.le_of_ble_eq_true rfl) (Nat.le_of_ble_eq_true rfl) ?_
      refine fin true ?_
      unfold inTail
      by_cases s0 : sd = 0
      · rw [if_pos s0]; exact decide_eq_true hkv
      · rw [if_neg s0]
        obtain rfl : v = k := by omega
        by_cases s1 : sd = 1
        · rw [if_pos s1]; exact decide_eq_true (Nat.le_refl _)
        · rw [if_neg s1]; exact decide_eq_true (Nat.le_refl _)
    · refine aw_iload_n (i := 2) dX2_isInTail_10 rfl rfl ?_
      refine aw_iload_n (i := 3) dX2_isInTail_11 rfl rfl ?_
      refine aw_icmp_lt (tgt := 19) dX2_isInTail_12 (by decide) (fun _ => ?_) (fun c => (c (nI_lt (by omega) (by omega))).elim)
      refine aw_iconst (v := 0) dX2_isInTail_19 (by decide +kernel) ?_
      refine aw_ireturn dX2_isInTail_20 rfl rfl (Nat.le_of_ble_eq_true rfl) (Nat.le_of_ble_eq_true rfl) ?_
      refine fin false ?_
      unfold inTail
      rw [if_pos (by omega)]; exact decide_eq_false hkv
  by_cases s0 : sd = 0
  · refine aw_iload dX2_isInTail_0 rfl ?_
    refine aw_if_eq (tgt := 10) dX2_isInTail_2 (by decide) (fun _ => ?_) (fun c => (c (by rw [s0]; rfl)).elim)
    exact first (Or.inl s0)
  by_cases hvk : v = k
  · refine aw_iload dX2_isInTail_0 rfl ?_
    refine aw_if_eq (tgt := 10) dX2_isInTail_2 (by decide) (fun c => absurd c (nI_ne0 (by omega) (by omega))) (fun _ => ?_)
    refine aw_iload_n (i := 2) dX2_isInTail_5 rfl rfl ?_
    refine aw_iload_n (i := 3) dX2_isInTail_6 rfl rfl ?_
    refine aw_icmp_ne (tgt := 21) dX2_isInTail_7 (by decide) (fun c => absurd c (fun c => c (by rw [hvk]))) (fun _ => ?_)
    exact first (Or.inr hvk)
  by_cases s1 : sd = 1
  · by_cases hlt : v < k
    · refine aw_iload dX2_isInTail_0 rfl ?_
      refine aw_if_eq (tgt := 10) dX2_isInTail_2 (by decide) (fun c => absurd c (nI_ne0 (by omega) (by omega))) (fun _ => ?_)
      refine aw_iload_n (i := 2) dX2_isInTail_5 rfl rfl ?_
      refine aw_iload_n (i := 3) dX2_isInTail_6 rfl rfl ?_
      refine aw_icmp_ne (tgt := 21) dX2_isInTail_7 (by decide) (fun _ => ?_) (fun c => ((fun c => hvk ((nI_eq (by omega) (by omega)).mp c)) c).elim)
      refine aw_iload dX2_isInTail_21 rfl ?_
      refine aw_iconst (v := 1) dX2_isInTail_23 (by decide +kernel) ?_
      refine aw_icmp_ne (tgt := 38) dX2_isInTail_24 (by decide) (fun c => absurd c (fun c => c (by rw [s1]; rfl))) (fun _ => ?_)
      refine aw_iload_n (i := 2) dX2_isInTail_27 rfl rfl ?_
      refine aw_iload_n (i := 3) dX2_isInTail_28 rfl rfl ?_
      refine aw_icmp_ge (tgt := 36) dX2_isInTail_29 (by decide) (fun c => absurd c (nI_ge hlt (by omega))) (fun _ => ?_)
      refine aw_iconst (v := 1) dX2_isInTail_32 (by decide +kernel) ?_
      refine aw_goto (tgt := 37) dX2_isInTail_33 (by decide) ?_
      refine aw_ireturn dX2_isInTail_37 rfl rfl (Nat.le_of_ble_eq_true rfl) (Nat.le_of_ble_eq_true rfl) ?_
      refine fin true ?_
      unfold inTail; rw [if_neg s0, if_pos s1]; exact decide_eq_true (by omega)
    · refine aw_iload dX2_isInTail_0 rfl ?_
      refine aw_if_eq (tgt := 10) dX2_isInTail_2 (by decide) (fun c => absurd c (nI_ne0 (by omega) (by omega))) (fun _ => ?_)
      refine aw_iload_n (i := 2) dX2_isInTail_5 rfl rfl ?_
      refine aw_iload_n (i := 3) dX2_isInTail_6 rfl rfl ?_
      refine aw_icmp_ne (tgt := 21) dX2_isInTail_7 (by decide) (fun _ => ?_) (fun c => ((fun c => hvk ((nI_eq (by omega) (by omega)).mp c)) c).elim)
      refine aw_iload dX2_isInTail_21 rfl ?_
      refine aw_iconst (v := 1) dX2_isInTail_23 (by decide +kernel) ?_
      refine aw_icmp_ne (tgt := 38) dX2_isInTail_24 (by decide) (fun c => absurd c (fun c => c (by rw [s1]; rfl))) (fun _ => ?_)
      refine aw_iload_n (i := 2) dX2_isInTail_27 rfl rfl ?_
      refine aw_iload_n (i := 3) dX2_isInTail_28 rfl rfl ?_
      refine aw_icmp_ge (tgt := 36) dX2_isInTail_29 (by decide) (fun _ => ?_) (fun c => (c (nI_le (by omega) (by omega))).elim)
      refine aw_iconst (v := 0) dX2_isInTail_36 (by decide +kernel) ?_
      refine aw_ireturn dX2_isInTail_37 rfl rfl (Nat.le_of_ble_eq_true rfl) (Nat.le_of_ble_eq_true rfl) ?_
      refine fin false ?_
      unfold inTail; rw [if_neg s0, if_pos s1]; exact decide_eq_false (by omega)
  have s2 : sd = 2 := by omega
  have hin : inTail S j k sd v = decide (awayN S j k ≤ awayN S j v) := by unfold inTail; rw [if_neg s0, if_neg s1]
  have l26 : LC X (sN S) (X + 26) = 72 := L72 rfl
  have z26 : LC X (sN S) (X + 26) ≠ 0 := by rw [l26]; decide
  refine aw_iload dX2_isInTail_0 rfl ?_
  refine aw_if_eq (tgt := 10) dX2_isInTail_2 (by decide) (fun c => absurd c (nI_ne0 (by omega) (by omega))) (fun _ => ?_)
  refine aw_iload_n (i := 2) dX2_isInTail_5 rfl rfl ?_
  refine aw_iload_n (i := 3) dX2_isInTail_6 rfl rfl ?_
  refine aw_icmp_ne (tgt := 21) dX2_isInTail_7 (by decide) (fun _ => ?_) (fun c => ((fun c => hvk ((nI_eq (by omega) (by omega)).mp c)) c).elim)
  refine aw_iload dX2_isInTail_21 rfl ?_
  refine aw_iconst (v := 1) dX2_isInTail_23 (by decide +kernel) ?_
  refine aw_icmp_ne (tgt := 38) dX2_isInTail_24 (by decide) (fun _ => ?_) (fun c => ((fun c => s1 ((nI_eq (b := 1) (by omega) (by decide)).mp c)) c).elim)
  refine aw_aload_n (i := 0) dX2_isInTail_38 rfl rfl ?_
  refine aw_getfield fX2_20 dX2_isInTail_39 (h.mm _) rfl ?_
  refine aw_aload_n (i := 1) dX2_isInTail_42 rfl rfl ?_
  refine aw_getfield fX2_43 dX2_isInTail_43 (h.so hj _) rfl ?_
  refine aw_getfield fX2_71 dX2_isInTail_46 ((h.me hj).at _) rfl ?_
  refine aw_invokevirtual kX2_77 dX2_isInTail_49 (nh_o hc N z26) (cp_copy n hc (LC X (sN S)) N (X + 26) (sob X j + 8) _ 8 W hA z26 n8 (by omega) (by rw [l26]; decide)) rfl rfl (Nat.le_of_ble_eq_true rfl) ⟨Nat.le_of_ble_eq_true rfl, Nat.le_of_ble_eq_true rfl⟩ ⟨Nat.le_of_ble_eq_true rfl, Nat.le_of_ble_eq_true rfl⟩ ?_
  rintro _ _ _ ⟨rfl, rfl, N1, rfl, v1, A1, f1⟩
  refine aw_aload_n (i := 0) dX2_isInTail_52 rfl rfl ?_
  refine aw_getfield fX2_20 dX2_isInTail_53 (h.mm _) rfl ?_
  refine aw_iload_n (i := 2) dX2_isInTail_56 rfl rfl ?_
  refine aw_iload_n (i := 3) dX2_isInTail_57 rfl rfl ?_
  refine aw_iadd dX2_isInTail_58 ?_
  refine aw_i2l dX2_isInTail_59 rfl ?_
  rw [nI_add, nI_l (by omega)]
  refine aw_invokevirtual kX2_81 dX2_isInTail_60 (nh_o hc N1 z26) (cp_scale n hc (LC X (sN S)) N1 (X + 26) _ (v + k) 8 W A1 v1 (by omega) (by rw [l26]; decide)) rfl rfl (Nat.le_of_ble_eq_true rfl) ⟨Nat.le_of_ble_eq_true rfl, Nat.le_of_ble_eq_true rfl⟩ ⟨Nat.le_of_ble_eq_true rfl, Nat.le_of_ble_eq_true rfl⟩ ?_
  rintro _ _ _ ⟨rfl, rfl, N2, rfl, v2, A2, f2⟩
  refine aw_aload_n (i := 0) dX2_isInTail_63 rfl rfl ?_
  refine aw_getfield fX2_20 dX2_isInTail_64 (h.mm _) rfl ?_
  refine aw_aload_n (i := 0) dX2_isInTail_67 rfl rfl ?_
  refine aw_getfield fX2_14 dX2_isInTail_68 (h.mm _) rfl ?_
  refine aw_invokevirtual kX2_85 dX2_isInTail_71 (nh_o hc N2 z26) (cp_against n hc (LC X (sN S)) N2 (X + 26) (X + 24) _ _ 9 10 W v2 (nf.fr (by rw [f2 _ (by omega), f1 _ (by omega)]))) rfl rfl (Nat.le_of_ble_eq_true rfl) ⟨Nat.le_of_ble_eq_true rfl, Nat.le_of_ble_eq_true rfl⟩ ⟨Nat.le_of_ble_eq_true rfl, Nat.le_of_ble_eq_true rfl⟩ ?_
  rintro _ _ _ ⟨rfl, rfl, rfl⟩
  have fin2 : ∀ b : Bool, decide (awayN S j k ≤ awayN S j v) = b → Q (some (.int (bI b))) n (nh hc (LC X (sN S)) N2) := fun b e => hQ _ _ _ ⟨by rw [hin, e], rfl, N2, rfl, A2, fun a ha => by rw [f2 _ ha, f1 _ ha]⟩
  by_cases hlt : k < v
  · have q := tail_hi (S := S) p1 hlt
    refine aw_istore_5 dX2_isInTail_74 (by decide) rfl ?_
    refine aw_iload_n (i := 2) dX2_isInTail_76 rfl rfl ?_
    refine aw_iload_n (i := 3) dX2_isInTail_77 rfl rfl ?_
    refine aw_icmp_le (tgt := 94) dX2_isInTail_78 (by decide) (fun c => absurd c (nI_ge hlt (by omega))) (fun _ => ?_)
    refine aw_iload dX2_isInTail_81 rfl ?_
    by_cases hc1 : tS S j * (v + k) < sS S j * 2
    · refine aw_if_lt (tgt := 90) dX2_isInTail_83 (by decide) (fun _ => ?_) (fun c => (c (cmpI_neg.mpr hc1)).elim)
      refine aw_iconst (v := 0) dX2_isInTail_90 (by decide +kernel) ?_
      refine aw_goto (tgt := 104) dX2_isInTail_91 (by decide) ?_
      refine aw_ireturn dX2_isInTail_104 rfl rfl (Nat.le_of_ble_eq_true rfl) (Nat.le_of_ble_eq_true rfl) ?_
      exact fin2 false (decide_eq_false (fun z => by have := q.mp z; omega))
    · refine aw_if_lt (tgt := 90) dX2_isInTail_83 (by decide) (fun c => absurd c (fun z => hc1 (cmpI_neg.mp z))) (fun _ => ?_)
      refine aw_iconst (v := 1) dX2_isInTail_86 (by decide +kernel) ?_
      refine aw_goto (tgt := 104) dX2_isInTail_87 (by decide) ?_
      refine aw_ireturn dX2_isInTail_104 rfl rfl (Nat.le_of_ble_eq_true rfl) (Nat.le_of_ble_eq_true rfl) ?_
      exact fin2 true (decide_eq_true (q.mpr (by omega)))
  · have q := tail_lo (S := S) p1 (show v < k by omega)
    refine aw_istore_5 dX2_isInTail_74 (by decide) rfl ?_
    refine aw_iload_n (i := 2) dX2_isInTail_76 rfl rfl ?_
    refine aw_iload_n (i := 3) dX2_isInTail_77 rfl rfl ?_
    refine aw_icmp_le (tgt := 94) dX2_isInTail_78 (by decide) (fun _ => ?_) (fun c => (c (nI_le (by omega) (by omega))).elim)
    refine aw_iload dX2_isInTail_94 rfl ?_
    by_cases hc1 : sS S j * 2 < tS S j * (v + k)
    · refine aw_if_gt (tgt := 103) dX2_isInTail_96 (by decide) (fun _ => ?_) (fun c => (c (cmpI_pos.mpr hc1)).elim)
      refine aw_iconst (v := 0) dX2_isInTail_103 (by decide +kernel) ?_
      refine aw_ireturn dX2_isInTail_104 rfl rfl (Nat.le_of_ble_eq_true rfl) (Nat.le_of_ble_eq_true rfl) ?_
      exact fin2 false (decide_eq_false (fun z => by have := q.mp z; omega))
    · refine aw_if_gt (tgt := 103) dX2_isInTail_96 (by decide) (fun c => absurd c (fun z => hc1 (cmpI_pos.mp z))) (fun _ => ?_)
      refine aw_iconst (v := 1) dX2_isInTail_99 (by decide +kernel) ?_
      refine aw_goto (tgt := 104) dX2_isInTail_100 (by decide) ?_
      refine aw_ireturn dX2_isInTail_104 rfl rfl (Nat.le_of_ble_eq_true rfl) (Nat.le_of_ble_eq_true rfl) ?_
      exact fin2 true (decide_eq_true (q.mpr (by omega)))
theorem stail_lt {S : TS} {j k sd m : Nat} (hI : SInv S) (hj : j < sN S) (hm : m ≤ sT S j + 1) : sg (fun v => if inTail S j k sd v then sC S j v else 0) m < (2 ^ 32) ^ 8 := by
  obtain ⟨-, -, -, hl⟩ := hI.2.1.2 j hj
  have a : sg (fun v => if inTail S j k sd v then sC S j v else 0) m ≤ sg (sC S j) m := sg_mono (fun i _ => by split <;> omega)
  have b : sg (sC S j) m ≤ stot S j := sg_le hm
  rw [← lim256.1]
  omega
theorem ct_X2_findTail (n : Nat) (hc : Hp) (N : NC) (X j k sd : Nat) (S : TS) (h : CS hc N X S) (hI : SInv S) (hj : j < sN S) (hk : k ≤ 120) (hsd : sd ≤ 2) : CT mX2_findTail 0 0 n (nh hc (LC X (sN S)) N) [.ref (X + 23), .ref (sob X j + 2), .int (nI k), .int (nI sd), .ref (X + 5)] (mpo n hc (LC X (sN S)) N X (fun N' => nv (LC X (sN S)) N' (X + 6) 8 (stail S j k sd) ∧ nv (LC X (sN S)) N' (X + 8) 8 (stot S j))) := by
  refine CT.intro [some (.ref (X + 23)), some (.ref (sob X j + 2)), some (.int (nI k)), some (.int (nI sd)), some (.ref (X + 5)), none] 1 rfl rfl (by decide) ?_
  intro Q hQ
  have W := LC_W X (sN S)
  have ej : sob X j = X + (158 + 10 * j) := rfl
  have hA := h.1
  have n3 := h.nv3 hI hj
  have n6 := h.nv6 hj
  have n8 := h.nv8 hI hj
  obtain ⟨-, ht, p1, pl⟩ := hI.2.1.2 _ hj
  obtain ⟨w1, w8, -⟩ := wdt_b p1 pl
  obtain ⟨g, hR, hr⟩ := h.rw hj
  have l6 : LC X (sN S) (X + 6) = 72 := L72 rfl
  have l8 : LC X (sN S) (X + 8) = 72 := L72 rfl
  have l24 : LC X (sN S) (X + 24) = 72 := L72 rfl
  have z6 : LC X (sN S) (X + 6) ≠ 0 := by rw [l6]; decide
  have z8 : LC X (sN S) (X + 8) ≠ 0 := by rw [l8]; decide
  have z24 : LC X (sN S) (X + 24) ≠ 0 := by rw [l24]; decide
  have hO := h.ou
  refine aw_aload dX2_findTail_0 rfl ?_
  refine aw_getfield fX2_35 dX2_findTail_2 (hO.at _) rfl ?_
  refine aw_invokevirtual kX2_40 dX2_findTail_5 (nh_o hc N z6) (cp_clear n hc (LC X (sN S)) N (X + 6) W hA z6) rfl rfl (Nat.le_of_ble_eq_true rfl) ⟨Nat.le_of_ble_eq_true rfl, Nat.le_of_ble_eq_true rfl⟩ ⟨Nat.le_of_ble_eq_true rfl, Nat.le_of_ble_eq_true rfl⟩ ?_
  rintro _ _ _ ⟨rfl, rfl, N1, rfl, v1, A1, f1⟩
  refine aw_aload_n (i := 0) dX2_findTail_8 rfl rfl ?_
  refine aw_getfield fX2_14 dX2_findTail_9 (h.mm _) rfl ?_
  refine aw_aload_n (i := 1) dX2_findTail_12 rfl rfl ?_
  refine aw_getfield fX2_43 dX2_findTail_13 (h.so hj _) rfl ?_
  refine aw_getfield fX2_35 dX2_findTail_16 ((h.me hj).at _) rfl ?_
  refine aw_iconst (v := 1) dX2_findTail_19 (by decide +kernel) ?_
  refine aw_invokevirtual kX2_49 dX2_findTail_20 (nh_o hc N1 z24) (cp_shift n hc (LC X (sN S)) N1 (X + 24) (sob X j + 6) _ 9 1 W A1 z24 (n6.fr (f1 _ (by omega))) (by omega) (by decide) (by rw [l24]; decide)) rfl rfl (Nat.le_of_ble_eq_true rfl) ⟨Nat.le_of_ble_eq_true rfl, Nat.le_of_ble_eq_true rfl⟩ ⟨Nat.le_of_ble_eq_true rfl, Nat.le_of_ble_eq_true rfl⟩ ?_
  rintro _ _ _ ⟨rfl, rfl, N2, rfl, v2, A2, f2⟩
  have loop : ∀ (z v : Nat) (N' : NC), v + z = sT S j + 1 → nv (LC X (sN S)) N' (X + 6) 8 (sg (fun v => if inTail S j k sd v then sC S j v else 0) v) → nv (LC X (sN S)) N' (X + 24) 10 (sS S j * 2) → NA (LC X (sN S)) N' → (∀ a, a < X + 6 ∨ X + 46 ≤ a → N' a = N a) → AW mX2_findTail (gq 0 0 Q) 26 [some (.ref (X + 23)), some (.ref (sob X j + 2)), some (.int (nI k)), some (.int (nI sd)), some (.ref (X + 5)), some (.int (nI v))] [] 0 0 n (nh hc (LC X (sN S)) N') := by
    intro z
    induction z with
    | zero =>
      intro v N' hv h6 h24 A' f'
      obtain rfl : v = sT S j + 1 := by omega
      refine aw_iload dX2_findTail_26 rfl ?_
      refine aw_aload_n (i := 1) dX2_findTail_28 rfl rfl ?_
      refine aw_getfield fX2_53 dX2_findTail_29 (h.so hj _) rfl ?_
      refine aw_getfield fX2_57 dX2_findTail_32 (h.ro hj _) rfl ?_
      refine aw_icmp_gt (tgt := 71) dX2_findTail_35 (by decide) (fun _ => ?_) (fun c => (c (nI_lt (by omega) (by omega))).elim)
      refine aw_aload dX2_findTail_71 rfl ?_
      refine aw_getfield fX2_71 dX2_findTail_73 (hO.at _) rfl ?_
      refine aw_aload_n (i := 1) dX2_findTail_76 rfl rfl ?_
      refine aw_getfield fX2_74 dX2_findTail_77 (h.so hj _) rfl ?_
      refine aw_invokevirtual kX2_77 dX2_findTail_80 (nh_o hc N' z8) (cp_copy n hc (LC X (sN S)) N' (X + 8) (sob X j + 3) _ 8 W A' z8 (n3.fr (f' _ (by omega))) (by omega) (by rw [l8]; decide)) rfl rfl (Nat.le_of_ble_eq_true rfl) ⟨Nat.le_of_ble_eq_true rfl, Nat.le_of_ble_eq_true rfl⟩ ⟨Nat.le_of_ble_eq_true rfl, Nat.le_of_ble_eq_true rfl⟩ ?_
      rintro _ _ _ ⟨rfl, rfl, N3, rfl, v3, A3, f3⟩
      refine aw_return dX2_findTail_83 rfl (Nat.le_of_ble_eq_true rfl) (Nat.le_of_ble_eq_true rfl) ?_
      exact hQ _ _ _ ⟨rfl, rfl, N3, rfl, ⟨h6.fr (f3 _ (by omega)), v3⟩, A3, fun a ha => by rw [f3 _ (by omega), f' _ ha]⟩
    | succ z ih =>
      intro v N' hv h6 h24 A' f'
      have hfit := stail_lt (k := k) (sd := sd) hI hj (show v + 1 ≤ sT S j + 1 by omega)
      rw [sg_s] at hfit
      refine aw_iload dX2_findTail_26 rfl ?_
      refine aw_aload_n (i := 1) dX2_findTail_28 rfl rfl ?_
      refine aw_getfield fX2_53 dX2_findTail_29 (h.so hj _) rfl ?_
      refine aw_getfield fX2_57 dX2_findTail_32 (h.ro hj _) rfl ?_
      refine aw_icmp_gt (tgt := 71) dX2_findTail_35 (by decide) (fun c => absurd c (nI_nlt (by omega) (by omega))) (fun _ => ?_)
      refine aw_aload_n (i := 0) dX2_findTail_38 rfl rfl ?_
      refine aw_aload_n (i := 1) dX2_findTail_39 rfl rfl ?_
      refine aw_iload dX2_findTail_40 rfl ?_
      refine aw_iload_n (i := 2) dX2_findTail_42 rfl rfl ?_
      refine aw_iload_n (i := 3) dX2_findTail_43 rfl rfl ?_
      refine aw_invokevirtual kX2_63 dX2_findTail_44 (h.mm N') (ct_X2_isInTail n hc N' N X j v k sd S h hI hj A' (by omega) hk hsd (n8.fr (f' _ (by omega))) h24) rfl rfl (Nat.le_of_ble_eq_true rfl) ⟨Nat.le_of_ble_eq_true rfl, Nat.le_of_ble_eq_true rfl⟩ ⟨Nat.le_of_ble_eq_true rfl, Nat.le_of_ble_eq_true rfl⟩ ?_
      rintro _ _ _ ⟨rfl, rfl, N3, rfl, A3, f3⟩
      by_cases hin : inTail S j k sd v = true
      · rw [hin]
        rw [if_pos hin] at hfit
        refine aw_if_eq (tgt := 65) dX2_findTail_47 (by decide) (fun c => absurd c (by decide)) (fun _ => ?_)
        refine aw_aload_n (i := 1) dX2_findTail_50 rfl rfl ?_
        refine aw_getfield fX2_53 dX2_findTail_51 (h.so hj _) rfl ?_
        refine aw_aload dX2_findTail_54 rfl ?_
        refine aw_getfield fX2_35 dX2_findTail_56 (hO.at _) rfl ?_
        refine aw_iload dX2_findTail_59 rfl ?_
        refine aw_iconst (v := 1) dX2_findTail_61 (by decide +kernel) ?_
        refine aw_invokevirtual kX2_67 dX2_findTail_62 (h.ro hj _) (npo_of A3 z6 (show _ + sC S j v * 1 < (2 ^ 32) ^ 8 by rw [Nat.mul_one]; exact hfit) (ct_X4_addTo n hc (LC X (sN S)) N3 (sob X j) (sT S j) _ v (X + 6) _ 1 g (sC S j) W hR (nr_so hj) hr (by omega) z6 (h6.fr (f3 _ (by omega))).2.1 (by rw [l6]; omega) (by decide) (by rw [l6, Nat.mul_one]; exact Nat.lt_of_lt_of_le hfit (Bp_le (by decide))))) rfl rfl (Nat.le_of_ble_eq_true rfl) ⟨Nat.le_of_ble_eq_true rfl, Nat.le_of_ble_eq_true rfl⟩ ⟨Nat.le_of_ble_eq_true rfl, Nat.le_of_ble_eq_true rfl⟩ ?_
        rintro _ _ _ ⟨rfl, rfl, N4, rfl, v4, A4, f4⟩
        refine aw_iinc_5 (c0 := 1) dX2_findTail_65 (by decide) (by decide) rfl ?_
        refine aw_goto (tgt := 26) dX2_findTail_68 (by decide) ?_
        rw [nI_1]
        refine ih (v + 1) N4 (by omega) ?_ (h24.fr (by rw [f4 _ (by omega), f3 _ (by omega)])) A4 (fun a ha => by rw [f4 _ (by omega), f3 _ (by omega), f' _ ha])
        rw [sg_s, if_pos hin]
        rw [Nat.mul_one] at v4
        exact v4
      · rw [Bool.eq_false_iff.mpr hin]
        refine aw_if_eq (tgt := 65) dX2_findTail_47 (by decide) (fun _ => ?_) (fun c => (c rfl).elim)
        refine aw_iinc_5 (c0 := 1) dX2_findTail_65 (by decide) (by decide) rfl ?_
        refine aw_goto (tgt := 26) dX2_findTail_68 (by decide) ?_
        rw [nI_1]
        refine ih (v + 1) N3 (by omega) ?_ (h24.fr (f3 _ (by omega))) A3 (fun a ha => by rw [f3 _ (by omega), f' _ ha])
        rw [sg_s, if_neg hin, Nat.add_zero]
        exact h6.fr (f3 _ (by omega))
  refine aw_iconst (v := 0) dX2_findTail_23 (by decide +kernel) ?_
  refine aw_istore_5 dX2_findTail_24 (by decide) rfl ?_
  refine loop (sT S j + 1) 0 N2 (by omega) ?_ (by have := v2; rw [Nat.pow_one] at this; exact this) A2 (fun a ha => by rw [f2 _ (by omega), f1 _ (by omega)])
  exact (v1.fr (f2 _ (by omega))).up (Nat.pow_pos (by decide))
theorem ck_tail (h : Hp) (X : Nat) (S : TS) (p s k sd : Int32) (hR : CRep h X S) (hI : SInv S) : CT mX7_tail 0 0 (cn X S) h [.ref X, .int p, .int s, .int k, .int sd] (COK X h (opTail S p s k sd)) := by
  obtain ⟨hc, N, rfl, hS⟩ := hR
  refine CT.intro [some (.ref X), some (.int p), some (.int s), some (.int k), some (.int sd), none, none] 2 rfl rfl (by decide) ?_
  intro Q hQ
  have bad : ∀ y5 y6 : Option Value, (isP p && (isS S s && (rg k 0 120 && rg sd 0 2))) = false → AW mX7_tail (gq 0 0 Q) 44 [some (.ref X), some (.int p), some (.int s), some (.int k), some (.int sd), y5, y6] [] 0 0 (cn X S) (nh hc (LC X (sN S)) N) := by
    intro y5 y6 hb
    refine aw_iconst (v := (-1)) dX7_tail_44 (by decide +kernel) ?_
    refine aw_ireturn dX7_tail_45 rfl rfl (Nat.le_of_ble_eq_true rfl) (Nat.le_of_ble_eq_true rfl) ?_
    exact hQ _ _ _ (cbad hS _ (by unfold opTail; rw [hb]; rfl))
  refine aw_aload_n (i := 0) dX7_tail_0 rfl rfl ?_
  refine aw_iload_n (i := 1) dX7_tail_1 rfl rfl ?_
  refine aw_invokevirtual kX7_191 dX7_tail_2 (hS.X0 N) (hS.placeAt (cn X S) N p) rfl rfl (Nat.le_of_ble_eq_true rfl) ⟨Nat.le_of_ble_eq_true rfl, Nat.le_of_ble_eq_true rfl⟩ ⟨Nat.le_of_ble_eq_true rfl, Nat.le_of_ble_eq_true rfl⟩ ?_
  rintro _ _ _ ⟨rfl, rfl, rfl⟩
  by_cases h1 : isP p = true
  case neg =>
    rw [if_neg h1]
    refine aw_astore_5N dX7_tail_5 (by decide) rfl ?_
    refine aw_aload_n (i := 0) dX7_tail_7 rfl rfl ?_
    refine aw_iload_n (i := 2) dX7_tail_8 rfl rfl ?_
    refine aw_invokevirtual kX7_135 dX7_tail_9 (hS.X0 N) (hS.sourceAt hI (cn X S) N s) rfl rfl (Nat.le_of_ble_eq_true rfl) ⟨Nat.le_of_ble_eq_true rfl, Nat.le_of_ble_eq_true rfl⟩ ⟨Nat.le_of_ble_eq_true rfl, Nat.le_of_ble_eq_true rfl⟩ ?_
    rintro _ _ _ ⟨rfl, rfl, rfl⟩
    by_cases h2 : isS S s = true
    · rw [if_pos h2]
      refine aw_astore_6 dX7_tail_12 (by decide) rfl ?_
      refine aw_aloadN dX7_tail_14 rfl ?_
      refine aw_ifnullN (tgt := 44) dX7_tail_16 (by decide) ?_
      exact bad _ _ (by simp [h1])
    · rw [if_neg h2]
      refine aw_astore_6N dX7_tail_12 (by decide) rfl ?_
      refine aw_aloadN dX7_tail_14 rfl ?_
      refine aw_ifnullN (tgt := 44) dX7_tail_16 (by decide) ?_
      exact bad _ _ (by simp [h1])
  rw [if_pos h1]
  refine aw_astore_5 dX7_tail_5 (by decide) rfl ?_
  refine aw_aload_n (i := 0) dX7_tail_7 rfl rfl ?_
  refine aw_iload_n (i := 2) dX7_tail_8 rfl rfl ?_
  refine aw_invokevirtual kX7_135 dX7_tail_9 (hS.X0 N) (hS.sourceAt hI (cn X S) N s) rfl rfl (Nat.le_of_ble_eq_true rfl) ⟨Nat.le_of_ble_eq_true rfl, Nat.le_of_ble_eq_true rfl⟩ ⟨Nat.le_of_ble_eq_true rfl, Nat.le_of_ble_eq_true rfl⟩ ?_
  rintro _ _ _ ⟨rfl, rfl, rfl⟩
  by_cases h2 : isS S s = true
  case neg =>
    rw [if_neg h2]
    refine aw_astore_6N dX7_tail_12 (by decide) rfl ?_
    refine aw_aload dX7_tail_14 rfl ?_
    refine aw_ifnull dX7_tail_16 ?_
    refine aw_aloadN dX7_tail_19 rfl ?_
    refine aw_ifnullN (tgt := 44) dX7_tail_21 (by decide) ?_
    exact bad _ _ (by simp [h2])
  rw [if_pos h2]
  refine aw_astore_6 dX7_tail_12 (by decide) rfl ?_
  refine aw_aload dX7_tail_14 rfl ?_
  refine aw_ifnull dX7_tail_16 ?_
  refine aw_aload dX7_tail_19 rfl ?_
  refine aw_ifnull dX7_tail_21 ?_
  refine aw_iload_n (i := 3) dX7_tail_24 rfl rfl ?_
  refine aw_iconst (v := 0) dX7_tail_25 (by decide +kernel) ?_
  refine aw_bipush (v := 120) dX7_tail_26 (by decide +kernel) ?_
  refine aw_invokestatic kX7_88 dX7_tail_28 (ct_out (b := 120) _ (nh hc (LC X (sN S)) N) k 0 120 toInt_lit0 (by decide +kernel)) rfl rfl (Nat.le_of_ble_eq_true rfl) ⟨Nat.le_of_ble_eq_true rfl, Nat.le_of_ble_eq_true rfl⟩ ⟨Nat.le_of_ble_eq_true rfl, Nat.le_of_ble_eq_true rfl⟩ ?_
  rintro _ _ _ ⟨rfl, rfl, rfl⟩
  by_cases h3 : rg k 0 120 = true
  case neg =>
    refine aw_if_ne (tgt := 44) dX7_tail_31 (by decide) (fun _ => ?_) (fun c => ((bn0 h3) c).elim)
    exact bad _ _ (by simp [h3])
  refine aw_if_ne (tgt := 44) dX7_tail_31 (by decide) (fun c => absurd c (fun e => e (bn1 h3))) (fun _ => ?_)
  refine aw_iload dX7_tail_34 rfl ?_
  refine aw_iconst (v := 0) dX7_tail_36 (by decide +kernel) ?_
  refine aw_iconst (v := 2) dX7_tail_37 (by decide +kernel) ?_
  refine aw_invokestatic kX7_88 dX7_tail_38 (ct_out (b := 2) _ (nh hc (LC X (sN S)) N) sd 0 2 toInt_lit0 (by decide +kernel)) rfl rfl (Nat.le_of_ble_eq_true rfl) ⟨Nat.le_of_ble_eq_true rfl, Nat.le_of_ble_eq_true rfl⟩ ⟨Nat.le_of_ble_eq_true rfl, Nat.le_of_ble_eq_true rfl⟩ ?_
  rintro _ _ _ ⟨rfl, rfl, rfl⟩
  by_cases h4 : rg sd 0 2 = true
  case neg =>
    refine aw_if_eq (tgt := 46) dX7_tail_41 (by decide) (fun c => absurd c (bn0 h4)) (fun _ => ?_)
    exact bad _ _ (by simp [h4])
  obtain ⟨ep, hp⟩ := isP_N h1
  obtain ⟨es, -, -, hs⟩ := rg_N h2 (by decide)
  obtain ⟨ek, -, -, hk⟩ := rg_N h3 (by decide)
  obtain ⟨ed, -, -, hd⟩ := rg_N h4 (by decide)
  have hj : tN s < sN S := by omega
  have p1 := (hI.2.1.2 _ hj).2.2.1
  have hop : opTail S p s k sd = putP S (tN p) (stail S (tN s) (tN k) (tN sd)) (stot S (tN s)) := by unfold opTail; rw [h1, h2, h3, h4]; rfl
  rw [hop] at hQ
  clear bad
  generalize tN s = j at *
  generalize tN p = p' at *
  generalize tN k = k' at *
  generalize tN sd = sd' at *
  subst ek ed
  refine aw_if_eq (tgt := 46) dX7_tail_41 (by decide) (fun _ => ?_) (fun c => (c (bn1 h4)).elim)
  refine aw_aload_n (i := 0) dX7_tail_46 rfl rfl ?_
  refine aw_getfield fX7_52 dX7_tail_47 (hS.X0 N) rfl ?_
  refine aw_aload dX7_tail_50 rfl ?_
  refine aw_iload_n (i := 3) dX7_tail_52 rfl rfl ?_
  refine aw_iload dX7_tail_53 rfl ?_
  refine aw_aload_n (i := 0) dX7_tail_55 rfl rfl ?_
  refine aw_getfield fX7_31 dX7_tail_56 (hS.X0 N) rfl ?_
  refine aw_invokevirtual kX7_215 dX7_tail_59 (hS.mm N) (ct_X2_findTail (cn X S) hc N X j k' sd' S hS hI hj (by omega) (by omega)) rfl rfl (Nat.le_of_ble_eq_true rfl) ⟨Nat.le_of_ble_eq_true rfl, Nat.le_of_ble_eq_true rfl⟩ ⟨Nat.le_of_ble_eq_true rfl, Nat.le_of_ble_eq_true rfl⟩ ?_
  rintro _ _ _ ⟨rfl, rfl, N1, rfl, ⟨v6, v8⟩, A1, f1⟩
  have hS1 := hS.numK A1 f1
  refine aw_aload_n (i := 0) dX7_tail_62 rfl rfl ?_
  refine aw_aload dX7_tail_63 rfl ?_
  refine aw_invokevirtual kX7_197 dX7_tail_65 (hS1.X0 N1) (cp_settle (cn X S) hc N1 X S p' _ _ 8 8 hS1 hp v6 v8 p1 (by decide) (by decide)) rfl rfl (Nat.le_of_ble_eq_true rfl) ⟨Nat.le_of_ble_eq_true rfl, Nat.le_of_ble_eq_true rfl⟩ ⟨Nat.le_of_ble_eq_true rfl, Nat.le_of_ble_eq_true rfl⟩ ?_
  rintro _ _ h' ⟨rfl, rfl, hR', hF⟩
  refine aw_ireturn dX7_tail_68 rfl rfl (Nat.le_of_ble_eq_true rfl) (Nat.le_of_ble_eq_true rfl) ?_
  refine hQ _ _ _ ⟨?_, rfl, hR', fun y h1 h2 => by rw [hF y h1 h2]; exact cfr_nh (fun _ _ _ => rfl) y h1 h2⟩
  unfold cn; rw [putP_N]
