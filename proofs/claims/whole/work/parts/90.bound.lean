theorem ct_X2_isAboveMean (n : Nat) (hc : Hp) (N : NC) (X j k : Nat) (S : TS) (h : CS hc N X S) (hI : SInv S) (hj : j < sN S) (hk : k ≤ 120) : CT mX2_isAboveMean 0 0 n (nh hc (LC X (sN S)) N) [.ref (X + 23), .ref (sob X j + 2), .int (nI k)] (fun r n' h' => r = some (.int (bI (decide (sS S j < tS S j * k)))) ∧ n = n' ∧ ∃ N', h' = nh hc (LC X (sN S)) N' ∧ NA (LC X (sN S)) N' ∧ ∀ a, a < X + 6 ∨ X + 46 ≤ a → N' a = N a) := by
  refine CT.intro [some (.ref (X + 23)), some (.ref (sob X j + 2)), some (.int (nI k))] 0 rfl rfl (by decide) ?_
  intro Q hQ
  have W := LC_W X (sN S)
  have ej : sob X j = X + (158 + 10 * j) := rfl
  have hA := h.1
  have n6 := h.nv6 hj
  have n8 := h.nv8 hI hj
  have l26 : LC X (sN S) (X + 26) = 72 := L72 rfl
  have z26 : LC X (sN S) (X + 26) ≠ 0 := by rw [l26]; decide
  refine aw_aload_n (i := 0) dX2_isAboveMean_0 rfl rfl ?_
  refine aw_getfield fX2_20 dX2_isAboveMean_1 (h.mm _) rfl ?_
  refine aw_aload_n (i := 1) dX2_isAboveMean_4 rfl rfl ?_
  refine aw_getfield fX2_43 dX2_isAboveMean_5 (h.so hj _) rfl ?_
  refine aw_getfield fX2_71 dX2_isAboveMean_8 ((h.me hj).at _) rfl ?_
  refine aw_invokevirtual kX2_77 dX2_isAboveMean_11 (nh_o hc N z26) (cp_copy n hc (LC X (sN S)) N (X + 26) (sob X j + 8) _ 8 W hA z26 n8 (by omega) (by rw [l26]; decide)) rfl rfl (Nat.le_of_ble_eq_true rfl) ⟨Nat.le_of_ble_eq_true rfl, Nat.le_of_ble_eq_true rfl⟩ ⟨Nat.le_of_ble_eq_true rfl, Nat.le_of_ble_eq_true rfl⟩ ?_
  rintro _ _ _ ⟨rfl, rfl, N1, rfl, v1, A1, f1⟩
  refine aw_aload_n (i := 0) dX2_isAboveMean_14 rfl rfl ?_
  refine aw_getfield fX2_20 dX2_isAboveMean_15 (h.mm _) rfl ?_
  refine aw_iload_n (i := 2) dX2_isAboveMean_18 rfl rfl ?_
  refine aw_i2l dX2_isAboveMean_19 rfl ?_
  rw [nI_l (by omega)]
  refine aw_invokevirtual kX2_81 dX2_isAboveMean_20 (nh_o hc N1 z26) (cp_scale n hc (LC X (sN S)) N1 (X + 26) _ k 8 W A1 v1 (by omega) (by rw [l26]; decide)) rfl rfl (Nat.le_of_ble_eq_true rfl) ⟨Nat.le_of_ble_eq_true rfl, Nat.le_of_ble_eq_true rfl⟩ ⟨Nat.le_of_ble_eq_true rfl, Nat.le_of_ble_eq_true rfl⟩ ?_
  rintro _ _ _ ⟨rfl, rfl, N2, rfl, v2, A2, f2⟩
  refine aw_aload_n (i := 0) dX2_isAboveMean_23 rfl rfl ?_
  refine aw_getfield fX2_20 dX2_isAboveMean_24 (h.mm _) rfl ?_
  refine aw_aload_n (i := 1) dX2_isAboveMean_27 rfl rfl ?_
  refine aw_getfield fX2_43 dX2_isAboveMean_28 (h.so hj _) rfl ?_
  refine aw_getfield fX2_35 dX2_isAboveMean_31 ((h.me hj).at _) rfl ?_
  refine aw_invokevirtual kX2_85 dX2_isAboveMean_34 (nh_o hc N2 z26) (cp_against n hc (LC X (sN S)) N2 (X + 26) (sob X j + 6) _ _ 9 9 W v2 (n6.fr (by rw [f2 _ (by omega), f1 _ (by omega)]))) rfl rfl (Nat.le_of_ble_eq_true rfl) ⟨Nat.le_of_ble_eq_true rfl, Nat.le_of_ble_eq_true rfl⟩ ⟨Nat.le_of_ble_eq_true rfl, Nat.le_of_ble_eq_true rfl⟩ ?_
  rintro _ _ _ ⟨rfl, rfl, rfl⟩
  have ff : ∀ a, a < X + 6 ∨ X + 46 ≤ a → N2 a = N a := fun a ha => by rw [f2 _ (by omega), f1 _ (by omega)]
  by_cases hc1 : sS S j < tS S j * k
  · refine aw_if_le (tgt := 44) dX2_isAboveMean_37 (by decide) (fun c => absurd c (fun z => absurd hc1 (by have := cmp_le0.mp z; omega))) (fun _ => ?_)
    refine aw_iconst (v := 1) dX2_isAboveMean_40 (by decide +kernel) ?_
    refine aw_goto (tgt := 45) dX2_isAboveMean_41 (by decide) ?_
    refine aw_ireturn dX2_isAboveMean_45 rfl rfl (Nat.le_of_ble_eq_true rfl) (Nat.le_of_ble_eq_true rfl) ?_
    exact hQ _ _ _ ⟨by rw [decide_eq_true hc1]; rfl, rfl, N2, rfl, A2, ff⟩
  · refine aw_if_le (tgt := 44) dX2_isAboveMean_37 (by decide) (fun _ => ?_) (fun c => (c (cmp_le0.mpr (by omega))).elim)
    refine aw_iconst (v := 0) dX2_isAboveMean_44 (by decide +kernel) ?_
    refine aw_ireturn dX2_isAboveMean_45 rfl rfl (Nat.le_of_ble_eq_true rfl) (Nat.le_of_ble_eq_true rfl) ?_
    exact hQ _ _ _ ⟨by rw [decide_eq_false hc1]; rfl, rfl, N2, rfl, A2, ff⟩
theorem ct_X2_boundByMean (n : Nat) (hc : Hp) (N : NC) (X j k : Nat) (S : TS) (h : CS hc N X S) (hI : SInv S) (hj : j < sN S) (hk : k ≤ 120) : CT mX2_boundByMean 0 0 n (nh hc (LC X (sN S)) N) [.ref (X + 23), .ref (sob X j + 2), .int (nI k), .ref (X + 5)] (mpo n hc (LC X (sN S)) N X (fun N' => nv (LC X (sN S)) N' (X + 6) 9 (sS S j) ∧ nv (LC X (sN S)) N' (X + 8) 9 (tS S j * k))) := by
  refine CT.intro [some (.ref (X + 23)), some (.ref (sob X j + 2)), some (.int (nI k)), some (.ref (X + 5))] 0 rfl rfl (by decide) ?_
  intro Q hQ
  have W := LC_W X (sN S)
  have ej : sob X j = X + (158 + 10 * j) := rfl
  have hA := h.1
  have n6 := h.nv6 hj
  have n8 := h.nv8 hI hj
  have l6 : LC X (sN S) (X + 5 + 1) = 72 := L72 (c := 6) rfl
  have l8 : LC X (sN S) (X + 5 + 3) = 72 := L72 (c := 8) rfl
  have z6 : LC X (sN S) (X + 6) ≠ 0 := by rw [show X + 6 = X + 5 + 1 from rfl, l6]; decide
  have z8 : LC X (sN S) (X + 8) ≠ 0 := by rw [show X + 8 = X + 5 + 3 from rfl, l8]; decide
  have hO := h.ou
  refine aw_aload_n (i := 3) dX2_boundByMean_0 rfl rfl ?_
  refine aw_aload_n (i := 1) dX2_boundByMean_1 rfl rfl ?_
  refine aw_getfield fX2_43 dX2_boundByMean_2 (h.so hj _) rfl ?_
  refine aw_invokevirtual kX2_103 dX2_boundByMean_5 (hO.at N) (ct_X1_copy n hc (LC X (sN S)) N (X + 5) (sob X j + 5) 0 0 _ _ W hO (h.me hj) hA (by omega) (by omega) (by omega) n6.2.1 n8.2.1 (by rw [l6]; exact Nat.lt_of_lt_of_le n6.2.2 (Bp_le (by decide))) (by rw [l8]; exact Nat.lt_of_lt_of_le n8.2.2 (Bp_le (by decide)))) rfl rfl (Nat.le_of_ble_eq_true rfl) ⟨Nat.le_of_ble_eq_true rfl, Nat.le_of_ble_eq_true rfl⟩ ⟨Nat.le_of_ble_eq_true rfl, Nat.le_of_ble_eq_true rfl⟩ ?_
  rintro _ _ _ ⟨rfl, rfl, N1, rfl, d6, d8, f1⟩
  have A1 := hA.two d6 d8 f1
  refine aw_aload_n (i := 3) dX2_boundByMean_8 rfl rfl ?_
  refine aw_getfield fX2_71 dX2_boundByMean_9 (hO.at _) rfl ?_
  refine aw_iload_n (i := 2) dX2_boundByMean_12 rfl rfl ?_
  refine aw_i2l dX2_boundByMean_13 rfl ?_
  rw [nI_l (by omega)]
  refine aw_invokevirtual kX2_81 dX2_boundByMean_14 (nh_o hc N1 z8) (cp_scale n hc (LC X (sN S)) N1 (X + 8) _ k 8 W A1 ⟨z8, d8, n8.2.2⟩ (by omega) (by rw [show X + 8 = X + 5 + 3 from rfl, l8]; decide)) rfl rfl (Nat.le_of_ble_eq_true rfl) ⟨Nat.le_of_ble_eq_true rfl, Nat.le_of_ble_eq_true rfl⟩ ⟨Nat.le_of_ble_eq_true rfl, Nat.le_of_ble_eq_true rfl⟩ ?_
  rintro _ _ _ ⟨rfl, rfl, N2, rfl, v2, A2, f2⟩
  refine aw_return dX2_boundByMean_17 rfl (Nat.le_of_ble_eq_true rfl) (Nat.le_of_ble_eq_true rfl) ?_
  exact hQ _ _ _ ⟨rfl, rfl, N2, rfl, ⟨⟨z6, by rw [f2 _ (by omega)]; exact d6, n6.2.2⟩, v2⟩, A2, fun a ha => by rw [f2 _ (by omega), f1 _ (by omega) (by omega)]⟩
theorem ct_X2_boundByMoment (n : Nat) (hc : Hp) (N : NC) (X j k kd e : Nat) (S : TS) (h : CS hc N X S) (hI : SInv S) (hj : j < sN S) (hk : k ≤ 120) (hkd : kd ≤ 3) (he : e = if kd = 2 then 4 else 2) (hs : sS S j < tS S j * k) : CT mX2_boundByMoment 0 0 n (nh hc (LC X (sN S)) N) [.ref (X + 23), .ref (sob X j + 2), .int (nI k), .int (nI kd), .ref (X + 5)] (mpo n hc (LC X (sN S)) N X (fun N' => nv (LC X (sN S)) N' (X + 6) 45 (spr S j e) ∧ nv (LC X (sN S)) N' (X + 8) 46 ((tS S j * k - sS S j) ^ e * stot S j + (if kd = 3 then spr S j e else 0)))) := by
  refine CT.intro [some (.ref (X + 23)), some (.ref (sob X j + 2)), some (.int (nI k)), some (.int (nI kd)), some (.ref (X + 5))] 0 rfl rfl (by decide) ?_
  intro Q hQ
  have W := LC_W X (sN S)
  have ej : sob X j = X + (158 + 10 * j) := rfl
  have n3 := h.nv3 hI hj
  have n6 := h.nv6 hj
  have n8 := h.nv8 hI hj
  have l8 : LC X (sN S) (X + 8) = 72 := L72 rfl
  have l26 : LC X (sN S) (X + 26) = 72 := L72 rfl
  have z8 : LC X (sN S) (X + 8) ≠ 0 := by rw [l8]; decide
  have z26 : LC X (sN S) (X + 26) ≠ 0 := by rw [l26]; decide
  have hO := h.ou
  have he2 : e = 2 ∨ e = 4 := by rw [he]; split <;> simp
  have after : ∀ N1 : NC, nv (LC X (sN S)) N1 (X + 6) 45 (spr S j e) → NA (LC X (sN S)) N1 → (∀ k, k < X + 6 ∨ X + 46 ≤ k → N1 k = N k) → AW mX2_boundByMoment (gq 0 0 Q) 28 [some (.ref (X + 23)), some (.ref (sob X j + 2)), some (.int (nI k)), some (.int (nI kd)), some (.ref (X + 5))] [] 0 0 n (nh hc (LC X (sN S)) N1) := by
    intro N1 v1 A1 f1
    refine aw_aload_n (i := 0) dX2_boundByMoment_28 rfl rfl ?_
    refine aw_getfield fX2_20 dX2_boundByMoment_29 (h.mm _) rfl ?_
    refine aw_aload_n (i := 1) dX2_boundByMoment_32 rfl rfl ?_
    refine aw_getfield fX2_43 dX2_boundByMoment_33 (h.so hj _) rfl ?_
    refine aw_getfield fX2_71 dX2_boundByMoment_36 ((h.me hj).at _) rfl ?_
    refine aw_invokevirtual kX2_77 dX2_boundByMoment_39 (nh_o hc N1 z26) (cp_copy n hc (LC X (sN S)) N1 (X + 26) (sob X j + 8) _ 8 W A1 z26 (n8.fr (f1 _ (by omega))) (by omega) (by rw [l26]; decide)) rfl rfl (Nat.le_of_ble_eq_true rfl) ⟨Nat.le_of_ble_eq_true rfl, Nat.le_of_ble_eq_true rfl⟩ ⟨Nat.le_of_ble_eq_true rfl, Nat.le_of_ble_eq_true rfl⟩ ?_
    rintro _ _ _ ⟨rfl, rfl, N2, rfl, v2, A2, f2⟩
    refine aw_aload_n (i := 0) dX2_boundByMoment_42 rfl rfl ?_
    refine aw_getfield fX2_20 dX2_boundByMoment_43 (h.mm _) rfl ?_
    refine aw_iload_n (i := 2) dX2_boundByMoment_46 rfl rfl ?_
    refine aw_i2l dX2_boundByMoment_47 rfl ?_
    rw [nI_l (by omega)]
    refine aw_invokevirtual kX2_81 dX2_boundByMoment_48 (nh_o hc N2 z26) (cp_scale n hc (LC X (sN S)) N2 (X + 26) _ k 8 W A2 v2 (by omega) (by rw [l26]; decide)) rfl rfl (Nat.le_of_ble_eq_true rfl) ⟨Nat.le_of_ble_eq_true rfl, Nat.le_of_ble_eq_true rfl⟩ ⟨Nat.le_of_ble_eq_true rfl, Nat.le_of_ble_eq_true rfl⟩ ?_
    rintro _ _ _ ⟨rfl, rfl, N3, rfl, v3, A3, f3⟩
    refine aw_aload_n (i := 0) dX2_boundByMoment_51 rfl rfl ?_
    refine aw_getfield fX2_20 dX2_boundByMoment_52 (h.mm _) rfl ?_
    refine aw_aload_n (i := 1) dX2_boundByMoment_55 rfl rfl ?_
    refine aw_getfield fX2_43 dX2_boundByMoment_56 (h.so hj _) rfl ?_
    refine aw_getfield fX2_35 dX2_boundByMoment_59 ((h.me hj).at _) rfl ?_
    refine aw_invokevirtual kX2_106 dX2_boundByMoment_62 (nh_o hc N3 z26) (cp_sub n hc (LC X (sN S)) N3 (X + 26) (sob X j + 6) _ _ 9 9 W A3 v3 (n6.fr (by rw [f3 _ (by omega), f2 _ (by omega), f1 _ (by omega)])) (by omega) (Nat.le_of_lt hs)) rfl rfl (Nat.le_of_ble_eq_true rfl) ⟨Nat.le_of_ble_eq_true rfl, Nat.le_of_ble_eq_true rfl⟩ ⟨Nat.le_of_ble_eq_true rfl, Nat.le_of_ble_eq_true rfl⟩ ?_
    rintro _ _ _ ⟨rfl, rfl, N4, rfl, v4, A4, f4⟩
    have go80 : AW mX2_boundByMoment (gq 0 0 Q) 80 [some (.ref (X + 23)), some (.ref (sob X j + 2)), some (.int (nI k)), some (.int (nI kd)), some (.ref (X + 5))] [.int (nI e), .ref (X + 26), .ref (X + 23)] 0 0 n (nh hc (LC X (sN S)) N4) := by
      refine aw_invokevirtual kX2_96 dX2_boundByMoment_80 (h.mm N4) (ct_X2_raise n hc N4 N X e _ 9 S h A4 he2 v4 (by omega)) rfl rfl (Nat.le_of_ble_eq_true rfl) ⟨Nat.le_of_ble_eq_true rfl, Nat.le_of_ble_eq_true rfl⟩ ⟨Nat.le_of_ble_eq_true rfl, Nat.le_of_ble_eq_true rfl⟩ ?_
      rintro _ _ _ ⟨rfl, rfl, N5, rfl, v5, A5, f5⟩
      refine aw_aload dX2_boundByMoment_83 rfl ?_
      refine aw_getfield fX2_71 dX2_boundByMoment_85 (hO.at _) rfl ?_
      refine aw_aload_n (i := 0) dX2_boundByMoment_88 rfl rfl ?_
      refine aw_getfield fX2_20 dX2_boundByMoment_89 (h.mm _) rfl ?_
      refine aw_aload_n (i := 1) dX2_boundByMoment_92 rfl rfl ?_
      refine aw_getfield fX2_74 dX2_boundByMoment_93 (h.so hj _) rfl ?_
      refine aw_invokevirtual kX2_99 dX2_boundByMoment_96 (nh_o hc N5 z8) (cp_prod n hc (LC X (sN S)) N5 (X + 8) (X + 26) (sob X j + 3) _ _ (e * 9) 8 W A5 z8 v5 (n3.fr (by rw [f5 _ (by omega) (by omega), f4 _ (by omega), f3 _ (by omega), f2 _ (by omega), f1 _ (by omega)])) (by omega) (by omega) (by rw [l8]; omega)) rfl rfl (Nat.le_of_ble_eq_true rfl) ⟨Nat.le_of_ble_eq_true rfl, Nat.le_of_ble_eq_true rfl⟩ ⟨Nat.le_of_ble_eq_true rfl, Nat.le_of_ble_eq_true rfl⟩ ?_
      rintro _ _ _ ⟨rfl, rfl, N6, rfl, v6, A6, f6⟩
      have v1' := v1.fr (N' := N6) (by rw [f6 _ (by omega), f5 _ (by omega) (by omega), f4 _ (by omega), f3 _ (by omega), f2 _ (by omega)])
      have ff : ∀ a, a < X + 6 ∨ X + 46 ≤ a → N6 a = N a := fun a ha => by rw [f6 _ (by omega), f5 _ (by omega) (by omega), f4 _ (by omega), f3 _ (by omega), f2 _ (by omega), f1 _ ha]
      by_cases k3 : kd = 3
      · refine aw_iload_n (i := 3) dX2_boundByMoment_99 rfl rfl ?_
        refine aw_iconst (v := 3) dX2_boundByMoment_100 (by decide +kernel) ?_
        refine aw_icmp_ne (tgt := 117) dX2_boundByMoment_101 (by decide) (fun c => absurd c (fun c => c (by rw [k3]; rfl))) (fun _ => ?_)
        refine aw_aload dX2_boundByMoment_104 rfl ?_
        refine aw_getfield fX2_71 dX2_boundByMoment_106 (hO.at _) rfl ?_
        refine aw_aload dX2_boundByMoment_109 rfl ?_
        refine aw_getfield fX2_35 dX2_boundByMoment_111 (hO.at _) rfl ?_
        refine aw_invokevirtual kX2_109 dX2_boundByMoment_114 (nh_o hc N6 z8) (cp_add n hc (LC X (sN S)) N6 (X + 8) (X + 6) _ _ (e * 9 + 8) 45 46 W A6 v6 v1' (by omega) (by omega) (by decide) (by rw [l8]; decide)) rfl rfl (Nat.le_of_ble_eq_true rfl) ⟨Nat.le_of_ble_eq_true rfl, Nat.le_of_ble_eq_true rfl⟩ ⟨Nat.le_of_ble_eq_true rfl, Nat.le_of_ble_eq_true rfl⟩ ?_
        rintro _ _ _ ⟨rfl, rfl, N7, rfl, v7, A7, f7⟩
        refine aw_return dX2_boundByMoment_117 rfl (Nat.le_of_ble_eq_true rfl) (Nat.le_of_ble_eq_true rfl) ?_
        refine hQ _ _ _ ⟨rfl, rfl, N7, rfl, ⟨v1'.fr (f7 _ (by omega)), ?_⟩, A7, fun a ha => by rw [f7 _ (by omega), ff _ ha]⟩
        rw [if_pos k3]; exact v7
      · refine aw_iload_n (i := 3) dX2_boundByMoment_99 rfl rfl ?_
        refine aw_iconst (v := 3) dX2_boundByMoment_100 (by decide +kernel) ?_
        refine aw_icmp_ne (tgt := 117) dX2_boundByMoment_101 (by decide) (fun _ => ?_) (fun c => ((fun c => k3 ((nI_eq (b := 3) (by omega) (by decide)).mp c)) c).elim)
        refine aw_return dX2_boundByMoment_117 rfl (Nat.le_of_ble_eq_true rfl) (Nat.le_of_ble_eq_true rfl) ?_
        refine hQ _ _ _ ⟨rfl, rfl, N6, rfl, ⟨v1', ?_⟩, A6, ff⟩
        rw [if_neg k3, Nat.add_zero]
        exact v6.up (Nat.lt_of_lt_of_le v6.2.2 (Bp_le (by omega)))
    by_cases k2 : kd = 2
    · rw [if_pos k2] at he
      refine aw_aload_n (i := 0) dX2_boundByMoment_65 rfl rfl ?_
      refine aw_aload_n (i := 0) dX2_boundByMoment_66 rfl rfl ?_
      refine aw_getfield fX2_20 dX2_boundByMoment_67 (h.mm _) rfl ?_
      refine aw_iload_n (i := 3) dX2_boundByMoment_70 rfl rfl ?_
      refine aw_iconst (v := 2) dX2_boundByMoment_71 (by decide +kernel) ?_
      refine aw_icmp_ne (tgt := 79) dX2_boundByMoment_72 (by decide) (fun c => absurd c (fun c => c (by rw [k2]; rfl))) (fun _ => ?_)
      refine aw_iconst (v := 4) dX2_boundByMoment_75 (by decide +kernel) ?_
      refine aw_goto (tgt := 80) dX2_boundByMoment_76 (by decide) ?_
      rw [he] at go80
      exact go80
    · rw [if_neg k2] at he
      refine aw_aload_n (i := 0) dX2_boundByMoment_65 rfl rfl ?_
      refine aw_aload_n (i := 0) dX2_boundByMoment_66 rfl rfl ?_
      refine aw_getfield fX2_20 dX2_boundByMoment_67 (h.mm _) rfl ?_
      refine aw_iload_n (i := 3) dX2_boundByMoment_70 rfl rfl ?_
      refine aw_iconst (v := 2) dX2_boundByMoment_71 (by decide +kernel) ?_
      refine aw_icmp_ne (tgt := 79) dX2_boundByMoment_72 (by decide) (fun _ => ?_) (fun c => ((fun c => k2 ((nI_eq (b := 2) (by omega) (by decide)).mp c)) c).elim)
      refine aw_iconst (v := 2) dX2_boundByMoment_79 (by decide +kernel) ?_
      rw [he] at go80
      exact go80
  by_cases k2 : kd = 2
  · rw [if_pos k2] at he
    refine aw_iload_n (i := 3) dX2_boundByMoment_0 rfl rfl ?_
    refine aw_iconst (v := 2) dX2_boundByMoment_1 (by decide +kernel) ?_
    refine aw_icmp_ne (tgt := 18) dX2_boundByMoment_2 (by decide) (fun c => absurd c (fun c => c (by rw [k2]; rfl))) (fun _ => ?_)
    refine aw_aload_n (i := 0) dX2_boundByMoment_5 rfl rfl ?_
    refine aw_aload_n (i := 1) dX2_boundByMoment_6 rfl rfl ?_
    refine aw_aload dX2_boundByMoment_7 rfl ?_
    refine aw_getfield fX2_35 dX2_boundByMoment_9 (hO.at _) rfl ?_
    refine aw_invokevirtual kX2_93 dX2_boundByMoment_12 (h.mm N) (ct_X2_spreadOfFour n hc N X j S h hI hj) rfl rfl (Nat.le_of_ble_eq_true rfl) ⟨Nat.le_of_ble_eq_true rfl, Nat.le_of_ble_eq_true rfl⟩ ⟨Nat.le_of_ble_eq_true rfl, Nat.le_of_ble_eq_true rfl⟩ ?_
    rintro _ _ _ ⟨rfl, rfl, N1, rfl, v1, A1, f1⟩
    refine aw_goto (tgt := 28) dX2_boundByMoment_15 (by decide) ?_
    exact after N1 (by rw [he]; exact v1) A1 f1
  · rw [if_neg k2] at he
    refine aw_iload_n (i := 3) dX2_boundByMoment_0 rfl rfl ?_
    refine aw_iconst (v := 2) dX2_boundByMoment_1 (by decide +kernel) ?_
    refine aw_icmp_ne (tgt := 18) dX2_boundByMoment_2 (by decide) (fun _ => ?_) (fun c => ((fun c => k2 ((nI_eq (b := 2) (by omega) (by decide)).mp c)) c).elim)
    refine aw_aload_n (i := 0) dX2_boundByMoment_18 rfl rfl ?_
    refine aw_aload_n (i := 1) dX2_boundByMoment_19 rfl rfl ?_
    refine aw_aload dX2_boundByMoment_20 rfl ?_
    refine aw_getfield fX2_35 dX2_boundByMoment_22 (hO.at _) rfl ?_
    refine aw_invokevirtual kX2_89 dX2_boundByMoment_25 (h.mm N) (ct_X2_spreadOfTwo n hc N X j S h hI hj) rfl rfl (Nat.le_of_ble_eq_true rfl) ⟨Nat.le_of_ble_eq_true rfl, Nat.le_of_ble_eq_true rfl⟩ ⟨Nat.le_of_ble_eq_true rfl, Nat.le_of_ble_eq_true rfl⟩ ?_
    rintro _ _ _ ⟨rfl, rfl, N1, rfl, v1, A1, f1⟩
    exact after N1 (by rw [he]; exact v1) A1 f1
