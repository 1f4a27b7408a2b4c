def mpo (n : Nat) (hc : Hp) (L : Nat → Nat) (N : NC) (X : Nat) (P : NC → Prop) : Option Value → Nat → Hp → Prop := pv n (fun h' => ∃ N', h' = nh hc L N' ∧ P N' ∧ NA L N' ∧ ∀ k, k < X + 6 ∨ X + 46 ≤ k → N' k = N k)
theorem ct_X2_spreadOfTwo (n : Nat) (hc : Hp) (N : NC) (X j : Nat) (S : TS) (h : CS hc N X S) (hI : SInv S) (hj : j < sN S) : CT mX2_spreadOfTwo 0 0 n (nh hc (LC X (sN S)) N) [.ref (X + 23), .ref (sob X j + 2), .ref (X + 6)] (mpo n hc (LC X (sN S)) N X (fun N' => nv (LC X (sN S)) N' (X + 6) 45 (spr S j 2))) := by
  refine CT.intro [some (.ref (X + 23)), some (.ref (sob X j + 2)), some (.ref (X + 6))] 0 rfl rfl (by decide) ?_
  intro Q hQ
  have W := LC_W X (sN S)
  have ej : sob X j = X + (158 + 10 * j) := rfl
  have hA := h.1
  have n3 := h.nv3 hI hj
  have n6 := h.nv6 hj
  have n8 := h.nv8 hI hj
  have l6 : LC X (sN S) (X + 6) = 72 := L72 rfl
  have l24 : LC X (sN S) (X + 24) = 72 := L72 rfl
  have l26 : LC X (sN S) (X + 26) = 72 := L72 rfl
  have z6 : LC X (sN S) (X + 6) ≠ 0 := by rw [l6]; decide
  have z24 : LC X (sN S) (X + 24) ≠ 0 := by rw [l24]; decide
  have z26 : LC X (sN S) (X + 26) ≠ 0 := by rw [l26]; decide
  refine aw_aload_n (i := 0) dX2_spreadOfTwo_0 rfl rfl ?_
  refine aw_getfield fX2_14 dX2_spreadOfTwo_1 (h.mm _) rfl ?_
  refine aw_aload_n (i := 1) dX2_spreadOfTwo_4 rfl rfl ?_
  refine aw_getfield fX2_43 dX2_spreadOfTwo_5 (h.so hj _) rfl ?_
  refine aw_getfield fX2_71 dX2_spreadOfTwo_8 ((h.me hj).at _) rfl ?_
  refine aw_aload_n (i := 1) dX2_spreadOfTwo_11 rfl rfl ?_
  refine aw_getfield fX2_43 dX2_spreadOfTwo_12 (h.so hj _) rfl ?_
  refine aw_getfield fX2_71 dX2_spreadOfTwo_15 ((h.me hj).at _) rfl ?_
  refine aw_invokevirtual kX2_99 dX2_spreadOfTwo_18 (nh_o hc N z24) (cp_prod n hc (LC X (sN S)) N (X + 24) (sob X j + 8) (sob X j + 8) _ _ 8 8 W hA z24 n8 n8 (by omega) (by omega) (by rw [l24]; decide)) rfl rfl (Nat.le_of_ble_eq_true rfl) ⟨Nat.le_of_ble_eq_true rfl, Nat.le_of_ble_eq_true rfl⟩ ⟨Nat.le_of_ble_eq_true rfl, Nat.le_of_ble_eq_true rfl⟩ ?_
  rintro _ _ _ ⟨rfl, rfl, N1, rfl, v1, A1, f1⟩
  refine aw_aload_n (i := 0) dX2_spreadOfTwo_21 rfl rfl ?_
  refine aw_aload_n (i := 1) dX2_spreadOfTwo_22 rfl rfl ?_
  refine aw_iconst (v := 2) dX2_spreadOfTwo_23 (by decide +kernel) ?_
  refine aw_aload_n (i := 0) dX2_spreadOfTwo_24 rfl rfl ?_
  refine aw_getfield fX2_20 dX2_spreadOfTwo_25 (h.mm _) rfl ?_
  refine aw_invokevirtual kX2_112 dX2_spreadOfTwo_28 (h.mm N1) (ct_X2_sumOfPowers n hc N1 N X j 2 (X + 26) S h hI hj A1 (by decide) (by decide) l26) rfl rfl (Nat.le_of_ble_eq_true rfl) ⟨Nat.le_of_ble_eq_true rfl, Nat.le_of_ble_eq_true rfl⟩ ⟨Nat.le_of_ble_eq_true rfl, Nat.le_of_ble_eq_true rfl⟩ ?_
  rintro _ _ _ ⟨rfl, rfl, N2, rfl, v2, A2, f2⟩
  refine aw_aload_n (i := 2) dX2_spreadOfTwo_31 rfl rfl ?_
  refine aw_aload_n (i := 0) dX2_spreadOfTwo_32 rfl rfl ?_
  refine aw_getfield fX2_14 dX2_spreadOfTwo_33 (h.mm _) rfl ?_
  refine aw_aload_n (i := 0) dX2_spreadOfTwo_36 rfl rfl ?_
  refine aw_getfield fX2_20 dX2_spreadOfTwo_37 (h.mm _) rfl ?_
  refine aw_invokevirtual kX2_99 dX2_spreadOfTwo_40 (nh_o hc N2 z6) (cp_prod n hc (LC X (sN S)) N2 (X + 6) (X + 24) (X + 26) _ _ 16 9 W A2 z6 (v1.fr (f2 _ (by omega))) v2 (by omega) (by omega) (by rw [l6]; decide)) rfl rfl (Nat.le_of_ble_eq_true rfl) ⟨Nat.le_of_ble_eq_true rfl, Nat.le_of_ble_eq_true rfl⟩ ⟨Nat.le_of_ble_eq_true rfl, Nat.le_of_ble_eq_true rfl⟩ ?_
  rintro _ _ _ ⟨rfl, rfl, N3, rfl, v3, A3, f3⟩
  have g3 : ∀ k, X + 46 ≤ k → N3 k = N k := fun k hk => by rw [f3 k (by omega), f2 k (by omega), f1 k (by omega)]
  refine aw_aload_n (i := 0) dX2_spreadOfTwo_43 rfl rfl ?_
  refine aw_getfield fX2_14 dX2_spreadOfTwo_44 (h.mm _) rfl ?_
  refine aw_aload_n (i := 1) dX2_spreadOfTwo_47 rfl rfl ?_
  refine aw_getfield fX2_43 dX2_spreadOfTwo_48 (h.so hj _) rfl ?_
  refine aw_getfield fX2_35 dX2_spreadOfTwo_51 ((h.me hj).at _) rfl ?_
  refine aw_aload_n (i := 1) dX2_spreadOfTwo_54 rfl rfl ?_
  refine aw_getfield fX2_43 dX2_spreadOfTwo_55 (h.so hj _) rfl ?_
  refine aw_getfield fX2_35 dX2_spreadOfTwo_58 ((h.me hj).at _) rfl ?_
  refine aw_invokevirtual kX2_99 dX2_spreadOfTwo_61 (nh_o hc N3 z24) (cp_prod n hc (LC X (sN S)) N3 (X + 24) (sob X j + 6) (sob X j + 6) _ _ 9 9 W A3 z24 (n6.fr (g3 _ (by omega))) (n6.fr (g3 _ (by omega))) (by omega) (by omega) (by rw [l24]; decide)) rfl rfl (Nat.le_of_ble_eq_true rfl) ⟨Nat.le_of_ble_eq_true rfl, Nat.le_of_ble_eq_true rfl⟩ ⟨Nat.le_of_ble_eq_true rfl, Nat.le_of_ble_eq_true rfl⟩ ?_
  rintro _ _ _ ⟨rfl, rfl, N4, rfl, v4, A4, f4⟩
  refine aw_aload_n (i := 0) dX2_spreadOfTwo_64 rfl rfl ?_
  refine aw_getfield fX2_20 dX2_spreadOfTwo_65 (h.mm _) rfl ?_
  refine aw_aload_n (i := 0) dX2_spreadOfTwo_68 rfl rfl ?_
  refine aw_getfield fX2_14 dX2_spreadOfTwo_69 (h.mm _) rfl ?_
  refine aw_aload_n (i := 1) dX2_spreadOfTwo_72 rfl rfl ?_
  refine aw_getfield fX2_74 dX2_spreadOfTwo_73 (h.so hj _) rfl ?_
  refine aw_invokevirtual kX2_99 dX2_spreadOfTwo_76 (nh_o hc N4 z26) (cp_prod n hc (LC X (sN S)) N4 (X + 26) (X + 24) (sob X j + 3) _ _ 18 8 W A4 z26 v4 (n3.fr (by rw [f4 _ (by omega), g3 _ (by omega)])) (by omega) (by omega) (by rw [l26]; decide)) rfl rfl (Nat.le_of_ble_eq_true rfl) ⟨Nat.le_of_ble_eq_true rfl, Nat.le_of_ble_eq_true rfl⟩ ⟨Nat.le_of_ble_eq_true rfl, Nat.le_of_ble_eq_true rfl⟩ ?_
  rintro _ _ _ ⟨rfl, rfl, N5, rfl, v5, A5, f5⟩
  have e1 : tS S j * tS S j * spw S j 2 = spr S j 2 + sS S j * sS S j * stot S j := by have := spr_2 S j; grind
  refine aw_aload_n (i := 2) dX2_spreadOfTwo_79 rfl rfl ?_
  refine aw_aload_n (i := 0) dX2_spreadOfTwo_80 rfl rfl ?_
  refine aw_getfield fX2_20 dX2_spreadOfTwo_81 (h.mm _) rfl ?_
  refine aw_invokevirtual kX2_106 dX2_spreadOfTwo_84 (nh_o hc N5 z6) (cp_sub n hc (LC X (sN S)) N5 (X + 6) (X + 26) _ _ 25 26 W A5 (v3.fr (by rw [f5 _ (by omega), f4 _ (by omega)])) v5 (by omega) (by rw [e1]; omega)) rfl rfl (Nat.le_of_ble_eq_true rfl) ⟨Nat.le_of_ble_eq_true rfl, Nat.le_of_ble_eq_true rfl⟩ ⟨Nat.le_of_ble_eq_true rfl, Nat.le_of_ble_eq_true rfl⟩ ?_
  rintro _ _ _ ⟨rfl, rfl, N6, rfl, v6, A6, f6⟩
  refine aw_return dX2_spreadOfTwo_87 rfl (Nat.le_of_ble_eq_true rfl) (Nat.le_of_ble_eq_true rfl) ?_
  refine hQ _ _ _ ⟨rfl, rfl, N6, rfl, ?_, A6, fun k hk => by rw [f6 k (by omega), f5 k (by omega), f4 k (by omega), f3 k (by omega), f2 k (by omega), f1 k (by omega)]⟩
  rw [e1, Nat.add_sub_cancel] at v6
  exact v6.up (Nat.lt_of_lt_of_le v6.2.2 (Bp_le (by decide)))
theorem ct_X2_spreadOfFour (n : Nat) (hc : Hp) (N : NC) (X j : Nat) (S : TS) (h : CS hc N X S) (hI : SInv S) (hj : j < sN S) : CT mX2_spreadOfFour 0 0 n (nh hc (LC X (sN S)) N) [.ref (X + 23), .ref (sob X j + 2), .ref (X + 6)] (mpo n hc (LC X (sN S)) N X (fun N' => nv (LC X (sN S)) N' (X + 6) 45 (spr S j 4))) := by
  refine CT.intro [some (.ref (X + 23)), some (.ref (sob X j + 2)), some (.ref (X + 6)), none, none] 2 rfl rfl (by decide) ?_
  intro Q hQ
  have W := LC_W X (sN S)
  have ej : sob X j = X + (158 + 10 * j) := rfl
  have hA := h.1
  have n3 := h.nv3 hI hj
  have n6 := h.nv6 hj
  have n8 := h.nv8 hI hj
  have l6 : LC X (sN S) (X + 6) = 72 := L72 rfl
  have l24 : LC X (sN S) (X + 24) = 72 := L72 rfl
  have l26 : LC X (sN S) (X + 26) = 72 := L72 rfl
  have l28 : LC X (sN S) (X + 28) = 72 := L72 rfl
  have l30 : LC X (sN S) (X + 30) = 72 := L72 rfl
  have z6 : LC X (sN S) (X + 6) ≠ 0 := by rw [l6]; decide
  have z24 : LC X (sN S) (X + 24) ≠ 0 := by rw [l24]; decide
  have z26 : LC X (sN S) (X + 26) ≠ 0 := by rw [l26]; decide
  have z28 : LC X (sN S) (X + 28) ≠ 0 := by rw [l28]; decide
  have z30 : LC X (sN S) (X + 30) ≠ 0 := by rw [l30]; decide
  refine aw_aload_n (i := 1) dX2_spreadOfFour_0 rfl rfl ?_
  refine aw_getfield fX2_43 dX2_spreadOfFour_1 (h.so hj _) rfl ?_
  refine aw_getfield fX2_35 dX2_spreadOfFour_4 ((h.me hj).at _) rfl ?_
  refine aw_astore_3 dX2_spreadOfFour_7 (by decide) rfl ?_
  refine aw_aload_n (i := 1) dX2_spreadOfFour_8 rfl rfl ?_
  refine aw_getfield fX2_43 dX2_spreadOfFour_9 (h.so hj _) rfl ?_
  refine aw_getfield fX2_71 dX2_spreadOfFour_12 ((h.me hj).at _) rfl ?_
  refine aw_astore_4 dX2_spreadOfFour_15 (by decide) rfl ?_
  refine aw_aload_n (i := 0) dX2_spreadOfFour_17 rfl rfl ?_
  refine aw_getfield fX2_14 dX2_spreadOfFour_18 (h.mm _) rfl ?_
  refine aw_aload dX2_spreadOfFour_21 rfl ?_
  refine aw_aload dX2_spreadOfFour_23 rfl ?_
  refine aw_invokevirtual kX2_99 dX2_spreadOfFour_25 (nh_o hc N z24) (cp_prod n hc (LC X (sN S)) N (X + 24) (sob X j + 8) (sob X j + 8) _ _ 8 8 W hA z24 n8 n8 (by omega) (by omega) (by rw [l24]; decide)) rfl rfl (Nat.le_of_ble_eq_true rfl) ⟨Nat.le_of_ble_eq_true rfl, Nat.le_of_ble_eq_true rfl⟩ ⟨Nat.le_of_ble_eq_true rfl, Nat.le_of_ble_eq_true rfl⟩ ?_
  rintro _ _ _ ⟨rfl, rfl, N1, rfl, v1, A1, f1⟩
  refine aw_aload_n (i := 0) dX2_spreadOfFour_28 rfl rfl ?_
  refine aw_getfield fX2_20 dX2_spreadOfFour_29 (h.mm _) rfl ?_
  refine aw_aload_n (i := 0) dX2_spreadOfFour_32 rfl rfl ?_
  refine aw_getfield fX2_14 dX2_spreadOfFour_33 (h.mm _) rfl ?_
  refine aw_aload_n (i := 0) dX2_spreadOfFour_36 rfl rfl ?_
  refine aw_getfield fX2_14 dX2_spreadOfFour_37 (h.mm _) rfl ?_
  refine aw_invokevirtual kX2_99 dX2_spreadOfFour_40 (nh_o hc N1 z26) (cp_prod n hc (LC X (sN S)) N1 (X + 26) (X + 24) (X + 24) _ _ 16 16 W A1 z26 v1 v1 (by omega) (by omega) (by rw [l26]; decide)) rfl rfl (Nat.le_of_ble_eq_true rfl) ⟨Nat.le_of_ble_eq_true rfl, Nat.le_of_ble_eq_true rfl⟩ ⟨Nat.le_of_ble_eq_true rfl, Nat.le_of_ble_eq_true rfl⟩ ?_
  rintro _ _ _ ⟨rfl, rfl, N2, rfl, v2, A2, f2⟩
  refine aw_aload_n (i := 0) dX2_spreadOfFour_43 rfl rfl ?_
  refine aw_aload_n (i := 1) dX2_spreadOfFour_44 rfl rfl ?_
  refine aw_iconst (v := 4) dX2_spreadOfFour_45 (by decide +kernel) ?_
  refine aw_aload_n (i := 0) dX2_spreadOfFour_46 rfl rfl ?_
  refine aw_getfield fX2_23 dX2_spreadOfFour_47 (h.mm _) rfl ?_
  refine aw_invokevirtual kX2_112 dX2_spreadOfFour_50 (h.mm N2) (ct_X2_sumOfPowers n hc N2 N X j 4 (X + 28) S h hI hj A2 (by decide) (by decide) l28) rfl rfl (Nat.le_of_ble_eq_true rfl) ⟨Nat.le_of_ble_eq_true rfl, Nat.le_of_ble_eq_true rfl⟩ ⟨Nat.le_of_ble_eq_true rfl, Nat.le_of_ble_eq_true rfl⟩ ?_
  rintro _ _ _ ⟨rfl, rfl, N3, rfl, v3, A3, f3⟩
  refine aw_aload_n (i := 2) dX2_spreadOfFour_53 rfl rfl ?_
  refine aw_aload_n (i := 0) dX2_spreadOfFour_54 rfl rfl ?_
  refine aw_getfield fX2_20 dX2_spreadOfFour_55 (h.mm _) rfl ?_
  refine aw_aload_n (i := 0) dX2_spreadOfFour_58 rfl rfl ?_
  refine aw_getfield fX2_23 dX2_spreadOfFour_59 (h.mm _) rfl ?_
  refine aw_invokevirtual kX2_99 dX2_spreadOfFour_62 (nh_o hc N3 z6) (cp_prod n hc (LC X (sN S)) N3 (X + 6) (X + 26) (X + 28) _ _ 32 9 W A3 z6 (v2.fr (f3 _ (by omega))) v3 (by omega) (by omega) (by rw [l6]; decide)) rfl rfl (Nat.le_of_ble_eq_true rfl) ⟨Nat.le_of_ble_eq_true rfl, Nat.le_of_ble_eq_true rfl⟩ ⟨Nat.le_of_ble_eq_true rfl, Nat.le_of_ble_eq_true rfl⟩ ?_
  rintro _ _ _ ⟨rfl, rfl, N4, rfl, v4, A4, f4⟩
  have g4 : ∀ k, X + 46 ≤ k → N4 k = N k := fun k hk => by rw [f4 k (by omega), f3 k (by omega), f2 k (by omega), f1 k (by omega)]
  refine aw_aload_n (i := 0) dX2_spreadOfFour_65 rfl rfl ?_
  refine aw_getfield fX2_20 dX2_spreadOfFour_66 (h.mm _) rfl ?_
  refine aw_aload_n (i := 3) dX2_spreadOfFour_69 rfl rfl ?_
  refine aw_aload_n (i := 3) dX2_spreadOfFour_70 rfl rfl ?_
  refine aw_invokevirtual kX2_99 dX2_spreadOfFour_71 (nh_o hc N4 z26) (cp_prod n hc (LC X (sN S)) N4 (X + 26) (sob X j + 6) (sob X j + 6) _ _ 9 9 W A4 z26 (n6.fr (g4 _ (by omega))) (n6.fr (g4 _ (by omega))) (by omega) (by omega) (by rw [l26]; decide)) rfl rfl (Nat.le_of_ble_eq_true rfl) ⟨Nat.le_of_ble_eq_true rfl, Nat.le_of_ble_eq_true rfl⟩ ⟨Nat.le_of_ble_eq_true rfl, Nat.le_of_ble_eq_true rfl⟩ ?_
  rintro _ _ _ ⟨rfl, rfl, N5, rfl, v5, A5, f5⟩
  have v1' := v1.fr (N' := N5) (by rw [f5 _ (by omega), f4 _ (by omega), f3 _ (by omega), f2 _ (by omega)])
  refine aw_aload_n (i := 0) dX2_spreadOfFour_74 rfl rfl ?_
  refine aw_getfield fX2_23 dX2_spreadOfFour_75 (h.mm _) rfl ?_
  refine aw_aload_n (i := 0) dX2_spreadOfFour_78 rfl rfl ?_
  refine aw_getfield fX2_14 dX2_spreadOfFour_79 (h.mm _) rfl ?_
  refine aw_aload_n (i := 0) dX2_spreadOfFour_82 rfl rfl ?_
  refine aw_getfield fX2_20 dX2_spreadOfFour_83 (h.mm _) rfl ?_
  refine aw_invokevirtual kX2_99 dX2_spreadOfFour_86 (nh_o hc N5 z28) (cp_prod n hc (LC X (sN S)) N5 (X + 28) (X + 24) (X + 26) _ _ 16 18 W A5 z28 v1' v5 (by omega) (by omega) (by rw [l28]; decide)) rfl rfl (Nat.le_of_ble_eq_true rfl) ⟨Nat.le_of_ble_eq_true rfl, Nat.le_of_ble_eq_true rfl⟩ ⟨Nat.le_of_ble_eq_true rfl, Nat.le_of_ble_eq_true rfl⟩ ?_
  rintro _ _ _ ⟨rfl, rfl, N6, rfl, v6, A6, f6⟩
  refine aw_aload_n (i := 0) dX2_spreadOfFour_89 rfl rfl ?_
  refine aw_aload_n (i := 1) dX2_spreadOfFour_90 rfl rfl ?_
  refine aw_iconst (v := 2) dX2_spreadOfFour_91 (by decide +kernel) ?_
  refine aw_aload_n (i := 0) dX2_spreadOfFour_92 rfl rfl ?_
  refine aw_getfield fX2_20 dX2_spreadOfFour_93 (h.mm _) rfl ?_
  refine aw_invokevirtual kX2_112 dX2_spreadOfFour_96 (h.mm N6) (ct_X2_sumOfPowers n hc N6 N X j 2 (X + 26) S h hI hj A6 (by decide) (by decide) l26) rfl rfl (Nat.le_of_ble_eq_true rfl) ⟨Nat.le_of_ble_eq_true rfl, Nat.le_of_ble_eq_true rfl⟩ ⟨Nat.le_of_ble_eq_true rfl, Nat.le_of_ble_eq_true rfl⟩ ?_
  rintro _ _ _ ⟨rfl, rfl, N7, rfl, v7, A7, f7⟩
  refine aw_aload_n (i := 0) dX2_spreadOfFour_99 rfl rfl ?_
  refine aw_getfield fX2_26 dX2_spreadOfFour_100 (h.mm _) rfl ?_
  refine aw_aload_n (i := 0) dX2_spreadOfFour_103 rfl rfl ?_
  refine aw_getfield fX2_23 dX2_spreadOfFour_104 (h.mm _) rfl ?_
  refine aw_aload_n (i := 0) dX2_spreadOfFour_107 rfl rfl ?_
  refine aw_getfield fX2_20 dX2_spreadOfFour_108 (h.mm _) rfl ?_
  refine aw_invokevirtual kX2_99 dX2_spreadOfFour_111 (nh_o hc N7 z30) (cp_prod n hc (LC X (sN S)) N7 (X + 30) (X + 28) (X + 26) _ _ 34 9 W A7 z30 (v6.fr (f7 _ (by omega))) v7 (by omega) (by omega) (by rw [l30]; decide)) rfl rfl (Nat.le_of_ble_eq_true rfl) ⟨Nat.le_of_ble_eq_true rfl, Nat.le_of_ble_eq_true rfl⟩ ⟨Nat.le_of_ble_eq_true rfl, Nat.le_of_ble_eq_true rfl⟩ ?_
  rintro _ _ _ ⟨rfl, rfl, N8, rfl, v8, A8, f8⟩
  refine aw_aload_n (i := 0) dX2_spreadOfFour_114 rfl rfl ?_
  refine aw_getfield fX2_26 dX2_spreadOfFour_115 (h.mm _) rfl ?_
  refine aw_ldc2_w qX2_116 dX2_spreadOfFour_118 ?_
  refine aw_invokevirtual kX2_81 dX2_spreadOfFour_121 (nh_o hc N8 z30) (cp_scale n hc (LC X (sN S)) N8 (X + 30) _ 6 43 W A8 v8 (by decide) (by rw [l30]; decide)) rfl rfl (Nat.le_of_ble_eq_true rfl) ⟨Nat.le_of_ble_eq_true rfl, Nat.le_of_ble_eq_true rfl⟩ ⟨Nat.le_of_ble_eq_true rfl, Nat.le_of_ble_eq_true rfl⟩ ?_
  rintro _ _ _ ⟨rfl, rfl, N9, rfl, v9, A9, f9⟩
  have v4' := v4.fr (N' := N9) (by rw [f9 _ (by omega), f8 _ (by omega), f7 _ (by omega), f6 _ (by omega), f5 _ (by omega)])
  refine aw_aload_n (i := 2) dX2_spreadOfFour_124 rfl rfl ?_
  refine aw_aload_n (i := 0) dX2_spreadOfFour_125 rfl rfl ?_
  refine aw_getfield fX2_26 dX2_spreadOfFour_126 (h.mm _) rfl ?_
  refine aw_invokevirtual kX2_109 dX2_spreadOfFour_129 (nh_o hc N9 z6) (cp_add n hc (LC X (sN S)) N9 (X + 6) (X + 30) _ _ 41 44 45 W A9 v4' v9 (by omega) (by decide) (by decide) (by rw [l6]; decide)) rfl rfl (Nat.le_of_ble_eq_true rfl) ⟨Nat.le_of_ble_eq_true rfl, Nat.le_of_ble_eq_true rfl⟩ ⟨Nat.le_of_ble_eq_true rfl, Nat.le_of_ble_eq_true rfl⟩ ?_
  rintro _ _ _ ⟨rfl, rfl, Na, rfl, va, Aa, fa⟩
  have ga : ∀ k, X + 46 ≤ k → Na k = N k := fun k hk => by rw [fa k (by omega), f9 k (by omega), f8 k (by omega), f7 k (by omega), f6 k (by omega), f5 k (by omega), g4 k hk]
  refine aw_aload_n (i := 0) dX2_spreadOfFour_132 rfl rfl ?_
  refine aw_getfield fX2_20 dX2_spreadOfFour_133 (h.mm _) rfl ?_
  refine aw_aload_n (i := 3) dX2_spreadOfFour_136 rfl rfl ?_
  refine aw_aload dX2_spreadOfFour_137 rfl ?_
  refine aw_invokevirtual kX2_99 dX2_spreadOfFour_139 (nh_o hc Na z26) (cp_prod n hc (LC X (sN S)) Na (X + 26) (sob X j + 6) (sob X j + 8) _ _ 9 8 W Aa z26 (n6.fr (ga _ (by omega))) (n8.fr (ga _ (by omega))) (by omega) (by omega) (by rw [l26]; decide)) rfl rfl (Nat.le_of_ble_eq_true rfl) ⟨Nat.le_of_ble_eq_true rfl, Nat.le_of_ble_eq_true rfl⟩ ⟨Nat.le_of_ble_eq_true rfl, Nat.le_of_ble_eq_true rfl⟩ ?_
  rintro _ _ _ ⟨rfl, rfl, Nb, rfl, vb, Ab, fb⟩
  have v1b := v1'.fr (N' := Nb) (by rw [fb _ (by omega), fa _ (by omega), f9 _ (by omega), f8 _ (by omega), f7 _ (by omega), f6 _ (by omega)])
  refine aw_aload_n (i := 0) dX2_spreadOfFour_142 rfl rfl ?_
  refine aw_getfield fX2_23 dX2_spreadOfFour_143 (h.mm _) rfl ?_
  refine aw_aload_n (i := 0) dX2_spreadOfFour_146 rfl rfl ?_
  refine aw_getfield fX2_14 dX2_spreadOfFour_147 (h.mm _) rfl ?_
  refine aw_aload_n (i := 0) dX2_spreadOfFour_150 rfl rfl ?_
  refine aw_getfield fX2_20 dX2_spreadOfFour_151 (h.mm _) rfl ?_
  refine aw_invokevirtual kX2_99 dX2_spreadOfFour_154 (nh_o hc Nb z28) (cp_prod n hc (LC X (sN S)) Nb (X + 28) (X + 24) (X + 26) _ _ 16 17 W Ab z28 v1b vb (by omega) (by omega) (by rw [l28]; decide)) rfl rfl (Nat.le_of_ble_eq_true rfl) ⟨Nat.le_of_ble_eq_true rfl, Nat.le_of_ble_eq_true rfl⟩ ⟨Nat.le_of_ble_eq_true rfl, Nat.le_of_ble_eq_true rfl⟩ ?_
  rintro _ _ _ ⟨rfl, rfl, Nc, rfl, vc, Ac, fc⟩
  refine aw_aload_n (i := 0) dX2_spreadOfFour_157 rfl rfl ?_
  refine aw_aload_n (i := 1) dX2_spreadOfFour_158 rfl rfl ?_
  refine aw_iconst (v := 3) dX2_spreadOfFour_159 (by decide +kernel) ?_
  refine aw_aload_n (i := 0) dX2_spreadOfFour_160 rfl rfl ?_
  refine aw_getfield fX2_20 dX2_spreadOfFour_161 (h.mm _) rfl ?_
  refine aw_invokevirtual kX2_112 dX2_spreadOfFour_164 (h.mm Nc) (ct_X2_sumOfPowers n hc Nc N X j 3 (X + 26) S h hI hj Ac (by decide) (by decide) l26) rfl rfl (Nat.le_of_ble_eq_true rfl) ⟨Nat.le_of_ble_eq_true rfl, Nat.le_of_ble_eq_true rfl⟩ ⟨Nat.le_of_ble_eq_true rfl, Nat.le_of_ble_eq_true rfl⟩ ?_
  rintro _ _ _ ⟨rfl, rfl, Nd, rfl, vd, Ad, fd⟩
  refine aw_aload_n (i := 0) dX2_spreadOfFour_167 rfl rfl ?_
  refine aw_getfield fX2_26 dX2_spreadOfFour_168 (h.mm _) rfl ?_
  refine aw_aload_n (i := 0) dX2_spreadOfFour_171 rfl rfl ?_
  refine aw_getfield fX2_23 dX2_spreadOfFour_172 (h.mm _) rfl ?_
  refine aw_aload_n (i := 0) dX2_spreadOfFour_175 rfl rfl ?_
  refine aw_getfield fX2_20 dX2_spreadOfFour_176 (h.mm _) rfl ?_
  refine aw_invokevirtual kX2_99 dX2_spreadOfFour_179 (nh_o hc Nd z30) (cp_prod n hc (LC X (sN S)) Nd (X + 30) (X + 28) (X + 26) _ _ 33 9 W Ad z30 (vc.fr (fd _ (by omega))) vd (by omega) (by omega) (by rw [l30]; decide)) rfl rfl (Nat.le_of_ble_eq_true rfl) ⟨Nat.le_of_ble_eq_true rfl, Nat.le_of_ble_eq_true rfl⟩ ⟨Nat.le_of_ble_eq_true rfl, Nat.le_of_ble_eq_true rfl⟩ ?_
  rintro _ _ _ ⟨rfl, rfl, Ne, rfl, ve, Ae, fe⟩
  refine aw_aload_n (i := 0) dX2_spreadOfFour_182 rfl rfl ?_
  refine aw_getfield fX2_26 dX2_spreadOfFour_183 (h.mm _) rfl ?_
  refine aw_ldc2_w qX2_118 dX2_spreadOfFour_186 ?_
  refine aw_invokevirtual kX2_81 dX2_spreadOfFour_189 (nh_o hc Ne z30) (cp_scale n hc (LC X (sN S)) Ne (X + 30) _ 4 42 W Ae ve (by decide) (by rw [l30]; decide)) rfl rfl (Nat.le_of_ble_eq_true rfl) ⟨Nat.le_of_ble_eq_true rfl, Nat.le_of_ble_eq_true rfl⟩ ⟨Nat.le_of_ble_eq_true rfl, Nat.le_of_ble_eq_true rfl⟩ ?_
  rintro _ _ _ ⟨rfl, rfl, Nf, rfl, vf, Af, ff⟩
  have e1 : tS S j * tS S j * (tS S j * tS S j) * spw S j 4 + tS S j * tS S j * (sS S j * sS S j) * spw S j 2 * 6 = spr S j 4 + sS S j * sS S j * (sS S j * sS S j) * stot S j * 3 + tS S j * tS S j * (sS S j * tS S j) * spw S j 3 * 4 := by have := spr_4 S j; grind
  rw [e1] at va
  refine aw_aload_n (i := 2) dX2_spreadOfFour_192 rfl rfl ?_
  refine aw_aload_n (i := 0) dX2_spreadOfFour_193 rfl rfl ?_
  refine aw_getfield fX2_26 dX2_spreadOfFour_194 (h.mm _) rfl ?_
  refine aw_invokevirtual kX2_106 dX2_spreadOfFour_197 (nh_o hc Nf z6) (cp_sub n hc (LC X (sN S)) Nf (X + 6) (X + 30) _ _ 45 43 W Af (va.fr (by rw [ff _ (by omega), fe _ (by omega), fd _ (by omega), fc _ (by omega), fb _ (by omega)])) vf (by omega) (Nat.le_add_left _ _)) rfl rfl (Nat.le_of_ble_eq_true rfl) ⟨Nat.le_of_ble_eq_true rfl, Nat.le_of_ble_eq_true rfl⟩ ⟨Nat.le_of_ble_eq_true rfl, Nat.le_of_ble_eq_true rfl⟩ ?_
  rintro _ _ _ ⟨rfl, rfl, Ng, rfl, vg, Ag, fg⟩
  rw [Nat.add_sub_cancel] at vg
  have gg : ∀ k, X + 46 ≤ k → Ng k = N k := fun k hk => by rw [fg k (by omega), ff k (by omega), fe k (by omega), fd k (by omega), fc k (by omega), fb k (by omega), ga k hk]
  refine aw_aload_n (i := 0) dX2_spreadOfFour_200 rfl rfl ?_
  refine aw_getfield fX2_14 dX2_spreadOfFour_201 (h.mm _) rfl ?_
  refine aw_aload_n (i := 3) dX2_spreadOfFour_204 rfl rfl ?_
  refine aw_aload_n (i := 3) dX2_spreadOfFour_205 rfl rfl ?_
  refine aw_invokevirtual kX2_99 dX2_spreadOfFour_206 (nh_o hc Ng z24) (cp_prod n hc (LC X (sN S)) Ng (X + 24) (sob X j + 6) (sob X j + 6) _ _ 9 9 W Ag z24 (n6.fr (gg _ (by omega))) (n6.fr (gg _ (by omega))) (by omega) (by omega) (by rw [l24]; decide)) rfl rfl (Nat.le_of_ble_eq_true rfl) ⟨Nat.le_of_ble_eq_true rfl, Nat.le_of_ble_eq_true rfl⟩ ⟨Nat.le_of_ble_eq_true rfl, Nat.le_of_ble_eq_true rfl⟩ ?_
  rintro _ _ _ ⟨rfl, rfl, Nh, rfl, vh, Ah, fh⟩
  refine aw_aload_n (i := 0) dX2_spreadOfFour_209 rfl rfl ?_
  refine aw_getfield fX2_20 dX2_spreadOfFour_210 (h.mm _) rfl ?_
  refine aw_aload_n (i := 0) dX2_spreadOfFour_213 rfl rfl ?_
  refine aw_getfield fX2_14 dX2_spreadOfFour_214 (h.mm _) rfl ?_
  refine aw_aload_n (i := 0) dX2_spreadOfFour_217 rfl rfl ?_
  refine aw_getfield fX2_14 dX2_spreadOfFour_218 (h.mm _) rfl ?_
  refine aw_invokevirtual kX2_99 dX2_spreadOfFour_221 (nh_o hc Nh z26) (cp_prod n hc (LC X (sN S)) Nh (X + 26) (X + 24) (X + 24) _ _ 18 18 W Ah z26 vh vh (by omega) (by omega) (by rw [l26]; decide)) rfl rfl (Nat.le_of_ble_eq_true rfl) ⟨Nat.le_of_ble_eq_true rfl, Nat.le_of_ble_eq_true rfl⟩ ⟨Nat.le_of_ble_eq_true rfl, Nat.le_of_ble_eq_true rfl⟩ ?_
  rintro _ _ _ ⟨rfl, rfl, Ni, rfl, vi, Ai, fi⟩
  refine aw_aload_n (i := 0) dX2_spreadOfFour_224 rfl rfl ?_
  refine aw_getfield fX2_23 dX2_spreadOfFour_225 (h.mm _) rfl ?_
  refine aw_aload_n (i := 0) dX2_spreadOfFour_228 rfl rfl ?_
  refine aw_getfield fX2_20 dX2_spreadOfFour_229 (h.mm _) rfl ?_
  refine aw_aload_n (i := 1) dX2_spreadOfFour_232 rfl rfl ?_
  refine aw_getfield fX2_74 dX2_spreadOfFour_233 (h.so hj _) rfl ?_
  refine aw_invokevirtual kX2_99 dX2_spreadOfFour_236 (nh_o hc Ni z28) (cp_prod n hc (LC X (sN S)) Ni (X + 28) (X + 26) (sob X j + 3) _ _ 36 8 W Ai z28 vi (n3.fr (by rw [fi _ (by omega), fh _ (by omega), gg _ (by omega)])) (by omega) (by omega) (by rw [l28]; decide)) rfl rfl (Nat.le_of_ble_eq_true rfl) ⟨Nat.le_of_ble_eq_true rfl, Nat.le_of_ble_eq_true rfl⟩ ⟨Nat.le_of_ble_eq_true rfl, Nat.le_of_ble_eq_true rfl⟩ ?_
  rintro _ _ _ ⟨rfl, rfl, Nj, rfl, vj, Aj, fj⟩
  refine aw_aload_n (i := 0) dX2_spreadOfFour_239 rfl rfl ?_
  refine aw_getfield fX2_23 dX2_spreadOfFour_240 (h.mm _) rfl ?_
  refine aw_ldc2_w qX2_120 dX2_spreadOfFour_243 ?_
  refine aw_invokevirtual kX2_81 dX2_spreadOfFour_246 (nh_o hc Nj z28) (cp_scale n hc (LC X (sN S)) Nj (X + 28) _ 3 44 W Aj vj (by decide) (by rw [l28]; decide)) rfl rfl (Nat.le_of_ble_eq_true rfl) ⟨Nat.le_of_ble_eq_true rfl, Nat.le_of_ble_eq_true rfl⟩ ⟨Nat.le_of_ble_eq_true rfl, Nat.le_of_ble_eq_true rfl⟩ ?_
  rintro _ _ _ ⟨rfl, rfl, Nk, rfl, vk, Ak, fk⟩
  refine aw_aload_n (i := 2) dX2_spreadOfFour_249 rfl rfl ?_
  refine aw_aload_n (i := 0) dX2_spreadOfFour_250 rfl rfl ?_
  refine aw_getfield fX2_23 dX2_spreadOfFour_251 (h.mm _) rfl ?_
  refine aw_invokevirtual kX2_106 dX2_spreadOfFour_254 (nh_o hc Nk z6) (cp_sub n hc (LC X (sN S)) Nk (X + 6) (X + 28) _ _ 45 45 W Ak (vg.fr (by rw [fk _ (by omega), fj _ (by omega), fi _ (by omega), fh _ (by omega)])) vk (by omega) (Nat.le_add_left _ _)) rfl rfl (Nat.le_of_ble_eq_true rfl) ⟨Nat.le_of_ble_eq_true rfl, Nat.le_of_ble_eq_true rfl⟩ ⟨Nat.le_of_ble_eq_true rfl, Nat.le_of_ble_eq_true rfl⟩ ?_
  rintro _ _ _ ⟨rfl, rfl, Nl, rfl, vl, Al, fl⟩
  rw [Nat.add_sub_cancel] at vl
  refine aw_return dX2_spreadOfFour_257 rfl (Nat.le_of_ble_eq_true rfl) (Nat.le_of_ble_eq_true rfl) ?_
  refine hQ _ _ _ ⟨rfl, rfl, Nl, rfl, vl, Al, fun k hk => ?_⟩
  rw [fl k (by omega), fk k (by omega), fj k (by omega), fi k (by omega), fh k (by omega), fg k (by omega), ff k (by omega), fe k (by omega), fd k (by omega), fc k (by omega), fb k (by omega), fa k (by omega), f9 k (by omega), f8 k (by omega), f7 k (by omega), f6 k (by omega), f5 k (by omega), f4 k (by omega), f3 k (by omega), f2 k (by omega), f1 k (by omega)]
