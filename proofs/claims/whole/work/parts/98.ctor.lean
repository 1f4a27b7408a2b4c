theorem ct_X0_init (X : Nat) (hc : Hp) (hD : hc (X + 12) = some (.inr (0, [.null, .null, .null, .null, .null, .long 0, .long 0, .long 0, .long 0]))) : CT mX0_init 10 370 (X + 13) (nh hc (LT X 13) NZ) [.ref (X + 12)] (fun r n' h' => r = none ∧ X + 23 = n' ∧ h' = nh (hup hc (X + 12) (dobj (X + 13) (X + 15) (X + 17) (X + 19) (X + 21) 1 0 0 1)) (LT X 23) NZ) := by
  refine CT.intro [some (.ref (X + 12))] 0 rfl rfl (by decide) ?_
  intro Q hQ
  refine aw_aload_n (i := 0) dX0_init_0 rfl rfl ?_
  refine aw_objinit kX0_3 obj_i obj_c dX0_init_1 (by decide) (Nat.le_of_ble_eq_true rfl) ?_
  refine aw_aload_n (i := 0) dX0_init_4 rfl rfl ?_
  refine aw_new nX0_9 dX0_init_5 (Nat.le_of_ble_eq_true rfl) (Nat.le_of_ble_eq_true rfl) ?_
  refine aw_dup dX0_init_8 rfl ?_
  refine aw_bipush (v := 72) dX0_init_9 (by decide +kernel) ?_
  refine aw_invokespecial kX0_11 dX0_init_11 (ct_X3_init (X + 13 + 1) _ (X + 13) 72 (hup_self _ _ _) (by omega) (by decide) (by decide)) rfl rfl (Nat.le_of_ble_eq_true rfl) ⟨Nat.le_of_ble_eq_true rfl, Nat.le_of_ble_eq_true rfl⟩ ⟨Nat.le_of_ble_eq_true rfl, Nat.le_of_ble_eq_true rfl⟩ ?_
  rintro _ _ _ ⟨rfl, rfl, rfl⟩
  refine AW.hp (nt_num (c := 13) _ rfl rfl (Or.inr rfl) (by decide)) ?_
  refine aw_putfinal fX0_14 rfl dX0_init_14 (by rw [nt_x (k := 12) _ rfl (Or.inr rfl)]; exact hD) rfl rfl (Nat.le_of_ble_eq_true rfl) ?_
  dsimp only [List.set]
  refine AW.hp (nt_u (k := 12) NZ rfl (Or.inr rfl) _) ?_
  refine aw_aload_n (i := 0) dX0_init_17 rfl rfl ?_
  refine aw_new nX0_9 dX0_init_18 (Nat.le_of_ble_eq_true rfl) (Nat.le_of_ble_eq_true rfl) ?_
  refine aw_dup dX0_init_21 rfl ?_
  refine aw_bipush (v := 72) dX0_init_22 (by decide +kernel) ?_
  refine aw_invokespecial kX0_11 dX0_init_24 (ct_X3_init (X + 15 + 1) _ (X + 15) 72 (hup_self _ _ _) (by omega) (by decide) (by decide)) rfl rfl (Nat.le_of_ble_eq_true rfl) ⟨Nat.le_of_ble_eq_true rfl, Nat.le_of_ble_eq_true rfl⟩ ⟨Nat.le_of_ble_eq_true rfl, Nat.le_of_ble_eq_true rfl⟩ ?_
  rintro _ _ _ ⟨rfl, rfl, rfl⟩
  refine AW.hp (nt_num (c := 15) _ rfl rfl (Or.inr rfl) (by decide)) ?_
  refine aw_putfinal fX0_20 rfl dX0_init_27 (by rw [nt_x (k := 12) _ rfl (Or.inr rfl)]; exact hup_self _ _ _) rfl rfl (Nat.le_of_ble_eq_true rfl) ?_
  dsimp only [List.set]
  refine AW.hp (nt_u (k := 12) NZ rfl (Or.inr rfl) _) ?_
  rw [hup_hup]
  refine aw_aload_n (i := 0) dX0_init_30 rfl rfl ?_
  refine aw_new nX0_9 dX0_init_31 (Nat.le_of_ble_eq_true rfl) (Nat.le_of_ble_eq_true rfl) ?_
  refine aw_dup dX0_init_34 rfl ?_
  refine aw_bipush (v := 72) dX0_init_35 (by decide +kernel) ?_
  refine aw_invokespecial kX0_11 dX0_init_37 (ct_X3_init (X + 17 + 1) _ (X + 17) 72 (hup_self _ _ _) (by omega) (by decide) (by decide)) rfl rfl (Nat.le_of_ble_eq_true rfl) ⟨Nat.le_of_ble_eq_true rfl, Nat.le_of_ble_eq_true rfl⟩ ⟨Nat.le_of_ble_eq_true rfl, Nat.le_of_ble_eq_true rfl⟩ ?_
  rintro _ _ _ ⟨rfl, rfl, rfl⟩
  refine AW.hp (nt_num (c := 17) _ rfl rfl (Or.inr rfl) (by decide)) ?_
  refine aw_putfield fX0_23 dX0_init_40 (by rw [nt_x (k := 12) _ rfl (Or.inr rfl)]; exact hup_self _ _ _) rfl rfl (Nat.le_of_ble_eq_true rfl) ?_
  dsimp only [List.set]
  refine AW.hp (nt_u (k := 12) NZ rfl (Or.inr rfl) _) ?_
  rw [hup_hup]
  refine aw_aload_n (i := 0) dX0_init_43 rfl rfl ?_
  refine aw_new nX0_9 dX0_init_44 (Nat.le_of_ble_eq_true rfl) (Nat.le_of_ble_eq_true rfl) ?_
  refine aw_dup dX0_init_47 rfl ?_
  refine aw_bipush (v := 72) dX0_init_48 (by decide +kernel) ?_
  refine aw_invokespecial kX0_11 dX0_init_50 (ct_X3_init (X + 19 + 1) _ (X + 19) 72 (hup_self _ _ _) (by omega) (by decide) (by decide)) rfl rfl (Nat.le_of_ble_eq_true rfl) ⟨Nat.le_of_ble_eq_true rfl, Nat.le_of_ble_eq_true rfl⟩ ⟨Nat.le_of_ble_eq_true rfl, Nat.le_of_ble_eq_true rfl⟩ ?_
  rintro _ _ _ ⟨rfl, rfl, rfl⟩
  refine AW.hp (nt_num (c := 19) _ rfl rfl (Or.inr rfl) (by decide)) ?_
  refine aw_putfield fX0_26 dX0_init_53 (by rw [nt_x (k := 12) _ rfl (Or.inr rfl)]; exact hup_self _ _ _) rfl rfl (Nat.le_of_ble_eq_true rfl) ?_
  dsimp only [List.set]
  refine AW.hp (nt_u (k := 12) NZ rfl (Or.inr rfl) _) ?_
  rw [hup_hup]
  refine aw_aload_n (i := 0) dX0_init_56 rfl rfl ?_
  refine aw_new nX0_9 dX0_init_57 (Nat.le_of_ble_eq_true rfl) (Nat.le_of_ble_eq_true rfl) ?_
  refine aw_dup dX0_init_60 rfl ?_
  refine aw_bipush (v := 72) dX0_init_61 (by decide +kernel) ?_
  refine aw_invokespecial kX0_11 dX0_init_63 (ct_X3_init (X + 21 + 1) _ (X + 21) 72 (hup_self _ _ _) (by omega) (by decide) (by decide)) rfl rfl (Nat.le_of_ble_eq_true rfl) ⟨Nat.le_of_ble_eq_true rfl, Nat.le_of_ble_eq_true rfl⟩ ⟨Nat.le_of_ble_eq_true rfl, Nat.le_of_ble_eq_true rfl⟩ ?_
  rintro _ _ _ ⟨rfl, rfl, rfl⟩
  refine AW.hp (nt_num (c := 21) _ rfl rfl (Or.inr rfl) (by decide)) ?_
  refine aw_putfield fX0_29 dX0_init_66 (by rw [nt_x (k := 12) _ rfl (Or.inr rfl)]; exact hup_self _ _ _) rfl rfl (Nat.le_of_ble_eq_true rfl) ?_
  dsimp only [List.set]
  refine AW.hp (nt_u (k := 12) NZ rfl (Or.inr rfl) _) ?_
  rw [hup_hup]
  refine aw_aload_n (i := 0) dX0_init_69 rfl rfl ?_
  refine aw_lconst (v := 1) dX0_init_70 (by decide) ?_
  refine aw_putfield fX0_32 dX0_init_71 (by rw [nt_x (k := 12) _ rfl (Or.inr rfl)]; exact hup_self _ _ _) rfl rfl (Nat.le_of_ble_eq_true rfl) ?_
  dsimp only [List.set]
  refine AW.hp (nt_u (k := 12) NZ rfl (Or.inr rfl) _) ?_
  rw [hup_hup]
  refine aw_aload_n (i := 0) dX0_init_74 rfl rfl ?_
  refine aw_lconst (v := 0) dX0_init_75 (by decide) ?_
  refine aw_putfield fX0_36 dX0_init_76 (by rw [nt_x (k := 12) _ rfl (Or.inr rfl)]; exact hup_self _ _ _) rfl rfl (Nat.le_of_ble_eq_true rfl) ?_
  dsimp only [List.set]
  refine AW.hp (nt_u (k := 12) NZ rfl (Or.inr rfl) _) ?_
  rw [hup_hup]
  refine aw_aload_n (i := 0) dX0_init_79 rfl rfl ?_
  refine aw_lconst (v := 0) dX0_init_80 (by decide) ?_
  refine aw_putfield fX0_39 dX0_init_81 (by rw [nt_x (k := 12) _ rfl (Or.inr rfl)]; exact hup_self _ _ _) rfl rfl (Nat.le_of_ble_eq_true rfl) ?_
  dsimp only [List.set]
  refine AW.hp (nt_u (k := 12) NZ rfl (Or.inr rfl) _) ?_
  rw [hup_hup]
  refine aw_aload_n (i := 0) dX0_init_84 rfl rfl ?_
  refine aw_lconst (v := 1) dX0_init_85 (by decide) ?_
  refine aw_putfield fX0_42 dX0_init_86 (by rw [nt_x (k := 12) _ rfl (Or.inr rfl)]; exact hup_self _ _ _) rfl rfl (Nat.le_of_ble_eq_true rfl) ?_
  dsimp only [List.set]
  refine AW.hp (nt_u (k := 12) NZ rfl (Or.inr rfl) _) ?_
  rw [hup_hup]
  refine aw_return dX0_init_89 rfl (Nat.le_of_ble_eq_true rfl) (Nat.le_of_ble_eq_true rfl) ?_
  exact hQ _ _ _ ⟨rfl, rfl, rfl⟩
theorem ct_X2_init (X : Nat) (hc : Hp) (hD : hc (X + 23) = some (.inr (2, [.null, .null, .null, .null, .null, .null]))) : CT mX2_init 12 444 (X + 24) (nh hc (LT X 24) NZ) [.ref (X + 23)] (fun r n' h' => r = none ∧ X + 36 = n' ∧ h' = nh (hup hc (X + 23) (mem (X + 23))) (LT X 36) NZ) := by
  refine CT.intro [some (.ref (X + 23))] 0 rfl rfl (by decide) ?_
  intro Q hQ
  refine aw_aload_n (i := 0) dX2_init_0 rfl rfl ?_
  refine aw_objinit kX2_3 obj_i obj_c dX2_init_1 (by decide) (Nat.le_of_ble_eq_true rfl) ?_
  refine aw_aload_n (i := 0) dX2_init_4 rfl rfl ?_
  refine aw_new nX2_9 dX2_init_5 (Nat.le_of_ble_eq_true rfl) (Nat.le_of_ble_eq_true rfl) ?_
  refine aw_dup dX2_init_8 rfl ?_
  refine aw_bipush (v := 72) dX2_init_9 (by decide +kernel) ?_
  refine aw_invokespecial kX2_11 dX2_init_11 (ct_X3_init (X + 24 + 1) _ (X + 24) 72 (hup_self _ _ _) (by omega) (by decide) (by decide)) rfl rfl (Nat.le_of_ble_eq_true rfl) ⟨Nat.le_of_ble_eq_true rfl, Nat.le_of_ble_eq_true rfl⟩ ⟨Nat.le_of_ble_eq_true rfl, Nat.le_of_ble_eq_true rfl⟩ ?_
  rintro _ _ _ ⟨rfl, rfl, rfl⟩
  refine AW.hp (nt_num (c := 24) _ rfl rfl (Or.inr rfl) (by decide)) ?_
  refine aw_putfinal fX2_14 rfl dX2_init_14 (by rw [nt_x (k := 23) _ rfl (Or.inr rfl)]; exact hD) rfl rfl (Nat.le_of_ble_eq_true rfl) ?_
  dsimp only [List.set]
  refine AW.hp (nt_u (k := 23) NZ rfl (Or.inr rfl) _) ?_
  refine aw_aload_n (i := 0) dX2_init_17 rfl rfl ?_
  refine aw_new nX2_9 dX2_init_18 (Nat.le_of_ble_eq_true rfl) (Nat.le_of_ble_eq_true rfl) ?_
  refine aw_dup dX2_init_21 rfl ?_
  refine aw_bipush (v := 72) dX2_init_22 (by decide +kernel) ?_
  refine aw_invokespecial kX2_11 dX2_init_24 (ct_X3_init (X + 26 + 1) _ (X + 26) 72 (hup_self _ _ _) (by omega) (by decide) (by decide)) rfl rfl (Nat.le_of_ble_eq_true rfl) ⟨Nat.le_of_ble_eq_true rfl, Nat.le_of_ble_eq_true rfl⟩ ⟨Nat.le_of_ble_eq_true rfl, Nat.le_of_ble_eq_true rfl⟩ ?_
  rintro _ _ _ ⟨rfl, rfl, rfl⟩
  refine AW.hp (nt_num (c := 26) _ rfl rfl (Or.inr rfl) (by decide)) ?_
  refine aw_putfinal fX2_20 rfl dX2_init_27 (by rw [nt_x (k := 23) _ rfl (Or.inr rfl)]; exact hup_self _ _ _) rfl rfl (Nat.le_of_ble_eq_true rfl) ?_
  dsimp only [List.set]
  refine AW.hp (nt_u (k := 23) NZ rfl (Or.inr rfl) _) ?_
  rw [hup_hup]
  refine aw_aload_n (i := 0) dX2_init_30 rfl rfl ?_
  refine aw_new nX2_9 dX2_init_31 (Nat.le_of_ble_eq_true rfl) (Nat.le_of_ble_eq_true rfl) ?_
  refine aw_dup dX2_init_34 rfl ?_
  refine aw_bipush (v := 72) dX2_init_35 (by decide +kernel) ?_
  refine aw_invokespecial kX2_11 dX2_init_37 (ct_X3_init (X + 28 + 1) _ (X + 28) 72 (hup_self _ _ _) (by omega) (by decide) (by decide)) rfl rfl (Nat.le_of_ble_eq_true rfl) ⟨Nat.le_of_ble_eq_true rfl, Nat.le_of_ble_eq_true rfl⟩ ⟨Nat.le_of_ble_eq_true rfl, Nat.le_of_ble_eq_true rfl⟩ ?_
  rintro _ _ _ ⟨rfl, rfl, rfl⟩
  refine AW.hp (nt_num (c := 28) _ rfl rfl (Or.inr rfl) (by decide)) ?_
  refine aw_putfinal fX2_23 rfl dX2_init_40 (by rw [nt_x (k := 23) _ rfl (Or.inr rfl)]; exact hup_self _ _ _) rfl rfl (Nat.le_of_ble_eq_true rfl) ?_
  dsimp only [List.set]
  refine AW.hp (nt_u (k := 23) NZ rfl (Or.inr rfl) _) ?_
  rw [hup_hup]
  refine aw_aload_n (i := 0) dX2_init_43 rfl rfl ?_
  refine aw_new nX2_9 dX2_init_44 (Nat.le_of_ble_eq_true rfl) (Nat.le_of_ble_eq_true rfl) ?_
  refine aw_dup dX2_init_47 rfl ?_
  refine aw_bipush (v := 72) dX2_init_48 (by decide +kernel) ?_
  refine aw_invokespecial kX2_11 dX2_init_50 (ct_X3_init (X + 30 + 1) _ (X + 30) 72 (hup_self _ _ _) (by omega) (by decide) (by decide)) rfl rfl (Nat.le_of_ble_eq_true rfl) ⟨Nat.le_of_ble_eq_true rfl, Nat.le_of_ble_eq_true rfl⟩ ⟨Nat.le_of_ble_eq_true rfl, Nat.le_of_ble_eq_true rfl⟩ ?_
  rintro _ _ _ ⟨rfl, rfl, rfl⟩
  refine AW.hp (nt_num (c := 30) _ rfl rfl (Or.inr rfl) (by decide)) ?_
  refine aw_putfinal fX2_26 rfl dX2_init_53 (by rw [nt_x (k := 23) _ rfl (Or.inr rfl)]; exact hup_self _ _ _) rfl rfl (Nat.le_of_ble_eq_true rfl) ?_
  dsimp only [List.set]
  refine AW.hp (nt_u (k := 23) NZ rfl (Or.inr rfl) _) ?_
  rw [hup_hup]
  refine aw_aload_n (i := 0) dX2_init_56 rfl rfl ?_
  refine aw_new nX2_9 dX2_init_57 (Nat.le_of_ble_eq_true rfl) (Nat.le_of_ble_eq_true rfl) ?_
  refine aw_dup dX2_init_60 rfl ?_
  refine aw_bipush (v := 72) dX2_init_61 (by decide +kernel) ?_
  refine aw_invokespecial kX2_11 dX2_init_63 (ct_X3_init (X + 32 + 1) _ (X + 32) 72 (hup_self _ _ _) (by omega) (by decide) (by decide)) rfl rfl (Nat.le_of_ble_eq_true rfl) ⟨Nat.le_of_ble_eq_true rfl, Nat.le_of_ble_eq_true rfl⟩ ⟨Nat.le_of_ble_eq_true rfl, Nat.le_of_ble_eq_true rfl⟩ ?_
  rintro _ _ _ ⟨rfl, rfl, rfl⟩
  refine AW.hp (nt_num (c := 32) _ rfl rfl (Or.inr rfl) (by decide)) ?_
  refine aw_putfinal fX2_29 rfl dX2_init_66 (by rw [nt_x (k := 23) _ rfl (Or.inr rfl)]; exact hup_self _ _ _) rfl rfl (Nat.le_of_ble_eq_true rfl) ?_
  dsimp only [List.set]
  refine AW.hp (nt_u (k := 23) NZ rfl (Or.inr rfl) _) ?_
  rw [hup_hup]
  refine aw_aload_n (i := 0) dX2_init_69 rfl rfl ?_
  refine aw_new nX2_9 dX2_init_70 (Nat.le_of_ble_eq_true rfl) (Nat.le_of_ble_eq_true rfl) ?_
  refine aw_dup dX2_init_73 rfl ?_
  refine aw_bipush (v := 72) dX2_init_74 (by decide +kernel) ?_
  refine aw_invokespecial kX2_11 dX2_init_76 (ct_X3_init (X + 34 + 1) _ (X + 34) 72 (hup_self _ _ _) (by omega) (by decide) (by decide)) rfl rfl (Nat.le_of_ble_eq_true rfl) ⟨Nat.le_of_ble_eq_true rfl, Nat.le_of_ble_eq_true rfl⟩ ⟨Nat.le_of_ble_eq_true rfl, Nat.le_of_ble_eq_true rfl⟩ ?_
  rintro _ _ _ ⟨rfl, rfl, rfl⟩
  refine AW.hp (nt_num (c := 34) _ rfl rfl (Or.inr rfl) (by decide)) ?_
  refine aw_putfinal fX2_32 rfl dX2_init_79 (by rw [nt_x (k := 23) _ rfl (Or.inr rfl)]; exact hup_self _ _ _) rfl rfl (Nat.le_of_ble_eq_true rfl) ?_
  dsimp only [List.set]
  refine AW.hp (nt_u (k := 23) NZ rfl (Or.inr rfl) _) ?_
  rw [hup_hup]
  refine aw_return dX2_init_82 rfl (Nat.le_of_ble_eq_true rfl) (Nat.le_of_ble_eq_true rfl) ?_
  exact hQ _ _ _ ⟨rfl, rfl, rfl⟩
theorem ct_X6_init (X : Nat) (hc : Hp) (hD : hc (X + 36) = some (.inr (6, [.null, .null, .null, .null, .null, .int 0]))) : CT mX6_init 9 1010 (X + 37) (nh hc (LT X 37) NZ) [.ref (X + 36)] (fun r n' h' => r = none ∧ X + 46 = n' ∧ ∃ hc', h' = nh hc' (LT X 46) NZ ∧ hc' (X + 36) = some (tob (X + 36) 0) ∧ hc' (X + 45) = some (iar 2 (fun _ => 0)) ∧ Row hc' (X + 39) 40 8 (fun _ => 0) ∧ ∀ y, y ≠ X + 36 → y ≠ X + 39 → y ≠ X + 40 → y ≠ X + 45 → hc' y = hc y) := by
  refine CT.intro [some (.ref (X + 36))] 0 rfl rfl (by decide) ?_
  intro Q hQ
  refine aw_aload_n (i := 0) dX6_init_0 rfl rfl ?_
  refine aw_objinit kX6_3 obj_i obj_c dX6_init_1 (by decide) (Nat.le_of_ble_eq_true rfl) ?_
  refine aw_aload_n (i := 0) dX6_init_4 rfl rfl ?_
  refine aw_new nX6_9 dX6_init_5 (Nat.le_of_ble_eq_true rfl) (Nat.le_of_ble_eq_true rfl) ?_
  refine aw_dup dX6_init_8 rfl ?_
  refine aw_bipush (v := 8) dX6_init_9 (by decide +kernel) ?_
  refine aw_invokespecial kX6_11 dX6_init_11 (ct_X3_init (X + 37 + 1) _ (X + 37) 8 (hup_self _ _ _) (by omega) (by decide) (by decide)) rfl rfl (Nat.le_of_ble_eq_true rfl) ⟨Nat.le_of_ble_eq_true rfl, Nat.le_of_ble_eq_true rfl⟩ ⟨Nat.le_of_ble_eq_true rfl, Nat.le_of_ble_eq_true rfl⟩ ?_
  rintro _ _ _ ⟨rfl, rfl, rfl⟩
  refine AW.hp (nt_num (c := 37) _ rfl rfl (Or.inr rfl) (by decide)) ?_
  refine aw_putfinal fX6_14 rfl dX6_init_14 (by rw [nt_x (k := 36) _ rfl (Or.inr rfl)]; exact hD) rfl rfl (Nat.le_of_ble_eq_true rfl) ?_
  dsimp only [List.set]
  refine AW.hp (nt_u (k := 36) NZ rfl (Or.inr rfl) _) ?_
  refine aw_aload_n (i := 0) dX6_init_17 rfl rfl ?_
  refine aw_new nX6_20 dX6_init_18 (Nat.le_of_ble_eq_true rfl) (Nat.le_of_ble_eq_true rfl) ?_
  refine aw_dup dX6_init_21 rfl ?_
  refine aw_bipush (v := 40) dX6_init_22 (by decide +kernel) ?_
  refine aw_bipush (v := 8) dX6_init_24 (by decide +kernel) ?_
  refine aw_invokespecial kX6_22 dX6_init_26 (ct_X4_init (X + 39 + 1) _ (X + 39) 40 8 (hup_self _ _ _) (by omega) (by decide) (by decide) (by decide)) rfl rfl (Nat.le_of_ble_eq_true rfl) ⟨Nat.le_of_ble_eq_true rfl, Nat.le_of_ble_eq_true rfl⟩ ⟨Nat.le_of_ble_eq_true rfl, Nat.le_of_ble_eq_true rfl⟩ ?_
  rintro _ _ _ ⟨rfl, rfl, rfl⟩
  refine AW.hp (row_new (b := X + 39) (t := 40) (w := 8) ⟨LT_zm (k := 39) (Or.inr rfl), LT_z rfl, LT_z (k := 40) rfl⟩) ?_
  rw [← LT_s (X := X) (c := 39) rfl, ← LT_s (X := X) (c := 40) rfl]
  refine aw_putfinal fX6_25 rfl dX6_init_29 (by rw [nt_x (k := 36) _ rfl (Or.inr rfl), rh_x (by omega), hup_ne (by omega)]; exact hup_self _ _ _) rfl rfl (Nat.le_of_ble_eq_true rfl) ?_
  dsimp only [List.set]
  refine AW.hp (nt_u (k := 36) NZ rfl (Or.inr rfl) _) ?_
  refine aw_aload_n (i := 0) dX6_init_32 rfl rfl ?_
  refine aw_new nX6_9 dX6_init_33 (Nat.le_of_ble_eq_true rfl) (Nat.le_of_ble_eq_true rfl) ?_
  refine aw_dup dX6_init_36 rfl ?_
  refine aw_bipush (v := 10) dX6_init_37 (by decide +kernel) ?_
  refine aw_invokespecial kX6_11 dX6_init_39 (ct_X3_init (X + 41 + 1) _ (X + 41) 10 (hup_self _ _ _) (by omega) (by decide) (by decide)) rfl rfl (Nat.le_of_ble_eq_true rfl) ⟨Nat.le_of_ble_eq_true rfl, Nat.le_of_ble_eq_true rfl⟩ ⟨Nat.le_of_ble_eq_true rfl, Nat.le_of_ble_eq_true rfl⟩ ?_
  rintro _ _ _ ⟨rfl, rfl, rfl⟩
  refine AW.hp (nt_num (c := 41) _ rfl rfl (Or.inr rfl) (by decide)) ?_
  refine aw_putfinal fX6_29 rfl dX6_init_42 (by rw [nt_x (k := 36) _ rfl (Or.inr rfl)]; exact hup_self _ _ _) rfl rfl (Nat.le_of_ble_eq_true rfl) ?_
  dsimp only [List.set]
  refine AW.hp (nt_u (k := 36) NZ rfl (Or.inr rfl) _) ?_
  rw [hup_hup]
  refine aw_aload_n (i := 0) dX6_init_45 rfl rfl ?_
  refine aw_new nX6_9 dX6_init_46 (Nat.le_of_ble_eq_true rfl) (Nat.le_of_ble_eq_true rfl) ?_
  refine aw_dup dX6_init_49 rfl ?_
  refine aw_bipush (v := 10) dX6_init_50 (by decide +kernel) ?_
  refine aw_invokespecial kX6_11 dX6_init_52 (ct_X3_init (X + 43 + 1) _ (X + 43) 10 (hup_self _ _ _) (by omega) (by decide) (by decide)) rfl rfl (Nat.le_of_ble_eq_true rfl) ⟨Nat.le_of_ble_eq_true rfl, Nat.le_of_ble_eq_true rfl⟩ ⟨Nat.le_of_ble_eq_true rfl, Nat.le_of_ble_eq_true rfl⟩ ?_
  rintro _ _ _ ⟨rfl, rfl, rfl⟩
  refine AW.hp (nt_num (c := 43) _ rfl rfl (Or.inr rfl) (by decide)) ?_
  refine aw_putfinal fX6_32 rfl dX6_init_55 (by rw [nt_x (k := 36) _ rfl (Or.inr rfl)]; exact hup_self _ _ _) rfl rfl (Nat.le_of_ble_eq_true rfl) ?_
  dsimp only [List.set]
  refine AW.hp (nt_u (k := 36) NZ rfl (Or.inr rfl) _) ?_
  rw [hup_hup]
  refine aw_aload_n (i := 0) dX6_init_58 rfl rfl ?_
  refine aw_iconst (v := 2) dX6_init_59 (by decide +kernel) ?_
  refine aw_newint dX6_init_60 2 (by decide +kernel) (by decide) (Nat.le_of_ble_eq_true rfl) (Nat.le_of_ble_eq_true rfl) ?_
  refine AW.hp (nt_u (k := 45) NZ rfl (Or.inr rfl) _) ?_
  rw [← LT_s (X := X) (c := 45) rfl]
  refine aw_putfinal fX6_35 rfl dX6_init_62 (by rw [nt_x (k := 36) _ rfl (Or.inr rfl), hup_ne (by omega)]; exact hup_self _ _ _) rfl rfl (Nat.le_of_ble_eq_true rfl) ?_
  dsimp only [List.set]
  refine AW.hp (nt_u (k := 36) NZ rfl (Or.inr rfl) _) ?_
  refine aw_aload_n (i := 0) dX6_init_65 rfl rfl ?_
  refine aw_iconst (v := 0) dX6_init_66 (by decide +kernel) ?_
  refine aw_putfield fX6_39 dX6_init_67 (by rw [nt_x (k := 36) _ rfl (Or.inr rfl)]; exact hup_self _ _ _) rfl rfl (Nat.le_of_ble_eq_true rfl) ?_
  dsimp only [List.set]
  refine AW.hp (nt_u (k := 36) NZ rfl (Or.inr rfl) _) ?_
  refine aw_return dX6_init_70 rfl (Nat.le_of_ble_eq_true rfl) (Nat.le_of_ble_eq_true rfl) ?_
  refine hQ _ _ _ ⟨rfl, rfl, _, rfl, hup_self _ _ _, ?_, ⟨?_, ?_, by decide, by decide, by decide⟩, fun y h1 h2 h3 h4 => ?_⟩
  · rw [hup_ne (by omega), hup_ne (by omega)]; exact hup_self _ _ _
  · rw [hup_ne (by omega), hup_ne (by omega), hup_ne (by omega), hup_ne (by omega), rh_x (by omega)]; exact hup_self _ _ _
  · rw [hup_ne (by omega), hup_ne (by omega), hup_ne (by omega), hup_ne (by omega)]; exact rh_a
  · rw [hup_ne h1, hup_ne h1, hup_ne h4, hup_ne h1, rh_x h3, hup_ne h2, hup_ne h1]
