def S0 : TS := ((0, fun _ => 0), (0, fun _ => 0, fun _ => 0, fun _ _ => 0), (fun _ => none), 0, (1, 2), (0, 1, 1))
theorem nt_0 {hc : Hp} {X c : Nat} (N : NC) : nh hc (LT X c) N X = hc X := nt_x (k := 0) N rfl (Or.inl rfl)
theorem nt_u0 {hc : Hp} {X c : Nat} (N : NC) (ac : AC) : hup (nh hc (LT X c) N) X ac = nh (hup hc X ac) (LT X c) N := nt_u (k := 0) N rfl (Or.inl rfl) ac
theorem hup_sw {b : Hp} {y X : Nat} {w v v' : AC} (h : y ≠ X) : hup (hup (hup b X v) y w) X v' = hup (hup b y w) X v' := by rw [hup_comm (a := X) (b := y) (Ne.symm h), hup_hup]
theorem LT_f {X c r : Nat} (h0 : Lo 0 c = 0) (h1 : Lo 0 (c + 1) = r) (h2 : Lo 0 (c + 2) = 0) (h3 : Lo 0 (c + 3) = r) (h4 : Lo 0 (c + 4) = 0) : va_up (va_up (LT X c) (X + c + 1) r) (X + c + 3) r = LT X (c + 5) := by
  rw [← LT_s h0, Nat.add_assoc X c 1, LT_n h1 h2, Nat.add_assoc X c 3, LT_n h3 h4]
theorem Lo_pls {p : Nat} (hp : p < 16) : Lo 0 (46 + 5 * p) = 0 ∧ Lo 0 (46 + 5 * p - 1) = 0 ∧ Lo 0 (46 + 5 * p + 1) = 32 ∧ Lo 0 (46 + 5 * p + 2) = 0 ∧ Lo 0 (46 + 5 * p + 3) = 32 ∧ Lo 0 (46 + 5 * p + 4) = 0 := by
  obtain ⟨a, b, c, d⟩ := Lo_pl (k := 0) hp
  refine ⟨a, b, c, ?_, d, ?_⟩
  · unfold Lo; rw [if_neg (by omega), if_pos (by omega), if_neg (by omega)]
  · unfold Lo; rw [if_neg (by omega), if_pos (by omega), if_neg (by omega)]
theorem ct_X7_init (X : Nat) (h : Hp) (hX : h X = some (.inr (7, [.null, .null, .null, .null, .null, .null, .null, .null, .null, .int 0, .int 0, .int 0, .int 0, .int 0, .int 0, .int 0, .int 0]))) : CT mX7_init 125 3248 (X + 1) h [.ref X] (fun r n' h' => r = none ∧ X + 126 = n' ∧ CRep h' X S0 ∧ ∀ y, y < X → h' y = h y) := by
  refine CT.intro [some (.ref X), none] 1 rfl rfl (by decide) ?_
  intro Q hQ
  refine AW.hp (show h = nh (hup h X (.inr (7, [.null, .null, .null, .null, .null, .null, .null, .null, .null, .int 0, .int 0, .int 0, .int 0, .int 0, .int 0, .int 0, .int 0]))) (LT X 1) NZ by rw [hup_id hX, LT_s (c := 0) rfl]; exact LT_0 X h) ?_
  refine aw_aload_n (i := 0) dX7_init_0 rfl rfl ?_
  refine aw_objinit kX7_1 obj_i obj_c dX7_init_1 (by decide) (Nat.le_of_ble_eq_true rfl) ?_
  refine aw_aload_n (i := 0) dX7_init_4 rfl rfl ?_
  refine aw_bipush (v := 8) dX7_init_5 (by decide +kernel) ?_
  refine aw_newint dX7_init_7 8 (by decide +kernel) (by decide) (Nat.le_of_ble_eq_true rfl) (Nat.le_of_ble_eq_true rfl) ?_
  refine AW.hp (nt_u (k := 1) NZ rfl (Or.inr rfl) _) ?_
  rw [← LT_s (X := X) (c := 1) rfl]
  refine aw_putfinal fX7_9 rfl dX7_init_9 (by rw [nt_0, hup_ne (by omega)]; exact hup_self _ _ _) rfl rfl (Nat.le_of_ble_eq_true rfl) ?_
  dsimp only [List.set]
  refine AW.hp (nt_u0 NZ _) ?_
  rw [hup_sw (by omega)]
  refine aw_aload_n (i := 0) dX7_init_12 rfl rfl ?_
  refine aw_bipush (v := 16) dX7_init_13 (by decide +kernel) ?_
  refine aw_anewarray (N := 16) aX7_13 (fun s q => q.2.2.2.1) dX7_init_15 (by decide +kernel) (by decide) (Nat.le_of_ble_eq_true rfl) (Nat.le_of_ble_eq_true rfl) ?_
  refine AW.hp (nt_u (k := 2) NZ rfl (Or.inr rfl) _) ?_
  rw [← LT_s (X := X) (c := 2) rfl]
  refine aw_putfinal fX7_15 rfl dX7_init_18 (by rw [nt_0, hup_ne (by omega)]; exact hup_self _ _ _) rfl rfl (Nat.le_of_ble_eq_true rfl) ?_
  dsimp only [List.set]
  refine AW.hp (nt_u0 NZ _) ?_
  rw [hup_sw (by omega)]
  refine aw_aload_n (i := 0) dX7_init_21 rfl rfl ?_
  refine aw_bipush (v := 16) dX7_init_22 (by decide +kernel) ?_
  refine aw_anewarray (N := 16) aX7_19 (fun s q => q.2.2.2.2) dX7_init_24 (by decide +kernel) (by decide) (Nat.le_of_ble_eq_true rfl) (Nat.le_of_ble_eq_true rfl) ?_
  refine AW.hp (nt_u (k := 3) NZ rfl (Or.inr rfl) _) ?_
  rw [← LT_s (X := X) (c := 3) rfl]
  refine aw_putfinal fX7_21 rfl dX7_init_27 (by rw [nt_0, hup_ne (by omega)]; exact hup_self _ _ _) rfl rfl (Nat.le_of_ble_eq_true rfl) ?_
  dsimp only [List.set]
  refine AW.hp (nt_u0 NZ _) ?_
  rw [hup_sw (by omega)]
  refine aw_aload_n (i := 0) dX7_init_30 rfl rfl ?_
  refine aw_iconst (v := 2) dX7_init_31 (by decide +kernel) ?_
  refine aw_newint dX7_init_32 2 (by decide +kernel) (by decide) (Nat.le_of_ble_eq_true rfl) (Nat.le_of_ble_eq_true rfl) ?_
  refine AW.hp (nt_u (k := 4) NZ rfl (Or.inr rfl) _) ?_
  rw [← LT_s (X := X) (c := 4) rfl]
  refine aw_putfinal fX7_25 rfl dX7_init_34 (by rw [nt_0, hup_ne (by omega)]; exact hup_self _ _ _) rfl rfl (Nat.le_of_ble_eq_true rfl) ?_
  dsimp only [List.set]
  refine AW.hp (nt_u0 NZ _) ?_
  rw [hup_sw (by omega)]
  refine aw_aload_n (i := 0) dX7_init_37 rfl rfl ?_
  refine aw_new nX7_19 dX7_init_38 (Nat.le_of_ble_eq_true rfl) (Nat.le_of_ble_eq_true rfl) ?_
  refine AW.hp (nt_u (k := 5) NZ rfl (Or.inr rfl) _) ?_
  refine aw_dup dX7_init_41 rfl ?_
  refine aw_bipush (v := 72) dX7_init_42 (by decide +kernel) ?_
  refine aw_invokespecial kX7_28 dX7_init_44 (ct_X1_init (X + 5 + 1) _ (LT X 5) NZ (X + 5) 72 (hup_self _ _ _) (fun c _ => LT_ge (by omega)) (LT_zm (k := 5) (Or.inr rfl)) rfl (by decide) (by decide)) rfl rfl (Nat.le_of_ble_eq_true rfl) ⟨Nat.le_of_ble_eq_true rfl, Nat.le_of_ble_eq_true rfl⟩ ⟨Nat.le_of_ble_eq_true rfl, Nat.le_of_ble_eq_true rfl⟩ ?_
  rintro _ _ _ ⟨rfl, rfl, rfl⟩
  rw [hup_hup, NZ_up, NZ_up, LT_f (X := X) (c := 5) (r := 72) rfl rfl rfl rfl rfl]
  refine aw_putfinal fX7_31 rfl dX7_init_47 (by rw [nt_0, hup_ne (by omega)]; exact hup_self _ _ _) rfl rfl (Nat.le_of_ble_eq_true rfl) ?_
  dsimp only [List.set]
  refine AW.hp (nt_u0 NZ _) ?_
  rw [hup_sw (by omega)]
  refine aw_aload_n (i := 0) dX7_init_50 rfl rfl ?_
  refine aw_new nX7_35 dX7_init_51 (Nat.le_of_ble_eq_true rfl) (Nat.le_of_ble_eq_true rfl) ?_
  refine aw_dup dX7_init_54 rfl ?_
  refine aw_bipush (v := 72) dX7_init_55 (by decide +kernel) ?_
  refine aw_invokespecial kX7_37 dX7_init_57 (ct_X3_init (X + 10 + 1) _ (X + 10) 72 (hup_self _ _ _) (by omega) (by decide) (by decide)) rfl rfl (Nat.le_of_ble_eq_true rfl) ⟨Nat.le_of_ble_eq_true rfl, Nat.le_of_ble_eq_true rfl⟩ ⟨Nat.le_of_ble_eq_true rfl, Nat.le_of_ble_eq_true rfl⟩ ?_
  rintro _ _ _ ⟨rfl, rfl, rfl⟩
  refine AW.hp (nt_num (c := 10) _ rfl rfl (Or.inr rfl) (by decide)) ?_
  refine aw_putfinal fX7_38 rfl dX7_init_60 (by rw [nt_0]; exact hup_self _ _ _) rfl rfl (Nat.le_of_ble_eq_true rfl) ?_
  dsimp only [List.set]
  refine AW.hp (nt_u0 NZ _) ?_
  rw [hup_hup]
  refine aw_aload_n (i := 0) dX7_init_63 rfl rfl ?_
  refine aw_new nX7_42 dX7_init_64 (Nat.le_of_ble_eq_true rfl) (Nat.le_of_ble_eq_true rfl) ?_
  refine AW.hp (nt_u (k := 12) NZ rfl (Or.inr rfl) _) ?_
  rw [← LT_s (X := X) (c := 12) rfl]
  refine aw_dup dX7_init_67 rfl ?_
  refine aw_invokenest kX7_44 dX7_init_68 (ct_X0_init X _ (hup_self _ _ _)) rfl rfl (Nat.le_of_ble_eq_true rfl) ⟨Nat.le_of_ble_eq_true rfl, Nat.le_of_ble_eq_true rfl⟩ ⟨Nat.le_of_ble_eq_true rfl, Nat.le_of_ble_eq_true rfl⟩ ?_
  rintro _ _ _ ⟨rfl, rfl, rfl⟩
  rw [hup_hup]
  refine aw_putfinal fX7_45 rfl dX7_init_71 (by rw [nt_0, hup_ne (by omega)]; exact hup_self _ _ _) rfl rfl (Nat.le_of_ble_eq_true rfl) ?_
  dsimp only [List.set]
  refine AW.hp (nt_u0 NZ _) ?_
  rw [hup_sw (by omega)]
  refine aw_aload_n (i := 0) dX7_init_74 rfl rfl ?_
  refine aw_new nX7_49 dX7_init_75 (Nat.le_of_ble_eq_true rfl) (Nat.le_of_ble_eq_true rfl) ?_
  refine AW.hp (nt_u (k := 23) NZ rfl (Or.inr rfl) _) ?_
  rw [← LT_s (X := X) (c := 23) rfl]
  refine aw_dup dX7_init_78 rfl ?_
  refine aw_invokenest kX7_51 dX7_init_79 (ct_X2_init X _ (hup_self _ _ _)) rfl rfl (Nat.le_of_ble_eq_true rfl) ⟨Nat.le_of_ble_eq_true rfl, Nat.le_of_ble_eq_true rfl⟩ ⟨Nat.le_of_ble_eq_true rfl, Nat.le_of_ble_eq_true rfl⟩ ?_
  rintro _ _ _ ⟨rfl, rfl, rfl⟩
  rw [hup_hup]
  refine aw_putfinal fX7_52 rfl dX7_init_82 (by rw [nt_0, hup_ne (by omega)]; exact hup_self _ _ _) rfl rfl (Nat.le_of_ble_eq_true rfl) ?_
  dsimp only [List.set]
  refine AW.hp (nt_u0 NZ _) ?_
  rw [hup_sw (by omega)]
  refine aw_aload_n (i := 0) dX7_init_85 rfl rfl ?_
  refine aw_new nX7_56 dX7_init_86 (Nat.le_of_ble_eq_true rfl) (Nat.le_of_ble_eq_true rfl) ?_
  refine AW.hp (nt_u (k := 36) NZ rfl (Or.inr rfl) _) ?_
  rw [← LT_s (X := X) (c := 36) rfl]
  refine aw_dup dX7_init_89 rfl ?_
  refine aw_invokenest kX7_58 dX7_init_90 (ct_X6_init X _ (hup_self _ _ _)) rfl rfl (Nat.le_of_ble_eq_true rfl) ⟨Nat.le_of_ble_eq_true rfl, Nat.le_of_ble_eq_true rfl⟩ ⟨Nat.le_of_ble_eq_true rfl, Nat.le_of_ble_eq_true rfl⟩ ?_
  rintro _ _ _ ⟨rfl, rfl, hc1, rfl, t1, t2, t3, t4⟩
  have q : ∀ y, y ≠ X + 36 → y ≠ X + 39 → y ≠ X + 40 → y ≠ X + 45 → hc1 y = _ := t4
  have qX := q X (by omega) (by omega) (by omega) (by omega)
  rw [hup_ne (by omega), hup_self] at qX
  have e1 : hc1 (X + 1) = some (iar 8 (fun _ => 0)) := by rw [q _ (by omega) (by omega) (by omega) (by omega), hup_ne (by omega), hup_ne (by omega), hup_ne (by omega), hup_ne (by omega), hup_ne (by omega), hup_ne (by omega), hup_ne (by omega), hup_ne (by omega)]; exact hup_self _ _ _
  have e2 : hc1 (X + 2) = some (oar "TailBounds$Source" 16 (fun _ => none)) := by rw [q _ (by omega) (by omega) (by omega) (by omega), hup_ne (by omega), hup_ne (by omega), hup_ne (by omega), hup_ne (by omega), hup_ne (by omega), hup_ne (by omega), hup_ne (by omega)]; exact hup_self _ _ _
  have e3 : hc1 (X + 3) = some (oar "TailBounds$Fraction" 16 (fun _ => none)) := by rw [q _ (by omega) (by omega) (by omega) (by omega), hup_ne (by omega), hup_ne (by omega), hup_ne (by omega), hup_ne (by omega), hup_ne (by omega), hup_ne (by omega)]; exact hup_self _ _ _
  have e4 : hc1 (X + 4) = some (iar 2 (fun _ => 0)) := by rw [q _ (by omega) (by omega) (by omega) (by omega), hup_ne (by omega), hup_ne (by omega), hup_ne (by omega), hup_ne (by omega), hup_ne (by omega)]; exact hup_self _ _ _
  have e5 : hc1 (X + 5) = some (fobj (X + 5) 0) := by rw [q _ (by omega) (by omega) (by omega) (by omega), hup_ne (by omega), hup_ne (by omega), hup_ne (by omega), hup_ne (by omega)]; exact hup_self _ _ _
  have e12 : hc1 (X + 12) = some (dobj (X + 13) (X + 15) (X + 17) (X + 19) (X + 21) 1 0 0 1) := by rw [q _ (by omega) (by omega) (by omega) (by omega), hup_ne (by omega), hup_ne (by omega), hup_ne (by omega)]; exact hup_self _ _ _
  have e23 : hc1 (X + 23) = some (mem (X + 23)) := by rw [q _ (by omega) (by omega) (by omega) (by omega), hup_ne (by omega), hup_ne (by omega)]; exact hup_self _ _ _
  have eo : ∀ y, y < X → hc1 y = h y := fun y hy => by rw [q _ (by omega) (by omega) (by omega) (by omega), hup_ne (by omega), hup_ne (by omega), hup_ne (by omega), hup_ne (by omega), hup_ne (by omega), hup_ne (by omega), hup_ne (by omega), hup_ne (by omega), hup_ne (by omega)]
  clear q t4
  refine aw_putfinal fX7_59 rfl dX7_init_93 (by rw [nt_0]; exact qX) rfl rfl (Nat.le_of_ble_eq_true rfl) ?_
  dsimp only [List.set]
  refine AW.hp (nt_u0 NZ _) ?_
  refine aw_aload_n (i := 0) dX7_init_96 rfl rfl ?_
  refine aw_iconst (v := 0) dX7_init_97 (by decide +kernel) ?_
  refine aw_putfield fX7_63 dX7_init_98 (by rw [nt_0]; exact hup_self _ _ _) rfl rfl (Nat.le_of_ble_eq_true rfl) ?_
  dsimp only [List.set]
  refine AW.hp (nt_u0 NZ _) ?_
  rw [hup_hup]
  refine aw_aload_n (i := 0) dX7_init_101 rfl rfl ?_
  refine aw_iconst (v := 0) dX7_init_102 (by decide +kernel) ?_
  refine aw_putfield fX7_67 dX7_init_103 (by rw [nt_0]; exact hup_self _ _ _) rfl rfl (Nat.le_of_ble_eq_true rfl) ?_
  dsimp only [List.set]
  refine AW.hp (nt_u0 NZ _) ?_
  rw [hup_hup]
  refine aw_aload_n (i := 0) dX7_init_106 rfl rfl ?_
  refine aw_iconst (v := 0) dX7_init_107 (by decide +kernel) ?_
  refine aw_putfield fX7_70 dX7_init_108 (by rw [nt_0]; exact hup_self _ _ _) rfl rfl (Nat.le_of_ble_eq_true rfl) ?_
  dsimp only [List.set]
  refine AW.hp (nt_u0 NZ _) ?_
  rw [hup_hup]
  refine aw_aload_n (i := 0) dX7_init_111 rfl rfl ?_
  refine aw_iconst (v := 1) dX7_init_112 (by decide +kernel) ?_
  refine aw_putfield fX7_73 dX7_init_113 (by rw [nt_0]; exact hup_self _ _ _) rfl rfl (Nat.le_of_ble_eq_true rfl) ?_
  dsimp only [List.set]
  refine AW.hp (nt_u0 NZ _) ?_
  rw [hup_hup]
  refine aw_aload_n (i := 0) dX7_init_116 rfl rfl ?_
  refine aw_iconst (v := 2) dX7_init_117 (by decide +kernel) ?_
  refine aw_putfield fX7_76 dX7_init_118 (by rw [nt_0]; exact hup_self _ _ _) rfl rfl (Nat.le_of_ble_eq_true rfl) ?_
  dsimp only [List.set]
  refine AW.hp (nt_u0 NZ _) ?_
  rw [hup_hup]
  refine aw_aload_n (i := 0) dX7_init_121 rfl rfl ?_
  refine aw_iconst (v := 0) dX7_init_122 (by decide +kernel) ?_
  refine aw_putfield fX7_79 dX7_init_123 (by rw [nt_0]; exact hup_self _ _ _) rfl rfl (Nat.le_of_ble_eq_true rfl) ?_
  dsimp only [List.set]
  refine AW.hp (nt_u0 NZ _) ?_
  rw [hup_hup]
  refine aw_aload_n (i := 0) dX7_init_126 rfl rfl ?_
  refine aw_iconst (v := 1) dX7_init_127 (by decide +kernel) ?_
  refine aw_putfield fX7_82 dX7_init_128 (by rw [nt_0]; exact hup_self _ _ _) rfl rfl (Nat.le_of_ble_eq_true rfl) ?_
  dsimp only [List.set]
  refine AW.hp (nt_u0 NZ _) ?_
  rw [hup_hup]
  refine aw_aload_n (i := 0) dX7_init_131 rfl rfl ?_
  refine aw_iconst (v := 1) dX7_init_132 (by decide +kernel) ?_
  refine aw_putfield fX7_85 dX7_init_133 (by rw [nt_0]; exact hup_self _ _ _) rfl rfl (Nat.le_of_ble_eq_true rfl) ?_
  dsimp only [List.set]
  refine AW.hp (nt_u0 NZ _) ?_
  rw [hup_hup]
  refine AW.hp (show _ = nh (hup hc1 X (cob X S0)) (LT X 46) NZ from rfl) ?_
  have loop : ∀ (z i : Nat) (hp : Hp) (fs : Nat → Option Nat), i + z = 16 → hp X = some (cob X S0) → hp (X + 3) = some (oar "TailBounds$Fraction" 16 fs) → (∀ p, p < i → fs p = some (plb X p)) → (∀ p, p < i → hp (plb X p) = some (fobj (plb X p) 0)) → (∀ y, y < X + 46 → y ≠ X → y ≠ X + 3 → hp y = hc1 y) → AW mX7_init (gq 125 3248 Q) 138 [some (.ref X), some (.int (nI i))] [] (45 + 5 * i) (2112 + 71 * i) (plb X i) (nh hp (LT X (46 + 5 * i)) NZ) := by
    intro z
    induction z with
    | zero =>
      intro i hp fs hi hX0 h3 hf hpl ho
      obtain rfl : i = 16 := by omega
      refine aw_iload_n (i := 1) dX7_init_138 rfl rfl ?_
      refine aw_aload_n (i := 0) dX7_init_139 rfl rfl ?_
      refine aw_getfield fX7_21 dX7_init_140 (by rw [nt_0]; exact hX0) rfl ?_
      refine aw_arraylength dX7_init_143 (by rw [nt_x (k := 3) _ rfl (Or.inr rfl)]; exact h3) ?_
      refine aw_icmp_ge (tgt := 168) dX7_init_144 (by decide) (fun _ => ?_) (fun c => (c (nI_le (a := 16) (b := 16) (Nat.le_refl _) (by decide))).elim)
      refine aw_return dX7_init_168 rfl (Nat.le_of_ble_eq_true rfl) (Nat.le_of_ble_eq_true rfl) ?_
      refine hQ _ _ _ ⟨rfl, rfl, ⟨hp, NZ, ?_, ?_⟩, fun y hy => ?_⟩
      · rw [show 46 + 5 * 16 = 126 from rfl, LT_end]; rfl
      · refine ⟨fun k hk => ⟨0, num_zn _⟩, ⟨hX0, ⟨fun _ => 0, by rw [ho _ (by omega) (by omega) (by omega)]; exact e1, fun i hi => absurd hi (Nat.not_lt_zero i)⟩, ⟨fun _ => none, by rw [ho _ (by omega) (by omega) (by omega)]; exact e2, fun j hj => absurd hj (Nat.not_lt_zero j)⟩, ⟨fs, h3, hf⟩, ⟨fun _ => 0, by rw [ho _ (by omega) (by omega) (by omega)]; exact e4⟩, by rw [ho _ (by omega) (by omega) (by omega)]; exact e5, by rw [ho _ (by omega) (by omega) (by omega)]; exact e23, 0, fun _ => 0, fun _ => 0, by rw [ho _ (by omega) (by omega) (by omega)]; exact t1, by rw [ho _ (by omega) (by omega) (by omega)]; exact t2, by rw [ho _ (by omega) (by omega) (by omega)]; exact t3.1, by rw [ho _ (by omega) (by omega) (by omega)]; exact t3.2.1, t3.2.2⟩, fun p hp' => ⟨hpl p hp', fun u d q => by cases q⟩, fun j hj => absurd hj (Nat.not_lt_zero j), X + 17, X + 19, X + 21, ⟨1, 0, 0, 1, by rw [ho _ (by omega) (by omega) (by omega)]; exact e12, ⟨by rw [LC_at]; rfl, by rw [show X + 12 - 1 = X + 11 by omega, LC_at]; rfl⟩, ⟨by show LC X 0 (X + 13) = 72; rw [LC_at]; rfl, by show LC X 0 (X + 15) = 72; rw [LC_at]; rfl, by rw [LC_at]; rfl, by rw [LC_at]; rfl, by rw [LC_at]; rfl⟩, by omega, by omega, by omega, by omega⟩, fun k => by omega⟩
      · have z : ∀ a, a < X → LT X (46 + 5 * 16) a = 0 := fun a ha => by
          unfold LT; split
          · exact LC_lt ha
          · rfl
        rw [nh_no _ _ (z y hy) (z (y - 1) (by omega)), ho y (by omega) (by omega) (by omega)]
        exact eo y hy
    | succ z ih =>
      intro i hp fs hi hX0 h3 hf hpl ho
      obtain ⟨b0, bm, b1, b2, b3, b4⟩ := Lo_pls (p := i) (by omega)
      have ep : plb X i = X + (46 + 5 * i) := rfl
      refine aw_iload_n (i := 1) dX7_init_138 rfl rfl ?_
      refine aw_aload_n (i := 0) dX7_init_139 rfl rfl ?_
      refine aw_getfield fX7_21 dX7_init_140 (by rw [nt_0]; exact hX0) rfl ?_
      refine aw_arraylength dX7_init_143 (by rw [nt_x (k := 3) _ rfl (Or.inr rfl)]; exact h3) ?_
      refine aw_icmp_ge (tgt := 168) dX7_init_144 (by decide) (fun c => absurd c (nI_ge (b := 16) (by omega) (by decide))) (fun _ => ?_)
      refine aw_aload_n (i := 0) dX7_init_147 rfl rfl ?_
      refine aw_getfield fX7_21 dX7_init_148 (by rw [nt_0]; exact hX0) rfl ?_
      refine aw_iload_n (i := 1) dX7_init_151 rfl rfl ?_
      refine aw_new nX7_19 dX7_init_152 (by show 45 + 5 * i + 1 ≤ 125; omega) (by show 2112 + 71 * i + 3 ≤ 3248; omega) ?_
      refine AW.hp (nt_u (k := 46 + 5 * i) NZ b0 (Or.inr bm) _) ?_
      refine aw_dup dX7_init_155 rfl ?_
      refine aw_bipush (v := 32) dX7_init_156 (by decide +kernel) ?_
      refine aw_invokespecial kX7_28 dX7_init_158 (ct_X1_init (plb X i + 1) _ (LT X (46 + 5 * i)) NZ (plb X i) 32 (hup_self _ _ _) (fun c _ => LT_ge (by omega)) (LT_zm (k := 46 + 5 * i) (Or.inr bm)) rfl (by decide) (by decide)) rfl rfl (Nat.le_of_ble_eq_true rfl) ⟨Nat.le_of_ble_eq_true rfl, Nat.le_of_ble_eq_true rfl⟩ ⟨by show 45 + 5 * i + 1 + 4 ≤ 125; omega, by show 2112 + 71 * i + 3 + (4 + 2 * 32) ≤ 3248; omega⟩ ?_
      rintro _ _ _ ⟨rfl, rfl, rfl⟩
      rw [NZ_up, NZ_up]
      refine AW.hp (show _ = nh (hup hp (plb X i) (fobj (plb X i) 0)) (LT X (46 + 5 * i + 5)) NZ by rw [← LT_f (X := X) (c := 46 + 5 * i) b0 b1 b2 b3 b4, ep]; rw [hup_hup]) ?_
      refine aw_aastore dX7_init_161 (r := (RX1, TX1, 3)) (ci := 1) (by rw [nt_x (k := 3) _ rfl (Or.inr rfl), hup_ne (by omega)]; exact h3) (by rw [ep, nt_x (k := 46 + 5 * i) _ b0 (Or.inr bm)]; exact hup_self _ _ _) rfl (nI_toInt (by omega)) (show i < 16 by omega) ?_
      refine AW.hp (nt_u (k := 3) NZ rfl (Or.inr rfl) (oar "TailBounds$Fraction" 16 (va_up fs i (some (plb X i))))) ?_
      refine aw_iinc_1 (c0 := 1) dX7_init_162 (by decide) (by decide) rfl ?_
      refine aw_goto (tgt := 138) dX7_init_165 (by decide) ?_
      rw [nI_1]
      have := ih (i + 1) (hup (hup hp (plb X i) (fobj (plb X i) 0)) (X + 3) (oar "TailBounds$Fraction" 16 (va_up fs i (some (plb X i))))) (va_up fs i (some (plb X i))) (by omega) (by rw [hup_ne (by omega), hup_ne (by omega)]; exact hX0) (hup_self _ _ _) (fun p hp' => ?_) (fun p hp' => ?_) (fun y h1 h2 h3 => by rw [hup_ne h3, hup_ne (by omega)]; exact ho y h1 h2 h3)
      · rw [show 46 + 5 * i + 5 = 46 + 5 * (i + 1) by omega]
        refine AW.widen (k2 := 45 + 5 * (i + 1)) (s2 := 2112 + 71 * (i + 1)) (by omega) (by omega) ?_
        rw [show plb X i + 5 = plb X (i + 1) by unfold plb; omega]
        exact this
      · by_cases e : p = i
        · rw [e, va_up_at]
        · rw [va_up_off e]; exact hf p (by omega)
      · have e1 : plb X p = X + (46 + 5 * p) := rfl
        rw [hup_ne (by omega)]
        by_cases e : p = i
        · rw [e]; exact hup_self _ _ _
        · rw [hup_ne (by omega)]; exact hpl p (by omega)
  refine aw_iconst (v := 0) dX7_init_136 (by decide +kernel) ?_
  refine aw_istore_1 dX7_init_137 (by decide) rfl ?_
  exact loop 16 0 _ (fun _ => none) rfl (hup_self _ _ _) (by rw [hup_ne (by omega)]; exact e3) (fun p hp => absurd hp (Nat.not_lt_zero p)) (fun p hp => absurd hp (Nat.not_lt_zero p)) (fun y h1 h2 h3 => by rw [hup_ne h2])
