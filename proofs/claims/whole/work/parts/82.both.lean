theorem CS.rw {hc : Hp} {N : NC} {X j : Nat} {S : TS} (h : CS hc N X S) (hj : j < sN S) : ∃ g, Row hc (sob X j) (sT S j) (wdt (stot S j)) g ∧ rok (sT S j) (wdt (stot S j)) g (sC S j) := (h.2.2.2.1 j hj).2.1
theorem CS.ro {hc : Hp} {N : NC} {X j : Nat} {S : TS} (h : CS hc N X S) (hj : j < sN S) (N' : NC) : nh hc (LC X (sN S)) N' (sob X j) = some (robj (sob X j) (sT S j) (wdt (stot S j))) := by
  obtain ⟨g, hR, -⟩ := h.rw hj
  rw [nh_no _ _ (nr_so hj).2.1 (nr_so hj).1]
  exact hR.1
theorem CS.tt {hc : Hp} {N : NC} {X j : Nat} {S : TS} (h : CS hc N X S) (hj : j < sN S) : num 8 (N (sob X j + 3)) (stot S j) := (h.2.2.2.1 j hj).2.2.2.1
theorem cBoth_out {c d : Nat → Nat} {t u v : Nat} (h : t + u < v) : cBoth c d t u v = 0 := sg_zero (fun i hi => by rw [if_neg (by omega)])
theorem ck_both (h : Hp) (X : Nat) (S : TS) (x y : Int32) (hR : CRep h X S) (hI : SInv S) : CT mX7_both 10 1010 (cn X S) h [.ref X, .int x, .int y] (COK X h (opBoth S x y)) := by
  obtain ⟨hc, N, rfl, hS⟩ := hR
  refine CT.intro [some (.ref X), some (.int x), some (.int y), none, none, none] 3 rfl rfl (by decide) ?_
  intro Q hQ
  have eb : sob X (sN S) = X + (158 + 10 * sN S) := rfl
  have bad : ∀ y3 y4 : Option Value, (isS S x && (isS S y && decide (sT S (tN x) + sT S (tN y) ≤ 120))) = false → AW mX7_both (gq 10 1010 Q) 43 [some (.ref X), some (.int x), some (.int y), y3, y4, none] [] 0 0 (cn X S) (nh hc (LC X (sN S)) N) := by
    intro y3 y4 hb
    refine aw_iconst (v := (-1)) dX7_both_43 (by decide +kernel) ?_
    refine aw_ireturn dX7_both_44 rfl rfl (Nat.le_of_ble_eq_true rfl) (Nat.le_of_ble_eq_true rfl) ?_
    exact hQ _ _ _ (cbad hS _ (by unfold opBoth; rw [hb]; rfl))
  refine aw_aload_n (i := 0) dX7_both_0 rfl rfl ?_
  refine aw_iload_n (i := 1) dX7_both_1 rfl rfl ?_
  refine aw_invokevirtual kX7_135 dX7_both_2 (hS.X0 N) (hS.sourceAt hI (cn X S) N x) rfl rfl (Nat.le_of_ble_eq_true rfl) ⟨Nat.le_of_ble_eq_true rfl, Nat.le_of_ble_eq_true rfl⟩ ⟨Nat.le_of_ble_eq_true rfl, Nat.le_of_ble_eq_true rfl⟩ ?_
  rintro _ _ _ ⟨rfl, rfl, rfl⟩
  by_cases h1 : isS S x = true
  case neg =>
    rw [if_neg h1]
    refine aw_astore_3N dX7_both_5 (by decide) rfl ?_
    refine aw_aload_n (i := 0) dX7_both_6 rfl rfl ?_
    refine aw_iload_n (i := 2) dX7_both_7 rfl rfl ?_
    refine aw_invokevirtual kX7_135 dX7_both_8 (hS.X0 N) (hS.sourceAt hI (cn X S) N y) rfl rfl (Nat.le_of_ble_eq_true rfl) ⟨Nat.le_of_ble_eq_true rfl, Nat.le_of_ble_eq_true rfl⟩ ⟨Nat.le_of_ble_eq_true rfl, Nat.le_of_ble_eq_true rfl⟩ ?_
    rintro _ _ _ ⟨rfl, rfl, rfl⟩
    by_cases h2 : isS S y = true
    · rw [if_pos h2]
      refine aw_astore_4 dX7_both_11 (by decide) rfl ?_
      refine aw_aload_nN (i := 3) dX7_both_13 rfl rfl ?_
      refine aw_ifnullN (tgt := 43) dX7_both_14 (by decide) ?_
      exact bad _ _ (by simp [h1])
    · rw [if_neg h2]
      refine aw_astore_4N dX7_both_11 (by decide) rfl ?_
      refine aw_aload_nN (i := 3) dX7_both_13 rfl rfl ?_
      refine aw_ifnullN (tgt := 43) dX7_both_14 (by decide) ?_
      exact bad _ _ (by simp [h1])
  rw [if_pos h1]
  refine aw_astore_3 dX7_both_5 (by decide) rfl ?_
  refine aw_aload_n (i := 0) dX7_both_6 rfl rfl ?_
  refine aw_iload_n (i := 2) dX7_both_7 rfl rfl ?_
  refine aw_invokevirtual kX7_135 dX7_both_8 (hS.X0 N) (hS.sourceAt hI (cn X S) N y) rfl rfl (Nat.le_of_ble_eq_true rfl) ⟨Nat.le_of_ble_eq_true rfl, Nat.le_of_ble_eq_true rfl⟩ ⟨Nat.le_of_ble_eq_true rfl, Nat.le_of_ble_eq_true rfl⟩ ?_
  rintro _ _ _ ⟨rfl, rfl, rfl⟩
  by_cases h2 : isS S y = true
  case neg =>
    rw [if_neg h2]
    refine aw_astore_4N dX7_both_11 (by decide) rfl ?_
    refine aw_aload_n (i := 3) dX7_both_13 rfl rfl ?_
    refine aw_ifnull dX7_both_14 ?_
    refine aw_aloadN dX7_both_17 rfl ?_
    refine aw_ifnullN (tgt := 43) dX7_both_19 (by decide) ?_
    exact bad _ _ (by simp [h2])
  rw [if_pos h2]
  obtain ⟨ex, -, -, hx⟩ := rg_N h1 (by decide)
  obtain ⟨ey, -, -, hy⟩ := rg_N h2 (by decide)
  have hi : tN x < sN S := by omega
  have hj : tN y < sN S := by omega
  have hti := (hI.2.1.2 _ hi).2.1
  have htj := (hI.2.1.2 _ hj).2.1
  obtain ⟨-, -, p1, l1⟩ := hI.2.1.2 _ hi
  obtain ⟨-, -, p2, l2⟩ := hI.2.1.2 _ hj
  refine aw_astore_4 dX7_both_11 (by decide) rfl ?_
  refine aw_aload_n (i := 3) dX7_both_13 rfl rfl ?_
  refine aw_ifnull dX7_both_14 ?_
  refine aw_aload dX7_both_17 rfl ?_
  refine aw_ifnull dX7_both_19 ?_
  refine aw_aload_n (i := 3) dX7_both_22 rfl rfl ?_
  refine aw_getfield fX7_139 dX7_both_23 (hS.so hi N) rfl ?_
  refine aw_getfield fX7_143 dX7_both_26 (hS.ro hi N) rfl ?_
  refine aw_aload dX7_both_29 rfl ?_
  refine aw_getfield fX7_139 dX7_both_31 (hS.so hj N) rfl ?_
  refine aw_getfield fX7_143 dX7_both_34 (hS.ro hj N) rfl ?_
  refine aw_iadd dX7_both_37 ?_
  refine aw_bipush (v := 120) dX7_both_38 (by decide +kernel) ?_
  try dsimp only
  rw [nI_add]
  by_cases h3 : sT S (tN x) + sT S (tN y) ≤ 120
  case neg =>
    refine aw_icmp_le (tgt := 45) dX7_both_40 (by decide) (fun c => absurd c (nI_ge (a := 120) (by omega) (by omega))) (fun _ => ?_)
    exact bad _ _ (by simp [h3])
  have hop : opBoth S x y = (if sN S = 16 then (-3, S) else if nb (stot S (tN x) * stot S (tN y)) ≤ 256 then newS S 3 (sT S (tN x) + sT S (tN y)) (cBoth (sC S (tN x)) (sC S (tN y)) (sT S (tN x)) (sT S (tN y))) else (-4, S)) := by unfold opBoth; rw [h1, h2, decide_eq_true h3]; rfl
  rw [hop] at hQ
  generalize tN x = i at *
  generalize tN y = j at *
  refine aw_icmp_le (tgt := 45) dX7_both_40 (by decide) (fun _ => ?_) (fun c => (c (nI_le (b := 120) h3 (by decide))).elim)
  refine aw_aload_n (i := 0) dX7_both_45 rfl rfl ?_
  refine aw_invokevirtual kX7_96 dX7_both_46 (hS.X0 N) (hS.isFull hI _ N) rfl rfl (Nat.le_of_ble_eq_true rfl) ⟨Nat.le_of_ble_eq_true rfl, Nat.le_of_ble_eq_true rfl⟩ ⟨Nat.le_of_ble_eq_true rfl, Nat.le_of_ble_eq_true rfl⟩ ?_
  rintro _ _ _ ⟨rfl, rfl, rfl⟩
  by_cases hf : sN S = 16
  · rw [if_pos hf] at hQ
    rw [decide_eq_true hf]
    refine aw_if_eq (tgt := 55) dX7_both_49 (by decide) (fun c => absurd c (by decide)) (fun _ => ?_)
    refine aw_bipush (v := (-3)) dX7_both_52 (by decide +kernel) ?_
    refine aw_ireturn dX7_both_54 rfl rfl (Nat.le_of_ble_eq_true rfl) (Nat.le_of_ble_eq_true rfl) ?_
    exact hQ _ _ _ (cbad hS _ rfl)
  rw [if_neg hf] at hQ
  rw [decide_eq_false hf]
  have hk : sN S < 16 := by have := hI.2.1.1; omega
  have W := LC_W X (sN S)
  have hnr := nr_b X (sN S)
  have l10 : LC X (sN S) (X + 10) = 72 := L72 rfl
  have li3 : LC X (sN S) (sob X i + 3) = 8 := L_so (c := 3) hi (by decide)
  have lj3 : LC X (sN S) (sob X j + 3) = 8 := L_so (c := 3) hj (by decide)
  have n3i := hS.tt hi
  have n3j := hS.tt hj
  have ei : sob X i = X + (158 + 10 * i) := rfl
  have ej : sob X j = X + (158 + 10 * j) := rfl
  obtain ⟨z10, n10⟩ := hS.1 (X + 10) (by rw [l10]; decide)
  refine aw_if_eq (tgt := 55) dX7_both_49 (by decide) (fun _ => ?_) (fun c => (c rfl).elim)
  refine aw_aload_n (i := 0) dX7_both_55 rfl rfl ?_
  refine aw_getfield fX7_38 dX7_both_56 (hS.X0 N) rfl ?_
  refine aw_aload_n (i := 3) dX7_both_59 rfl rfl ?_
  refine aw_getfield fX7_146 dX7_both_60 (hS.so hi N) rfl ?_
  refine aw_aload dX7_both_63 rfl ?_
  refine aw_getfield fX7_146 dX7_both_65 (hS.so hj N) rfl ?_
  refine aw_invokevirtual kX7_149 dX7_both_68 (nh_o hc N (by rw [l10]; decide)) (ct_X3_product (sob X (sN S)) hc (LC X (sN S)) N (X + 10) (sob X i + 3) (sob X j + 3) (stot S i) (stot S j) z10 W (by rw [l10]; decide) (by rw [li3]; decide) (by rw [lj3]; decide) (by omega) (by omega) n10 (by rw [li3]; exact n3i) (by rw [lj3]; exact n3j) (by rw [l10]; have a1 := n3i.1.1; have a2 := n3j.1.1; omega)) rfl rfl (Nat.le_of_ble_eq_true rfl) ⟨Nat.le_of_ble_eq_true rfl, Nat.le_of_ble_eq_true rfl⟩ ⟨Nat.le_of_ble_eq_true rfl, Nat.le_of_ble_eq_true rfl⟩ ?_
  rintro _ _ _ ⟨rfl, rfl, N1, rfl, d1, f1⟩
  have hS1 := hS.numK (hS.1.one ⟨d1, f1⟩) (fun k hk => f1 k (by omega))
  refine aw_aload_n (i := 0) dX7_both_71 rfl rfl ?_
  refine aw_getfield fX7_38 dX7_both_72 (hS1.X0 N1) rfl ?_
  refine aw_invokevirtual kX7_153 dX7_both_75 (nh_o hc N1 (by rw [l10]; decide)) (ct_X3_bits (sob X (sN S)) hc (LC X (sN S)) N1 (X + 10) (stot S i * stot S j) W (by rw [l10]; decide) d1) rfl rfl (Nat.le_of_ble_eq_true rfl) ⟨Nat.le_of_ble_eq_true rfl, Nat.le_of_ble_eq_true rfl⟩ ⟨Nat.le_of_ble_eq_true rfl, Nat.le_of_ble_eq_true rfl⟩ ?_
  rintro _ _ _ ⟨rfl, rfl, rfl⟩
  have nbl : nb (stot S i * stot S j) ≤ 256 + 256 := nb_mul l1 l2
  refine aw_sipush (v := 256) dX7_both_78 (by decide +kernel) ?_
  by_cases h4 : nb (stot S i * stot S j) ≤ 256
  case neg =>
    rw [if_neg h4] at hQ
    refine aw_icmp_le (tgt := 87) dX7_both_81 (by decide) (fun c => absurd c (nI_ge (a := 256) (by omega) (by omega))) (fun _ => ?_)
    refine aw_bipush (v := (-4)) dX7_both_84 (by decide +kernel) ?_
    refine aw_ireturn dX7_both_86 rfl rfl (Nat.le_of_ble_eq_true rfl) (Nat.le_of_ble_eq_true rfl) ?_
    refine hQ _ _ _ ⟨rfl, rfl, ⟨hc, N1, rfl, hS1⟩, cfr_nh (fun _ _ _ => rfl)⟩
  rw [if_pos h4] at hQ
  unfold newS at hQ
  rw [if_neg hf] at hQ
  have hp : 0 < stot S i * stot S j := Nat.mul_pos p1 p2
  have hlt := nb_le.mp h4
  obtain ⟨w1, w8, wf⟩ := wdt_b hp hlt
  have hww : wdt (stot S i) ≤ wdt (stot S i * stot S j) := by
    have := nb_mono (Nat.le_mul_of_pos_right (stot S i) p2)
    unfold wdt
    omega
  have htot : sg (cBoth (sC S i) (sC S j) (sT S i) (sT S j)) (sT S i + sT S j + 1) = stot S i * stot S j := cBoth_tot _ _ _ _
  refine aw_icmp_le (tgt := 87) dX7_both_81 (by decide) (fun _ => ?_) (fun c => (c (nI_le (b := 256) h4 (by decide))).elim)
  refine aw_new nX7_119 dX7_both_87 (Nat.le_of_ble_eq_true rfl) (Nat.le_of_ble_eq_true rfl) ?_
  refine aw_dup dX7_both_90 rfl ?_
  refine aw_aload_n (i := 3) dX7_both_91 rfl rfl ?_
  refine aw_getfield fX7_139 dX7_both_92 (by rw [hup_ne (by omega)]; exact hS1.so hi N1) rfl ?_
  refine aw_getfield fX7_143 dX7_both_95 (by rw [hup_ne (by omega)]; exact hS1.ro hi N1) rfl ?_
  refine aw_aload dX7_both_98 rfl ?_
  refine aw_getfield fX7_139 dX7_both_100 (by rw [hup_ne (by omega)]; exact hS1.so hj N1) rfl ?_
  refine aw_getfield fX7_143 dX7_both_103 (by rw [hup_ne (by omega)]; exact hS1.ro hj N1) rfl ?_
  refine aw_iadd dX7_both_106 ?_
  refine aw_aload_n (i := 0) dX7_both_107 rfl rfl ?_
  refine aw_getfield fX7_38 dX7_both_108 (by rw [hup_ne (by omega)]; exact hS1.X0 N1) rfl ?_
  refine aw_getfield fX7_121 dX7_both_111 (by rw [hup_ne (by omega)]; exact nh_o hc N1 (by rw [l10]; decide)) rfl ?_
  try dsimp only
  rw [nI_add, num_sz d1]
  have ew : (nb (stot S i * stot S j) + 31) / 32 = wdt (stot S i * stot S j) := rfl
  rw [ew]
  refine aw_invokespecial kX7_124 dX7_both_114 (ct_X4_init (sob X (sN S) + 1) (hup (nh hc (LC X (sN S)) N1) (sob X (sN S)) (.inr (4, [.int 0, .int 0, .null]))) (sob X (sN S)) (sT S i + sT S j) (wdt (stot S i * stot S j)) (hup_self _ _ _) (by omega) h3 w1 w8) rfl rfl (Nat.le_of_ble_eq_true rfl) ⟨Nat.le_of_ble_eq_true rfl, Nat.le_of_ble_eq_true rfl⟩ ⟨Nat.le_of_ble_eq_true rfl, Nat.le_of_ble_eq_true rfl⟩ ?_
  rintro _ _ _ ⟨rfl, rfl, rfl⟩
  refine AW.hp (row_new hnr) ?_
  generalize hw : wdt (stot S i * stot S j) = w at *
  have hRow0 : ∀ g, Row (rh (hup hc (sob X (sN S)) (robj (sob X (sN S)) (sT S i + sT S j) w)) (sob X (sN S)) (sT S i + sT S j) w g) (sob X (sN S)) (sT S i + sT S j) w g := fun g => ⟨rh_o (hup_self _ _ _), rh_a, h3, w1, w8⟩
  obtain ⟨od, ho4⟩ := hS.2.1.2.2.2.2.1
  have hS3 : ∀ g, CS (rh (hup hc (sob X (sN S)) (robj (sob X (sN S)) (sT S i + sT S j) w)) (sob X (sN S)) (sT S i + sT S j) w g) N1 X S := fun g => hS1.fr hS1.1 (fun _ _ _ => rfl) (fun y h1 _ => by rw [rh_x (by omega), hup_ne (by omega)]) ⟨od, by rw [rh_x (by omega), hup_ne (by omega)]; exact ho4⟩
  obtain ⟨gi, Ri, ki⟩ := (hS3 (fun _ => 0)).rw hi
  obtain ⟨gj, Rj, kj⟩ := (hS3 (fun _ => 0)).rw hj
  have hfit : ∀ v, (fun _ => 0) v + cBoth (sC S i) (sC S j) (sT S i) (sT S j) v < (2 ^ 32) ^ w := fun v => by
    show 0 + cBoth (sC S i) (sC S j) (sT S i) (sT S j) v < _
    rw [Nat.zero_add]
    by_cases hv : v < sT S i + sT S j + 1
    · exact Nat.lt_of_le_of_lt (by rw [← htot]; exact sg_ge hv) wf
    · rw [cBoth_out (by omega)]; exact Nat.pow_pos (by decide)
  refine aw_astore_5 dX7_both_117 (by decide) rfl ?_
  refine aw_aload dX7_both_119 rfl ?_
  refine aw_aload_n (i := 3) dX7_both_121 rfl rfl ?_
  refine aw_getfield fX7_139 dX7_both_122 ((hS3 _).so hi N1) rfl ?_
  refine aw_aload dX7_both_125 rfl ?_
  refine aw_getfield fX7_139 dX7_both_127 ((hS3 _).so hj N1) rfl ?_
  refine aw_invokevirtual kX7_157 dX7_both_130 ((hRow0 _).nh hnr N1).1 (ct_X4_addAllPairs (sob X (sN S) + 2) _ (sob X (sN S)) (sob X i) (sob X j) (sT S i + sT S j) (sT S i) (sT S j) w _ _ _ _ gi _ gj _ ((hRow0 _).nh hnr N1) (rok_z _ _) (Ri.nh (nr_so hi) N1) ki (Rj.nh (nr_so hj) N1) kj (by omega) (by omega) (by omega) (by omega) (Nat.le_refl _) hww hfit) rfl rfl (Nat.le_of_ble_eq_true rfl) ⟨Nat.le_of_ble_eq_true rfl, Nat.le_of_ble_eq_true rfl⟩ ⟨Nat.le_of_ble_eq_true rfl, Nat.le_of_ble_eq_true rfl⟩ ?_
  rintro _ _ _ ⟨rfl, rfl, g2, rfl, hr'⟩
  refine AW.hp (rh_nh hnr) ?_
  refine aw_aload_n (i := 0) dX7_both_133 rfl rfl ?_
  refine aw_iconst (v := 3) dX7_both_134 (by decide +kernel) ?_
  refine aw_aload dX7_both_135 rfl ?_
  refine aw_invokevirtual kX7_104 dX7_both_137 ((hS3 _).X0 N1) (ct_X7_keep _ N1 X 3 (sT S i + sT S j) S (cBoth (sC S i) (sC S j) (sT S i) (sT S j)) g2 (hS3 g2) hI hk (by rw [htot, hw]; exact hRow0 g2) (by rw [htot, hw]; exact rok_congr hr' (fun v hv => (Nat.zero_add _).symm)) (by rw [htot]; exact hp) (by rw [htot]; exact hlt)) rfl rfl (Nat.le_of_ble_eq_true rfl) ⟨Nat.le_of_ble_eq_true rfl, Nat.le_of_ble_eq_true rfl⟩ ⟨Nat.le_of_ble_eq_true rfl, Nat.le_of_ble_eq_true rfl⟩ ?_
  rintro _ _ h' ⟨rfl, rfl, hR', hF⟩
  refine aw_ireturn dX7_both_140 rfl rfl (Nat.le_of_ble_eq_true rfl) (Nat.le_of_ble_eq_true rfl) ?_
  refine hQ _ _ _ ⟨rfl, rfl, hR', fun y h1 h2 => ?_⟩
  rw [hF y h1 h2]
  exact cfr_nh (fun y h1 h2 => by rw [rh_x (by omega), hup_ne (by omega)]) y h1 h2
theorem held_iff {T : Nat} {lo hi : Int32} : (rg hi 0 T && rg lo 0 hi.toInt) = (rg lo 0 T && rg hi lo.toInt T) := by
  rw [Bool.eq_iff_iff]
  simp only [Bool.and_eq_true, rg_iff]
  omega
theorem clamp_mm {lo hi i : Nat} (h : lo ≤ hi) : max lo (min i hi) = clampN lo hi i := by unfold clampN; split <;> (try split) <;> omega
theorem ck_held (h : Hp) (X : Nat) (S : TS) (x lo hi : Int32) (hR : CRep h X S) (hI : SInv S) : CT mX7_held 10 1010 (cn X S) h [.ref X, .int x, .int lo, .int hi] (COK X h (opHeld S x lo hi)) := by
  obtain ⟨hc, N, rfl, hS⟩ := hR
  refine CT.intro [some (.ref X), some (.int x), some (.int lo), some (.int hi), none, none, none] 3 rfl rfl (by decide) ?_
  intro Q hQ
  have eb : sob X (sN S) = X + (158 + 10 * sN S) := rfl
  have bad : ∀ y4 : Option Value, (isS S x && (rg lo 0 (sT S (tN x)) && rg hi lo.toInt (sT S (tN x)))) = false → AW mX7_held (gq 10 1010 Q) 37 [some (.ref X), some (.int x), some (.int lo), some (.int hi), y4, none, none] [] 0 0 (cn X S) (nh hc (LC X (sN S)) N) := by
    intro y4 hb
    refine aw_iconst (v := (-1)) dX7_held_37 (by decide +kernel) ?_
    refine aw_ireturn dX7_held_38 rfl rfl (Nat.le_of_ble_eq_true rfl) (Nat.le_of_ble_eq_true rfl) ?_
    exact hQ _ _ _ (cbad hS _ (by unfold opHeld; rw [hb]; rfl))
  refine aw_aload_n (i := 0) dX7_held_0 rfl rfl ?_
  refine aw_iload_n (i := 1) dX7_held_1 rfl rfl ?_
  refine aw_invokevirtual kX7_135 dX7_held_2 (hS.X0 N) (hS.sourceAt hI (cn X S) N x) rfl rfl (Nat.le_of_ble_eq_true rfl) ⟨Nat.le_of_ble_eq_true rfl, Nat.le_of_ble_eq_true rfl⟩ ⟨Nat.le_of_ble_eq_true rfl, Nat.le_of_ble_eq_true rfl⟩ ?_
  rintro _ _ _ ⟨rfl, rfl, rfl⟩
  by_cases h1 : isS S x = true
  case neg =>
    rw [if_neg h1]
    refine aw_astore_4N dX7_held_5 (by decide) rfl ?_
    refine aw_aloadN dX7_held_7 rfl ?_
    refine aw_ifnullN (tgt := 37) dX7_held_9 (by decide) ?_
    exact bad _ (by simp [h1])
  rw [if_pos h1]
  obtain ⟨ex, -, -, hx⟩ := rg_N h1 (by decide)
  have hj : tN x < sN S := by omega
  obtain ⟨-, ht, p1, l1⟩ := hI.2.1.2 _ hj
  rw [← held_iff] at bad
  refine aw_astore_4 dX7_held_5 (by decide) rfl ?_
  refine aw_aload dX7_held_7 rfl ?_
  refine aw_ifnull dX7_held_9 ?_
  refine aw_iload_n (i := 3) dX7_held_12 rfl rfl ?_
  refine aw_iconst (v := 0) dX7_held_13 (by decide +kernel) ?_
  refine aw_aload dX7_held_14 rfl ?_
  refine aw_getfield fX7_139 dX7_held_16 (hS.so hj N) rfl ?_
  refine aw_getfield fX7_143 dX7_held_19 (hS.ro hj N) rfl ?_
  refine aw_invokestatic kX7_88 dX7_held_22 (ct_out _ (nh hc (LC X (sN S)) N) hi 0 (nI (sT S (tN x))) toInt_lit0 (nI_toInt (by omega))) rfl rfl (Nat.le_of_ble_eq_true rfl) ⟨Nat.le_of_ble_eq_true rfl, Nat.le_of_ble_eq_true rfl⟩ ⟨Nat.le_of_ble_eq_true rfl, Nat.le_of_ble_eq_true rfl⟩ ?_
  rintro _ _ _ ⟨rfl, rfl, rfl⟩
  by_cases h2 : rg hi 0 (sT S (tN x)) = true
  case neg =>
    refine aw_if_ne (tgt := 37) dX7_held_25 (by decide) (fun _ => ?_) (fun c => ((bn0 h2) c).elim)
    exact bad _ (by simp [h2])
  refine aw_if_ne (tgt := 37) dX7_held_25 (by decide) (fun c => absurd c (fun e => e (bn1 h2))) (fun _ => ?_)
  refine aw_iload_n (i := 2) dX7_held_28 rfl rfl ?_
  refine aw_iconst (v := 0) dX7_held_29 (by decide +kernel) ?_
  refine aw_iload_n (i := 3) dX7_held_30 rfl rfl ?_
  refine aw_invokestatic kX7_88 dX7_held_31 (ct_out _ (nh hc (LC X (sN S)) N) lo 0 hi toInt_lit0 rfl) rfl rfl (Nat.le_of_ble_eq_true rfl) ⟨Nat.le_of_ble_eq_true rfl, Nat.le_of_ble_eq_true rfl⟩ ⟨Nat.le_of_ble_eq_true rfl, Nat.le_of_ble_eq_true rfl⟩ ?_
  rintro _ _ _ ⟨rfl, rfl, rfl⟩
  by_cases h3 : rg lo 0 hi.toInt = true
  case neg =>
    refine aw_if_eq (tgt := 39) dX7_held_34 (by decide) (fun c => absurd c (bn0 h3)) (fun _ => ?_)
    exact bad _ (by simp [h3])
  have hop : opHeld S x lo hi = newS S 4 (sT S (tN x)) (cHeld (sC S (tN x)) (sT S (tN x)) (tN lo) (tN hi)) := by unfold opHeld; rw [← held_iff, h1, h2, h3]; rfl
  rw [hop] at hQ
  obtain ⟨eh, ehi, -, hh⟩ := rg_N h2 (by decide)
  obtain ⟨el, -, -, hl⟩ := rg_N h3 (by decide)
  have hh' : tN hi ≤ sT S (tN x) := by omega
  have hl' : tN lo ≤ tN hi := by omega
  clear bad
  generalize tN x = j at *
  generalize tN lo = lo' at *
  generalize tN hi = hi' at *
  subst eh el
  refine aw_if_eq (tgt := 39) dX7_held_34 (by decide) (fun _ => ?_) (fun c => (c (bn1 h3)).elim)
  refine aw_aload_n (i := 0) dX7_held_39 rfl rfl ?_
  refine aw_invokevirtual kX7_96 dX7_held_40 (hS.X0 N) (hS.isFull hI _ N) rfl rfl (Nat.le_of_ble_eq_true rfl) ⟨Nat.le_of_ble_eq_true rfl, Nat.le_of_ble_eq_true rfl⟩ ⟨Nat.le_of_ble_eq_true rfl, Nat.le_of_ble_eq_true rfl⟩ ?_
  rintro _ _ _ ⟨rfl, rfl, rfl⟩
  unfold newS at hQ
  by_cases hf : sN S = 16
  · rw [if_pos hf] at hQ
    rw [decide_eq_true hf]
    refine aw_if_eq (tgt := 49) dX7_held_43 (by decide) (fun c => absurd c (by decide)) (fun _ => ?_)
    refine aw_bipush (v := (-3)) dX7_held_46 (by decide +kernel) ?_
    refine aw_ireturn dX7_held_48 rfl rfl (Nat.le_of_ble_eq_true rfl) (Nat.le_of_ble_eq_true rfl) ?_
    exact hQ _ _ _ (cbad hS _ rfl)
  rw [if_neg hf] at hQ
  rw [decide_eq_false hf]
  have hk : sN S < 16 := by have := hI.2.1.1; omega
  have W := LC_W X (sN S)
  have hnr := nr_b X (sN S)
  have ej : sob X j = X + (158 + 10 * j) := rfl
  have ec : cn X S = sob X (sN S) := rfl
  obtain ⟨w1, w8, wf⟩ := wdt_b p1 l1
  have htot : sg (cHeld (sC S j) (sT S j) lo' hi') (sT S j + 1) = stot S j := cHeld_tot hl' hh'
  refine aw_if_eq (tgt := 49) dX7_held_43 (by decide) (fun _ => ?_) (fun c => (c rfl).elim)
  refine aw_new nX7_119 dX7_held_49 (Nat.le_of_ble_eq_true rfl) (Nat.le_of_ble_eq_true rfl) ?_
  refine aw_dup dX7_held_52 rfl ?_
  refine aw_aload dX7_held_53 rfl ?_
  refine aw_getfield fX7_139 dX7_held_55 (by rw [hup_ne (by omega)]; exact hS.so hj N) rfl ?_
  refine aw_getfield fX7_143 dX7_held_58 (by rw [hup_ne (by omega)]; exact hS.ro hj N) rfl ?_
  refine aw_aload dX7_held_61 rfl ?_
  refine aw_getfield fX7_139 dX7_held_63 (by rw [hup_ne (by omega)]; exact hS.so hj N) rfl ?_
  refine aw_getfield fX7_161 dX7_held_66 (by rw [hup_ne (by omega)]; exact hS.ro hj N) rfl ?_
  try dsimp only
  refine aw_invokespecial kX7_124 dX7_held_69 (ct_X4_init (sob X (sN S) + 1) (hup (nh hc (LC X (sN S)) N) (sob X (sN S)) (.inr (4, [.int 0, .int 0, .null]))) (sob X (sN S)) (sT S j) (wdt (stot S j)) (hup_self _ _ _) (by omega) ht w1 w8) rfl rfl (Nat.le_of_ble_eq_true rfl) ⟨Nat.le_of_ble_eq_true rfl, Nat.le_of_ble_eq_true rfl⟩ ⟨Nat.le_of_ble_eq_true rfl, Nat.le_of_ble_eq_true rfl⟩ ?_
  rintro _ _ _ ⟨rfl, rfl, rfl⟩
  refine AW.hp (row_new hnr) ?_
  generalize hw : wdt (stot S j) = w at *
  have hRow0 : ∀ g, Row (rh (hup hc (sob X (sN S)) (robj (sob X (sN S)) (sT S j) w)) (sob X (sN S)) (sT S j) w g) (sob X (sN S)) (sT S j) w g := fun g => ⟨rh_o (hup_self _ _ _), rh_a, ht, w1, w8⟩
  obtain ⟨od, ho4⟩ := hS.2.1.2.2.2.2.1
  have hS3 : ∀ g, CS (rh (hup hc (sob X (sN S)) (robj (sob X (sN S)) (sT S j) w)) (sob X (sN S)) (sT S j) w g) N X S := fun g => hS.fr hS.1 (fun _ _ _ => rfl) (fun y h1 _ => by rw [rh_x (by omega), hup_ne (by omega)]) ⟨od, by rw [rh_x (by omega), hup_ne (by omega)]; exact ho4⟩
  have hro : ∀ g, nh (rh (hup hc (sob X (sN S)) (robj (sob X (sN S)) (sT S j) w)) (sob X (sN S)) (sT S j) w g) (LC X (sN S)) N (sob X j) = some (robj (sob X j) (sT S j) w) := fun g => by rw [← hw]; rw [hw]; have := (hS3 g).ro hj N; rw [hw] at this; exact this
  have loop : ∀ (z i : Nat) (g : Nat → Nat), i + z = sT S j + 1 → rok (sT S j) w g (fun v => sg (fun i => if clampN lo' hi' i = v then sC S j i else 0) i) → AW mX7_held (gq 10 1010 Q) 77 [some (.ref X), some (.int x), some (.int (nI lo')), some (.int (nI hi')), some (.ref (sob X j + 2)), some (.ref (sob X (sN S))), some (.int (nI i))] [] 2 971 (sob X (sN S) + 2) (nh (rh (hup hc (sob X (sN S)) (robj (sob X (sN S)) (sT S j) w)) (sob X (sN S)) (sT S j) w g) (LC X (sN S)) N) := by
    intro z
    induction z with
    | zero =>
      intro i g hi hr
      obtain rfl : i = sT S j + 1 := by omega
      refine aw_iload dX7_held_77 rfl ?_
      refine aw_aload dX7_held_79 rfl ?_
      refine aw_getfield fX7_139 dX7_held_81 ((hS3 g).so hj N) rfl ?_
      refine aw_getfield fX7_143 dX7_held_84 (hro g) rfl ?_
      refine aw_icmp_gt (tgt := 118) dX7_held_87 (by decide) (fun _ => ?_) (fun c => (c (nI_lt (by omega) (by omega))).elim)
      refine aw_aload_n (i := 0) dX7_held_118 rfl rfl ?_
      refine aw_iconst (v := 4) dX7_held_119 (by decide +kernel) ?_
      refine aw_aload dX7_held_120 rfl ?_
      refine aw_invokevirtual kX7_104 dX7_held_122 ((hS3 g).X0 N) (ct_X7_keep _ N X 4 (sT S j) S (cHeld (sC S j) (sT S j) lo' hi') g (hS3 g) hI hk (by rw [htot, hw]; exact hRow0 g) (by rw [htot, hw]; exact hr) (by rw [htot]; exact p1) (by rw [htot]; exact l1)) rfl rfl (Nat.le_of_ble_eq_true rfl) ⟨Nat.le_of_ble_eq_true rfl, Nat.le_of_ble_eq_true rfl⟩ ⟨Nat.le_of_ble_eq_true rfl, Nat.le_of_ble_eq_true rfl⟩ ?_
      rintro _ _ h' ⟨rfl, rfl, hR', hF⟩
      refine aw_ireturn dX7_held_125 rfl rfl (Nat.le_of_ble_eq_true rfl) (Nat.le_of_ble_eq_true rfl) ?_
      refine hQ _ _ _ ⟨rfl, rfl, hR', fun y h1 h2 => ?_⟩
      rw [hF y h1 h2]
      exact cfr_nh (fun y h1 h2 => by rw [rh_x (by omega), hup_ne (by omega)]) y h1 h2
    | succ z ih =>
      intro i g hi hr
      obtain ⟨gj, Rj, kj⟩ := (hS3 g).rw hj
      rw [hw] at Rj kj
      have hcl : clampN lo' hi' i ≤ sT S j := by unfold clampN; split <;> (try split) <;> omega
      have hfit : sg (fun a => if clampN lo' hi' a = clampN lo' hi' i then sC S j a else 0) i + sC S j i < (2 ^ 32) ^ w := by
        have e1 := sg_le (f := fun a => if clampN lo' hi' a = clampN lo' hi' i then sC S j a else 0) (show i + 1 ≤ sT S j + 1 by omega)
        rw [sg_s, if_pos rfl] at e1
        have e2 := sg_ge (f := cHeld (sC S j) (sT S j) lo' hi') (show clampN lo' hi' i < sT S j + 1 by omega)
        rw [htot] at e2
        exact Nat.lt_of_le_of_lt (Nat.le_trans e1 e2) wf
      refine aw_iload dX7_held_77 rfl ?_
      refine aw_aload dX7_held_79 rfl ?_
      refine aw_getfield fX7_139 dX7_held_81 ((hS3 g).so hj N) rfl ?_
      refine aw_getfield fX7_143 dX7_held_84 (hro g) rfl ?_
      refine aw_icmp_gt (tgt := 118) dX7_held_87 (by decide) (fun c => absurd c (nI_nlt (by omega) (by omega))) (fun _ => ?_)
      refine aw_aload dX7_held_90 rfl ?_
      refine aw_aload dX7_held_92 rfl ?_
      refine aw_getfield fX7_139 dX7_held_94 ((hS3 g).so hj N) rfl ?_
      refine aw_iload dX7_held_97 rfl ?_
      refine aw_iload_n (i := 2) dX7_held_99 rfl rfl ?_
      refine aw_iload dX7_held_100 rfl ?_
      refine aw_iload_n (i := 3) dX7_held_102 rfl rfl ?_
      refine aw_mmin kX7_164 mathmin_s math_i mathmin_c dX7_held_103 (by decide) (Nat.le_of_ble_eq_true rfl) (Nat.le_of_ble_eq_true rfl) (Nat.le_of_ble_eq_true rfl) ?_
      refine aw_mmax kX7_170 mathmax_s math_i mathmax_c dX7_held_106 (by decide) (Nat.le_of_ble_eq_true rfl) (Nat.le_of_ble_eq_true rfl) (Nat.le_of_ble_eq_true rfl) ?_
      rw [mminN (by omega) (by omega), mmaxN (by omega) (by omega), clamp_mm hl']
      refine aw_invokevirtual kX7_173 dX7_held_109 ((hRow0 g).nh hnr N).1 (ct_X4_addFrom (sob X (sN S) + 2) _ (sob X (sN S)) (sob X j) (sT S j) (sT S j) w i (clampN lo' hi' i) g _ gj _ ((hRow0 g).nh hnr N) hr (Rj.nh (nr_so hj) N) kj (by omega) (by omega) (by omega) hcl hfit) rfl rfl (Nat.le_of_ble_eq_true rfl) ⟨Nat.le_of_ble_eq_true rfl, Nat.le_of_ble_eq_true rfl⟩ ⟨Nat.le_of_ble_eq_true rfl, Nat.le_of_ble_eq_true rfl⟩ ?_
      rintro _ _ _ ⟨rfl, rfl, g2, rfl, hr'⟩
      refine AW.hp (rh_nh hnr) ?_
      refine aw_iinc_6 (c0 := 1) dX7_held_112 (by decide) (by decide) rfl ?_
      refine aw_goto (tgt := 77) dX7_held_115 (by decide) ?_
      rw [nI_1]
      refine ih (i + 1) g2 (by omega) (rok_congr hr' (fun v hv => ?_))
      rw [sg_s]
      by_cases e : v = clampN lo' hi' i
      · rw [e, va_up_at, if_pos rfl]
      · rw [va_up_off e, if_neg (fun q => e q.symm), Nat.add_zero]
  refine aw_astore_5 dX7_held_72 (by decide) rfl ?_
  refine aw_iconst (v := 0) dX7_held_74 (by decide +kernel) ?_
  refine aw_istore_6 dX7_held_75 (by decide) rfl ?_
  exact loop (sT S j + 1) 0 _ (by omega) (rok_congr (rok_z _ _) (fun v _ => rfl))
