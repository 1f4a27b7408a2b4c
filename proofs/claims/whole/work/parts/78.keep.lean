theorem NA_new {L : Nat → Nat} {N : NC} (h : NA L N) (a room : Nat) : NA (va_up L a room) (va_up N a zn) := fun k hk => by
  by_cases e : k = a
  · subst e; rw [va_up_at, va_up_at]; exact ⟨0, num_zn _⟩
  · rw [va_up_off e] at hk; rw [va_up_off e, va_up_off e]; exact h k hk
theorem nr_so {X k j : Nat} (hj : j < k) : nr (LC X k) (sob X j) := by
  have e : sob X j = X + (158 + 10 * j) := rfl
  refine ⟨?_, by have := L_so (X := X) (c := 0) hj (by decide); rw [Nat.add_zero] at this; exact this, L_so (c := 1) hj (by decide)⟩
  rw [show sob X j - 1 = X + (157 + 10 * j) by omega, LC_at]
  unfold Lo
  rw [if_neg (by omega), if_neg (by omega)]
  by_cases h0 : j = 0
  · rw [if_pos (by omega)]
  · rw [if_neg (by omega), if_pos (by omega), if_neg (by omega), if_neg (by omega)]
theorem ou_k {hc : Hp} {X k : Nat} (e : hc (X + 5) = some (fobj (X + 5) 0)) : FR hc (LC X k) (X + 5) 0 := by
  refine ⟨e, by rw [LC_at]; rfl, by rw [show X + 5 - 1 = X + 4 by omega, LC_at]; rfl, ?_, ?_⟩
  · rw [Nat.add_assoc, LC_at]; show (72 : Nat) ≠ 0; decide
  · rw [Nat.add_assoc, LC_at]; show (72 : Nat) ≠ 0; decide
theorem me_k {hc : Hp} {X k j : Nat} (hj : j < k) (e : hc (sob X j + 5) = some (fobj (sob X j + 5) 0)) : FR hc (LC X k) (sob X j + 5) 0 := by
  refine ⟨e, L_so (c := 5) hj (by decide), L_so (c := 4) hj (by decide), ?_, ?_⟩
  · rw [Nat.add_assoc, L_so (c := 6) hj (by decide)]; decide
  · rw [Nat.add_assoc, L_so (c := 8) hj (by decide)]; decide
theorem X0_k {hc : Hp} {X k : Nat} {ac : AC} (e : hc X = some ac) (N' : NC) : nh hc (LC X k) N' X = some ac := by
  have := nh_X (hc := hc) (X := X) (k := k) (c := 0) N' rfl (Or.inl rfl)
  rw [Nat.add_zero] at this
  rw [this]; exact e
theorem lim256 : (2 : Nat) ^ 256 = (2 ^ 32) ^ 8 ∧ (2 : Nat) ^ 256 * 120 < (2 ^ 32) ^ 9 ∧ ((2 : Nat) ^ 32) ^ 9 < (2 ^ 32) ^ 70 ∧ ((2 : Nat) ^ 32) ^ 9 < (2 ^ 32) ^ 72 ∧ ((2 : Nat) ^ 32) ^ 8 < (2 ^ 32) ^ 9 := by decide +kernel
theorem smean_le {c : Nat → Nat} {t : Nat} (ht : t ≤ 120) {v : Nat} (hv : v ≤ t + 1) : sg (fun v => c v * v) v ≤ sg c v * 120 := by
  rw [← sg_mul]
  exact sg_mono (fun i hi => Nat.mul_le_mul_left _ (by omega))
theorem div_le_lt {a b k : Nat} (h : a < k) : a / b < k := Nat.lt_of_le_of_lt (Nat.div_le_self _ _) h
theorem ct_X7_keep (hc : Hp) (N : NC) (X kd t : Nat) (S : TS) (c g : Nat → Nat) (h : CS hc N X S) (hI : SInv S) (hk : sN S < 16) (hR : Row hc (sob X (sN S)) t (wdt (sg c (t + 1))) g) (hr : rok t (wdt (sg c (t + 1))) g c) (h0 : 0 < sg c (t + 1)) (hlt : sg c (t + 1) < 2 ^ 256) : CT mX7_keep 8 39 (sob X (sN S) + 2) (nh hc (LC X (sN S)) N) [.ref X, .int (nI kd), .ref (sob X (sN S))] (fun r n' h' => cn X (addS S kd t c) = n' ∧ r = some (.int (nI (sN S))) ∧ CRep h' X (addS S kd t c) ∧ cfr X (nh hc (LC X (sN S)) N) h') := by
  refine CT.intro [some (.ref X), some (.int (nI kd)), some (.ref (sob X (sN S))), none, none] 2 rfl rfl (by decide) ?_
  intro Q hQ
  have eb : sob X (sN S) = X + (158 + 10 * sN S) := rfl
  have L0 : ∀ j, LC X (sN S) (sob X (sN S) + j) = 0 := fun j => by rw [eb, Nat.add_assoc, LC_at]; exact Lo_out (by omega)
  obtain ⟨lim1, lim2, lim3, lim4, lim5⟩ := lim256
  rw [lim1] at hlt
  obtain ⟨hRr, hRc, ht, hw1, hw8⟩ := id hR
  refine aw_aload_n (i := 0) dX7_keep_0 rfl rfl ?_
  refine aw_invokevirtual kX7_96 dX7_keep_1 (h.X0 N) (h.isFull hI _ N) rfl rfl (Nat.le_of_ble_eq_true rfl) ⟨Nat.le_of_ble_eq_true rfl, Nat.le_of_ble_eq_true rfl⟩ ⟨Nat.le_of_ble_eq_true rfl, Nat.le_of_ble_eq_true rfl⟩ ?_
  rintro _ _ _ ⟨rfl, rfl, rfl⟩
  rw [decide_eq_false (show ¬ sN S = 16 by omega)]
  refine aw_if_eq (tgt := 10) dX7_keep_4 (by decide) (fun _ => ?_) (fun c => (c rfl).elim)
  refine aw_new nX7_13 dX7_keep_10 (Nat.le_of_ble_eq_true rfl) (Nat.le_of_ble_eq_true rfl) ?_
  refine AW.hp (nh_upn (x := sob X (sN S) + 2) hc N (L0 2) (L0 1) (.inr (5, [.int 0, .null, .null, .null]))) ?_
  refine aw_dup dX7_keep_13 rfl ?_
  refine aw_iload_n (i := 1) dX7_keep_14 rfl rfl ?_
  refine aw_aload_n (i := 2) dX7_keep_15 rfl rfl ?_
  refine aw_invokespecial kX7_321 dX7_keep_16 (ct_X5_init (sob X (sN S) + 2 + 1) (hup hc (sob X (sN S) + 2) (.inr (5, [.int 0, .null, .null, .null]))) (LC X (sN S)) N (sob X (sN S) + 2) (sob X (sN S)) (nI kd) (hup_self _ _ _) (fun c _ => by rw [Nat.add_assoc]; exact L0 _) (L0 1) rfl) rfl rfl (Nat.le_of_ble_eq_true rfl) ⟨Nat.le_of_ble_eq_true rfl, Nat.le_of_ble_eq_true rfl⟩ ⟨Nat.le_of_ble_eq_true rfl, Nat.le_of_ble_eq_true rfl⟩ ?_
  rintro _ _ _ ⟨rfl, rfl, rfl⟩
  rw [LC_next]
  have hA1 : NA (LC X (sN S + 1)) (va_up (va_up (va_up N (sob X (sN S) + 2 + 1) zn) (sob X (sN S) + 2 + 4) zn) (sob X (sN S) + 2 + 6) zn) := by
    rw [← LC_next]
    exact NA_new (NA_new (NA_new h.1 _ _) _ _) _ _
  have z3 : (va_up (va_up (va_up N (sob X (sN S) + 2 + 1) zn) (sob X (sN S) + 2 + 4) zn) (sob X (sN S) + 2 + 6) zn) (sob X (sN S) + 3) = zn := by rw [va_up_off (by omega), va_up_off (by omega)]; exact va_up_at _ _ _
  have zo : ∀ k, k < sob X (sN S) → (va_up (va_up (va_up N (sob X (sN S) + 2 + 1) zn) (sob X (sN S) + 2 + 4) zn) (sob X (sN S) + 2 + 6) zn) k = N k := fun k hk => by rw [va_up_off (by omega), va_up_off (by omega), va_up_off (by omega)]
  have c2 : (hup (hup (hup hc (sob X (sN S) + 2) (.inr (5, [.int 0, .null, .null, .null]))) (sob X (sN S) + 2 + 3) (fobj (sob X (sN S) + 2 + 3) 0)) (sob X (sN S) + 2) (.inr (5, [.int (nI kd), .ref (sob X (sN S)), .ref (sob X (sN S) + 2 + 1), .ref (sob X (sN S) + 2 + 3)]))) (sob X (sN S) + 2) = some (sor (sob X (sN S)) kd) := hup_self _ _ _
  have c5 : (hup (hup (hup hc (sob X (sN S) + 2) (.inr (5, [.int 0, .null, .null, .null]))) (sob X (sN S) + 2 + 3) (fobj (sob X (sN S) + 2 + 3) 0)) (sob X (sN S) + 2) (.inr (5, [.int (nI kd), .ref (sob X (sN S)), .ref (sob X (sN S) + 2 + 1), .ref (sob X (sN S) + 2 + 3)]))) (sob X (sN S) + 5) = some (fobj (sob X (sN S) + 5) 0) := by rw [hup_ne (by omega)]; exact hup_self _ _ _
  have co : ∀ y, y ≠ sob X (sN S) + 2 → y ≠ sob X (sN S) + 5 → (hup (hup (hup hc (sob X (sN S) + 2) (.inr (5, [.int 0, .null, .null, .null]))) (sob X (sN S) + 2 + 3) (fobj (sob X (sN S) + 2 + 3) 0)) (sob X (sN S) + 2) (.inr (5, [.int (nI kd), .ref (sob X (sN S)), .ref (sob X (sN S) + 2 + 1), .ref (sob X (sN S) + 2 + 3)]))) y = hc y := fun y h1 h2 => by rw [hup_ne h1, hup_ne h2, hup_ne h1]
  generalize hup (hup (hup hc (sob X (sN S) + 2) (.inr (5, [.int 0, .null, .null, .null]))) (sob X (sN S) + 2 + 3) (fobj (sob X (sN S) + 2 + 3) 0)) (sob X (sN S) + 2) (.inr (5, [.int (nI kd), .ref (sob X (sN S)), .ref (sob X (sN S) + 2 + 1), .ref (sob X (sN S) + 2 + 3)])) = hc1 at *
  generalize va_up (va_up (va_up N (sob X (sN S) + 2 + 1) zn) (sob X (sN S) + 2 + 4) zn) (sob X (sN S) + 2 + 6) zn = N1 at *
  have W := LC_W X (sN S + 1)
  have hX1 : ∀ N', nh hc1 (LC X (sN S + 1)) N' X = some (cob X S) := fun N' => X0_k (by rw [co _ (by omega) (by omega)]; exact h.2.1.1) N'
  have hO := ou_k (k := sN S + 1) (show hc1 (X + 5) = some (fobj (X + 5) 0) by rw [co _ (by omega) (by omega)]; exact h.2.1.2.2.2.2.2.1)
  have hM := me_k (Nat.lt_succ_self (sN S)) c5
  have hnr := nr_so (X := X) (Nat.lt_succ_self (sN S))
  have hR1 : Row hc1 (sob X (sN S)) t (wdt (sg c (t + 1))) g := ⟨by rw [co _ (by omega) (by omega)]; exact hRr, by rw [co _ (by omega) (by omega)]; exact hRc, ht, hw1, hw8⟩
  have hRo : ∀ N', nh hc1 (LC X (sN S + 1)) N' (sob X (sN S)) = some (robj (sob X (sN S)) t (wdt (sg c (t + 1)))) := fun N' => by rw [nh_no _ _ hnr.2.1 hnr.1]; exact hR1.1
  have hso : ∀ N', nh hc1 (LC X (sN S + 1)) N' (sob X (sN S) + 2) = some (sor (sob X (sN S)) kd) := fun N' => by rw [nh_no _ _ (L_so (c := 2) (Nat.lt_succ_self (sN S)) (by decide)) hnr.2.2]; exact c2
  obtain ⟨R, H, W', hD⟩ := h.2.2.2.2
  have hD1 := hD.next (h' := hc1) (co _ (by omega) (by omega))
  have l6 : LC X (sN S + 1) (X + 6) = 72 := L72 rfl
  have l8 : LC X (sN S + 1) (X + 8) = 72 := L72 rfl
  have l3 : LC X (sN S + 1) (sob X (sN S) + 3) = 8 := L_so (c := 3) (Nat.lt_succ_self (sN S)) (by decide)
  have m6 : LC X (sN S + 1) (sob X (sN S) + 5 + 1) = 9 := L_so (c := 6) (Nat.lt_succ_self (sN S)) (by decide)
  have m8 : LC X (sN S + 1) (sob X (sN S) + 5 + 3) = 9 := L_so (c := 8) (Nat.lt_succ_self (sN S)) (by decide)
  have ml : sg (fun v => c v * v) (t + 1) < (2 ^ 32) ^ 9 := by
    have := smean_le (c := c) ht (Nat.le_refl (t + 1))
    rw [lim1] at lim2
    omega
  have after : ∀ N' : NC, NA (LC X (sN S + 1)) N' → num 8 (N' (sob X (sN S) + 3)) (sg c (t + 1)) → num 72 (N' (X + 6)) (sg (fun v => c v * v) (t + 1)) → (∀ k, k ≠ sob X (sN S) + 3 → k ≠ X + 6 → N' k = N1 k) → ∀ y4 : Option Value, AW mX7_keep (gq 8 39 Q) 74 [some (.ref X), some (.int (nI kd)), some (.ref (sob X (sN S))), some (.ref (sob X (sN S) + 2)), y4] [] 8 39 (sob X (sN S) + 2 + 8) (nh hc1 (LC X (sN S + 1)) N') := by
    intro N' hA n3 n6 hN y4
    obtain ⟨z8, n8⟩ := hA (X + 8) (by rw [l8]; decide)
    refine aw_aload_n (i := 0) dX7_keep_74 rfl rfl ?_
    refine aw_getfield fX7_31 dX7_keep_75 (hX1 N') rfl ?_
    refine aw_getfield fX7_273 dX7_keep_78 (hO.at N') rfl ?_
    refine aw_aload_n (i := 3) dX7_keep_81 rfl rfl ?_
    refine aw_getfield fX7_146 dX7_keep_82 (hso N') rfl ?_
    refine aw_invokevirtual kX7_265 dX7_keep_85 (nh_o hc1 N' (by rw [l8]; decide)) (ct_X3_copy (sob X (sN S) + 2 + 8) hc1 (LC X (sN S + 1)) N' (X + 8) (sob X (sN S) + 3) z8 (sg c (t + 1)) W (by rw [l8]; decide) (by rw [l3]; decide) (by omega) n8 (by rw [l3]; exact n3) (by rw [l8]; omega)) rfl rfl (Nat.le_of_ble_eq_true rfl) ⟨Nat.le_of_ble_eq_true rfl, Nat.le_of_ble_eq_true rfl⟩ ⟨Nat.le_of_ble_eq_true rfl, Nat.le_of_ble_eq_true rfl⟩ ?_
    rintro _ _ _ ⟨rfl, rfl, N2, rfl, d2, f2⟩
    have hA2 := hA.one ⟨d2, f2⟩
    obtain ⟨a', b', c', d', hDV⟩ := hD1.1
    refine aw_aload_n (i := 0) dX7_keep_88 rfl rfl ?_
    refine aw_getfield fX7_45 dX7_keep_89 (hX1 N2) rfl ?_
    refine aw_aload_n (i := 0) dX7_keep_92 rfl rfl ?_
    refine aw_getfield fX7_31 dX7_keep_93 (hX1 N2) rfl ?_
    refine aw_invokevirtual kX7_328 dX7_keep_96 (by rw [nh_no hc1 N2 hDV.2.1.1 hDV.2.1.2]; exact hDV.1) (ct_X0_toLowestTerms (sob X (sN S) + 2 + 8) hc1 (LC X (sN S + 1)) N2 (X + 12) R H W' (X + 5) 0 (sg (fun v => c v * v) (t + 1)) (sg c (t + 1)) W hD1 hA2 hO (by omega) (by unfold dn; omega) (by unfold dn; omega) (by rw [f2 _ (by omega)]; rw [show X + 5 + 1 = X + 6 from rfl, l6]; exact n6) d2 h0 (by omega) (by omega)) rfl rfl (Nat.le_of_ble_eq_true rfl) ⟨Nat.le_of_ble_eq_true rfl, Nat.le_of_ble_eq_true rfl⟩ ⟨Nat.le_of_ble_eq_true rfl, Nat.le_of_ble_eq_true rfl⟩ ?_
    rintro _ _ _ ⟨rfl, rfl, h2, N3, R3, H3, W3, rfl, D3, o3, A3, f3, g6, g8⟩
    have hX2 : ∀ N', nh h2 (LC X (sN S + 1)) N' X = some (cob X S) := fun N' => X0_k (by rw [o3 _ (by omega), co _ (by omega) (by omega)]; exact h.2.1.1) N'
    have hM2 := me_k (Nat.lt_succ_self (sN S)) (show h2 (sob X (sN S) + 5) = _ by rw [o3 _ (by omega)]; exact c5)
    have hO2 := ou_k (k := sN S + 1) (show h2 (X + 5) = some (fobj (X + 5) 0) by rw [o3 _ (by omega)]; exact hO.1)
    have hso2 : ∀ N', nh h2 (LC X (sN S + 1)) N' (sob X (sN S) + 2) = some (sor (sob X (sN S)) kd) := fun N' => by rw [nh_no _ _ (L_so (c := 2) (Nat.lt_succ_self (sN S)) (by decide)) hnr.2.2, o3 _ (by omega)]; exact c2
    obtain ⟨fs, q2, q3⟩ := h.2.1.2.2.1
    have q2' : ∀ N', nh h2 (LC X (sN S + 1)) N' (X + 2) = some (oar "TailBounds$Source" 16 fs) := fun N' => by rw [nh_X (c := 2) N' rfl (Or.inr rfl), o3 _ (by omega), co _ (by omega) (by omega)]; exact q2
    refine aw_aload_n (i := 3) dX7_keep_99 rfl rfl ?_
    refine aw_getfield fX7_201 dX7_keep_100 (hso2 N3) rfl ?_
    refine aw_aload_n (i := 0) dX7_keep_103 rfl rfl ?_
    refine aw_getfield fX7_31 dX7_keep_104 (hX2 N3) rfl ?_
    refine aw_invokevirtual kX7_204 dX7_keep_107 (hM2.at N3) (ct_X1_copy (sob X (sN S) + 2 + 8) h2 (LC X (sN S + 1)) N3 (sob X (sN S) + 5) (X + 5) 0 0 _ _ W hM2 hO2 A3 (by omega) (by omega) (by omega) g6 g8 (by rw [m6]; exact div_le_lt ml) (by rw [m8]; exact div_le_lt (by omega))) rfl rfl (Nat.le_of_ble_eq_true rfl) ⟨Nat.le_of_ble_eq_true rfl, Nat.le_of_ble_eq_true rfl⟩ ⟨Nat.le_of_ble_eq_true rfl, Nat.le_of_ble_eq_true rfl⟩ ?_
    rintro _ _ _ ⟨rfl, rfl, N4, rfl, d6, d8, f4⟩
    rw [m6] at d6
    rw [m8] at d8
    have A4 := A3.two (a := sob X (sN S) + 5 + 1) (b := sob X (sN S) + 5 + 3) (by rw [m6]; exact d6) (by rw [m8]; exact d8) f4
    refine aw_aload_n (i := 0) dX7_keep_110 rfl rfl ?_
    refine aw_getfield fX7_15 dX7_keep_111 (hX2 N4) rfl ?_
    refine aw_aload_n (i := 0) dX7_keep_114 rfl rfl ?_
    refine aw_getfield fX7_67 dX7_keep_115 (hX2 N4) rfl ?_
    refine aw_aload_n (i := 3) dX7_keep_118 rfl rfl ?_
    refine aw_aastore dX7_keep_119 (r := (RX5, TX5, 4)) (ci := 5) (q2' N4) (hso2 N4) rfl (nI_toInt (by omega)) hk ?_
    refine AW.hp (upn_X (c := 2) N4 rfl (Or.inr rfl) (oar "TailBounds$Source" 16 (va_up fs (sN S) (some (sob X (sN S) + 2))))) ?_
    refine aw_aload_n (i := 0) dX7_keep_120 rfl rfl ?_
    refine aw_dup dX7_keep_121 rfl ?_
    refine aw_getfield fX7_67 dX7_keep_122 (X0_k (by rw [hup_ne (by omega), o3 _ (by omega), co _ (by omega) (by omega)]; exact h.2.1.1) N4) rfl ?_
    refine aw_iconst (v := 1) dX7_keep_125 (by decide +kernel) ?_
    refine aw_iadd dX7_keep_126 ?_
    rw [nI_1]
    refine aw_putfield fX7_67 dX7_keep_127 (X0_k (by rw [hup_ne (by omega), o3 _ (by omega), co _ (by omega) (by omega)]; exact h.2.1.1) N4) rfl rfl (Nat.le_of_ble_eq_true rfl) ?_
    dsimp only [List.set]
    refine AW.hp (upo_X N4 (cob X (addS S kd t c))) ?_
    refine aw_aload_n (i := 0) dX7_keep_130 rfl rfl ?_
    refine aw_getfield fX7_67 dX7_keep_131 (X0_k (hup_self _ _ _) N4) rfl ?_
    refine aw_iconst (v := 1) dX7_keep_134 (by decide +kernel) ?_
    refine aw_isub dX7_keep_135 ?_
    rw [pI_m, show sN (addS S kd t c) = sN S + 1 from rfl, pI_s]
    refine aw_ireturn dX7_keep_136 rfl rfl (Nat.le_of_ble_eq_true rfl) (Nat.le_of_ble_eq_true rfl) ?_
    refine hQ _ _ _ ⟨rfl, rfl, ⟨_, N4, rfl, ?_⟩, cfr_nh (fun y h1 h2 => by rw [hup_ne (by omega), hup_ne (by omega), o3 _ (by omega), co _ (by omega) (by omega)])⟩
    refine h.addx hk A4 (fun k h1 h2 => ?_) (hup_self _ _ _) ⟨va_up fs (sN S) (some (sob X (sN S) + 2)), by rw [hup_ne (by omega)]; exact hup_self _ _ _, fun j hj => ?_⟩ (fun y h1 h2 h3 h4 => by rw [hup_ne h2, hup_ne h3, o3 _ h4, co _ (by omega) (by omega)]) ⟨R3, H3, W3, ?_⟩ ?_
    · rw [f4 _ (by omega) (by omega), f3 _ (fun q => by have := dn_X q; omega) (by omega) (by omega), f2 _ (by omega), hN _ (by omega) (by omega)]
      exact zo _ h1
    · by_cases e : j = sN S
      · rw [e, va_up_at]
      · rw [va_up_off e]; exact q3 j (by omega)
    · obtain ⟨⟨a, b, c0, d, y1, y2⟩, z⟩ := D3
      exact ⟨⟨a, b, c0, d, by rw [hup_ne (by omega), hup_ne (by omega)]; exact y1, y2⟩, z⟩
    · have hs : ∀ y, y ≠ X → y ≠ X + 2 → y ≠ X + 12 → hup (hup h2 (X + 2) (oar "TailBounds$Source" 16 (va_up fs (sN S) (some (sob X (sN S) + 2))))) X (cob X (addS S kd t c)) y = hc1 y := fun y h1 h2 h3 => by rw [hup_ne h1, hup_ne h2, o3 _ h3]
      refine ⟨by rw [hs _ (by omega) (by omega) (by omega)]; exact c2, ⟨g, ⟨by rw [hs _ (by omega) (by omega) (by omega)]; exact hR1.1, by rw [hs _ (by omega) (by omega) (by omega)]; exact hR1.2.1, hR1.2.2⟩, hr⟩, by rw [hs _ (by omega) (by omega) (by omega)]; exact c5, ?_, d6, d8⟩
      rw [f4 _ (by omega) (by omega), f3 _ (fun q => by have := dn_X q; omega) (by omega) (by omega), f2 _ (by omega)]
      exact n3
  have loop : ∀ (z v : Nat) (N' : NC), v + z = t + 1 → NA (LC X (sN S + 1)) N' → num 8 (N' (sob X (sN S) + 3)) (sg c v) → num 72 (N' (X + 6)) (sg (fun v => c v * v) v) → (∀ k, k ≠ sob X (sN S) + 3 → k ≠ X + 6 → N' k = N1 k) → AW mX7_keep (gq 8 39 Q) 33 [some (.ref X), some (.int (nI kd)), some (.ref (sob X (sN S))), some (.ref (sob X (sN S) + 2)), some (.int (nI v))] [] 8 39 (sob X (sN S) + 2 + 8) (nh hc1 (LC X (sN S + 1)) N') := by
    intro z
    induction z with
    | zero =>
      intro v N' hv hA n3 n6 hN
      obtain rfl : v = t + 1 := by omega
      refine aw_iload dX7_keep_33 rfl ?_
      refine aw_aload_n (i := 2) dX7_keep_35 rfl rfl ?_
      refine aw_getfield fX7_143 dX7_keep_36 (hRo N') rfl ?_
      refine aw_icmp_gt (tgt := 74) dX7_keep_39 (by decide) (fun _ => ?_) (fun c => (c (nI_lt (by omega) (by omega))).elim)
      exact after N' hA n3 n6 hN _
    | succ z ih =>
      intro v N' hv hA n3 n6 hN
      have b1 : sg c v + c v * 1 < (2 ^ 32) ^ 8 := by
        have := sg_le (f := c) (show v + 1 ≤ t + 1 by omega)
        rw [sg_s] at this
        omega
      have b2 : sg (fun v => c v * v) v + c v * v < (2 ^ 32) ^ 72 := by
        have := sg_le (f := fun v => c v * v) (show v + 1 ≤ t + 1 by omega)
        rw [sg_s] at this
        omega
      refine aw_iload dX7_keep_33 rfl ?_
      refine aw_aload_n (i := 2) dX7_keep_35 rfl rfl ?_
      refine aw_getfield fX7_143 dX7_keep_36 (hRo N') rfl ?_
      refine aw_icmp_gt (tgt := 74) dX7_keep_39 (by decide) (fun c => absurd c (nI_nlt (by omega) (by omega))) (fun _ => ?_)
      refine aw_aload_n (i := 2) dX7_keep_42 rfl rfl ?_
      refine aw_aload_n (i := 3) dX7_keep_43 rfl rfl ?_
      refine aw_getfield fX7_146 dX7_keep_44 (hso N') rfl ?_
      refine aw_iload dX7_keep_47 rfl ?_
      refine aw_iconst (v := 1) dX7_keep_49 (by decide +kernel) ?_
      refine aw_invokevirtual kX7_324 dX7_keep_50 (hRo N') (ct_X4_addTo (sob X (sN S) + 2 + 8) hc1 (LC X (sN S + 1)) N' (sob X (sN S)) t _ v (sob X (sN S) + 3) (sg c v) 1 g c W hR1 hnr hr (by omega) (by rw [l3]; decide) (by rw [l3]; exact n3) (by rw [l3]; exact hw8) (by decide) (by rw [l3]; exact b1)) rfl rfl (Nat.le_of_ble_eq_true rfl) ⟨Nat.le_of_ble_eq_true rfl, Nat.le_of_ble_eq_true rfl⟩ ⟨Nat.le_of_ble_eq_true rfl, Nat.le_of_ble_eq_true rfl⟩ ?_
      rintro _ _ _ ⟨rfl, rfl, N2, rfl, d2, f2⟩
      refine aw_aload_n (i := 2) dX7_keep_53 rfl rfl ?_
      refine aw_aload_n (i := 0) dX7_keep_54 rfl rfl ?_
      refine aw_getfield fX7_31 dX7_keep_55 (hX1 N2) rfl ?_
      refine aw_getfield fX7_108 dX7_keep_58 (hO.at N2) rfl ?_
      refine aw_iload dX7_keep_61 rfl ?_
      refine aw_iload dX7_keep_63 rfl ?_
      refine aw_invokevirtual kX7_324 dX7_keep_65 (hRo N2) (ct_X4_addTo (sob X (sN S) + 2 + 8) hc1 (LC X (sN S + 1)) N2 (sob X (sN S)) t _ v (X + 6) (sg (fun v => c v * v) v) v g c W hR1 hnr hr (by omega) (by rw [l6]; decide) (by rw [l6, f2 _ (by omega)]; exact n6) (by rw [l6]; omega) (by omega) (by rw [l6]; exact b2)) rfl rfl (Nat.le_of_ble_eq_true rfl) ⟨Nat.le_of_ble_eq_true rfl, Nat.le_of_ble_eq_true rfl⟩ ⟨Nat.le_of_ble_eq_true rfl, Nat.le_of_ble_eq_true rfl⟩ ?_
      rintro _ _ _ ⟨rfl, rfl, N3, rfl, d3, f3⟩
      refine aw_iinc_4 (c0 := 1) dX7_keep_68 (by decide) (by decide) rfl ?_
      refine aw_goto (tgt := 33) dX7_keep_71 (by decide) ?_
      rw [nI_1]
      refine ih (v + 1) N3 (by omega) ((hA.one ⟨d2, f2⟩).one ⟨d3, f3⟩) ?_ ?_ (fun k h1 h2 => by rw [f3 _ h2, f2 _ h1, hN _ h1 h2])
      · rw [f3 _ (by omega), sg_s]
        rw [l3, Nat.mul_one] at d2
        exact d2
      · rw [l6] at d3
        exact d3
  obtain ⟨z6, n6⟩ := hA1 (X + 6) (by rw [l6]; decide)
  refine aw_astore_3 dX7_keep_19 (by decide) rfl ?_
  refine aw_aload_n (i := 0) dX7_keep_20 rfl rfl ?_
  refine aw_getfield fX7_31 dX7_keep_21 (hX1 N1) rfl ?_
  refine aw_getfield fX7_108 dX7_keep_24 (hO.at N1) rfl ?_
  refine aw_invokevirtual kX7_297 dX7_keep_27 (nh_o hc1 N1 (by rw [l6]; decide)) (ct_X3_clear (sob X (sN S) + 2 + 8) hc1 (LC X (sN S + 1)) N1 (X + 6) z6 W (by rw [l6]; decide) n6) rfl rfl (Nat.le_of_ble_eq_true rfl) ⟨Nat.le_of_ble_eq_true rfl, Nat.le_of_ble_eq_true rfl⟩ ⟨Nat.le_of_ble_eq_true rfl, Nat.le_of_ble_eq_true rfl⟩ ?_
  rintro _ _ _ ⟨rfl, rfl, N2, rfl, d2, f2⟩
  refine aw_iconst (v := 0) dX7_keep_30 (by decide +kernel) ?_
  refine aw_istore_4 dX7_keep_31 (by decide) rfl ?_
  refine loop (t + 1) 0 N2 (by omega) (hA1.one ⟨d2, f2⟩) ?_ ?_ (fun k h1 h2 => f2 k h2)
  · rw [f2 _ (by omega), z3]; exact num_zn 8
  · rw [l6] at d2; exact d2
