theorem LC_m1 (X k : Nat) : LC X k (sob X k - 1) = 0 := by
  have e : sob X k = X + (158 + 10 * k) := rfl
  rw [show sob X k - 1 = X + (157 + 10 * k) by omega, LC_at]
  unfold Lo
  rw [if_neg (by omega), if_neg (by omega)]
  by_cases h0 : k = 0
  · rw [if_pos (by omega)]
  · rw [if_neg (by omega), if_pos (by omega), if_neg (by omega), if_neg (by omega)]
theorem LC_b (X k j : Nat) : LC X k (sob X k + j) = 0 := by
  have e : sob X k = X + (158 + 10 * k) := rfl
  rw [e, Nat.add_assoc, LC_at]; exact Lo_out (by omega)
theorem nr_b (X k : Nat) : nr (LC X k) (sob X k) := ⟨LC_m1 X k, LC_b X k 0, LC_b X k 1⟩
/-- all but the divider, the odds and the tosser as it was, below the sources' end -/
theorem CS.fr2 {hc hc' : Hp} {N N' : NC} {X : Nat} {S : TS} (h : CS hc N X S) (hA : NA (LC X (sN S)) N') (hN : ∀ k, k < sob X (sN S) → (k < X + 6 ∨ X + 46 ≤ k) → N' k = N k) (ho : ∀ y, y < sob X (sN S) → y ≠ X + 12 → y ≠ X + 4 → y ≠ X + 36 → y ≠ X + 40 → y ≠ X + 45 → hc' y = hc y) (h4 : ∃ od, hc' (X + 4) = some (iar 2 od)) (hT : ∃ td sh g, hc' (X + 36) = some (tob (X + 36) td) ∧ hc' (X + 45) = some (iar 2 sh) ∧ Row hc' (X + 39) 40 8 g) (hD : ∃ R H W, DVx hc' (LC X (sN S)) (X + 12) R H W) : CS hc' N' X S := by
  obtain ⟨h1, h2, h3, h4', h5⟩ := h
  have eb : sob X (sN S) = X + (158 + 10 * sN S) := rfl
  have hh : ∀ c, c < 46 → c ≠ 12 → c ≠ 4 → c ≠ 36 → c ≠ 40 → c ≠ 45 → hc' (X + c) = hc (X + c) := fun c _ _ _ _ _ _ => ho _ (by omega) (by omega) (by omega) (by omega) (by omega) (by omega)
  have hX : hc' X = hc X := ho _ (by omega) (by omega) (by omega) (by omega) (by omega) (by omega)
  have hf : ∀ y, y < sob X (sN S) → X + 46 ≤ y → hc' y = hc y := fun y _ _ => ho _ (by omega) (by omega) (by omega) (by omega) (by omega) (by omega)
  obtain ⟨o1, ⟨wt, o2, o3⟩, ⟨fs, o4, o5⟩, ⟨fp, o6, o7⟩, -, o9, o10, -⟩ := h2
  refine ⟨hA, ⟨by rw [hX]; exact o1, ⟨wt, by rw [hh 1 (by omega) (by omega) (by omega) (by omega) (by omega) (by omega)]; exact o2, o3⟩, ⟨fs, by rw [hh 2 (by omega) (by omega) (by omega) (by omega) (by omega) (by omega)]; exact o4, o5⟩, ⟨fp, by rw [hh 3 (by omega) (by omega) (by omega) (by omega) (by omega) (by omega)]; exact o6, o7⟩, h4, by rw [hh 5 (by omega) (by omega) (by omega) (by omega) (by omega) (by omega)]; exact o9, by rw [hh 23 (by omega) (by omega) (by omega) (by omega) (by omega) (by omega)]; exact o10, hT⟩, fun p hp => ?_, fun j hj => ?_, hD⟩
  · obtain ⟨a1, a2⟩ := h3 p hp
    have e : plb X p = X + (46 + 5 * p) := rfl
    refine ⟨by rw [hf _ (by omega) (by omega)]; exact a1, fun u d hs => ?_⟩
    rw [hN _ (by omega) (by omega), hN _ (by omega) (by omega)]; exact a2 u d hs
  · obtain ⟨a1, ⟨g', a2, a3⟩, a4, a5, a6, a7⟩ := h4' j hj
    have e : sob X j = X + (158 + 10 * j) := rfl
    refine ⟨by rw [hf _ (by omega) (by omega)]; exact a1, ⟨g', ⟨by rw [hf _ (by omega) (by omega)]; exact a2.1, by rw [hf _ (by omega) (by omega)]; exact a2.2.1, a2.2.2⟩, a3⟩, by rw [hf _ (by omega) (by omega)]; exact a4, by rw [hN _ (by omega) (by omega)]; exact a5, by rw [hN _ (by omega) (by omega)]; exact a6, by rw [hN _ (by omega) (by omega)]; exact a7⟩
/-- as fr2, tosser and divider as they were -/
theorem CS.fr {hc hc' : Hp} {N N' : NC} {X : Nat} {S : TS} (h : CS hc N X S) (hA : NA (LC X (sN S)) N') (hN : ∀ k, k < sob X (sN S) → (k < X + 6 ∨ X + 46 ≤ k) → N' k = N k) (ho : ∀ y, y < sob X (sN S) → y ≠ X + 4 → hc' y = hc y) (h4 : ∃ od, hc' (X + 4) = some (iar 2 od)) : CS hc' N' X S := by
  have eb : sob X (sN S) = X + (158 + 10 * sN S) := rfl
  obtain ⟨-, ⟨-, -, -, -, -, -, -, td, sh, g, o11, o12, o13⟩, -, -, R, H, W, ⟨a, b, c0, d, y1, y2⟩, z⟩ := id h
  exact h.fr2 hA hN (fun y h1 _ h3 _ _ _ => ho y h1 h3) h4 ⟨td, sh, g, by rw [ho _ (by omega) (by omega)]; exact o11, by rw [ho _ (by omega) (by omega)]; exact o12, by rw [ho _ (by omega) (by omega)]; exact o13.1, by rw [ho _ (by omega) (by omega)]; exact o13.2.1, o13.2.2⟩ ⟨R, H, W, ⟨a, b, c0, d, by rw [ho _ (by omega) (by omega)]; exact y1, y2⟩, z⟩
theorem row_new {hc : Hp} {L : Nat → Nat} {N : NC} {b t w : Nat} {c : AC} (l : nr L b) : hup (hup (hup (nh hc L N) b c) (b + 1) (iar ((t + 1) * w) (fun _ => 0))) b (.inr (4, [.int (nI t), .int (nI w), .ref (b + 1)])) = nh (rh (hup hc b (robj b t w)) b t w (fun _ => 0)) L N := by
  rw [nh_upn hc N l.2.1 l.1, nh_upn _ N l.2.2 (by rw [Nat.add_sub_cancel]; exact l.2.1), nh_upn _ N l.2.1 l.1]
  congr 1
  unfold rh
  funext y
  unfold hup
  by_cases e1 : y = b
  · rw [if_pos e1, if_neg (by omega), if_pos e1]; rfl
  · rw [if_neg e1, if_neg e1]
    by_cases e2 : y = b + 1
    · rw [if_pos e2, if_pos e2]
    · rw [if_neg e2, if_neg e2, if_neg e1]
theorem rh_nh {hc : Hp} {L : Nat → Nat} {N : NC} {b t w : Nat} {g g' : Nat → Nat} (l : nr L b) : rh (nh (rh hc b t w g) L N) b t w g' = nh (rh hc b t w g') L N := by
  show hup (nh (hup hc (b + 1) _) L N) (b + 1) _ = _
  rw [nh_upn _ N l.2.2 (by rw [Nat.add_sub_cancel]; exact l.2.1), hup_hup]; rfl
theorem wdt_b {v : Nat} (h0 : 0 < v) (h1 : v < 2 ^ 256) : 1 ≤ wdt v ∧ wdt v ≤ 8 ∧ v < (2 ^ 32) ^ wdt v := by
  have a := nb_pos h0
  have b := nb_le.mpr h1
  refine ⟨by unfold wdt; omega, by unfold wdt; omega, ?_⟩
  rw [p32]
  exact nb_le.mp (by unfold wdt; omega)
theorem rok_z (t w : Nat) : rok t w (fun _ => 0) (fun _ => 0) := ⟨fun _ _ => by show (0 : Nat) < 2 ^ 32; decide, fun _ _ => bv_zero (fun _ _ => rfl)⟩
theorem ct_X7_makeRounds (hc : Hp) (N : NC) (X n c0 ls k : Nat) (S : TS) (sh : Nat → Nat) (h : CS hc N X S) (hc0 : c0 = 1 ∨ c0 = 4) (hq : hc (X + c0) = some (iar ls sh)) (hk : k + 1 ≤ ls) (hls : ls ≤ 8) (hsh : ∀ i, i < k + 1 → sh i ≤ 1000) (hn : n ≤ 40) (hnk : n * k ≤ 120) (h0 : 0 < sg sh (k + 1)) (hs8 : sg sh (k + 1) ≤ 8000) (hlt : sg sh (k + 1) ^ n < 2 ^ 256) : CT mX7_makeRounds 2 971 (sob X (sN S)) (nh hc (LC X (sN S)) N) [.ref X, .int (nI n), .ref (X + c0), .int (nI (k + 1))] (fun r n' h' => sob X (sN S) + 2 = n' ∧ r = some (.ref (sob X (sN S))) ∧ ∃ hc' N' g, h' = nh hc' (LC X (sN S)) N' ∧ CS hc' N' X S ∧ Row hc' (sob X (sN S)) (n * k) (wdt (sg sh (k + 1) ^ n)) g ∧ rok (n * k) (wdt (sg sh (k + 1) ^ n)) g (cSums (k + 1) sh n) ∧ ∀ y, y ≠ sob X (sN S) → y ≠ sob X (sN S) + 1 → hc' y = hc y) := by
  refine CT.intro [some (.ref X), some (.int (nI n)), some (.ref (X + c0)), some (.int (nI (k + 1))), none, none, none] 3 rfl rfl (by decide) ?_
  intro Q hQ
  have eb : sob X (sN S) = X + (158 + 10 * sN S) := rfl
  have W := LC_W X (sN S)
  have hq1 : ∀ (hx : Hp) (N' : NC), nh hx (LC X (sN S)) N' (X + c0) = hx (X + c0) := fun hx N' => by
    rcases hc0 with rfl | rfl
    · exact nh_X N' rfl (Or.inr rfl)
    · exact nh_X N' rfl (Or.inr rfl)
  have l10 : LC X (sN S) (X + 10) = 72 := L72 rfl
  have hnr := nr_b X (sN S)
  have hp0 : 0 < sg sh (k + 1) ^ n := Nat.pow_pos h0
  obtain ⟨w1, w8, wf⟩ := wdt_b hp0 hlt
  have lim72 : ((2 : Nat) ^ 32) ^ 72 = 2 ^ 256 * 2 ^ 2048 := by decide +kernel
  obtain ⟨z10, n10⟩ := h.1 (X + 10) (by rw [l10]; decide)
  refine aw_aload_n (i := 0) dX7_makeRounds_0 rfl rfl ?_
  refine aw_getfield fX7_38 dX7_makeRounds_1 (h.X0 N) rfl ?_
  refine aw_aload_n (i := 2) dX7_makeRounds_4 rfl rfl ?_
  refine aw_iload_n (i := 3) dX7_makeRounds_5 rfl rfl ?_
  refine aw_invokestatic kX7_131 dX7_makeRounds_6 (ct_X7_together _ (nh hc (LC X (sN S)) N) (X + c0) ls (k + 1) sh (by rw [hq1]; exact hq) hk hls) rfl rfl (Nat.le_of_ble_eq_true rfl) ⟨Nat.le_of_ble_eq_true rfl, Nat.le_of_ble_eq_true rfl⟩ ⟨Nat.le_of_ble_eq_true rfl, Nat.le_of_ble_eq_true rfl⟩ ?_
  rintro _ _ _ ⟨rfl, rfl, rfl⟩
  refine aw_iload_n (i := 1) dX7_makeRounds_9 rfl rfl ?_
  refine aw_invokevirtual kX7_314 dX7_makeRounds_10 (nh_o hc N (by rw [l10]; decide)) (ct_X3_power (sob X (sN S)) hc (LC X (sN S)) N (X + 10) z10 (sg sh (k + 1)) n W (by rw [l10]; decide) n10 (by omega) (by omega) (by rw [l10, lim72]; exact Nat.lt_of_lt_of_le hlt (Nat.le_mul_of_pos_right _ (Nat.two_pow_pos _)))) rfl rfl (Nat.le_of_ble_eq_true rfl) ⟨Nat.le_of_ble_eq_true rfl, Nat.le_of_ble_eq_true rfl⟩ ⟨Nat.le_of_ble_eq_true rfl, Nat.le_of_ble_eq_true rfl⟩ ?_
  rintro _ _ _ ⟨rfl, rfl, N1, rfl, d1, f1⟩
  have hS1 := h.numK (h.1.one ⟨d1, f1⟩) (fun k hk => f1 k (by omega))
  refine aw_iload_n (i := 3) dX7_makeRounds_13 rfl rfl ?_
  refine aw_iconst (v := 1) dX7_makeRounds_14 (by decide +kernel) ?_
  refine aw_isub dX7_makeRounds_15 ?_
  rw [pI_m, pI_s]
  refine aw_istore_4 dX7_makeRounds_16 (by decide) rfl ?_
  refine aw_new nX7_119 dX7_makeRounds_18 (Nat.le_of_ble_eq_true rfl) (Nat.le_of_ble_eq_true rfl) ?_
  refine aw_dup dX7_makeRounds_21 rfl ?_
  refine aw_iload_n (i := 1) dX7_makeRounds_22 rfl rfl ?_
  refine aw_iload dX7_makeRounds_23 rfl ?_
  refine aw_imul dX7_makeRounds_25 ?_
  refine aw_aload_n (i := 0) dX7_makeRounds_26 rfl rfl ?_
  refine aw_getfield fX7_38 dX7_makeRounds_27 (by rw [hup_ne (by omega)]; exact hS1.X0 N1) rfl ?_
  refine aw_getfield fX7_121 dX7_makeRounds_30 (by rw [hup_ne (by omega)]; exact nh_o hc N1 (by rw [l10]; decide)) rfl ?_
  try dsimp only
  rw [pk_mul, num_sz d1]
  have ew : (nb (sg sh (k + 1) ^ n) + 31) / 32 = wdt (sg sh (k + 1) ^ n) := rfl
  rw [ew]
  refine aw_invokespecial kX7_124 dX7_makeRounds_33 (ct_X4_init (sob X (sN S) + 1) (hup (nh hc (LC X (sN S)) N1) (sob X (sN S)) (.inr (4, [.int 0, .int 0, .null]))) (sob X (sN S)) (n * k) (wdt (sg sh (k + 1) ^ n)) (hup_self _ _ _) (by omega) hnk w1 w8) rfl rfl (Nat.le_of_ble_eq_true rfl) ⟨Nat.le_of_ble_eq_true rfl, Nat.le_of_ble_eq_true rfl⟩ ⟨Nat.le_of_ble_eq_true rfl, Nat.le_of_ble_eq_true rfl⟩ ?_
  rintro _ _ _ ⟨rfl, rfl, rfl⟩
  refine AW.hp (row_new hnr) ?_
  generalize hw : wdt (sg sh (k + 1) ^ n) = w at *
  have hRow : ∀ g, Row (nh (rh (hup hc (sob X (sN S)) (robj (sob X (sN S)) (n * k) w)) (sob X (sN S)) (n * k) w g) (LC X (sN S)) N1) (sob X (sN S)) (n * k) w g := fun g => Row.nh ⟨rh_o (hup_self _ _ _), rh_a, hnk, w1, w8⟩ hnr N1
  have hq2 : ∀ g, nh (rh (hup hc (sob X (sN S)) (robj (sob X (sN S)) (n * k) w)) (sob X (sN S)) (n * k) w g) (LC X (sN S)) N1 (X + c0) = some (iar ls sh) := fun g => by rw [hq1, rh_x (by omega), hup_ne (by omega)]; exact hq
  have loop : ∀ (z i : Nat) (g : Nat → Nat), i + z = n → rok (n * k) w g (cSums (k + 1) sh i) → AW mX7_makeRounds (gq 2 971 Q) 48 [some (.ref X), some (.int (nI n)), some (.ref (X + c0)), some (.int (nI (k + 1))), some (.int (nI k)), some (.ref (sob X (sN S))), some (.int (nI (i + 1)))] [] 2 971 (sob X (sN S) + 2) (nh (rh (hup hc (sob X (sN S)) (robj (sob X (sN S)) (n * k) w)) (sob X (sN S)) (n * k) w g) (LC X (sN S)) N1) := by
    intro z
    induction z with
    | zero =>
      intro i g hi hr
      obtain rfl : i = n := by omega
      refine aw_iload dX7_makeRounds_48 rfl ?_
      refine aw_iload_n (i := 1) dX7_makeRounds_50 rfl rfl ?_
      refine aw_icmp_gt (tgt := 72) dX7_makeRounds_51 (by decide) (fun _ => ?_) (fun c => (c (nI_lt (by omega) (by omega))).elim)
      refine aw_aload dX7_makeRounds_72 rfl ?_
      refine aw_areturn dX7_makeRounds_74 rfl (Or.inr ⟨_, rfl⟩) (Nat.le_of_ble_eq_true rfl) (Nat.le_of_ble_eq_true rfl) ?_
      refine hQ _ _ _ ⟨rfl, rfl, _, N1, g, rfl, ?_, ⟨rh_o (hup_self _ _ _), rh_a, hnk, w1, w8⟩, hr, fun y h1 h2 => by rw [rh_x h2, hup_ne h1]⟩
      obtain ⟨od, ho4⟩ := h.2.1.2.2.2.2.1
      exact hS1.fr hS1.1 (fun _ _ _ => rfl) (fun y h1 _ => by rw [rh_x (by omega), hup_ne (by omega)]) ⟨od, by rw [rh_x (by omega), hup_ne (by omega)]; exact ho4⟩
    | succ z ih =>
      intro i g hi hr
      have hik : (i + 1) * k ≤ n * k := Nat.mul_le_mul_right _ (by omega)
      refine aw_iload dX7_makeRounds_48 rfl ?_
      refine aw_iload_n (i := 1) dX7_makeRounds_50 rfl rfl ?_
      refine aw_icmp_gt (tgt := 72) dX7_makeRounds_51 (by decide) (fun c => absurd c (nI_nlt (by omega) (by omega))) (fun _ => ?_)
      refine aw_aload dX7_makeRounds_54 rfl ?_
      refine aw_aload_n (i := 2) dX7_makeRounds_56 rfl rfl ?_
      refine aw_iload_n (i := 3) dX7_makeRounds_57 rfl rfl ?_
      refine aw_iload dX7_makeRounds_58 rfl ?_
      refine aw_iload dX7_makeRounds_60 rfl ?_
      refine aw_imul dX7_makeRounds_62 ?_
      rw [pk_mul]
      refine aw_invokevirtual kX7_317 dX7_makeRounds_63 (hRow g).1 (ct_X4_addRound (sob X (sN S) + 2) _ (sob X (sN S)) (n * k) w (X + c0) ls (k + 1) ((i + 1) * k) g _ sh (hRow g) hr (hq2 g) (by omega) hk hls hsh hik (fun v hv => ?_)) rfl rfl (Nat.le_of_ble_eq_true rfl) ⟨Nat.le_of_ble_eq_true rfl, Nat.le_of_ble_eq_true rfl⟩ ⟨Nat.le_of_ble_eq_true rfl, Nat.le_of_ble_eq_true rfl⟩ ?_
      · show cSums (k + 1) sh (i + 1) v < _
        have e1 := cS_tot (nw := k + 1) sh (by omega) (i + 1)
        have e2 := sg_ge (f := cSums (k + 1) sh (i + 1)) (show v < (i + 1) * (k + 1 - 1) + 1 by rw [Nat.add_sub_cancel]; omega)
        rw [e1] at e2
        exact Nat.lt_of_le_of_lt (Nat.le_trans e2 (Nat.pow_le_pow_right h0 (by omega))) wf
      rintro _ _ _ ⟨rfl, rfl, g', rfl, hr'⟩
      refine AW.hp (rh_nh hnr) ?_
      refine aw_iinc_6 (c0 := 1) dX7_makeRounds_66 (by decide) (by decide) rfl ?_
      refine aw_goto (tgt := 48) dX7_makeRounds_69 (by decide) ?_
      rw [nI_1]
      refine ih (i + 1) g' (by omega) (rok_congr hr' (fun v hv => ?_))
      by_cases hvk : v ≤ (i + 1) * k
      · rw [if_pos hvk]; rfl
      · rw [if_neg hvk, cS_supp sh (by omega) _ _ (by rw [Nat.add_sub_cancel]; omega), cS_supp sh (by omega) _ _ (by rw [Nat.add_sub_cancel]; exact Nat.lt_of_le_of_lt (Nat.mul_le_mul_right _ (Nat.le_succ i)) (Nat.lt_of_not_le hvk))]
  refine aw_astore_5 dX7_makeRounds_36 (by decide) rfl ?_
  refine aw_aload dX7_makeRounds_38 rfl ?_
  refine aw_iconst (v := 0) dX7_makeRounds_40 (by decide +kernel) ?_
  refine aw_lconst (v := 1) dX7_makeRounds_41 (by decide) ?_
  refine aw_invokevirtual kX7_127 dX7_makeRounds_42 (hRow _).1 (ct_X4_write (sob X (sN S) + 2) _ (sob X (sN S)) (n * k) w 0 1 _ _ (hRow _) (rok_z _ _) (Nat.zero_le _) rfl (by decide) (fun _ => by decide)) rfl rfl (Nat.le_of_ble_eq_true rfl) ⟨Nat.le_of_ble_eq_true rfl, Nat.le_of_ble_eq_true rfl⟩ ⟨Nat.le_of_ble_eq_true rfl, Nat.le_of_ble_eq_true rfl⟩ ?_
  rintro _ _ _ ⟨rfl, rfl, g', rfl, hr'⟩
  refine AW.hp (rh_nh hnr) ?_
  refine aw_iconst (v := 1) dX7_makeRounds_45 (by decide +kernel) ?_
  refine aw_istore_6 dX7_makeRounds_46 (by decide) rfl ?_
  refine loop n 0 g' (by omega) (rok_congr hr' (fun v hv => ?_))
  show (if v = 0 then 1 else 0) = va_up (fun _ => 0) 0 1 v
  unfold va_up
  rfl
