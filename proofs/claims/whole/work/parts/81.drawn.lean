theorem ck_drawn (h : Hp) (X : Nat) (S : TS) (al go x : Int32) (hR : CRep h X S) (hI : SInv S) : CT mX7_drawn 10 1010 (cn X S) h [.ref X, .int al, .int go, .int x] (COK X h (opDrawn S al go x)) := by
  obtain ⟨hc, N, rfl, hS⟩ := hR
  refine CT.intro [some (.ref X), some (.int al), some (.int go), some (.int x), none, none] 2 rfl rfl (by decide) ?_
  intro Q hQ
  have eb : sob X (sN S) = X + (158 + 10 * sN S) := rfl
  have bad : (rg al 1 60 && (rg go 0 al.toInt && rg x 0 al.toInt)) = false → AW mX7_drawn (gq 10 1010 Q) 28 [some (.ref X), some (.int al), some (.int go), some (.int x), none, none] [] 0 0 (cn X S) (nh hc (LC X (sN S)) N) := by
    intro hb
    refine aw_iconst (v := (-1)) dX7_drawn_28 (by decide +kernel) ?_
    refine aw_ireturn dX7_drawn_29 rfl rfl (Nat.le_of_ble_eq_true rfl) (Nat.le_of_ble_eq_true rfl) ?_
    exact hQ _ _ _ (cbad hS _ (by unfold opDrawn; rw [hb]; rfl))
  refine aw_iload_n (i := 1) dX7_drawn_0 rfl rfl ?_
  refine aw_iconst (v := 1) dX7_drawn_1 (by decide +kernel) ?_
  refine aw_bipush (v := 60) dX7_drawn_2 (by decide +kernel) ?_
  refine aw_invokestatic kX7_88 dX7_drawn_4 (ct_out (a := 1) (b := 60) _ (nh hc (LC X (sN S)) N) al 1 60 (by decide +kernel) (by decide +kernel)) rfl rfl (Nat.le_of_ble_eq_true rfl) ⟨Nat.le_of_ble_eq_true rfl, Nat.le_of_ble_eq_true rfl⟩ ⟨Nat.le_of_ble_eq_true rfl, Nat.le_of_ble_eq_true rfl⟩ ?_
  rintro _ _ _ ⟨rfl, rfl, rfl⟩
  by_cases h1 : rg al 1 60 = true
  case neg =>
    refine aw_if_ne (tgt := 28) dX7_drawn_7 (by decide) (fun _ => ?_) (fun c => ((bn0 h1) c).elim)
    exact bad (by simp [h1])
  refine aw_if_ne (tgt := 28) dX7_drawn_7 (by decide) (fun c => absurd c (fun e => e (bn1 h1))) (fun _ => ?_)
  refine aw_iload_n (i := 2) dX7_drawn_10 rfl rfl ?_
  refine aw_iconst (v := 0) dX7_drawn_11 (by decide +kernel) ?_
  refine aw_iload_n (i := 1) dX7_drawn_12 rfl rfl ?_
  refine aw_invokestatic kX7_88 dX7_drawn_13 (ct_out _ (nh hc (LC X (sN S)) N) go 0 al toInt_lit0 rfl) rfl rfl (Nat.le_of_ble_eq_true rfl) ⟨Nat.le_of_ble_eq_true rfl, Nat.le_of_ble_eq_true rfl⟩ ⟨Nat.le_of_ble_eq_true rfl, Nat.le_of_ble_eq_true rfl⟩ ?_
  rintro _ _ _ ⟨rfl, rfl, rfl⟩
  by_cases h2 : rg go 0 al.toInt = true
  case neg =>
    refine aw_if_ne (tgt := 28) dX7_drawn_16 (by decide) (fun _ => ?_) (fun c => ((bn0 h2) c).elim)
    exact bad (by simp [h2])
  refine aw_if_ne (tgt := 28) dX7_drawn_16 (by decide) (fun c => absurd c (fun e => e (bn1 h2))) (fun _ => ?_)
  refine aw_iload_n (i := 3) dX7_drawn_19 rfl rfl ?_
  refine aw_iconst (v := 0) dX7_drawn_20 (by decide +kernel) ?_
  refine aw_iload_n (i := 1) dX7_drawn_21 rfl rfl ?_
  refine aw_invokestatic kX7_88 dX7_drawn_22 (ct_out _ (nh hc (LC X (sN S)) N) x 0 al toInt_lit0 rfl) rfl rfl (Nat.le_of_ble_eq_true rfl) ⟨Nat.le_of_ble_eq_true rfl, Nat.le_of_ble_eq_true rfl⟩ ⟨Nat.le_of_ble_eq_true rfl, Nat.le_of_ble_eq_true rfl⟩ ?_
  rintro _ _ _ ⟨rfl, rfl, rfl⟩
  by_cases h3 : rg x 0 al.toInt = true
  case neg =>
    refine aw_if_eq (tgt := 30) dX7_drawn_25 (by decide) (fun c => absurd c (bn0 h3)) (fun _ => ?_)
    exact bad (by simp [h3])
  have hop : opDrawn S al go x = newS S 1 (tN x) (cDrawn (tN al) (tN go) (tN x)) := by unfold opDrawn; rw [h1, h2, h3]; rfl
  rw [hop] at hQ
  obtain ⟨ea, eai, ha1, ha2⟩ := rg_N h1 (by decide)
  obtain ⟨eg, -, -, hg⟩ := rg_N h2 (by decide)
  obtain ⟨ex, -, -, hx⟩ := rg_N h3 (by decide)
  refine aw_if_eq (tgt := 30) dX7_drawn_25 (by decide) (fun _ => ?_) (fun c => (c (bn1 h3)).elim)
  refine aw_aload_n (i := 0) dX7_drawn_30 rfl rfl ?_
  refine aw_invokevirtual kX7_96 dX7_drawn_31 (hS.X0 N) (hS.isFull hI _ N) rfl rfl (Nat.le_of_ble_eq_true rfl) ⟨Nat.le_of_ble_eq_true rfl, Nat.le_of_ble_eq_true rfl⟩ ⟨Nat.le_of_ble_eq_true rfl, Nat.le_of_ble_eq_true rfl⟩ ?_
  rintro _ _ _ ⟨rfl, rfl, rfl⟩
  unfold newS at hQ
  by_cases hf : sN S = 16
  · rw [if_pos hf] at hQ
    rw [decide_eq_true hf]
    refine aw_if_eq (tgt := 40) dX7_drawn_34 (by decide) (fun c => absurd c (by decide)) (fun _ => ?_)
    refine aw_bipush (v := (-3)) dX7_drawn_37 (by decide +kernel) ?_
    refine aw_ireturn dX7_drawn_39 rfl rfl (Nat.le_of_ble_eq_true rfl) (Nat.le_of_ble_eq_true rfl) ?_
    exact hQ _ _ _ (cbad hS _ rfl)
  rw [if_neg hf] at hQ
  rw [decide_eq_false hf]
  have hk : sN S < 16 := by have := hI.2.1.1; omega
  have ha : tN al ≤ 60 := by omega
  have hga : tN go ≤ tN al := by omega
  have hxa : tN x ≤ tN al := by omega
  generalize tN al = a' at *
  generalize tN go = g' at *
  generalize tN x = x' at *
  subst ea eg ex
  have htot := cDrawn_tot (x := x') hga
  have h57 := cho_bd ha x'
  have hp : 0 < cho a' x' := cho_pos hxa
  have l6 : LC X (sN S) (X + 6) = 72 := L72 rfl
  have hO := hS.ou
  have W := LC_W X (sN S)
  have hnr := nr_b X (sN S)
  obtain ⟨z6, n6⟩ := hS.1 (X + 6) (by rw [l6]; decide)
  refine aw_if_eq (tgt := 40) dX7_drawn_34 (by decide) (fun _ => ?_) (fun c => (c rfl).elim)
  refine aw_aload_n (i := 0) dX7_drawn_40 rfl rfl ?_
  refine aw_getfield fX7_31 dX7_drawn_41 (hS.X0 N) rfl ?_
  refine aw_getfield fX7_108 dX7_drawn_44 (hO.at N) rfl ?_
  refine aw_iload_n (i := 1) dX7_drawn_47 rfl rfl ?_
  refine aw_iload_n (i := 3) dX7_drawn_48 rfl rfl ?_
  refine aw_invokestatic kX7_111 dX7_drawn_49 (ct_X7_ways _ (nh hc (LC X (sN S)) N) a' x' ha (by omega)) rfl rfl (Nat.le_of_ble_eq_true rfl) ⟨Nat.le_of_ble_eq_true rfl, Nat.le_of_ble_eq_true rfl⟩ ⟨Nat.le_of_ble_eq_true rfl, Nat.le_of_ble_eq_true rfl⟩ ?_
  rintro _ _ _ ⟨rfl, rfl, rfl⟩
  refine aw_invokevirtual kX7_115 dX7_drawn_52 (nh_o hc N (by rw [l6]; decide)) (ct_X3_put (sob X (sN S)) hc (LC X (sN S)) N (X + 6) z6 (cho a' x') W (by rw [l6]; decide) n6 (Nat.lt_trans h57 (by decide))) rfl rfl (Nat.le_of_ble_eq_true rfl) ⟨Nat.le_of_ble_eq_true rfl, Nat.le_of_ble_eq_true rfl⟩ ⟨Nat.le_of_ble_eq_true rfl, Nat.le_of_ble_eq_true rfl⟩ ?_
  rintro _ _ _ ⟨rfl, rfl, N1, rfl, d1, f1⟩
  have hS1 := hS.numK (hS.1.one ⟨d1, f1⟩) (fun k hk => f1 k (by omega))
  obtain ⟨w1, w8, wf⟩ := wdt_b hp (Nat.lt_trans h57 (by decide))
  refine aw_new nX7_119 dX7_drawn_55 (Nat.le_of_ble_eq_true rfl) (Nat.le_of_ble_eq_true rfl) ?_
  refine aw_dup dX7_drawn_58 rfl ?_
  refine aw_iload_n (i := 3) dX7_drawn_59 rfl rfl ?_
  refine aw_aload_n (i := 0) dX7_drawn_60 rfl rfl ?_
  refine aw_getfield fX7_31 dX7_drawn_61 (by rw [hup_ne (by omega)]; exact hS1.X0 N1) rfl ?_
  refine aw_getfield fX7_108 dX7_drawn_64 (by rw [hup_ne (by omega)]; exact hO.at N1) rfl ?_
  refine aw_getfield fX7_121 dX7_drawn_67 (by rw [hup_ne (by omega)]; exact nh_o hc N1 (by rw [l6]; decide)) rfl ?_
  try dsimp only
  rw [num_sz d1]
  have ew : (nb (cho a' x') + 31) / 32 = wdt (cho a' x') := rfl
  rw [ew]
  refine aw_invokespecial kX7_124 dX7_drawn_70 (ct_X4_init (sob X (sN S) + 1) (hup (nh hc (LC X (sN S)) N1) (sob X (sN S)) (.inr (4, [.int 0, .int 0, .null]))) (sob X (sN S)) x' (wdt (cho a' x')) (hup_self _ _ _) (by omega) (by omega) w1 w8) rfl rfl (Nat.le_of_ble_eq_true rfl) ⟨Nat.le_of_ble_eq_true rfl, Nat.le_of_ble_eq_true rfl⟩ ⟨Nat.le_of_ble_eq_true rfl, Nat.le_of_ble_eq_true rfl⟩ ?_
  rintro _ _ _ ⟨rfl, rfl, rfl⟩
  refine AW.hp (row_new hnr) ?_
  generalize hw : wdt (cho a' x') = w at *
  have hRow0 : ∀ g, Row (rh (hup hc (sob X (sN S)) (robj (sob X (sN S)) x' w)) (sob X (sN S)) x' w g) (sob X (sN S)) x' w g := fun g => ⟨rh_o (hup_self _ _ _), rh_a, by omega, w1, w8⟩
  have hRow : ∀ g, Row (nh (rh (hup hc (sob X (sN S)) (robj (sob X (sN S)) x' w)) (sob X (sN S)) x' w g) (LC X (sN S)) N1) (sob X (sN S)) x' w g := fun g => Row.nh (hRow0 g) hnr N1
  have loop : ∀ (z i : Nat) (g : Nat → Nat), i + z = x' + 1 → rok x' w g (fun v => if v < i then cDrawn a' g' x' v else 0) → AW mX7_drawn (gq 10 1010 Q) 78 [some (.ref X), some (.int (nI a')), some (.int (nI g')), some (.int (nI x')), some (.ref (sob X (sN S))), some (.int (nI i))] [] 2 971 (sob X (sN S) + 2) (nh (rh (hup hc (sob X (sN S)) (robj (sob X (sN S)) x' w)) (sob X (sN S)) x' w g) (LC X (sN S)) N1) := by
    intro z
    induction z with
    | zero =>
      intro i g hi hr
      obtain rfl : i = x' + 1 := by omega
      obtain ⟨od, ho4⟩ := hS.2.1.2.2.2.2.1
      have hS3 := hS1.fr (hc' := rh (hup hc (sob X (sN S)) (robj (sob X (sN S)) x' w)) (sob X (sN S)) x' w g) hS1.1 (fun _ _ _ => rfl) (fun y h1 _ => by rw [rh_x (by omega), hup_ne (by omega)]) ⟨od, by rw [rh_x (by omega), hup_ne (by omega)]; exact ho4⟩
      refine aw_iload dX7_drawn_78 rfl ?_
      refine aw_iload_n (i := 3) dX7_drawn_80 rfl rfl ?_
      refine aw_icmp_gt (tgt := 114) dX7_drawn_81 (by decide) (fun _ => ?_) (fun c => (c (nI_lt (by omega) (by omega))).elim)
      refine aw_aload_n (i := 0) dX7_drawn_114 rfl rfl ?_
      refine aw_iconst (v := 1) dX7_drawn_115 (by decide +kernel) ?_
      refine aw_aload dX7_drawn_116 rfl ?_
      refine aw_invokevirtual kX7_104 dX7_drawn_118 (hS3.X0 N1) (ct_X7_keep _ N1 X 1 x' S (cDrawn a' g' x') g hS3 hI hk (by rw [htot, hw]; exact hRow0 g) (by rw [htot, hw]; exact rok_congr hr (fun v hv => by rw [if_pos (by omega)])) (by rw [htot]; exact hp) (by rw [htot]; exact Nat.lt_trans h57 (by decide))) rfl rfl (Nat.le_of_ble_eq_true rfl) ⟨Nat.le_of_ble_eq_true rfl, Nat.le_of_ble_eq_true rfl⟩ ⟨Nat.le_of_ble_eq_true rfl, Nat.le_of_ble_eq_true rfl⟩ ?_
      rintro _ _ h' ⟨rfl, rfl, hR', hF⟩
      refine aw_ireturn dX7_drawn_121 rfl rfl (Nat.le_of_ble_eq_true rfl) (Nat.le_of_ble_eq_true rfl) ?_
      refine hQ _ _ _ ⟨rfl, rfl, hR', fun y h1 h2 => ?_⟩
      rw [hF y h1 h2]
      exact cfr_nh (fun y h1 h2 => by rw [rh_x (by omega), hup_ne (by omega)]) y h1 h2
    | succ z ih =>
      intro i g hi hr
      have hle : cDrawn a' g' x' i ≤ cho a' x' := by rw [← htot]; exact sg_ge (by omega)
      refine aw_iload dX7_drawn_78 rfl ?_
      refine aw_iload_n (i := 3) dX7_drawn_80 rfl rfl ?_
      refine aw_icmp_gt (tgt := 114) dX7_drawn_81 (by decide) (fun c => absurd c (nI_nlt (by omega) (by omega))) (fun _ => ?_)
      refine aw_aload dX7_drawn_84 rfl ?_
      refine aw_iload dX7_drawn_86 rfl ?_
      refine aw_iload_n (i := 2) dX7_drawn_88 rfl rfl ?_
      refine aw_iload dX7_drawn_89 rfl ?_
      refine aw_invokestatic kX7_111 dX7_drawn_91 (ct_X7_ways _ _ g' i (by omega) (by omega)) rfl rfl (Nat.le_of_ble_eq_true rfl) ⟨Nat.le_of_ble_eq_true rfl, Nat.le_of_ble_eq_true rfl⟩ ⟨Nat.le_of_ble_eq_true rfl, Nat.le_of_ble_eq_true rfl⟩ ?_
      rintro _ _ _ ⟨rfl, rfl, rfl⟩
      refine aw_iload_n (i := 1) dX7_drawn_94 rfl rfl ?_
      refine aw_iload_n (i := 2) dX7_drawn_95 rfl rfl ?_
      refine aw_isub dX7_drawn_96 ?_
      refine aw_iload_n (i := 3) dX7_drawn_97 rfl rfl ?_
      refine aw_iload dX7_drawn_98 rfl ?_
      refine aw_isub dX7_drawn_100 ?_
      rw [nI_sb hga, nI_sb (show i ≤ x' by omega)]
      refine aw_invokestatic kX7_111 dX7_drawn_101 (ct_X7_ways _ _ (a' - g') (x' - i) (by omega) (by omega)) rfl rfl (Nat.le_of_ble_eq_true rfl) ⟨Nat.le_of_ble_eq_true rfl, Nat.le_of_ble_eq_true rfl⟩ ⟨Nat.le_of_ble_eq_true rfl, Nat.le_of_ble_eq_true rfl⟩ ?_
      rintro _ _ _ ⟨rfl, rfl, rfl⟩
      refine aw_lmul dX7_drawn_104 ?_
      rw [lN_mul]
      refine aw_invokevirtual kX7_127 dX7_drawn_105 (hRow g).1 (ct_X4_write (sob X (sN S) + 2) _ (sob X (sN S)) x' w i (cDrawn a' g' x' i) g _ (hRow g) hr (by omega) (by rw [if_neg (Nat.lt_irrefl i)]) (Nat.lt_of_le_of_lt hle (Nat.lt_trans h57 (by decide))) (fun e => Nat.lt_of_le_of_lt hle (by rw [e, Nat.pow_one] at wf; exact wf))) rfl rfl (Nat.le_of_ble_eq_true rfl) ⟨Nat.le_of_ble_eq_true rfl, Nat.le_of_ble_eq_true rfl⟩ ⟨Nat.le_of_ble_eq_true rfl, Nat.le_of_ble_eq_true rfl⟩ ?_
      rintro _ _ _ ⟨rfl, rfl, g2, rfl, hr'⟩
      refine AW.hp (rh_nh hnr) ?_
      refine aw_iinc_5 (c0 := 1) dX7_drawn_108 (by decide) (by decide) rfl ?_
      refine aw_goto (tgt := 78) dX7_drawn_111 (by decide) ?_
      rw [nI_1]
      refine ih (i + 1) g2 (by omega) (rok_congr hr' (fun v hv => ?_))
      by_cases e : v = i
      · rw [e, va_up_at, if_pos (Nat.lt_succ_self i)]
      · rw [va_up_off e]
        by_cases e2 : v < i
        · rw [if_pos e2, if_pos (by omega)]
        · rw [if_neg e2, if_neg (by omega)]
  refine aw_astore_4 dX7_drawn_73 (by decide) rfl ?_
  refine aw_iconst (v := 0) dX7_drawn_75 (by decide +kernel) ?_
  refine aw_istore_5 dX7_drawn_76 (by decide) rfl ?_
  exact loop (x' + 1) 0 _ (by omega) (rok_congr (rok_z _ _) (fun v _ => by rw [if_neg (Nat.not_lt_zero v)]))
