theorem toInt_1000 : (1000 : Int32).toInt = 1000 := by decide +kernel
theorem CS.obj {hc hc1 : Hp} {N : NC} {X : Nat} {S S' : TS} (h : CS hc N X S) (e1 : S'.2.1 = S.2.1) (e2 : sP S' = sP S) (hw : ∃ wt, hc1 (X + 1) = some (iar 8 wt) ∧ ∀ i, i < sNw S' → wt i = sW S' i) (ho : ∀ y, y ≠ X → y ≠ X + 1 → hc1 y = hc y) : CS (hup hc1 X (cob X S')) N X S' := by
  obtain ⟨g1, g2, g3, g4, R, H, W, g5, g6⟩ := h
  have en : sN S' = sN S := by unfold sN; rw [e1]
  have hx : ∀ y, y ≠ X → y ≠ X + 1 → hup hc1 X (cob X S') y = hc y := fun y hy hy1 => by rw [hup_ne hy]; exact ho y hy hy1
  obtain ⟨o1, ⟨wt, o2, o3⟩, ⟨fs, o4, o5⟩, ⟨fp, o6, o7⟩, ⟨od, o8⟩, o9, o10, td, sh, g, o11, o12, o13⟩ := g2
  obtain ⟨wt', w1, w2⟩ := hw
  refine ⟨by rw [en]; exact g1, ⟨hup_self _ _ _, ⟨wt', by rw [hup_ne (by omega)]; exact w1, w2⟩, ⟨fs, by rw [hx _ (by omega) (by omega)]; exact o4, by rw [en]; exact o5⟩, ⟨fp, by rw [hx _ (by omega) (by omega)]; exact o6, o7⟩, ⟨od, by rw [hx _ (by omega) (by omega)]; exact o8⟩, by rw [hx _ (by omega) (by omega)]; exact o9, by rw [hx _ (by omega) (by omega)]; exact o10, td, sh, g, by rw [hx _ (by omega) (by omega)]; exact o11, by rw [hx _ (by omega) (by omega)]; exact o12, by rw [hx _ (by omega) (by omega)]; exact o13.1, by rw [hx _ (by omega) (by omega)]; exact o13.2.1, o13.2.2⟩, fun q hq => ?_, ?_, R, H, W, ?_, g6⟩
  · have e : plb X q = X + (46 + 5 * q) := rfl
    rw [e2, hx _ (by omega) (by omega)]
    exact g3 q hq
  · rw [show CQ (hup hc1 X (cob X S')) N X S' = CQ (hup hc1 X (cob X S')) N X S by unfold CQ stot smean sN sK sT sC; rw [e1]]
    intro j hj
    obtain ⟨a1, ⟨g', a2, a3⟩, a4, a5⟩ := g4 j hj
    have e : sob X j = X + (158 + 10 * j) := rfl
    exact ⟨by rw [hx _ (by omega) (by omega)]; exact a1, ⟨g', ⟨by rw [hx _ (by omega) (by omega)]; exact a2.1, by rw [hx _ (by omega) (by omega)]; exact a2.2.1, a2.2.2⟩, a3⟩, by rw [hx _ (by omega) (by omega)]; exact a4, a5⟩
  · obtain ⟨a, b, c, d, z⟩ := g5
    rw [en]
    exact ⟨a, b, c, d, by rw [hx _ (by omega) (by omega)]; exact z.1, z.2⟩
theorem upo_X {hc : Hp} {X k : Nat} (N : NC) (ac : AC) : hup (nh hc (LC X k) N) X ac = nh (hup hc X ac) (LC X k) N := by
  have := upn_X (hc := hc) (X := X) (k := k) (c := 0) N rfl (Or.inl rfl) ac
  rw [Nat.add_zero] at this
  exact this
theorem crep_self {hc : Hp} {N : NC} {X : Nat} {S : TS} (h : CS hc N X S) {q : Int32 × TS} (e : q.2 = S) : COK X (nh hc (LC X (sN S)) N) q (some (.int q.1)) (cn X S) (nh hc (LC X (sN S)) N) := by
  refine ⟨by rw [e], rfl, ?_, cfr_rf⟩
  rw [e]; exact ⟨hc, N, rfl, h⟩
theorem cbad {hc : Hp} {N : NC} {X : Nat} {S : TS} (h : CS hc N X S) {q : Int32 × TS} (x : Int32) (e : q = (x, S)) : COK X (nh hc (LC X (sN S)) N) q (some (.int x)) (cn X S) (nh hc (LC X (sN S)) N) := by
  subst e; exact crep_self h rfl
theorem ck_base (h : Hp) (X : Nat) (S : TS) (hR : CRep h X S) : CT mX7_base 0 0 (cn X S) h [.ref X] (COK X h (opBase S)) := by
  obtain ⟨hc, N, rfl, hS⟩ := hR
  refine CT.intro [some (.ref X)] 0 rfl rfl (by decide) ?_
  intro Q hQ
  refine aw_aload_n (i := 0) dX7_base_0 rfl rfl ?_
  refine aw_getfield fX7_70 dX7_base_1 (hS.X0 N) rfl ?_
  refine aw_ireturn dX7_base_4 rfl rfl (Nat.le_of_ble_eq_true rfl) (Nat.le_of_ble_eq_true rfl) ?_
  exact hQ _ _ _ (cbad hS _ rfl)
theorem ck_wipe (h : Hp) (X : Nat) (S : TS) (hR : CRep h X S) : CT mX7_wipe 0 0 (cn X S) h [.ref X] (COK X h (opWipe S)) := by
  obtain ⟨hc, N, rfl, hS⟩ := hR
  refine CT.intro [some (.ref X), none] 1 rfl rfl (by decide) ?_
  intro Q hQ
  refine aw_aload_n (i := 0) dX7_wipe_0 rfl rfl ?_
  refine aw_getfield fX7_63 dX7_wipe_1 (hS.X0 N) rfl ?_
  refine aw_istore_1 dX7_wipe_4 (by decide) rfl ?_
  refine aw_aload_n (i := 0) dX7_wipe_5 rfl rfl ?_
  refine aw_iconst (v := 0) dX7_wipe_6 (by decide +kernel) ?_
  refine aw_putfield fX7_63 dX7_wipe_7 (hS.X0 N) rfl rfl (Nat.le_of_ble_eq_true rfl) ?_
  dsimp only [List.set]
  refine AW.hp (upo_X N (cob X ((0, sW S), S.2))) ?_
  refine aw_iload_n (i := 1) dX7_wipe_10 rfl rfl ?_
  refine aw_ireturn dX7_wipe_11 rfl rfl (Nat.le_of_ble_eq_true rfl) (Nat.le_of_ble_eq_true rfl) ?_
  refine hQ _ _ _ ⟨rfl, rfl, ⟨_, N, rfl, hS.obj (S' := ((0, sW S), S.2)) rfl rfl ?_ (fun _ _ _ => rfl)⟩, cfr_nh (fun y h1 h2 => by rw [hup_ne (by omega)])⟩
  obtain ⟨wt, o2, o3⟩ := hS.2.1.2.1
  exact ⟨wt, o2, fun i hi => absurd hi (Nat.not_lt_zero i)⟩
theorem ck_weight (h : Hp) (X : Nat) (S : TS) (x : Int32) (hR : CRep h X S) (hI : SInv S) : CT mX7_weight 0 0 (cn X S) h [.ref X, .int x] (COK X h (opWeight S x)) := by
  obtain ⟨hc, N, rfl, hS⟩ := hR
  refine CT.intro [some (.ref X), some (.int x)] 0 rfl rfl (by decide) ?_
  intro Q hQ
  obtain ⟨wt, o2, o3⟩ := hS.2.1.2.1
  have hn8 := hI.1.1
  have hw1 : nh hc (LC X (sN S)) N (X + 1) = some (iar 8 wt) := by rw [nh_X (c := 1) N rfl (Or.inr rfl)]; exact o2
  refine aw_iload_n (i := 1) dX7_weight_0 rfl rfl ?_
  refine aw_iconst (v := 0) dX7_weight_1 (by decide +kernel) ?_
  refine aw_sipush (v := 1000) dX7_weight_2 (by decide +kernel) ?_
  refine aw_invokestatic kX7_88 dX7_weight_5 (ct_out _ (nh hc (LC X (sN S)) N) x 0 1000 toInt_lit0 toInt_1000) rfl rfl (Nat.le_of_ble_eq_true rfl) ⟨Nat.le_of_ble_eq_true rfl, Nat.le_of_ble_eq_true rfl⟩ ⟨Nat.le_of_ble_eq_true rfl, Nat.le_of_ble_eq_true rfl⟩ ?_
  rintro _ _ _ ⟨rfl, rfl, rfl⟩
  by_cases hr : rg x 0 1000 = true
  case neg =>
    refine aw_if_eq (tgt := 13) dX7_weight_8 (by decide) (fun c => absurd c (bn0 hr)) (fun _ => ?_)
    refine aw_iconst (v := (-1)) dX7_weight_11 (by decide +kernel) ?_
    refine aw_ireturn dX7_weight_12 rfl rfl (Nat.le_of_ble_eq_true rfl) (Nat.le_of_ble_eq_true rfl) ?_
    exact hQ _ _ _ (cbad hS _ (by unfold opWeight; rw [if_neg hr]))
  obtain ⟨ex, -, -, hx⟩ := rg_N hr (by decide)
  unfold opWeight at hQ
  rw [if_pos hr] at hQ
  refine aw_if_eq (tgt := 13) dX7_weight_8 (by decide) (fun _ => ?_) (fun c => (c (bn1 hr)).elim)
  refine aw_aload_n (i := 0) dX7_weight_13 rfl rfl ?_
  refine aw_getfield fX7_63 dX7_weight_14 (hS.X0 N) rfl ?_
  refine aw_if_lt (tgt := 32) dX7_weight_17 (by decide) (fun c => absurd c (nI_pos (by omega))) (fun _ => ?_)
  refine aw_aload_n (i := 0) dX7_weight_20 rfl rfl ?_
  refine aw_getfield fX7_63 dX7_weight_21 (hS.X0 N) rfl ?_
  refine aw_aload_n (i := 0) dX7_weight_24 rfl rfl ?_
  refine aw_getfield fX7_9 dX7_weight_25 (hS.X0 N) rfl ?_
  refine aw_arraylength dX7_weight_28 hw1 ?_
  dsimp only
  by_cases h8 : sNw S = 8
  · rw [if_pos h8] at hQ
    refine aw_icmp_lt (tgt := 35) dX7_weight_29 (by decide) (fun c => absurd c (by rw [h8]; decide)) (fun _ => ?_)
    refine aw_bipush (v := (-3)) dX7_weight_32 (by decide +kernel) ?_
    refine aw_ireturn dX7_weight_34 rfl rfl (Nat.le_of_ble_eq_true rfl) (Nat.le_of_ble_eq_true rfl) ?_
    exact hQ _ _ _ (cbad hS _ rfl)
  · rw [if_neg h8] at hQ
    refine aw_icmp_lt (tgt := 35) dX7_weight_29 (by decide) (fun _ => ?_) (fun c => (c (nI_lt (b := 8) (by omega) (by decide))).elim)
    refine aw_aload_n (i := 0) dX7_weight_35 rfl rfl ?_
    refine aw_getfield fX7_9 dX7_weight_36 (hS.X0 N) rfl ?_
    refine aw_aload_n (i := 0) dX7_weight_39 rfl rfl ?_
    refine aw_getfield fX7_63 dX7_weight_40 (hS.X0 N) rfl ?_
    refine aw_iload_n (i := 1) dX7_weight_43 rfl rfl ?_
    refine aw_iast dX7_weight_44 (sNw S) (tN x) ex hw1 (nI_toInt (by omega)) (by omega) ?_
    refine AW.hp (upn_X (c := 1) N rfl (Or.inr rfl) _) ?_
    refine aw_aload_n (i := 0) dX7_weight_45 rfl rfl ?_
    refine aw_dup dX7_weight_46 rfl ?_
    refine aw_getfield fX7_63 dX7_weight_47 (by rw [← Nat.add_zero X, nh_X (c := 0) N rfl (Or.inl rfl), Nat.add_zero, hup_ne (by omega)]; exact hS.2.1.1) rfl ?_
    refine aw_iconst (v := 1) dX7_weight_50 (by decide +kernel) ?_
    refine aw_iadd dX7_weight_51 ?_
    rw [nI_1]
    refine aw_putfield fX7_63 dX7_weight_52 (by rw [← Nat.add_zero X, nh_X (c := 0) N rfl (Or.inl rfl), Nat.add_zero, hup_ne (by omega)]; exact hS.2.1.1) rfl rfl (Nat.le_of_ble_eq_true rfl) ?_
    dsimp only [List.set]
    refine AW.hp (upo_X N (cob X ((sNw S + 1, va_up (sW S) (sNw S) (tN x)), S.2))) ?_
    refine aw_aload_n (i := 0) dX7_weight_55 rfl rfl ?_
    refine aw_getfield fX7_63 dX7_weight_56 (by rw [← Nat.add_zero X, nh_X (c := 0) N rfl (Or.inl rfl), Nat.add_zero]; exact hup_self _ _ _) rfl ?_
    refine aw_ireturn dX7_weight_59 rfl rfl (Nat.le_of_ble_eq_true rfl) (Nat.le_of_ble_eq_true rfl) ?_
    refine hQ _ _ _ ⟨rfl, rfl, ⟨_, N, rfl, hS.obj (S' := ((sNw S + 1, va_up (sW S) (sNw S) (tN x)), S.2)) rfl rfl ⟨va_up wt (sNw S) (tN x), hup_self _ _ _, fun i hi => ?_⟩ (fun y _ hy => hup_ne hy)⟩, cfr_nh (fun y h1 h2 => by rw [hup_ne (by omega), hup_ne (by omega)])⟩
    show va_up wt (sNw S) (tN x) i = va_up (sW S) (sNw S) (tN x) i
    by_cases hm : i = sNw S
    · rw [hm, va_up_at, va_up_at]
    · rw [va_up_off hm, va_up_off hm]; exact o3 i (by have : i < sNw S + 1 := hi; omega)
theorem ck_coin (h : Hp) (X : Nat) (S : TS) (a b : Int32) (hR : CRep h X S) : CT mX7_coin 0 0 (cn X S) h [.ref X, .int a, .int b] (COK X h (opCoin S a b)) := by
  obtain ⟨hc, N, rfl, hS⟩ := hR
  refine CT.intro [some (.ref X), some (.int a), some (.int b)] 0 rfl rfl (by decide) ?_
  intro Q hQ
  refine aw_iload_n (i := 1) dX7_coin_0 rfl rfl ?_
  refine aw_iload_n (i := 2) dX7_coin_1 rfl rfl ?_
  refine aw_invokestatic kX7_92 dX7_coin_2 (ct_X7_notOdds _ (nh hc (LC X (sN S)) N) a b) rfl rfl (Nat.le_of_ble_eq_true rfl) ⟨Nat.le_of_ble_eq_true rfl, Nat.le_of_ble_eq_true rfl⟩ ⟨Nat.le_of_ble_eq_true rfl, Nat.le_of_ble_eq_true rfl⟩ ?_
  rintro _ _ _ ⟨rfl, rfl, rfl⟩
  by_cases hr : (rg b 1 60 && rg a 0 b.toInt) = true
  case neg =>
    refine aw_if_eq (tgt := 10) dX7_coin_5 (by decide) (fun c => absurd c (bn0 hr)) (fun _ => ?_)
    refine aw_iconst (v := (-1)) dX7_coin_8 (by decide +kernel) ?_
    refine aw_ireturn dX7_coin_9 rfl rfl (Nat.le_of_ble_eq_true rfl) (Nat.le_of_ble_eq_true rfl) ?_
    exact hQ _ _ _ (cbad hS _ (by unfold opCoin; rw [if_neg hr]))
  unfold opCoin at hQ
  rw [if_pos hr] at hQ
  obtain ⟨h1, h2⟩ := Bool.and_eq_true_iff.mp hr
  obtain ⟨eb, -, -, -⟩ := rg_N h1 (by decide)
  obtain ⟨ea, -, -, -⟩ := rg_N h2 (by decide)
  generalize tN a = a' at *
  generalize tN b = b' at *
  subst ea eb
  refine aw_if_eq (tgt := 10) dX7_coin_5 (by decide) (fun _ => ?_) (fun c => (c (bn1 hr)).elim)
  refine aw_aload_n (i := 0) dX7_coin_10 rfl rfl ?_
  refine aw_iload_n (i := 1) dX7_coin_11 rfl rfl ?_
  refine aw_putfield fX7_73 dX7_coin_12 (hS.X0 N) rfl rfl (Nat.le_of_ble_eq_true rfl) ?_
  dsimp only [List.set]
  refine AW.hp (upo_X N (cob X (S.1, S.2.1, S.2.2.1, sB S, (a', sCB S), S.2.2.2.2.2))) ?_
  refine aw_aload_n (i := 0) dX7_coin_15 rfl rfl ?_
  refine aw_iload_n (i := 2) dX7_coin_16 rfl rfl ?_
  refine aw_putfield fX7_76 dX7_coin_17 (by rw [← Nat.add_zero X, nh_X (c := 0) N rfl (Or.inl rfl), Nat.add_zero]; exact hup_self _ _ _) rfl rfl (Nat.le_of_ble_eq_true rfl) ?_
  dsimp only [List.set]
  refine AW.hp (upo_X N (cob X (S.1, S.2.1, S.2.2.1, sB S, (a', b'), S.2.2.2.2.2))) ?_
  rw [hup_hup]
  refine aw_iconst (v := 1) dX7_coin_20 (by decide +kernel) ?_
  refine aw_ireturn dX7_coin_21 rfl rfl (Nat.le_of_ble_eq_true rfl) (Nat.le_of_ble_eq_true rfl) ?_
  exact hQ _ _ _ ⟨rfl, rfl, ⟨_, N, rfl, hS.obj (S' := (S.1, S.2.1, S.2.2.1, sB S, (a', b'), S.2.2.2.2.2)) rfl rfl hS.2.1.2.1 (fun _ _ _ => rfl)⟩, cfr_nh (fun y h1 h2 => by rw [hup_ne (by omega)])⟩
theorem ck_line (h : Hp) (X : Nat) (S : TS) (c d e : Int32) (hR : CRep h X S) : CT mX7_line 0 0 (cn X S) h [.ref X, .int c, .int d, .int e] (COK X h (opLine S c d e)) := by
  obtain ⟨hc, N, rfl, hS⟩ := hR
  refine CT.intro [some (.ref X), some (.int c), some (.int d), some (.int e)] 0 rfl rfl (by decide) ?_
  intro Q hQ
  have bad : (rg c 0 60 && (rg d 0 60 && rg e 1 60)) = false → AW mX7_line (gq 0 0 Q) 30 [some (.ref X), some (.int c), some (.int d), some (.int e)] [] 0 0 (cn X S) (nh hc (LC X (sN S)) N) := by
    intro hb
    refine aw_iconst (v := (-1)) dX7_line_30 (by decide +kernel) ?_
    refine aw_ireturn dX7_line_31 rfl rfl (Nat.le_of_ble_eq_true rfl) (Nat.le_of_ble_eq_true rfl) ?_
    exact hQ _ _ _ (cbad hS _ (by unfold opLine; rw [hb]; rfl))
  refine aw_iload_n (i := 1) dX7_line_0 rfl rfl ?_
  refine aw_iconst (v := 0) dX7_line_1 (by decide +kernel) ?_
  refine aw_bipush (v := 60) dX7_line_2 (by decide +kernel) ?_
  refine aw_invokestatic kX7_88 dX7_line_4 (ct_out _ (nh hc (LC X (sN S)) N) c 0 60 toInt_lit0 toInt_60) rfl rfl (Nat.le_of_ble_eq_true rfl) ⟨Nat.le_of_ble_eq_true rfl, Nat.le_of_ble_eq_true rfl⟩ ⟨Nat.le_of_ble_eq_true rfl, Nat.le_of_ble_eq_true rfl⟩ ?_
  rintro _ _ _ ⟨rfl, rfl, rfl⟩
  by_cases h1 : rg c 0 60 = true
  case neg =>
    refine aw_if_ne (tgt := 30) dX7_line_7 (by decide) (fun _ => ?_) (fun c => ((bn0 h1) c).elim)
    exact bad (by simp [h1])
  refine aw_if_ne (tgt := 30) dX7_line_7 (by decide) (fun c => absurd c (fun q => q (bn1 h1))) (fun _ => ?_)
  refine aw_iload_n (i := 2) dX7_line_10 rfl rfl ?_
  refine aw_iconst (v := 0) dX7_line_11 (by decide +kernel) ?_
  refine aw_bipush (v := 60) dX7_line_12 (by decide +kernel) ?_
  refine aw_invokestatic kX7_88 dX7_line_14 (ct_out _ (nh hc (LC X (sN S)) N) d 0 60 toInt_lit0 toInt_60) rfl rfl (Nat.le_of_ble_eq_true rfl) ⟨Nat.le_of_ble_eq_true rfl, Nat.le_of_ble_eq_true rfl⟩ ⟨Nat.le_of_ble_eq_true rfl, Nat.le_of_ble_eq_true rfl⟩ ?_
  rintro _ _ _ ⟨rfl, rfl, rfl⟩
  by_cases h2 : rg d 0 60 = true
  case neg =>
    refine aw_if_ne (tgt := 30) dX7_line_17 (by decide) (fun _ => ?_) (fun c => ((bn0 h2) c).elim)
    exact bad (by simp [h2])
  refine aw_if_ne (tgt := 30) dX7_line_17 (by decide) (fun c => absurd c (fun q => q (bn1 h2))) (fun _ => ?_)
  refine aw_iload_n (i := 3) dX7_line_20 rfl rfl ?_
  refine aw_iconst (v := 1) dX7_line_21 (by decide +kernel) ?_
  refine aw_bipush (v := 60) dX7_line_22 (by decide +kernel) ?_
  refine aw_invokestatic kX7_88 dX7_line_24 (ct_out _ (nh hc (LC X (sN S)) N) e 1 60 toInt_1 toInt_60) rfl rfl (Nat.le_of_ble_eq_true rfl) ⟨Nat.le_of_ble_eq_true rfl, Nat.le_of_ble_eq_true rfl⟩ ⟨Nat.le_of_ble_eq_true rfl, Nat.le_of_ble_eq_true rfl⟩ ?_
  rintro _ _ _ ⟨rfl, rfl, rfl⟩
  by_cases h3 : rg e 1 60 = true
  case neg =>
    refine aw_if_eq (tgt := 32) dX7_line_27 (by decide) (fun c => absurd c (bn0 h3)) (fun _ => ?_)
    exact bad (by simp [h3])
  obtain ⟨ec, -, -, -⟩ := rg_N h1 (by decide)
  obtain ⟨ed, -, -, -⟩ := rg_N h2 (by decide)
  obtain ⟨ee, -, -, -⟩ := rg_N h3 (by decide)
  have hop : opLine S c d e = (1, (S.1, S.2.1, S.2.2.1, sB S, S.2.2.2.2.1, (tN c, tN d, tN e))) := by unfold opLine; rw [h1, h2, h3]; rfl
  rw [hop] at hQ
  generalize tN c = c' at *
  generalize tN d = d' at *
  generalize tN e = e' at *
  subst ec ed ee
  refine aw_if_eq (tgt := 32) dX7_line_27 (by decide) (fun _ => ?_) (fun c => (c (bn1 h3)).elim)
  refine aw_aload_n (i := 0) dX7_line_32 rfl rfl ?_
  refine aw_iload_n (i := 1) dX7_line_33 rfl rfl ?_
  refine aw_putfield fX7_79 dX7_line_34 (hS.X0 N) rfl rfl (Nat.le_of_ble_eq_true rfl) ?_
  dsimp only [List.set]
  refine AW.hp (upo_X N (cob X (S.1, S.2.1, S.2.2.1, sB S, S.2.2.2.2.1, (c', sLD S, sLE S)))) ?_
  refine aw_aload_n (i := 0) dX7_line_37 rfl rfl ?_
  refine aw_iload_n (i := 2) dX7_line_38 rfl rfl ?_
  refine aw_putfield fX7_82 dX7_line_39 (by rw [← Nat.add_zero X, nh_X (c := 0) N rfl (Or.inl rfl), Nat.add_zero]; exact hup_self _ _ _) rfl rfl (Nat.le_of_ble_eq_true rfl) ?_
  dsimp only [List.set]
  refine AW.hp (upo_X N (cob X (S.1, S.2.1, S.2.2.1, sB S, S.2.2.2.2.1, (c', d', sLE S)))) ?_
  rw [hup_hup]
  refine aw_aload_n (i := 0) dX7_line_42 rfl rfl ?_
  refine aw_iload_n (i := 3) dX7_line_43 rfl rfl ?_
  refine aw_putfield fX7_85 dX7_line_44 (by rw [← Nat.add_zero X, nh_X (c := 0) N rfl (Or.inl rfl), Nat.add_zero]; exact hup_self _ _ _) rfl rfl (Nat.le_of_ble_eq_true rfl) ?_
  dsimp only [List.set]
  refine AW.hp (upo_X N (cob X (S.1, S.2.1, S.2.2.1, sB S, S.2.2.2.2.1, (c', d', e')))) ?_
  rw [hup_hup]
  refine aw_iconst (v := 1) dX7_line_47 (by decide +kernel) ?_
  refine aw_ireturn dX7_line_48 rfl rfl (Nat.le_of_ble_eq_true rfl) (Nat.le_of_ble_eq_true rfl) ?_
  exact hQ _ _ _ ⟨rfl, rfl, ⟨_, N, rfl, hS.obj (S' := (S.1, S.2.1, S.2.2.1, sB S, S.2.2.2.2.1, (c', d', e'))) rfl rfl hS.2.1.2.1 (fun _ _ _ => rfl)⟩, cfr_nh (fun y h1 h2 => by rw [hup_ne (by omega)])⟩
theorem nu01 (b : Bool) : (if b then (1 : Nat) else 0) = if b = true then 1 else 0 := rfl
theorem ct_X7_filledPlaces (n : Nat) (hc : Hp) (N : NC) (X : Nat) (S : TS) (h : CS hc N X S) : CT mX7_filledPlaces 0 0 n (nh hc (LC X (sN S)) N) [.ref X] (pint n (nh hc (LC X (sN S)) N) (nI (sg (fun p => if (sP S p).isSome then 1 else 0) 16))) := by
  refine CT.intro [some (.ref X), none, none, none] 3 rfl rfl (by decide) ?_
  intro Q hQ
  obtain ⟨fp, h3, hfp⟩ := h.2.1.2.2.2.1
  refine aw_iconst (v := 0) dX7_filledPlaces_0 (by decide +kernel) ?_
  refine aw_istore_1 dX7_filledPlaces_1 (by decide) rfl ?_
  refine aw_iconst (v := 0) dX7_filledPlaces_2 (by decide +kernel) ?_
  refine aw_istore_2 dX7_filledPlaces_3 (by decide) rfl ?_
  have loop : ∀ (j p : Nat) (y3 : Option Value), p + j = 16 → AW mX7_filledPlaces (gq 0 0 Q) 4 [some (.ref X), some (.int (nI (sg (fun p => if (sP S p).isSome then 1 else 0) p))), some (.int (nI p)), y3] [] 0 0 n (nh hc (LC X (sN S)) N) := by
    intro j
    induction j with
    | zero =>
      intro p y3 hp
      obtain rfl : p = 16 := by omega
      refine aw_iload_n (i := 2) dX7_filledPlaces_4 rfl rfl ?_
      refine aw_aload_n (i := 0) dX7_filledPlaces_5 rfl rfl ?_
      refine aw_getfield fX7_21 dX7_filledPlaces_6 (h.X0 N) rfl ?_
      refine aw_arraylength dX7_filledPlaces_9 (by rw [nh_X (c := 3) N rfl (Or.inr rfl)]; exact h3) ?_
      dsimp only
      refine aw_icmp_ge (tgt := 39) dX7_filledPlaces_10 (by decide) (fun _ => ?_) (fun c => (c (by decide)).elim)
      refine aw_iload_n (i := 1) dX7_filledPlaces_39 rfl rfl ?_
      refine aw_ireturn dX7_filledPlaces_40 rfl rfl (Nat.le_of_ble_eq_true rfl) (Nat.le_of_ble_eq_true rfl) ?_
      exact hQ _ _ _ ⟨rfl, rfl, rfl⟩
    | succ j ih =>
      intro p y3 hp
      have hP := h.pl (show p < 16 by omega)
      have hip : isP (nI p) = true := rg_iff.mpr ⟨by rw [nI_toInt (by omega)]; omega, by rw [nI_toInt (by omega)]; omega⟩
      have htn : tN (nI p) = p := by unfold tN; rw [nI_toInt (by omega)]; omega
      have cp := h.placeAt n N (nI p)
      rw [if_pos hip, htn] at cp
      have := fun y3 => ih (p + 1) y3 (by omega)
      rw [sg_s] at this
      refine aw_iload_n (i := 2) dX7_filledPlaces_4 rfl rfl ?_
      refine aw_aload_n (i := 0) dX7_filledPlaces_5 rfl rfl ?_
      refine aw_getfield fX7_21 dX7_filledPlaces_6 (h.X0 N) rfl ?_
      refine aw_arraylength dX7_filledPlaces_9 (by rw [nh_X (c := 3) N rfl (Or.inr rfl)]; exact h3) ?_
      dsimp only
      refine aw_icmp_ge (tgt := 39) dX7_filledPlaces_10 (by decide) (fun c => absurd c (nI_ge (b := 16) (by omega) (by decide))) (fun _ => ?_)
      refine aw_aload_n (i := 0) dX7_filledPlaces_13 rfl rfl ?_
      refine aw_iload_n (i := 2) dX7_filledPlaces_14 rfl rfl ?_
      refine aw_invokevirtual kX7_191 dX7_filledPlaces_15 (h.X0 N) cp rfl rfl (Nat.le_of_ble_eq_true rfl) ⟨Nat.le_of_ble_eq_true rfl, Nat.le_of_ble_eq_true rfl⟩ ⟨Nat.le_of_ble_eq_true rfl, Nat.le_of_ble_eq_true rfl⟩ ?_
      rintro _ _ _ ⟨rfl, rfl, rfl⟩
      refine aw_astore_3 dX7_filledPlaces_18 (by decide) rfl ?_
      refine aw_aload_n (i := 3) dX7_filledPlaces_19 rfl rfl ?_
      refine aw_ifnull dX7_filledPlaces_20 ?_
      refine aw_aload_n (i := 3) dX7_filledPlaces_23 rfl rfl ?_
      refine aw_getfield fX7_236 dX7_filledPlaces_24 (hP.at N) rfl ?_
      by_cases hs : (sP S p).isSome = true
      · rw [if_pos hs] at this ⊢
        refine aw_if_eq (tgt := 33) dX7_filledPlaces_27 (by decide) (fun c => absurd c (by decide)) (fun _ => ?_)
        refine aw_iinc_1 (c0 := 1) dX7_filledPlaces_30 (by decide) (by decide) rfl ?_
        refine aw_iinc_2 (c0 := 1) dX7_filledPlaces_33 (by decide) (by decide) rfl ?_
        refine aw_goto (tgt := 4) dX7_filledPlaces_36 (by decide) ?_
        rw [nI_1, nI_1]
        exact this _
      · rw [if_neg hs] at this ⊢
        refine aw_if_eq (tgt := 33) dX7_filledPlaces_27 (by decide) (fun _ => ?_) (fun c => (c rfl).elim)
        refine aw_iinc_2 (c0 := 1) dX7_filledPlaces_33 (by decide) (by decide) rfl ?_
        refine aw_goto (tgt := 4) dX7_filledPlaces_36 (by decide) ?_
        rw [nI_1]
        exact this _
  exact loop 16 0 none (by omega)
theorem ck_count (h : Hp) (X : Nat) (S : TS) (w : Int32) (hR : CRep h X S) : CT mX7_count 0 0 (cn X S) h [.ref X, .int w] (COK X h (opCount S w)) := by
  obtain ⟨hc, N, rfl, hS⟩ := hR
  refine CT.intro [some (.ref X), some (.int w)] 0 rfl rfl (by decide) ?_
  intro Q hQ
  refine aw_iload_n (i := 1) dX7_count_0 rfl rfl ?_
  by_cases h1 : rg w 0 2 = true
  case neg =>
    have hne : w.toInt < 0 ∨ 2 < w.toInt := by
      have : ¬ (0 ≤ w.toInt ∧ w.toInt ≤ 2) := fun q => h1 (rg_iff.mpr q)
      omega
    refine aw_tableOut (tgt := 43) dX7_count_1 hne (by decide) ?_
    refine aw_iconst (v := (-1)) dX7_count_43 (by decide +kernel) ?_
    refine aw_ireturn dX7_count_44 rfl rfl (Nat.le_of_ble_eq_true rfl) (Nat.le_of_ble_eq_true rfl) ?_
    exact hQ _ _ _ (cbad hS _ (by unfold opCount; rw [if_neg h1]))
  obtain ⟨ew, -, -, hw⟩ := rg_N h1 (by decide)
  unfold opCount at hQ
  rw [if_pos h1] at hQ
  generalize tN w = w' at *
  subst ew
  by_cases w0 : w' = 0
  · subst w0
    rw [if_pos rfl] at hQ
    refine aw_tableIn (off := 27) (tgt := 28) dX7_count_1 (by decide +kernel) (by decide +kernel) (by decide +kernel) (by decide) ?_
    refine aw_aload_n (i := 0) dX7_count_28 rfl rfl ?_
    refine aw_getfield fX7_67 dX7_count_29 (hS.X0 N) rfl ?_
    refine aw_ireturn dX7_count_32 rfl rfl (Nat.le_of_ble_eq_true rfl) (Nat.le_of_ble_eq_true rfl) ?_
    exact hQ _ _ _ (cbad hS _ rfl)
  · rw [if_neg w0] at hQ
    by_cases w1 : w' = 1
    · subst w1
      rw [if_pos rfl] at hQ
      refine aw_tableIn (off := 32) (tgt := 33) dX7_count_1 (by decide +kernel) (by decide +kernel) (by decide +kernel) (by decide) ?_
      refine aw_aload_n (i := 0) dX7_count_33 rfl rfl ?_
      refine aw_getfield fX7_63 dX7_count_34 (hS.X0 N) rfl ?_
      refine aw_ireturn dX7_count_37 rfl rfl (Nat.le_of_ble_eq_true rfl) (Nat.le_of_ble_eq_true rfl) ?_
      exact hQ _ _ _ (cbad hS _ rfl)
    · rw [if_neg w1] at hQ
      obtain rfl : w' = 2 := by omega
      refine aw_tableIn (off := 37) (tgt := 38) dX7_count_1 (by decide +kernel) (by decide +kernel) (by decide +kernel) (by decide) ?_
      refine aw_aload_n (i := 0) dX7_count_38 rfl rfl ?_
      refine aw_invokevirtual kX7_309 dX7_count_39 (hS.X0 N) (ct_X7_filledPlaces _ hc N X S hS) rfl rfl (Nat.le_of_ble_eq_true rfl) ⟨Nat.le_of_ble_eq_true rfl, Nat.le_of_ble_eq_true rfl⟩ ⟨Nat.le_of_ble_eq_true rfl, Nat.le_of_ble_eq_true rfl⟩ ?_
      rintro _ _ _ ⟨rfl, rfl, rfl⟩
      refine aw_ireturn dX7_count_42 rfl rfl (Nat.le_of_ble_eq_true rfl) (Nat.le_of_ble_eq_true rfl) ?_
      exact hQ _ _ _ (cbad hS _ rfl)
