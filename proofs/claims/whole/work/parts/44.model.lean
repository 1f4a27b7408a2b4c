theorem mt_free (n : Nat) (h : Hp) (m : Nat) (S : TS) (p : Int32) (hR : MRep h m S) : CT mX8_free 0 0 n h [.ref m, .int p] (MOK n m h (opFree S p)) := by
  obtain ⟨h0, A, bo, ki, mo, wt, rfl, B, hA⟩ := id hR
  refine CT.intro [some (.ref m), some (.int p), none] 1 rfl rfl (by decide) ?_
  intro Q hQ
  refine aw_iload_n (i := 1) dX8_free_0 rfl rfl ?_
  refine aw_invokestatic kX8_211 dX8_free_1 (ct_isP n (mh h0 m A) p) rfl rfl (Nat.le_of_ble_eq_true rfl) ⟨Nat.le_of_ble_eq_true rfl, Nat.le_of_ble_eq_true rfl⟩ ⟨Nat.le_of_ble_eq_true rfl, Nat.le_of_ble_eq_true rfl⟩ ?_
  rintro _ _ _ ⟨rfl, rfl, rfl⟩
  by_cases h1 : isP p = true
  case neg =>
    refine aw_if_ne (tgt := 9) dX8_free_4 (by decide) (fun c => absurd c (fun c => c (bI_eq0.mpr (by simpa using h1)))) (fun _ => ?_)
    refine aw_iconst (v := (-1)) dX8_free_7 (by decide +kernel) ?_
    refine aw_ireturn dX8_free_8 rfl rfl (Nat.le_of_ble_eq_true rfl) (Nat.le_of_ble_eq_true rfl) ?_
    exact hQ _ _ _ (bad_ret hR (by unfold opFree; rw [if_neg h1]))
  obtain ⟨ep, hp⟩ := isP_N h1
  unfold opFree at hQ
  rw [if_pos h1] at hQ
  generalize tN p = p' at *
  subst ep
  have l1 := hA.2 p' hp
  have hbC : mh h0 m A (m + 8) = some (bar 16 bo) := by rw [mh_no h0 m A rfl]; exact B.2.1
  have fin : AW mX8_free (gq 0 0 Q) 23 [some (.ref m), some (.int (nI p')), none] [.int (bI (sP S p').isSome)] 0 0 n (mh h0 m A) := by
    refine aw_istore_2 dX8_free_23 (by decide) rfl ?_
    refine aw_aload_n (i := 0) dX8_free_24 rfl rfl ?_
    refine aw_getfield fX8_31 dX8_free_25 (by rw [mh_0]; exact B.1) rfl ?_
    refine aw_iload_n (i := 1) dX8_free_28 rfl rfl ?_
    refine aw_iconst (v := 0) dX8_free_29 (by decide +kernel) ?_
    refine aw_bast dX8_free_30 p' 0 rfl (by decide) hbC (nI_toInt (by omega)) hp ?_
    refine AW.hp (mh_upn h0 m A (k := 8) rfl _) ?_
    refine aw_iload_n (i := 2) dX8_free_31 rfl rfl ?_
    refine aw_ireturn dX8_free_32 rfl rfl (Nat.le_of_ble_eq_true rfl) (Nat.le_of_ble_eq_true rfl) ?_
    refine hQ _ _ _ ⟨rfl, rfl, ⟨_, A, va_up bo p' 0, ki, mo, wt, rfl, ⟨?_, hup_self _ _ _, ?_, ?_, ?_, B.2.2.2.2.2.1, B.2.2.2.2.2.2⟩, hA.1, fun q hq => ?_⟩, mfr_mh (fun y hy => by rw [hup_ne (by omega)])⟩
    · rw [hup_ne (by omega)]; exact B.1
    · rw [hup_ne (by omega)]; exact B.2.2.1
    · rw [hup_ne (by omega)]; exact B.2.2.2.1
    · rw [hup_ne (by omega)]; exact B.2.2.2.2.1
    · show plc A (va_up bo p' 0) q (va_up (sP S) p' none q)
      unfold plc
      by_cases hqp : q = p'
      · rw [hqp, va_up_at, va_up_at]; exact ⟨rfl, fun u d e => by cases e⟩
      · rw [va_up_off hqp, va_up_off hqp]; exact hA.2 q hq
  refine aw_if_ne (tgt := 9) dX8_free_4 (by decide) (fun _ => ?_) (fun c => ((bI_ne0.mpr h1) c).elim)
  refine aw_aload_n (i := 0) dX8_free_9 rfl rfl ?_
  refine aw_getfield fX8_31 dX8_free_10 (by rw [mh_0]; exact B.1) rfl ?_
  refine aw_iload_n (i := 1) dX8_free_13 rfl rfl ?_
  refine aw_bald dX8_free_14 p' hbC (nI_toInt (by omega)) hp ?_
  rcases sP_cases (sP S p') with o1 | ⟨u, d, o1⟩
  · rw [o1] at fin
    refine aw_if_eq (tgt := 22) dX8_free_15 (by decide) (fun _ => ?_) (fun c => (c (by rw [plc_none l1 o1]; rfl)).elim)
    refine aw_iconst (v := 0) dX8_free_22 (by decide +kernel) ?_
    exact fin
  · rw [o1] at fin
    refine aw_if_eq (tgt := 22) dX8_free_15 (by decide) (fun c => absurd c (by rw [(plc_some l1 o1).1]; decide)) (fun _ => ?_)
    refine aw_iconst (v := 1) dX8_free_18 (by decide +kernel) ?_
    refine aw_goto (tgt := 23) dX8_free_19 (by decide) ?_
    exact fin
theorem MB.obj {h0 : Hp} {m : Nat} {S S' : TS} {bo ki mo wt : Nat → Nat} (B : MB h0 m S bo ki mo wt) (e1 : S'.1 = S.1) (e2 : S'.2.1 = S.2.1) : MB (hup h0 m (mobS m S')) m S' bo ki mo wt := by
  refine ⟨hup_self _ _ _, ?_, ?_, ?_, ?_, ?_, ?_⟩
  · rw [hup_ne (by omega)]; exact B.2.1
  · rw [hup_ne (by omega)]; exact B.2.2.1
  · rw [hup_ne (by omega)]; exact B.2.2.2.1
  · rw [hup_ne (by omega)]; exact B.2.2.2.2.1
  · unfold sNw sW; rw [e1]; exact B.2.2.2.2.2.1
  · unfold sN sK sT; rw [e2]; exact B.2.2.2.2.2.2
theorem mt_coin (n : Nat) (h : Hp) (m : Nat) (S : TS) (a b : Int32) (hR : MRep h m S) : CT mX8_coin 0 0 n h [.ref m, .int a, .int b] (MOK n m h (opCoin S a b)) := by
  obtain ⟨h0, A, bo, ki, mo, wt, rfl, B, hA⟩ := id hR
  refine CT.intro [some (.ref m), some (.int a), some (.int b)] 0 rfl rfl (by decide) ?_
  intro Q hQ
  have bad : (rg b 1 60 && rg a 0 b.toInt) = false → AW mX8_coin (gq 0 0 Q) 19 [some (.ref m), some (.int a), some (.int b)] [] 0 0 n (mh h0 m A) := by
    intro hb
    refine aw_iconst (v := (-1)) dX8_coin_19 (by decide +kernel) ?_
    refine aw_ireturn dX8_coin_20 rfl rfl (Nat.le_of_ble_eq_true rfl) (Nat.le_of_ble_eq_true rfl) ?_
    exact hQ _ _ _ (bad_ret hR (by unfold opCoin; rw [hb]; rfl))
  refine aw_iload_n (i := 2) dX8_coin_0 rfl rfl ?_
  refine aw_iconst (v := 1) dX8_coin_1 (by decide +kernel) ?_
  refine aw_bipush (v := 60) dX8_coin_2 (by decide +kernel) ?_
  refine aw_invokestatic kX8_153 dX8_coin_4 (ct_in n (mh h0 m A) b 1 60 toInt_1 toInt_60) rfl rfl (Nat.le_of_ble_eq_true rfl) ⟨Nat.le_of_ble_eq_true rfl, Nat.le_of_ble_eq_true rfl⟩ ⟨Nat.le_of_ble_eq_true rfl, Nat.le_of_ble_eq_true rfl⟩ ?_
  rintro _ _ _ ⟨rfl, rfl, rfl⟩
  by_cases h1 : rg b 1 60 = true
  case neg =>
    refine aw_if_eq (tgt := 19) dX8_coin_7 (by decide) (fun _ => ?_) (fun c => (c (bI_eq0.mpr (by simpa using h1))).elim)
    exact bad (by simp [h1])
  refine aw_if_eq (tgt := 19) dX8_coin_7 (by decide) (fun c => absurd c (bI_ne0.mpr h1)) (fun _ => ?_)
  refine aw_iload_n (i := 1) dX8_coin_10 rfl rfl ?_
  refine aw_iconst (v := 0) dX8_coin_11 (by decide +kernel) ?_
  refine aw_iload_n (i := 2) dX8_coin_12 rfl rfl ?_
  refine aw_invokestatic kX8_153 dX8_coin_13 (ct_in n (mh h0 m A) a 0 b toInt_lit0 rfl) rfl rfl (Nat.le_of_ble_eq_true rfl) ⟨Nat.le_of_ble_eq_true rfl, Nat.le_of_ble_eq_true rfl⟩ ⟨Nat.le_of_ble_eq_true rfl, Nat.le_of_ble_eq_true rfl⟩ ?_
  rintro _ _ _ ⟨rfl, rfl, rfl⟩
  by_cases h2 : rg a 0 b.toInt = true
  case neg =>
    refine aw_if_ne (tgt := 21) dX8_coin_16 (by decide) (fun c => absurd c (fun c => c (bI_eq0.mpr (by simpa using h2)))) (fun _ => ?_)
    exact bad (by simp [h2])
  obtain ⟨eb, -, -, -⟩ := rg_N h1 (by decide)
  obtain ⟨ea, -, -, -⟩ := rg_N h2 (by decide)
  have hop : opCoin S a b = (1, (S.1, S.2.1, S.2.2.1, sB S, (tN a, tN b), S.2.2.2.2.2)) := by unfold opCoin; rw [h1, h2]; rfl
  rw [hop] at hQ
  generalize tN a = a' at *
  generalize tN b = b' at *
  subst ea eb
  refine aw_if_ne (tgt := 21) dX8_coin_16 (by decide) (fun _ => ?_) (fun c => ((bI_ne0.mpr h2) c).elim)
  refine aw_aload_n (i := 0) dX8_coin_21 rfl rfl ?_
  refine aw_iload_n (i := 1) dX8_coin_22 rfl rfl ?_
  refine aw_putfield fX8_105 dX8_coin_23 (by rw [mh_0]; exact B.1) rfl rfl (Nat.le_of_ble_eq_true rfl) ?_
  dsimp only [List.set]
  refine AW.hp (mh_upo _ m A (mobS m (S.1, S.2.1, S.2.2.1, sB S, (a', sCB S), S.2.2.2.2.2))) ?_
  refine aw_aload_n (i := 0) dX8_coin_26 rfl rfl ?_
  refine aw_iload_n (i := 2) dX8_coin_27 rfl rfl ?_
  refine aw_putfield fX8_109 dX8_coin_28 (by rw [mh_0]; exact hup_self _ _ _) rfl rfl (Nat.le_of_ble_eq_true rfl) ?_
  dsimp only [List.set]
  refine AW.hp (mh_upo _ m A (mobS m (S.1, S.2.1, S.2.2.1, sB S, (a', b'), S.2.2.2.2.2))) ?_
  refine aw_iconst (v := 1) dX8_coin_31 (by decide +kernel) ?_
  refine aw_ireturn dX8_coin_32 rfl rfl (Nat.le_of_ble_eq_true rfl) (Nat.le_of_ble_eq_true rfl) ?_
  refine hQ _ _ _ ⟨rfl, rfl, ⟨_, A, bo, ki, mo, wt, rfl, MB.obj (B.obj rfl rfl) rfl rfl, hA⟩, mfr_mh (fun y hy => by rw [hup_ne (by omega), hup_ne (by omega)])⟩
theorem mt_line (n : Nat) (h : Hp) (m : Nat) (S : TS) (c d e : Int32) (hR : MRep h m S) : CT mX8_line 0 0 n h [.ref m, .int c, .int d, .int e] (MOK n m h (opLine S c d e)) := by
  obtain ⟨h0, A, bo, ki, mo, wt, rfl, B, hA⟩ := id hR
  refine CT.intro [some (.ref m), some (.int c), some (.int d), some (.int e)] 0 rfl rfl (by decide) ?_
  intro Q hQ
  have bad : (rg c 0 60 && (rg d 0 60 && rg e 1 60)) = false → AW mX8_line (gq 0 0 Q) 30 [some (.ref m), some (.int c), some (.int d), some (.int e)] [] 0 0 n (mh h0 m A) := by
    intro hb
    refine aw_iconst (v := (-1)) dX8_line_30 (by decide +kernel) ?_
    refine aw_ireturn dX8_line_31 rfl rfl (Nat.le_of_ble_eq_true rfl) (Nat.le_of_ble_eq_true rfl) ?_
    exact hQ _ _ _ (bad_ret hR (by unfold opLine; rw [hb]; rfl))
  refine aw_iload_n (i := 1) dX8_line_0 rfl rfl ?_
  refine aw_iconst (v := 0) dX8_line_1 (by decide +kernel) ?_
  refine aw_bipush (v := 60) dX8_line_2 (by decide +kernel) ?_
  refine aw_invokestatic kX8_153 dX8_line_4 (ct_in n (mh h0 m A) c 0 60 toInt_lit0 toInt_60) rfl rfl (Nat.le_of_ble_eq_true rfl) ⟨Nat.le_of_ble_eq_true rfl, Nat.le_of_ble_eq_true rfl⟩ ⟨Nat.le_of_ble_eq_true rfl, Nat.le_of_ble_eq_true rfl⟩ ?_
  rintro _ _ _ ⟨rfl, rfl, rfl⟩
  by_cases h1 : rg c 0 60 = true
  case neg =>
    refine aw_if_eq (tgt := 30) dX8_line_7 (by decide) (fun _ => ?_) (fun c => (c (bI_eq0.mpr (by simpa using h1))).elim)
    exact bad (by simp [h1])
  refine aw_if_eq (tgt := 30) dX8_line_7 (by decide) (fun c => absurd c (bI_ne0.mpr h1)) (fun _ => ?_)
  refine aw_iload_n (i := 2) dX8_line_10 rfl rfl ?_
  refine aw_iconst (v := 0) dX8_line_11 (by decide +kernel) ?_
  refine aw_bipush (v := 60) dX8_line_12 (by decide +kernel) ?_
  refine aw_invokestatic kX8_153 dX8_line_14 (ct_in n (mh h0 m A) d 0 60 toInt_lit0 toInt_60) rfl rfl (Nat.le_of_ble_eq_true rfl) ⟨Nat.le_of_ble_eq_true rfl, Nat.le_of_ble_eq_true rfl⟩ ⟨Nat.le_of_ble_eq_true rfl, Nat.le_of_ble_eq_true rfl⟩ ?_
  rintro _ _ _ ⟨rfl, rfl, rfl⟩
  by_cases h2 : rg d 0 60 = true
  case neg =>
    refine aw_if_eq (tgt := 30) dX8_line_17 (by decide) (fun _ => ?_) (fun c => (c (bI_eq0.mpr (by simpa using h2))).elim)
    exact bad (by simp [h2])
  refine aw_if_eq (tgt := 30) dX8_line_17 (by decide) (fun c => absurd c (bI_ne0.mpr h2)) (fun _ => ?_)
  refine aw_iload_n (i := 3) dX8_line_20 rfl rfl ?_
  refine aw_iconst (v := 1) dX8_line_21 (by decide +kernel) ?_
  refine aw_bipush (v := 60) dX8_line_22 (by decide +kernel) ?_
  refine aw_invokestatic kX8_153 dX8_line_24 (ct_in n (mh h0 m A) e 1 60 toInt_1 toInt_60) rfl rfl (Nat.le_of_ble_eq_true rfl) ⟨Nat.le_of_ble_eq_true rfl, Nat.le_of_ble_eq_true rfl⟩ ⟨Nat.le_of_ble_eq_true rfl, Nat.le_of_ble_eq_true rfl⟩ ?_
  rintro _ _ _ ⟨rfl, rfl, rfl⟩
  by_cases h3 : rg e 1 60 = true
  case neg =>
    refine aw_if_ne (tgt := 32) dX8_line_27 (by decide) (fun c => absurd c (fun c => c (bI_eq0.mpr (by simpa using h3)))) (fun _ => ?_)
    exact bad (by simp [h3])
  obtain ⟨ec, -, -, -⟩ := rg_N h1 (by decide)
  obtain ⟨ed, -, -, -⟩ := rg_N h2 (by decide)
  obtain ⟨ee, -, -, -⟩ := rg_N h3 (by decide)
  have hop : opLine S c d e = (1, (S.1, S.2.1, S.2.2.1, sB S, S.2.2.2.2.1, (tN c, tN d, tN e))) := by unfold opLine; rw [h1, h2, h3]; rfl
  rw [hop] at hQ
  generalize tN c = c' at *
  generalize tN d = d' at *
  generalize tN e = e' at *
  subst ec ed ee
  refine aw_if_ne (tgt := 32) dX8_line_27 (by decide) (fun _ => ?_) (fun c => ((bI_ne0.mpr h3) c).elim)
  refine aw_aload_n (i := 0) dX8_line_32 rfl rfl ?_
  refine aw_iload_n (i := 1) dX8_line_33 rfl rfl ?_
  refine aw_putfield fX8_276 dX8_line_34 (by rw [mh_0]; exact B.1) rfl rfl (Nat.le_of_ble_eq_true rfl) ?_
  dsimp only [List.set]
  refine AW.hp (mh_upo _ m A (mobS m (S.1, S.2.1, S.2.2.1, sB S, S.2.2.2.2.1, (c', sLD S, sLE S)))) ?_
  refine aw_aload_n (i := 0) dX8_line_37 rfl rfl ?_
  refine aw_iload_n (i := 2) dX8_line_38 rfl rfl ?_
  refine aw_putfield fX8_112 dX8_line_39 (by rw [mh_0]; exact hup_self _ _ _) rfl rfl (Nat.le_of_ble_eq_true rfl) ?_
  dsimp only [List.set]
  refine AW.hp (mh_upo _ m A (mobS m (S.1, S.2.1, S.2.2.1, sB S, S.2.2.2.2.1, (c', d', sLE S)))) ?_
  refine aw_aload_n (i := 0) dX8_line_42 rfl rfl ?_
  refine aw_iload_n (i := 3) dX8_line_43 rfl rfl ?_
  refine aw_putfield fX8_115 dX8_line_44 (by rw [mh_0]; exact hup_self _ _ _) rfl rfl (Nat.le_of_ble_eq_true rfl) ?_
  dsimp only [List.set]
  refine AW.hp (mh_upo _ m A (mobS m (S.1, S.2.1, S.2.2.1, sB S, S.2.2.2.2.1, (c', d', e')))) ?_
  refine aw_iconst (v := 1) dX8_line_47 (by decide +kernel) ?_
  refine aw_ireturn dX8_line_48 rfl rfl (Nat.le_of_ble_eq_true rfl) (Nat.le_of_ble_eq_true rfl) ?_
  refine hQ _ _ _ ⟨rfl, rfl, ⟨_, A, bo, ki, mo, wt, rfl, MB.obj (MB.obj (B.obj rfl rfl) rfl rfl) rfl rfl, hA⟩, mfr_mh (fun y hy => by rw [hup_ne (by omega), hup_ne (by omega), hup_ne (by omega)])⟩
theorem mt_count (n : Nat) (h : Hp) (m : Nat) (S : TS) (w : Int32) (hR : MRep h m S) (hI : SInv S) : CT mX8_count 0 0 n h [.ref m, .int w] (MOK n m h (opCount S w)) := by
  obtain ⟨h0, A, bo, ki, mo, wt, rfl, B, hA⟩ := id hR
  refine CT.intro [some (.ref m), some (.int w), none, none] 2 rfl rfl (by decide) ?_
  intro Q hQ
  refine aw_iload_n (i := 1) dX8_count_0 rfl rfl ?_
  refine aw_iconst (v := 0) dX8_count_1 (by decide +kernel) ?_
  refine aw_iconst (v := 2) dX8_count_2 (by decide +kernel) ?_
  refine aw_invokestatic kX8_153 dX8_count_3 (ct_in n (mh h0 m A) w 0 2 toInt_lit0 toInt_2) rfl rfl (Nat.le_of_ble_eq_true rfl) ⟨Nat.le_of_ble_eq_true rfl, Nat.le_of_ble_eq_true rfl⟩ ⟨Nat.le_of_ble_eq_true rfl, Nat.le_of_ble_eq_true rfl⟩ ?_
  rintro _ _ _ ⟨rfl, rfl, rfl⟩
  by_cases h1 : rg w 0 2 = true
  case neg =>
    refine aw_if_ne (tgt := 11) dX8_count_6 (by decide) (fun c => absurd c (fun c => c (bI_eq0.mpr (by simpa using h1)))) (fun _ => ?_)
    refine aw_iconst (v := (-1)) dX8_count_9 (by decide +kernel) ?_
    refine aw_ireturn dX8_count_10 rfl rfl (Nat.le_of_ble_eq_true rfl) (Nat.le_of_ble_eq_true rfl) ?_
    exact hQ _ _ _ (bad_ret hR (by unfold opCount; rw [if_neg h1]))
  obtain ⟨ew, -, -, hw⟩ := rg_N h1 (by decide)
  unfold opCount at hQ
  rw [if_pos h1] at hQ
  generalize tN w = w' at *
  subst ew
  have hbC : mh h0 m A (m + 8) = some (bar 16 bo) := by rw [mh_no h0 m A rfl]; exact B.2.1
  refine aw_if_ne (tgt := 11) dX8_count_6 (by decide) (fun _ => ?_) (fun c => ((bI_ne0.mpr h1) c).elim)
  refine aw_iconst (v := 0) dX8_count_11 (by decide +kernel) ?_
  refine aw_istore_2 dX8_count_12 (by decide) rfl ?_
  refine aw_iconst (v := 0) dX8_count_13 (by decide +kernel) ?_
  refine aw_istore_3 dX8_count_14 (by decide) rfl ?_
  have loop : ∀ (j p : Nat), p + j = 16 → AW mX8_count (gq 0 0 Q) 15 [some (.ref m), some (.int (nI w')), some (.int (nI (sg (fun p => if (sP S p).isSome then 1 else 0) p))), some (.int (nI p))] [] 0 0 n (mh h0 m A) := by
    intro j
    induction j with
    | zero =>
      intro p hp
      obtain rfl : p = 16 := by omega
      refine aw_iload_n (i := 3) dX8_count_15 rfl rfl ?_
      refine aw_bipush (v := 16) dX8_count_16 (by decide +kernel) ?_
      refine aw_icmp_ge (tgt := 44) dX8_count_18 (by decide) (fun _ => ?_) (fun c => (c (by decide)).elim)
      refine aw_iload_n (i := 1) dX8_count_44 rfl rfl ?_
      by_cases w0 : w' = 0
      · refine aw_if_ne (tgt := 55) dX8_count_45 (by decide) (fun c => absurd c (fun c => c (by rw [w0]; rfl))) (fun _ => ?_)
        refine aw_aload_n (i := 0) dX8_count_48 rfl rfl ?_
        refine aw_getfield fX8_178 dX8_count_49 (by rw [mh_0]; exact B.1) rfl ?_
        refine aw_goto (tgt := 68) dX8_count_52 (by decide) ?_
        refine aw_ireturn dX8_count_68 rfl rfl (Nat.le_of_ble_eq_true rfl) (Nat.le_of_ble_eq_true rfl) ?_
        exact hQ _ _ _ (by rw [if_pos w0]; exact ⟨rfl, rfl, hR, mfr_rf⟩)
      · refine aw_if_ne (tgt := 55) dX8_count_45 (by decide) (fun _ => ?_) (fun c => ((nI_ne0 (by omega) (by omega)) c).elim)
        refine aw_iload_n (i := 1) dX8_count_55 rfl rfl ?_
        refine aw_iconst (v := 1) dX8_count_56 (by decide +kernel) ?_
        by_cases w1 : w' = 1
        · refine aw_icmp_ne (tgt := 67) dX8_count_57 (by decide) (fun c => absurd c (fun c => c (by rw [w1]; rfl))) (fun _ => ?_)
          refine aw_aload_n (i := 0) dX8_count_60 rfl rfl ?_
          refine aw_getfield fX8_181 dX8_count_61 (by rw [mh_0]; exact B.1) rfl ?_
          refine aw_goto (tgt := 68) dX8_count_64 (by decide) ?_
          refine aw_ireturn dX8_count_68 rfl rfl (Nat.le_of_ble_eq_true rfl) (Nat.le_of_ble_eq_true rfl) ?_
          exact hQ _ _ _ (by rw [if_neg w0, if_pos w1]; exact ⟨rfl, rfl, hR, mfr_rf⟩)
        · refine aw_icmp_ne (tgt := 67) dX8_count_57 (by decide) (fun _ => ?_) (fun c => ((fun c => w1 ((nI_eq (b := 1) (by omega) (by decide)).mp c)) c).elim)
          refine aw_iload_n (i := 2) dX8_count_67 rfl rfl ?_
          refine aw_ireturn dX8_count_68 rfl rfl (Nat.le_of_ble_eq_true rfl) (Nat.le_of_ble_eq_true rfl) ?_
          exact hQ _ _ _ (by rw [if_neg w0, if_neg w1]; exact ⟨rfl, rfl, hR, mfr_rf⟩)
    | succ j ih =>
      intro p hp
      have l1 := hA.2 p (by omega)
      have := ih (p + 1) (by omega)
      rw [sg_s] at this
      refine aw_iload_n (i := 3) dX8_count_15 rfl rfl ?_
      refine aw_bipush (v := 16) dX8_count_16 (by decide +kernel) ?_
      refine aw_icmp_ge (tgt := 44) dX8_count_18 (by decide) (fun c => absurd c (nI_ge (b := 16) (by omega) (by decide))) (fun _ => ?_)
      refine aw_iload_n (i := 2) dX8_count_21 rfl rfl ?_
      refine aw_aload_n (i := 0) dX8_count_22 rfl rfl ?_
      refine aw_getfield fX8_31 dX8_count_23 (by rw [mh_0]; exact B.1) rfl ?_
      refine aw_iload_n (i := 3) dX8_count_26 rfl rfl ?_
      refine aw_bald dX8_count_27 p hbC (nI_toInt (by omega)) (by omega) ?_
      rcases sP_cases (sP S p) with o1 | ⟨u, d, o1⟩
      · rw [o1] at this
        refine aw_if_eq (tgt := 35) dX8_count_28 (by decide) (fun _ => ?_) (fun c => (c (by rw [plc_none l1 o1]; rfl)).elim)
        refine aw_iconst (v := 0) dX8_count_35 (by decide +kernel) ?_
        refine aw_iadd dX8_count_36 ?_
        rw [show (0 : Int32) = nI 0 from rfl, nI_add]
        refine aw_istore_2 dX8_count_37 (by decide) rfl ?_
        refine aw_iinc_3 (c0 := 1) dX8_count_38 (by decide) (by decide) rfl ?_
        refine aw_goto (tgt := 15) dX8_count_41 (by decide) ?_
        rw [nI_1]
        exact this
      · rw [o1] at this
        refine aw_if_eq (tgt := 35) dX8_count_28 (by decide) (fun c => absurd c (by rw [(plc_some l1 o1).1]; decide)) (fun _ => ?_)
        refine aw_iconst (v := 1) dX8_count_31 (by decide +kernel) ?_
        refine aw_goto (tgt := 36) dX8_count_32 (by decide) ?_
        refine aw_iadd dX8_count_36 ?_
        rw [show (1 : Int32) = nI 1 from rfl, nI_add]
        refine aw_istore_2 dX8_count_37 (by decide) rfl ?_
        refine aw_iinc_3 (c0 := 1) dX8_count_38 (by decide) (by decide) rfl ?_
        refine aw_goto (tgt := 15) dX8_count_41 (by decide) ?_
        rw [nI_1]
        exact this
  exact loop 16 0 (by omega)
theorem ct_X8_isCrossed (n : Nat) (h0 : Hp) (m : Nat) (A : Nat → Nat → Nat) (S : TS) (bo ki mo wt : Nat → Nat) (i x : Nat) (B : MB h0 m S bo ki mo wt) (hI : SInv S) (hi : i ≤ 40) (hx : x ≤ 40) : CT mX8_isCrossed 0 0 n (mh h0 m A) [.ref m, .int (nI i), .int (nI x)] (pint n (mh h0 m A) (bI (crs (sLC S) (sLD S) (sLE S) i x))) := by
  refine CT.intro [some (.ref m), some (.int (nI i)), some (.int (nI x))] 0 rfl rfl (by decide) ?_
  intro Q hQ
  obtain ⟨l1, l2, l3, l4⟩ := hI.2.2.2.2.2
  have q1 : sLE S * x ≤ 60 * 40 := Nat.mul_le_mul l4 hx
  have q2 : sLE S * sLC S ≤ 60 * 60 := Nat.mul_le_mul l4 l1
  have q3 : sLD S * i ≤ 60 * 40 := Nat.mul_le_mul l2 hi
  refine aw_aload_n (i := 0) dX8_isCrossed_0 rfl rfl ?_
  refine aw_getfield fX8_115 dX8_isCrossed_1 (by rw [mh_0]; exact B.1) rfl ?_
  refine aw_iload_n (i := 2) dX8_isCrossed_4 rfl rfl ?_
  refine aw_imul dX8_isCrossed_5 ?_
  refine aw_aload_n (i := 0) dX8_isCrossed_6 rfl rfl ?_
  refine aw_getfield fX8_115 dX8_isCrossed_7 (by rw [mh_0]; exact B.1) rfl ?_
  refine aw_aload_n (i := 0) dX8_isCrossed_10 rfl rfl ?_
  refine aw_getfield fX8_276 dX8_isCrossed_11 (by rw [mh_0]; exact B.1) rfl ?_
  refine aw_imul dX8_isCrossed_14 ?_
  refine aw_aload_n (i := 0) dX8_isCrossed_15 rfl rfl ?_
  refine aw_getfield fX8_112 dX8_isCrossed_16 (by rw [mh_0]; exact B.1) rfl ?_
  refine aw_iload_n (i := 1) dX8_isCrossed_19 rfl rfl ?_
  refine aw_imul dX8_isCrossed_20 ?_
  refine aw_iadd dX8_isCrossed_21 ?_
  rw [pk_mul, pk_mul, pk_mul, nI_add]
  by_cases hc : sLE S * sLC S + sLD S * i ≤ sLE S * x
  · refine aw_icmp_lt (tgt := 29) dX8_isCrossed_22 (by decide) (fun c => absurd c (nI_nlt hc (by omega))) (fun _ => ?_)
    refine aw_iconst (v := 1) dX8_isCrossed_25 (by decide +kernel) ?_
    refine aw_goto (tgt := 30) dX8_isCrossed_26 (by decide) ?_
    refine aw_ireturn dX8_isCrossed_30 rfl rfl (Nat.le_of_ble_eq_true rfl) (Nat.le_of_ble_eq_true rfl) ?_
    exact hQ _ _ _ ⟨by unfold crs; rw [decide_eq_true hc]; rfl, rfl, rfl⟩
  · refine aw_icmp_lt (tgt := 29) dX8_isCrossed_22 (by decide) (fun _ => ?_) (fun c => (c (nI_lt (by omega) (by omega))).elim)
    refine aw_iconst (v := 0) dX8_isCrossed_29 (by decide +kernel) ?_
    refine aw_ireturn dX8_isCrossed_30 rfl rfl (Nat.le_of_ble_eq_true rfl) (Nat.le_of_ble_eq_true rfl) ?_
    exact hQ _ _ _ ⟨by unfold crs; rw [decide_eq_false hc]; rfl, rfl, rfl⟩
