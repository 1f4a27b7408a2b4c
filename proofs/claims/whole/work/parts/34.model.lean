theorem cDrawn_tot {all good x : Nat} (h : good ≤ all) : sg (cDrawn all good x) (x + 1) = cho all x := by
  have := cho_vand good (all - good) x
  rw [show good + (all - good) = all by omega] at this
  exact this
theorem mt_drawn (n : Nat) (h : Hp) (m : Nat) (S : TS) (al go x : Int32) (hR : MRep h m S) (hI : SInv S) : CT mX8_drawn 0 0 n h [.ref m, .int al, .int go, .int x] (MOK n m h (opDrawn S al go x)) := by
  obtain ⟨h0, A, bo, ki, mo, wt, rfl, B, hA⟩ := id hR
  refine CT.intro [some (.ref m), some (.int al), some (.int go), some (.int x), none] 1 rfl rfl (by decide) ?_
  intro Q hQ
  have bad : (rg al 1 60 && (rg go 0 al.toInt && rg x 0 al.toInt)) = false → AW mX8_drawn (gq 0 0 Q) 28 [some (.ref m), some (.int al), some (.int go), some (.int x), none] [] 0 0 n (mh h0 m A) := by
    intro hb
    refine aw_iconst (v := (-1)) dX8_drawn_28 (by decide +kernel) ?_
    refine aw_ireturn dX8_drawn_29 rfl rfl (Nat.le_of_ble_eq_true rfl) (Nat.le_of_ble_eq_true rfl) ?_
    refine hQ _ _ _ (bad_ret hR ?_)
    unfold opDrawn; rw [hb]; rfl
  refine aw_iload_n (i := 1) dX8_drawn_0 rfl rfl ?_
  refine aw_iconst (v := 1) dX8_drawn_1 (by decide +kernel) ?_
  refine aw_bipush (v := 60) dX8_drawn_2 (by decide +kernel) ?_
  refine aw_invokestatic kX8_153 dX8_drawn_4 (ct_in n (mh h0 m A) al 1 60 toInt_1 toInt_60) rfl rfl (Nat.le_of_ble_eq_true rfl) ⟨Nat.le_of_ble_eq_true rfl, Nat.le_of_ble_eq_true rfl⟩ ⟨Nat.le_of_ble_eq_true rfl, Nat.le_of_ble_eq_true rfl⟩ ?_
  rintro _ _ _ ⟨rfl, rfl, rfl⟩
  by_cases h1 : rg al 1 60 = true
  case neg =>
    refine aw_if_eq (tgt := 28) dX8_drawn_7 (by decide) (fun _ => ?_) (fun c => (c (bI_eq0.mpr (by simpa using h1))).elim)
    exact bad (by simp [h1])
  refine aw_if_eq (tgt := 28) dX8_drawn_7 (by decide) (fun c => absurd c (bI_ne0.mpr h1)) (fun _ => ?_)
  refine aw_iload_n (i := 2) dX8_drawn_10 rfl rfl ?_
  refine aw_iconst (v := 0) dX8_drawn_11 (by decide +kernel) ?_
  refine aw_iload_n (i := 1) dX8_drawn_12 rfl rfl ?_
  refine aw_invokestatic kX8_153 dX8_drawn_13 (ct_in n (mh h0 m A) go 0 al toInt_lit0 rfl) rfl rfl (Nat.le_of_ble_eq_true rfl) ⟨Nat.le_of_ble_eq_true rfl, Nat.le_of_ble_eq_true rfl⟩ ⟨Nat.le_of_ble_eq_true rfl, Nat.le_of_ble_eq_true rfl⟩ ?_
  rintro _ _ _ ⟨rfl, rfl, rfl⟩
  by_cases h2 : rg go 0 al.toInt = true
  case neg =>
    refine aw_if_eq (tgt := 28) dX8_drawn_16 (by decide) (fun _ => ?_) (fun c => (c (bI_eq0.mpr (by simpa using h2))).elim)
    exact bad (by simp [h2])
  refine aw_if_eq (tgt := 28) dX8_drawn_16 (by decide) (fun c => absurd c (bI_ne0.mpr h2)) (fun _ => ?_)
  refine aw_iload_n (i := 3) dX8_drawn_19 rfl rfl ?_
  refine aw_iconst (v := 0) dX8_drawn_20 (by decide +kernel) ?_
  refine aw_iload_n (i := 1) dX8_drawn_21 rfl rfl ?_
  refine aw_invokestatic kX8_153 dX8_drawn_22 (ct_in n (mh h0 m A) x 0 al toInt_lit0 rfl) rfl rfl (Nat.le_of_ble_eq_true rfl) ⟨Nat.le_of_ble_eq_true rfl, Nat.le_of_ble_eq_true rfl⟩ ⟨Nat.le_of_ble_eq_true rfl, Nat.le_of_ble_eq_true rfl⟩ ?_
  rintro _ _ _ ⟨rfl, rfl, rfl⟩
  by_cases h3 : rg x 0 al.toInt = true
  case neg =>
    refine aw_if_ne (tgt := 30) dX8_drawn_25 (by decide) (fun c => absurd c (fun c => c (bI_eq0.mpr (by simpa using h3)))) (fun _ => ?_)
    exact bad (by simp [h3])
  obtain ⟨el, el2, hl1, hl2⟩ := rg_N h1 (by decide)
  obtain ⟨eg, -, -, hg⟩ := rg_N h2 (by decide)
  obtain ⟨ex, -, -, hx⟩ := rg_N h3 (by decide)
  have hop : opDrawn S al go x = newS S 1 (tN x) (cDrawn (tN al) (tN go) (tN x)) := by unfold opDrawn; rw [h1, h2, h3]; rfl
  rw [hop] at hQ
  generalize tN x = X at *
  generalize tN al = L at *
  generalize tN go = g' at *
  subst ex eg el
  rw [← el2] at hg hx
  refine aw_if_ne (tgt := 30) dX8_drawn_25 (by decide) (fun _ => ?_) (fun c => ((bI_ne0.mpr h3) c).elim)
  refine aw_aload_n (i := 0) dX8_drawn_30 rfl rfl ?_
  refine aw_getfield fX8_178 dX8_drawn_31 (by rw [mh_0]; exact B.1) rfl ?_
  refine aw_bipush (v := 16) dX8_drawn_34 (by decide +kernel) ?_
  have hn16 := hI.2.1.1
  by_cases h16 : sN S = 16
  · refine aw_icmp_ne (tgt := 42) dX8_drawn_36 (by decide) (fun c => absurd c (fun c => c (by rw [h16]; rfl))) (fun _ => ?_)
    refine aw_bipush (v := (-3)) dX8_drawn_39 (by decide +kernel) ?_
    refine aw_ireturn dX8_drawn_41 rfl rfl (Nat.le_of_ble_eq_true rfl) (Nat.le_of_ble_eq_true rfl) ?_
    refine hQ _ _ _ ?_
    unfold newS; rw [if_pos h16]
    exact ⟨rfl, rfl, hR, mfr_rf⟩
  refine aw_icmp_ne (tgt := 42) dX8_drawn_36 (by decide) (fun _ => ?_) (fun c => ((fun c => h16 ((nI_eq (b := 16) (by omega) (by decide)).mp c)) c).elim)
  refine aw_iconst (v := 0) dX8_drawn_42 (by decide +kernel) ?_
  refine aw_istore_4 dX8_drawn_43 (by decide) rfl ?_
  unfold newS at hQ; rw [if_neg h16] at hQ
  have htot := cDrawn_tot (all := L) (good := g') (x := X) (by omega)
  have hbd := cho_bd (n := L) (by omega) X
  have w0 : 2 ^ 57 < 2 ^ 256 := Nat.pow_lt_pow_right (by decide) (by decide)
  have loop : ∀ (j k : Nat) (A' : Nat → Nat → Nat), k + j = X + 1 → (∀ v, v < k → mD (A' 19) (10 * (121 * sN S + v)) 10 (cDrawn L g' X v)) → (∀ i, i < 1210 * sN S → A' 19 i = A 19 i) → (∀ i, i ≠ 19 → i ≠ 22 → i ≠ 23 → i ≠ 24 → A' i = A i) → AW mX8_drawn (gq 0 0 Q) 45 [some (.ref m), some (.int (nI L)), some (.int (nI g')), some (.int (nI X)), some (.int (nI k))] [] 0 0 n (mh h0 m A') := by
    intro j
    induction j with
    | zero =>
      intro k A' hk hd e19 fr
      obtain rfl : k = X + 1 := by omega
      refine aw_iload dX8_drawn_45 rfl ?_
      refine aw_iload_n (i := 3) dX8_drawn_47 rfl rfl ?_
      refine aw_icmp_gt (tgt := 124) dX8_drawn_48 (by decide) (fun _ => ?_) (fun c => (c (nI_lt (by omega) (by omega))).elim)
      refine aw_aload_n (i := 0) dX8_drawn_124 rfl rfl ?_
      refine aw_iconst (v := 1) dX8_drawn_125 (by decide +kernel) ?_
      refine aw_iload_n (i := 3) dX8_drawn_126 rfl rfl ?_
      refine aw_invokevirtual kX8_202 dX8_drawn_127 (by rw [mh_0]; exact B.1) (ct_X8_comes n h0 m A' S bo ki mo wt 1 X (cDrawn L g' X) B (hA.keepC hI e19 (fr 6 (by decide) (by decide) (by decide) (by decide)) (fr 7 (by decide) (by decide) (by decide) (by decide)) (fr 20 (by decide) (by decide) (by decide) (by decide))) (by omega) (by omega) (fun v hv => hd v (by omega)) (by rw [htot]; omega)) rfl rfl (Nat.le_of_ble_eq_true rfl) ⟨Nat.le_of_ble_eq_true rfl, Nat.le_of_ble_eq_true rfl⟩ ⟨Nat.le_of_ble_eq_true rfl, Nat.le_of_ble_eq_true rfl⟩ ?_
      rintro _ _ _ ⟨rfl, rfl, hR', hF⟩
      refine aw_ireturn dX8_drawn_130 rfl rfl (Nat.le_of_ble_eq_true rfl) (Nat.le_of_ble_eq_true rfl) ?_
      exact hQ _ _ _ ⟨rfl, rfl, hR', fun y hy => by rw [hF y hy, mh_fr hy, mh_fr hy]⟩
    | succ j ih =>
      intro k A' hk hd e19 fr
      have b1 := cho_bd (n := g') (by omega) k
      have b2 := cho_bd (n := L - g') (by omega) (X - k)
      have hle : cDrawn L g' X k ≤ cho L X := by rw [← htot]; exact sg_ge (by omega)
      have w2 : 2 ^ 57 < 2 ^ 280 := Nat.pow_lt_pow_right (by decide) (by decide)
      refine aw_iload dX8_drawn_45 rfl ?_
      refine aw_iload_n (i := 3) dX8_drawn_47 rfl rfl ?_
      refine aw_icmp_gt (tgt := 124) dX8_drawn_48 (by decide) (fun c => absurd c (nI_nlt (by omega) (by omega))) (fun _ => ?_)
      refine aw_aload_n (i := 0) dX8_drawn_51 rfl rfl ?_
      refine aw_getfield fX8_78 dX8_drawn_52 (by rw [mh_0]; exact B.1) rfl ?_
      refine aw_iload_n (i := 2) dX8_drawn_55 rfl rfl ?_
      refine aw_iload dX8_drawn_56 rfl ?_
      refine aw_invokestatic kX8_194 dX8_drawn_58 (ct_X8_choose n (mh h0 m A') g' k (by omega) (by omega)) rfl rfl (Nat.le_of_ble_eq_true rfl) ⟨Nat.le_of_ble_eq_true rfl, Nat.le_of_ble_eq_true rfl⟩ ⟨Nat.le_of_ble_eq_true rfl, Nat.le_of_ble_eq_true rfl⟩ ?_
      rintro _ _ _ ⟨rfl, rfl, rfl⟩
      refine aw_invokestatic kX8_124 dX8_drawn_61 (mc_become n h0 m A' 23 (cho g' k) rfl rfl (by omega)) rfl rfl (Nat.le_of_ble_eq_true rfl) ⟨Nat.le_of_ble_eq_true rfl, Nat.le_of_ble_eq_true rfl⟩ ⟨Nat.le_of_ble_eq_true rfl, Nat.le_of_ble_eq_true rfl⟩ ?_
      rintro _ _ _ ⟨rfl, rfl, A1, rfl, d1, f1⟩
      refine aw_aload_n (i := 0) dX8_drawn_64 rfl rfl ?_
      refine aw_getfield fX8_81 dX8_drawn_65 (by rw [mh_0]; exact B.1) rfl ?_
      refine aw_iload_n (i := 1) dX8_drawn_68 rfl rfl ?_
      refine aw_iload_n (i := 2) dX8_drawn_69 rfl rfl ?_
      refine aw_isub dX8_drawn_70 ?_
      rw [pk_sub (show g' ≤ L by omega)]
      refine aw_iload_n (i := 3) dX8_drawn_71 rfl rfl ?_
      refine aw_iload dX8_drawn_72 rfl ?_
      refine aw_isub dX8_drawn_74 ?_
      rw [pk_sub (show k ≤ X by omega)]
      refine aw_invokestatic kX8_194 dX8_drawn_75 (ct_X8_choose n (mh h0 m A1) (L - g') (X - k) (by omega) (by omega)) rfl rfl (Nat.le_of_ble_eq_true rfl) ⟨Nat.le_of_ble_eq_true rfl, Nat.le_of_ble_eq_true rfl⟩ ⟨Nat.le_of_ble_eq_true rfl, Nat.le_of_ble_eq_true rfl⟩ ?_
      rintro _ _ _ ⟨rfl, rfl, rfl⟩
      refine aw_invokestatic kX8_124 dX8_drawn_78 (mc_become n h0 m A1 24 (cho (L - g') (X - k)) rfl rfl (by omega)) rfl rfl (Nat.le_of_ble_eq_true rfl) ⟨Nat.le_of_ble_eq_true rfl, Nat.le_of_ble_eq_true rfl⟩ ⟨Nat.le_of_ble_eq_true rfl, Nat.le_of_ble_eq_true rfl⟩ ?_
      rintro _ _ _ ⟨rfl, rfl, A2, rfl, d2, f2⟩
      refine aw_aload_n (i := 0) dX8_drawn_81 rfl rfl ?_
      refine aw_getfield fX8_75 dX8_drawn_82 (by rw [mh_0]; exact B.1) rfl ?_
      refine aw_aload_n (i := 0) dX8_drawn_85 rfl rfl ?_
      refine aw_getfield fX8_78 dX8_drawn_86 (by rw [mh_0]; exact B.1) rfl ?_
      refine aw_aload_n (i := 0) dX8_drawn_89 rfl rfl ?_
      refine aw_getfield fX8_81 dX8_drawn_90 (by rw [mh_0]; exact B.1) rfl ?_
      refine aw_invokestatic kX8_174 dX8_drawn_93 (mc_times n h0 m A2 22 23 24 (cho g' k) (cho (L - g') (X - k)) 3 3 rfl rfl rfl rfl rfl rfl (by decide) (by decide) (by rw [f2 23 (by decide)]; exact d1) d2 (by omega) (by omega) (by decide)) rfl rfl (Nat.le_of_ble_eq_true rfl) ⟨Nat.le_of_ble_eq_true rfl, Nat.le_of_ble_eq_true rfl⟩ ⟨Nat.le_of_ble_eq_true rfl, Nat.le_of_ble_eq_true rfl⟩ ?_
      rintro _ _ _ ⟨rfl, rfl, A3, rfl, d3, f3⟩
      refine aw_aload_n (i := 0) dX8_drawn_96 rfl rfl ?_
      refine aw_getfield fX8_66 dX8_drawn_97 (by rw [mh_0]; exact B.1) rfl ?_
      refine aw_aload_n (i := 0) dX8_drawn_100 rfl rfl ?_
      refine aw_getfield fX8_178 dX8_drawn_101 (by rw [mh_0]; exact B.1) rfl ?_
      refine aw_iload dX8_drawn_104 rfl ?_
      refine aw_invokestatic kX8_187 dX8_drawn_106 (ct_X8_at n (mh h0 m A3) (sN S) k) rfl rfl (Nat.le_of_ble_eq_true rfl) ⟨Nat.le_of_ble_eq_true rfl, Nat.le_of_ble_eq_true rfl⟩ ⟨Nat.le_of_ble_eq_true rfl, Nat.le_of_ble_eq_true rfl⟩ ?_
      rintro _ _ _ ⟨rfl, rfl, rfl⟩
      refine aw_bipush (v := 10) dX8_drawn_109 (by decide +kernel) ?_
      refine aw_aload_n (i := 0) dX8_drawn_111 rfl rfl ?_
      refine aw_getfield fX8_75 dX8_drawn_112 (by rw [mh_0]; exact B.1) rfl ?_
      refine aw_invokestatic kX8_166 dX8_drawn_115 (mc_storeC n h0 m A3 22 (sN S) k (cDrawn L g' X k) rfl rfl (by decide) (by omega) (by omega) d3 (by omega)) rfl rfl (Nat.le_of_ble_eq_true rfl) ⟨Nat.le_of_ble_eq_true rfl, Nat.le_of_ble_eq_true rfl⟩ ⟨Nat.le_of_ble_eq_true rfl, Nat.le_of_ble_eq_true rfl⟩ ?_
      rintro _ _ _ ⟨rfl, rfl, A4, rfl, d4, g4, f4⟩
      refine aw_iinc_4 (c0 := 1) dX8_drawn_118 (by decide) (by decide) rfl ?_
      refine aw_goto (tgt := 45) dX8_drawn_121 (by decide) ?_
      rw [nI_1]
      have fx : ∀ i, i ≠ 22 → i ≠ 23 → i ≠ 24 → A3 i = A' i := fun i i1 i2 i3 => by rw [f3 i i1, f2 i i3, f1 i i2]
      refine ih (k + 1) A4 (by omega) (fun v hv => ?_) (fun i hi => ?_) (fun i i0 i1 i2 i3 => by rw [f4 i i0, fx i i1 i2 i3]; exact fr i i0 i1 i2 i3)
      · by_cases hvk : v = k
        · rw [hvk]; exact d4
        · exact mD_congr (hd v (by omega)) (fun i h1 h2 => by rw [g4 i (by omega), fx 19 (by decide) (by decide) (by decide)])
      · rw [g4 i (by omega), fx 19 (by decide) (by decide) (by decide)]; exact e19 i hi
  exact loop (X + 1) 0 A (by omega) (fun v hv => by omega) (fun i _ => rfl) (fun i _ _ _ _ => rfl)
theorem isS_N {S : TS} {s : Int32} (h : isS S s = true) : s = nI (tN s) ∧ tN s < sN S := by
  obtain ⟨e, -, -, h2⟩ := rg_N h (by decide)
  exact ⟨e, by omega⟩
theorem isP_N {p : Int32} (h : isP p = true) : p = nI (tN p) ∧ tN p < 16 := by
  obtain ⟨e, -, -, h2⟩ := rg_N h (by decide)
  exact ⟨e, by omega⟩
theorem cHeld_tot {c : Nat → Nat} {t lo hi : Nat} (h1 : lo ≤ hi) (h2 : hi ≤ t) : sg (cHeld c t lo hi) (t + 1) = sg c (t + 1) := by
  unfold cHeld
  rw [sg_swap (fun v i => if clampN lo hi i = v then c i else 0) (t + 1) (t + 1)]
  refine sg_congr (fun i hi' => ?_)
  have hb : clampN lo hi i < t + 1 := by unfold clampN; split; omega; split <;> omega
  have : ∀ n, sg (fun v => if clampN lo hi i = v then c i else 0) n = if clampN lo hi i < n then c i else 0 := by
    intro n
    induction n with
    | zero => simp [sg]
    | succ n ih =>
      rw [sg_s, ih]
      by_cases e1 : clampN lo hi i < n
      · rw [if_pos e1, if_neg (by omega), if_pos (by omega)]; omega
      · rw [if_neg e1]
        by_cases e2 : clampN lo hi i = n
        · rw [if_pos e2, if_pos (by omega)]; omega
        · rw [if_neg e2, if_neg (by omega)]
  rw [this, if_pos hb]
theorem mt_held (n : Nat) (h : Hp) (m : Nat) (S : TS) (x lo hi : Int32) (hR : MRep h m S) (hI : SInv S) : CT mX8_held 0 0 n h [.ref m, .int x, .int lo, .int hi] (MOK n m h (opHeld S x lo hi)) := by
  obtain ⟨h0, A, bo, ki, mo, wt, rfl, B, hA⟩ := id hR
  refine CT.intro [some (.ref m), some (.int x), some (.int lo), some (.int hi), none, none, none] 3 rfl rfl (by decide) ?_
  intro Q hQ
  have bad : (isS S x && (rg lo 0 (sT S (tN x)) && rg hi lo.toInt (sT S (tN x)))) = false → AW mX8_held (gq 0 0 Q) 36 [some (.ref m), some (.int x), some (.int lo), some (.int hi), none, none, none] [] 0 0 n (mh h0 m A) := by
    intro hb
    refine aw_iconst (v := (-1)) dX8_held_36 (by decide +kernel) ?_
    refine aw_ireturn dX8_held_37 rfl rfl (Nat.le_of_ble_eq_true rfl) (Nat.le_of_ble_eq_true rfl) ?_
    refine hQ _ _ _ (bad_ret hR ?_)
    unfold opHeld; rw [hb]; rfl
  refine aw_aload_n (i := 0) dX8_held_0 rfl rfl ?_
  refine aw_iload_n (i := 1) dX8_held_1 rfl rfl ?_
  refine aw_invokevirtual kX8_205 dX8_held_2 (by rw [mh_0]; exact B.1) (ct_isS n h0 m A S bo ki mo wt x B hI) rfl rfl (Nat.le_of_ble_eq_true rfl) ⟨Nat.le_of_ble_eq_true rfl, Nat.le_of_ble_eq_true rfl⟩ ⟨Nat.le_of_ble_eq_true rfl, Nat.le_of_ble_eq_true rfl⟩ ?_
  rintro _ _ _ ⟨rfl, rfl, rfl⟩
  by_cases h1 : isS S x = true
  case neg =>
    refine aw_if_eq (tgt := 36) dX8_held_5 (by decide) (fun _ => ?_) (fun c => (c (bI_eq0.mpr (by simpa using h1))).elim)
    exact bad (by simp [h1])
  obtain ⟨ex, hx⟩ := isS_N h1
  have hn16 := hI.2.1.1
  have hT := (hI.2.1.2 (tN x) hx).2.1
  have hmo := (B.2.2.2.2.2.2 (tN x) hx).2
  have hmoC : ∀ A' : Nat → Nat → Nat, mh h0 m A' (m + 18) = some (iar 16 mo) := fun A' => by rw [mh_no h0 m A' rfl]; exact B.2.2.2.1
  have tsT : (nI (sT S (tN x))).toInt = (sT S (tN x) : Int) := nI_toInt (by omega)
  have xT : x.toInt = (tN x : Int) := by rw [ex, nI_toInt (by omega)]; congr 1; rw [← ex]
  refine aw_if_eq (tgt := 36) dX8_held_5 (by decide) (fun c => absurd c (bI_ne0.mpr h1)) (fun _ => ?_)
  refine aw_iload_n (i := 2) dX8_held_8 rfl rfl ?_
  refine aw_iconst (v := 0) dX8_held_9 (by decide +kernel) ?_
  refine aw_aload_n (i := 0) dX8_held_10 rfl rfl ?_
  refine aw_getfield fX8_63 dX8_held_11 (by rw [mh_0]; exact B.1) rfl ?_
  refine aw_iload_n (i := 1) dX8_held_14 rfl rfl ?_
  refine aw_iald dX8_held_15 (tN x) (hmoC _) xT (by omega) ?_
  rw [hmo]
  refine aw_invokestatic kX8_153 dX8_held_16 (ct_in n (mh h0 m A) lo 0 (nI (sT S (tN x))) toInt_lit0 tsT) rfl rfl (Nat.le_of_ble_eq_true rfl) ⟨Nat.le_of_ble_eq_true rfl, Nat.le_of_ble_eq_true rfl⟩ ⟨Nat.le_of_ble_eq_true rfl, Nat.le_of_ble_eq_true rfl⟩ ?_
  rintro _ _ _ ⟨rfl, rfl, rfl⟩
  by_cases h2 : rg lo 0 (sT S (tN x)) = true
  case neg =>
    refine aw_if_eq (tgt := 36) dX8_held_19 (by decide) (fun _ => ?_) (fun c => (c (bI_eq0.mpr (by simpa using h2))).elim)
    exact bad (by simp [h2])
  refine aw_if_eq (tgt := 36) dX8_held_19 (by decide) (fun c => absurd c (bI_ne0.mpr h2)) (fun _ => ?_)
  refine aw_iload_n (i := 3) dX8_held_22 rfl rfl ?_
  refine aw_iload_n (i := 2) dX8_held_23 rfl rfl ?_
  refine aw_aload_n (i := 0) dX8_held_24 rfl rfl ?_
  refine aw_getfield fX8_63 dX8_held_25 (by rw [mh_0]; exact B.1) rfl ?_
  refine aw_iload_n (i := 1) dX8_held_28 rfl rfl ?_
  refine aw_iald dX8_held_29 (tN x) (hmoC _) xT (by omega) ?_
  rw [hmo]
  refine aw_invokestatic kX8_153 dX8_held_30 (ct_in n (mh h0 m A) hi lo (nI (sT S (tN x))) rfl tsT) rfl rfl (Nat.le_of_ble_eq_true rfl) ⟨Nat.le_of_ble_eq_true rfl, Nat.le_of_ble_eq_true rfl⟩ ⟨Nat.le_of_ble_eq_true rfl, Nat.le_of_ble_eq_true rfl⟩ ?_
  rintro _ _ _ ⟨rfl, rfl, rfl⟩
  by_cases h3 : rg hi lo.toInt (sT S (tN x)) = true
  case neg =>
    refine aw_if_ne (tgt := 38) dX8_held_33 (by decide) (fun c => absurd c (fun c => c (bI_eq0.mpr (by simpa using h3)))) (fun _ => ?_)
    exact bad (by simp [h3])
  obtain ⟨elo, elo2, -, hlo⟩ := rg_N h2 (by decide)
  obtain ⟨ehi, -, hhi1, hhi2⟩ := rg_N h3 (by omega)
  have hop : opHeld S x lo hi = newS S 4 (sT S (tN x)) (cHeld (sC S (tN x)) (sT S (tN x)) (tN lo) (tN hi)) := by unfold opHeld; rw [h1, h2, h3]; rfl
  rw [hop] at hQ
  rw [← elo2] at hhi1
  generalize hXe : tN x = X at *
  generalize tN lo = l' at *
  generalize tN hi = u' at *
  subst elo ehi
  refine aw_if_ne (tgt := 38) dX8_held_33 (by decide) (fun _ => ?_) (fun c => ((bI_ne0.mpr h3) c).elim)
  refine aw_aload_n (i := 0) dX8_held_38 rfl rfl ?_
  refine aw_getfield fX8_178 dX8_held_39 (by rw [mh_0]; exact B.1) rfl ?_
  refine aw_bipush (v := 16) dX8_held_42 (by decide +kernel) ?_
  by_cases h16 : sN S = 16
  · refine aw_icmp_ne (tgt := 50) dX8_held_44 (by decide) (fun c => absurd c (fun c => c (by rw [h16]; rfl))) (fun _ => ?_)
    refine aw_bipush (v := (-3)) dX8_held_47 (by decide +kernel) ?_
    refine aw_ireturn dX8_held_49 rfl rfl (Nat.le_of_ble_eq_true rfl) (Nat.le_of_ble_eq_true rfl) ?_
    refine hQ _ _ _ ?_
    unfold newS; rw [if_pos h16]
    exact ⟨rfl, rfl, hR, mfr_rf⟩
  refine aw_icmp_ne (tgt := 50) dX8_held_44 (by decide) (fun _ => ?_) (fun c => ((fun c => h16 ((nI_eq (b := 16) (by omega) (by decide)).mp c)) c).elim)
  refine aw_iconst (v := 0) dX8_held_50 (by decide +kernel) ?_
  refine aw_istore_4 dX8_held_51 (by decide) rfl ?_
  unfold newS at hQ; rw [if_neg h16] at hQ
  have htot := cHeld_tot (c := sC S X) (t := sT S X) (lo := l') (hi := u') (by omega) (by omega)
  have hlt : stot S X < 2 ^ 256 := (hI.2.1.2 X hx).2.2.2
  have htot2 : sg (cHeld (sC S X) (sT S X) l' u') (sT S X + 1) = stot S X := htot
  generalize ht : sT S X = t at *
  have loop : ∀ (j v : Nat) (A' : Nat → Nat → Nat) (y5 y6 : Option Value), v + j = t + 1 → (∀ q, q < v → mD (A' 19) (10 * (121 * sN S + q)) 10 (cHeld (sC S X) t l' u' q)) → (∀ i, i < 1210 * sN S → A' 19 i = A 19 i) → (∀ i, i ≠ 19 → i ≠ 22 → i ≠ 25 → A' i = A i) → AW mX8_held (gq 0 0 Q) 53 [some (.ref m), some (.int x), some (.int (nI l')), some (.int (nI u')), some (.int (nI v)), y5, y6] [] 0 0 n (mh h0 m A') := by
    intro j
    induction j with
    | zero =>
      intro v A' y5 y6 hv hd e19 fr
      obtain rfl : v = t + 1 := by omega
      refine aw_iload dX8_held_53 rfl ?_
      refine aw_aload_n (i := 0) dX8_held_55 rfl rfl ?_
      refine aw_getfield fX8_63 dX8_held_56 (by rw [mh_0]; exact B.1) rfl ?_
      refine aw_iload_n (i := 1) dX8_held_59 rfl rfl ?_
      refine aw_iald dX8_held_60 X (hmoC _) xT (by omega) ?_
      rw [hmo]
      refine aw_icmp_gt (tgt := 181) dX8_held_61 (by decide) (fun _ => ?_) (fun c => (c (nI_lt (by omega) (by omega))).elim)
      refine aw_aload_n (i := 0) dX8_held_181 rfl rfl ?_
      refine aw_iconst (v := 4) dX8_held_182 (by decide +kernel) ?_
      refine aw_aload_n (i := 0) dX8_held_183 rfl rfl ?_
      refine aw_getfield fX8_63 dX8_held_184 (by rw [mh_0]; exact B.1) rfl ?_
      refine aw_iload_n (i := 1) dX8_held_187 rfl rfl ?_
      refine aw_iald dX8_held_188 X (hmoC _) xT (by omega) ?_
      rw [hmo]
      refine aw_invokevirtual kX8_202 dX8_held_189 (by rw [mh_0]; exact B.1) (ct_X8_comes n h0 m A' S bo ki mo wt 4 t (cHeld (sC S X) t l' u') B (hA.keepC hI e19 (fr 6 (by decide) (by decide) (by decide)) (fr 7 (by decide) (by decide) (by decide)) (fr 20 (by decide) (by decide) (by decide))) (by omega) (by omega) (fun v hv => hd v (by omega)) (by rw [htot2]; exact hlt)) rfl rfl (Nat.le_of_ble_eq_true rfl) ⟨Nat.le_of_ble_eq_true rfl, Nat.le_of_ble_eq_true rfl⟩ ⟨Nat.le_of_ble_eq_true rfl, Nat.le_of_ble_eq_true rfl⟩ ?_
      rintro _ _ _ ⟨rfl, rfl, hR', hF⟩
      refine aw_ireturn dX8_held_192 rfl rfl (Nat.le_of_ble_eq_true rfl) (Nat.le_of_ble_eq_true rfl) ?_
      exact hQ _ _ _ ⟨rfl, rfl, hR', fun y hy => by rw [hF y hy, mh_fr hy, mh_fr hy]⟩
    | succ j ih =>
      intro v A' y5 y6 hv hd e19 fr
      have w1 : 2 ^ 256 < 2 ^ 2688 := Nat.pow_lt_pow_right (by decide) (by decide)
      have w2 : 2 ^ 256 < 2 ^ 280 := Nat.pow_lt_pow_right (by decide) (by decide)
      have hcv : cHeld (sC S X) t l' u' v ≤ stot S X := by rw [← htot2]; exact sg_ge (by omega)
      refine aw_iload dX8_held_53 rfl ?_
      refine aw_aload_n (i := 0) dX8_held_55 rfl rfl ?_
      refine aw_getfield fX8_63 dX8_held_56 (by rw [mh_0]; exact B.1) rfl ?_
      refine aw_iload_n (i := 1) dX8_held_59 rfl rfl ?_
      refine aw_iald dX8_held_60 X (hmoC _) xT (by omega) ?_
      rw [hmo]
      refine aw_icmp_gt (tgt := 181) dX8_held_61 (by decide) (fun c => absurd c (nI_nlt (by omega) (by omega))) (fun _ => ?_)
      refine aw_aload_n (i := 0) dX8_held_64 rfl rfl ?_
      refine aw_getfield fX8_84 dX8_held_65 (by rw [mh_0]; exact B.1) rfl ?_
      refine aw_lconst (v := 0) dX8_held_68 (by decide) ?_
      refine aw_invokestatic kX8_124 dX8_held_69 (mc_become n h0 m A' 25 0 rfl rfl (by decide)) rfl rfl (Nat.le_of_ble_eq_true rfl) ⟨Nat.le_of_ble_eq_true rfl, Nat.le_of_ble_eq_true rfl⟩ ⟨Nat.le_of_ble_eq_true rfl, Nat.le_of_ble_eq_true rfl⟩ ?_
      rintro _ _ _ ⟨rfl, rfl, A1, rfl, d1, f1⟩
      refine aw_iconst (v := 0) dX8_held_72 (by decide +kernel) ?_
      refine aw_istore_5 dX8_held_73 (by decide) rfl ?_
      have inner : ∀ (j i : Nat) (A2 : Nat → Nat → Nat) (y6 : Option Value), i + j = t + 1 → dg (A2 25) (sg (fun i => if clampN l' u' i = v then sC S X i else 0) i) → (∀ k, k ≠ 22 → k ≠ 25 → A2 k = A' k) → AW mX8_held (gq 0 0 Q) 75 [some (.ref m), some (.int x), some (.int (nI l')), some (.int (nI u')), some (.int (nI v)), some (.int (nI i)), y6] [] 0 0 n (mh h0 m A2) := by
        intro j
        induction j with
        | zero =>
          intro i A2 y6 hi d f
          obtain rfl : i = t + 1 := by omega
          refine aw_iload dX8_held_75 rfl ?_
          refine aw_aload_n (i := 0) dX8_held_77 rfl rfl ?_
          refine aw_getfield fX8_63 dX8_held_78 (by rw [mh_0]; exact B.1) rfl ?_
          refine aw_iload_n (i := 1) dX8_held_81 rfl rfl ?_
          refine aw_iald dX8_held_82 X (hmoC _) xT (by omega) ?_
          rw [hmo]
          refine aw_icmp_gt (tgt := 153) dX8_held_83 (by decide) (fun _ => ?_) (fun c => (c (nI_lt (by omega) (by omega))).elim)
          refine aw_aload_n (i := 0) dX8_held_153 rfl rfl ?_
          refine aw_getfield fX8_66 dX8_held_154 (by rw [mh_0]; exact B.1) rfl ?_
          refine aw_aload_n (i := 0) dX8_held_157 rfl rfl ?_
          refine aw_getfield fX8_178 dX8_held_158 (by rw [mh_0]; exact B.1) rfl ?_
          refine aw_iload dX8_held_161 rfl ?_
          refine aw_invokestatic kX8_187 dX8_held_163 (ct_X8_at n (mh h0 m A2) (sN S) v) rfl rfl (Nat.le_of_ble_eq_true rfl) ⟨Nat.le_of_ble_eq_true rfl, Nat.le_of_ble_eq_true rfl⟩ ⟨Nat.le_of_ble_eq_true rfl, Nat.le_of_ble_eq_true rfl⟩ ?_
          rintro _ _ _ ⟨rfl, rfl, rfl⟩
          refine aw_bipush (v := 10) dX8_held_166 (by decide +kernel) ?_
          refine aw_aload_n (i := 0) dX8_held_168 rfl rfl ?_
          refine aw_getfield fX8_84 dX8_held_169 (by rw [mh_0]; exact B.1) rfl ?_
          refine aw_invokestatic kX8_166 dX8_held_172 (mc_storeC n h0 m A2 25 (sN S) v (cHeld (sC S X) t l' u' v) rfl rfl (by decide) (by omega) (by omega) d (by omega)) rfl rfl (Nat.le_of_ble_eq_true rfl) ⟨Nat.le_of_ble_eq_true rfl, Nat.le_of_ble_eq_true rfl⟩ ⟨Nat.le_of_ble_eq_true rfl, Nat.le_of_ble_eq_true rfl⟩ ?_
          rintro _ _ _ ⟨rfl, rfl, A4, rfl, d4, g4, f4⟩
          refine aw_iinc_4 (c0 := 1) dX8_held_175 (by decide) (by decide) rfl ?_
          refine aw_goto (tgt := 53) dX8_held_178 (by decide) ?_
          rw [nI_1]
          refine ih (v + 1) A4 _ _ (by omega) (fun q hq => ?_) (fun i hi => ?_) (fun i i0 i1 i2 => by rw [f4 i i0, f i i1 i2]; exact fr i i0 i1 i2)
          · by_cases hqv : q = v
            · rw [hqv]; exact d4
            · exact mD_congr (hd q (by omega)) (fun i h1 h2 => by rw [g4 i (by omega), f 19 (by decide) (by decide)])
          · rw [g4 i (by omega), f 19 (by decide) (by decide)]; exact e19 i hi
        | succ j ihj =>
          intro i A2 y6 hi d f
          have hle : sg (fun i => if clampN l' u' i = v then sC S X i else 0) (i + 1) ≤ cHeld (sC S X) t l' u' v := sg_le (by omega)
          rw [sg_s] at hle
          -- behind the choice of what i counts as
          have body : AW mX8_held (gq 0 0 Q) 108 [some (.ref m), some (.int x), some (.int (nI l')), some (.int (nI u')), some (.int (nI v)), some (.int (nI i)), y6] [.int (nI (clampN l' u' i))] 0 0 n (mh h0 m A2) := by
            have hcl : clampN l' u' i ≤ t := by unfold clampN; split; omega; split <;> omega
            refine aw_istore_6 dX8_held_108 (by decide) rfl ?_
            refine aw_iload dX8_held_110 rfl ?_
            refine aw_iload dX8_held_112 rfl ?_
            by_cases hc : clampN l' u' i = v
            · rw [if_pos hc] at hle
              have hAA : MA A2 S bo := hA.keepC hI (fun i hi => by rw [f 19 (by decide) (by decide)]; exact e19 i hi) (by rw [f 6 (by decide) (by decide)]; exact fr 6 (by decide) (by decide) (by decide)) (by rw [f 7 (by decide) (by decide)]; exact fr 7 (by decide) (by decide) (by decide)) (by rw [f 20 (by decide) (by decide)]; exact fr 20 (by decide) (by decide) (by decide))
              rw [show x = nI X by rw [ex]]
              refine aw_icmp_ne (tgt := 147) dX8_held_114 (by decide) (fun c => absurd c (fun c => c (by rw [hc]))) (fun _ => ?_)
              refine aw_aload_n (i := 0) dX8_held_117 rfl rfl ?_
              refine aw_getfield fX8_75 dX8_held_118 (by rw [mh_0]; exact B.1) rfl ?_
              refine aw_aload_n (i := 0) dX8_held_121 rfl rfl ?_
              refine aw_getfield fX8_66 dX8_held_122 (by rw [mh_0]; exact B.1) rfl ?_
              refine aw_iload_n (i := 1) dX8_held_125 rfl rfl ?_
              refine aw_iload dX8_held_126 rfl ?_
              refine aw_invokestatic kX8_187 dX8_held_128 (ct_X8_at n (mh h0 m A2) X i) rfl rfl (Nat.le_of_ble_eq_true rfl) ⟨Nat.le_of_ble_eq_true rfl, Nat.le_of_ble_eq_true rfl⟩ ⟨Nat.le_of_ble_eq_true rfl, Nat.le_of_ble_eq_true rfl⟩ ?_
              rintro _ _ _ ⟨rfl, rfl, rfl⟩
              refine aw_bipush (v := 10) dX8_held_131 (by decide +kernel) ?_
              refine aw_invokestatic kX8_170 dX8_held_133 (mc_loadC n h0 m A2 S bo 22 X i rfl rfl (by decide) hAA hI hx (by omega)) rfl rfl (Nat.le_of_ble_eq_true rfl) ⟨Nat.le_of_ble_eq_true rfl, Nat.le_of_ble_eq_true rfl⟩ ⟨Nat.le_of_ble_eq_true rfl, Nat.le_of_ble_eq_true rfl⟩ ?_
              rintro _ _ _ ⟨rfl, rfl, A3, rfl, d3, f3⟩
              refine aw_aload_n (i := 0) dX8_held_136 rfl rfl ?_
              refine aw_getfield fX8_84 dX8_held_137 (by rw [mh_0]; exact B.1) rfl ?_
              refine aw_aload_n (i := 0) dX8_held_140 rfl rfl ?_
              refine aw_getfield fX8_75 dX8_held_141 (by rw [mh_0]; exact B.1) rfl ?_
              refine aw_invokestatic kX8_191 dX8_held_144 (mc_plus n h0 m A3 25 22 _ (sC S X i) rfl rfl rfl rfl (by decide) (by rw [f3 25 (by decide)]; exact d) d3 (by omega)) rfl rfl (Nat.le_of_ble_eq_true rfl) ⟨Nat.le_of_ble_eq_true rfl, Nat.le_of_ble_eq_true rfl⟩ ⟨Nat.le_of_ble_eq_true rfl, Nat.le_of_ble_eq_true rfl⟩ ?_
              rintro _ _ _ ⟨rfl, rfl, A4, rfl, d4, f4⟩
              refine aw_iinc_5 (c0 := 1) dX8_held_147 (by decide) (by decide) rfl ?_
              refine aw_goto (tgt := 75) dX8_held_150 (by decide) ?_
              rw [nI_1, show nI X = x by rw [ex]]
              exact ihj (i + 1) A4 _ (by omega) (by rw [sg_s, if_pos hc]; exact d4) (fun k k1 k2 => by rw [f4 k k2, f3 k k1]; exact f k k1 k2)
            · refine aw_icmp_ne (tgt := 147) dX8_held_114 (by decide) (fun _ => ?_) (fun c => ((fun c => hc ((nI_eq (by omega) (by omega)).mp c)) c).elim)
              refine aw_iinc_5 (c0 := 1) dX8_held_147 (by decide) (by decide) rfl ?_
              refine aw_goto (tgt := 75) dX8_held_150 (by decide) ?_
              rw [nI_1]
              exact ihj (i + 1) A2 _ (by omega) (by rw [sg_s, if_neg hc]; exact d) f
          refine aw_iload dX8_held_75 rfl ?_
          refine aw_aload_n (i := 0) dX8_held_77 rfl rfl ?_
          refine aw_getfield fX8_63 dX8_held_78 (by rw [mh_0]; exact B.1) rfl ?_
          refine aw_iload_n (i := 1) dX8_held_81 rfl rfl ?_
          refine aw_iald dX8_held_82 X (hmoC _) xT (by omega) ?_
          rw [hmo]
          refine aw_icmp_gt (tgt := 153) dX8_held_83 (by decide) (fun c => absurd c (nI_nlt (by omega) (by omega))) (fun _ => ?_)
          refine aw_iload dX8_held_86 rfl ?_
          refine aw_iload_n (i := 2) dX8_held_88 rfl rfl ?_
          by_cases c1 : i < l'
          · refine aw_icmp_ge (tgt := 96) dX8_held_89 (by decide) (fun c => absurd c (nI_ge c1 (by omega))) (fun _ => ?_)
            refine aw_iload_n (i := 2) dX8_held_92 rfl rfl ?_
            refine aw_goto (tgt := 108) dX8_held_93 (by decide) ?_
            rw [show clampN l' u' i = l' by unfold clampN; rw [if_pos c1]] at body
            exact body
          · refine aw_icmp_ge (tgt := 96) dX8_held_89 (by decide) (fun _ => ?_) (fun c => (c (nI_le (by omega) (by omega))).elim)
            refine aw_iload dX8_held_96 rfl ?_
            refine aw_iload_n (i := 3) dX8_held_98 rfl rfl ?_
            by_cases c2 : u' < i
            · refine aw_icmp_le (tgt := 106) dX8_held_99 (by decide) (fun c => absurd c (nI_ge c2 (by omega))) (fun _ => ?_)
              refine aw_iload_n (i := 3) dX8_held_102 rfl rfl ?_
              refine aw_goto (tgt := 108) dX8_held_103 (by decide) ?_
              rw [show clampN l' u' i = u' by unfold clampN; rw [if_neg c1, if_pos c2]] at body
              exact body
            · refine aw_icmp_le (tgt := 106) dX8_held_99 (by decide) (fun _ => ?_) (fun c => (c (nI_le (by omega) (by omega))).elim)
              refine aw_iload dX8_held_106 rfl ?_
              rw [show clampN l' u' i = i by unfold clampN; rw [if_neg c1, if_neg c2]] at body
              exact body
      exact inner (t + 1) 0 A1 _ (by omega) d1 (fun k k1 k2 => f1 k k2)
  exact loop (t + 1) 0 A none none (by omega) (fun v hv => by omega) (fun i _ => rfl) (fun i _ _ _ => rfl)
