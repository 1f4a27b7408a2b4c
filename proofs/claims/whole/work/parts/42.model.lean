theorem plc_some {A : Nat → Nat → Nat} {bo : Nat → Nat} {p : Nat} {o : Option (Nat × Nat)} (h : plc A bo p o) {u d : Nat} (e : o = some (u, d)) : bo p = 1 ∧ mD (A 6) (40 * p) 40 u ∧ mD (A 7) (40 * p) 40 d := ⟨by rw [h.1, e]; rfl, h.2 u d e⟩
theorem plc_none {A : Nat → Nat → Nat} {bo : Nat → Nat} {p : Nat} {o : Option (Nat × Nat)} (h : plc A bo p o) (e : o = none) : bo p = 0 := by rw [h.1, e]; rfl
theorem sP_cases (o : Option (Nat × Nat)) : o = none ∨ ∃ u d, o = some (u, d) := by
  rcases o with _ | ⟨u, d⟩
  · exact Or.inl rfl
  · exact Or.inr ⟨u, d, rfl⟩
theorem lt48 {u : Nat} (h : u < 2 ^ 1024) : u < 2 ^ (28 * 48) := Nat.lt_of_lt_of_le h (Nat.pow_le_pow_right (by decide) (by decide))
theorem mt_order (n : Nat) (h : Hp) (m : Nat) (S : TS) (p q : Int32) (hR : MRep h m S) (hI : SInv S) : CT mX8_order 0 0 n h [.ref m, .int p, .int q] (MOK n m h (opOrder S p q)) := by
  obtain ⟨h0, A, bo, ki, mo, wt, rfl, B, hA⟩ := id hR
  refine CT.intro [some (.ref m), some (.int p), some (.int q)] 0 rfl rfl (by decide) ?_
  intro Q hQ
  have bad : (isP p && isP q) = false → AW mX8_order (gq 0 0 Q) 14 [some (.ref m), some (.int p), some (.int q)] [] 0 0 n (mh h0 m A) := by
    intro hb
    refine aw_iconst (v := (-1)) dX8_order_14 (by decide +kernel) ?_
    refine aw_ireturn dX8_order_15 rfl rfl (Nat.le_of_ble_eq_true rfl) (Nat.le_of_ble_eq_true rfl) ?_
    refine hQ _ _ _ (bad_ret hR ?_)
    unfold opOrder; rw [hb]; rfl
  refine aw_iload_n (i := 1) dX8_order_0 rfl rfl ?_
  refine aw_invokestatic kX8_211 dX8_order_1 (ct_isP n (mh h0 m A) p) rfl rfl (Nat.le_of_ble_eq_true rfl) ⟨Nat.le_of_ble_eq_true rfl, Nat.le_of_ble_eq_true rfl⟩ ⟨Nat.le_of_ble_eq_true rfl, Nat.le_of_ble_eq_true rfl⟩ ?_
  rintro _ _ _ ⟨rfl, rfl, rfl⟩
  by_cases h1 : isP p = true
  case neg =>
    refine aw_if_eq (tgt := 14) dX8_order_4 (by decide) (fun _ => ?_) (fun c => (c (bI_eq0.mpr (by simpa using h1))).elim)
    exact bad (by simp [h1])
  refine aw_if_eq (tgt := 14) dX8_order_4 (by decide) (fun c => absurd c (bI_ne0.mpr h1)) (fun _ => ?_)
  refine aw_iload_n (i := 2) dX8_order_7 rfl rfl ?_
  refine aw_invokestatic kX8_211 dX8_order_8 (ct_isP n (mh h0 m A) q) rfl rfl (Nat.le_of_ble_eq_true rfl) ⟨Nat.le_of_ble_eq_true rfl, Nat.le_of_ble_eq_true rfl⟩ ⟨Nat.le_of_ble_eq_true rfl, Nat.le_of_ble_eq_true rfl⟩ ?_
  rintro _ _ _ ⟨rfl, rfl, rfl⟩
  by_cases h2 : isP q = true
  case neg =>
    refine aw_if_ne (tgt := 16) dX8_order_11 (by decide) (fun c => absurd c (fun c => c (bI_eq0.mpr (by simpa using h2)))) (fun _ => ?_)
    exact bad (by simp [h2])
  obtain ⟨ep, hp⟩ := isP_N h1
  obtain ⟨eq, hq⟩ := isP_N h2
  unfold opOrder at hQ
  rw [h1, h2] at hQ
  simp only [Bool.and_self, if_true] at hQ
  generalize tN p = p' at *
  generalize tN q = q' at *
  subst ep eq
  have l1 := hA.2 p' hp
  have l2 := hA.2 q' hq
  have hbC : mh h0 m A (m + 8) = some (bar 16 bo) := by rw [mh_no h0 m A rfl]; exact B.2.1
  have nothing : ∀ o : Int32 × TS, o = (-2, S) → (∀ r n' h', MOK n m (mh h0 m A) o r n' h' → Q r n' h') → AW mX8_order (gq 0 0 Q) 34 [some (.ref m), some (.int (nI p')), some (.int (nI q'))] [] 0 0 n (mh h0 m A) := by
    intro o ho hQ
    refine aw_bipush (v := (-2)) dX8_order_34 (by decide +kernel) ?_
    refine aw_ireturn dX8_order_36 rfl rfl (Nat.le_of_ble_eq_true rfl) (Nat.le_of_ble_eq_true rfl) ?_
    exact hQ _ _ _ (by rw [ho]; exact ⟨rfl, rfl, hR, mfr_rf⟩)
  refine aw_if_ne (tgt := 16) dX8_order_11 (by decide) (fun _ => ?_) (fun c => ((bI_ne0.mpr h2) c).elim)
  refine aw_aload_n (i := 0) dX8_order_16 rfl rfl ?_
  refine aw_getfield fX8_31 dX8_order_17 (by rw [mh_0]; exact B.1) rfl ?_
  refine aw_iload_n (i := 1) dX8_order_20 rfl rfl ?_
  refine aw_bald dX8_order_21 p' hbC (nI_toInt (by omega)) hp ?_
  rcases sP_cases (sP S p') with o1 | ⟨u, d, o1⟩
  · refine aw_if_eq (tgt := 34) dX8_order_22 (by decide) (fun _ => ?_) (fun c => (c (by rw [plc_none l1 o1]; rfl)).elim)
    exact nothing _ (by rw [o1]) hQ
  obtain ⟨b1, m1, m2⟩ := plc_some l1 o1
  refine aw_if_eq (tgt := 34) dX8_order_22 (by decide) (fun c => absurd c (by rw [b1]; decide)) (fun _ => ?_)
  refine aw_aload_n (i := 0) dX8_order_25 rfl rfl ?_
  refine aw_getfield fX8_31 dX8_order_26 (by rw [mh_0]; exact B.1) rfl ?_
  refine aw_iload_n (i := 2) dX8_order_29 rfl rfl ?_
  refine aw_bald dX8_order_30 q' hbC (nI_toInt (by omega)) hq ?_
  rcases sP_cases (sP S q') with o2 | ⟨u2, d2, o2⟩
  · refine aw_if_ne (tgt := 37) dX8_order_31 (by decide) (fun c => absurd c (fun c => c (by rw [plc_none l2 o2]; rfl))) (fun _ => ?_)
    exact nothing _ (by rw [o1, o2]) hQ
  obtain ⟨b2, m3, m4⟩ := plc_some l2 o2
  rw [o1, o2] at hQ
  have i1 := hI.2.2.1 p' u d o1
  have i2 := hI.2.2.1 q' u2 d2 o2
  refine aw_if_ne (tgt := 37) dX8_order_31 (by decide) (fun _ => ?_) (fun c => ((show ¬ nI (bo q') = 0 by rw [b2]; decide) c).elim)
  refine aw_aload_n (i := 0) dX8_order_37 rfl rfl ?_
  refine aw_iload_n (i := 1) dX8_order_38 rfl rfl ?_
  refine aw_invokevirtual kX8_246 dX8_order_39 (by rw [mh_0]; exact B.1) (ct_X8_takeLeft n h0 m A p' u d hp B.ob m1 m2) rfl rfl (Nat.le_of_ble_eq_true rfl) ⟨Nat.le_of_ble_eq_true rfl, Nat.le_of_ble_eq_true rfl⟩ ⟨Nat.le_of_ble_eq_true rfl, Nat.le_of_ble_eq_true rfl⟩ ?_
  rintro _ _ _ ⟨rfl, rfl, A1, rfl, d11, d12, f1⟩
  refine aw_aload_n (i := 0) dX8_order_42 rfl rfl ?_
  refine aw_iload_n (i := 2) dX8_order_43 rfl rfl ?_
  refine aw_invokevirtual kX8_249 dX8_order_44 (by rw [mh_0]; exact B.1) (ct_X8_takeRight n h0 m A1 q' u2 d2 hq B.ob (by rw [f1 6 (by decide) (by decide)]; exact m3) (by rw [f1 7 (by decide) (by decide)]; exact m4)) rfl rfl (Nat.le_of_ble_eq_true rfl) ⟨Nat.le_of_ble_eq_true rfl, Nat.le_of_ble_eq_true rfl⟩ ⟨Nat.le_of_ble_eq_true rfl, Nat.le_of_ble_eq_true rfl⟩ ?_
  rintro _ _ _ ⟨rfl, rfl, A2, rfl, d13, d14, f2⟩
  refine aw_aload_n (i := 0) dX8_order_47 rfl rfl ?_
  refine aw_invokevirtual kX8_252 dX8_order_48 (by rw [mh_0]; exact B.1) (ct_X8_ordered n h0 m A2 u d u2 d2 B.ob (by rw [f2 11 (by decide) (by decide)]; exact d11) (by rw [f2 12 (by decide) (by decide)]; exact d12) d13 d14 (lt48 i1.2.2.1) (lt48 i1.2.2.2) (lt48 i2.2.2.1) (lt48 i2.2.2.2)) rfl rfl (Nat.le_of_ble_eq_true rfl) ⟨Nat.le_of_ble_eq_true rfl, Nat.le_of_ble_eq_true rfl⟩ ⟨Nat.le_of_ble_eq_true rfl, Nat.le_of_ble_eq_true rfl⟩ ?_
  rintro _ _ _ ⟨rfl, rfl, A3, rfl, -, -, f3⟩
  refine aw_iconst (v := 1) dX8_order_51 (by decide +kernel) ?_
  refine aw_iadd dX8_order_52 ?_
  refine aw_ireturn dX8_order_53 rfl rfl (Nat.le_of_ble_eq_true rfl) (Nat.le_of_ble_eq_true rfl) ?_
  have ff : ∀ k, k ≠ 11 → k ≠ 12 → k ≠ 13 → k ≠ 14 → k ≠ 15 → k ≠ 16 → A3 k = A k := fun k k1 k2 k3 k4 k5 k6 => by rw [f3 k k5 k6, f2 k k3 k4, f1 k k1 k2]
  exact hQ _ _ _ ⟨rfl, rfl, ⟨h0, A3, bo, ki, mo, wt, rfl, B, hA.keep (ff 6 (by decide) (by decide) (by decide) (by decide) (by decide) (by decide)) (ff 7 (by decide) (by decide) (by decide) (by decide) (by decide) (by decide)) (ff 19 (by decide) (by decide) (by decide) (by decide) (by decide) (by decide)) (ff 20 (by decide) (by decide) (by decide) (by decide) (by decide) (by decide))⟩, mfr_mh (fun _ _ => rfl)⟩
theorem mt_work (n : Nat) (h : Hp) (m : Nat) (S : TS) (a p q r : Int32) (hR : MRep h m S) (hI : SInv S) : CT mX8_work 0 0 n h [.ref m, .int a, .int p, .int q, .int r] (MOK n m h (opWork S a p q r)) := by
  obtain ⟨h0, A, bo, ki, mo, wt, rfl, B, hA⟩ := id hR
  refine CT.intro [some (.ref m), some (.int a), some (.int p), some (.int q), some (.int r), none] 1 rfl rfl (by decide) ?_
  intro Q hQ
  have bad : (rg a 0 3 && (isP p && (isP q && (decide (a.toInt = 3) || isP r)))) = false → AW mX8_work (gq 0 0 Q) 36 [some (.ref m), some (.int a), some (.int p), some (.int q), some (.int r), none] [] 0 0 n (mh h0 m A) := by
    intro hb
    refine aw_iconst (v := (-1)) dX8_work_36 (by decide +kernel) ?_
    refine aw_ireturn dX8_work_37 rfl rfl (Nat.le_of_ble_eq_true rfl) (Nat.le_of_ble_eq_true rfl) ?_
    refine hQ _ _ _ (bad_ret hR ?_)
    unfold opWork; rw [hb]; rfl
  refine aw_iload_n (i := 1) dX8_work_0 rfl rfl ?_
  refine aw_iconst (v := 0) dX8_work_1 (by decide +kernel) ?_
  refine aw_iconst (v := 3) dX8_work_2 (by decide +kernel) ?_
  refine aw_invokestatic kX8_153 dX8_work_3 (ct_in n (mh h0 m A) a 0 3 toInt_lit0 toInt_3) rfl rfl (Nat.le_of_ble_eq_true rfl) ⟨Nat.le_of_ble_eq_true rfl, Nat.le_of_ble_eq_true rfl⟩ ⟨Nat.le_of_ble_eq_true rfl, Nat.le_of_ble_eq_true rfl⟩ ?_
  rintro _ _ _ ⟨rfl, rfl, rfl⟩
  by_cases h0a : rg a 0 3 = true
  case neg =>
    refine aw_if_eq (tgt := 36) dX8_work_6 (by decide) (fun _ => ?_) (fun c => (c (bI_eq0.mpr (by simpa using h0a))).elim)
    exact bad (by simp [h0a])
  refine aw_if_eq (tgt := 36) dX8_work_6 (by decide) (fun c => absurd c (bI_ne0.mpr h0a)) (fun _ => ?_)
  refine aw_iload_n (i := 2) dX8_work_9 rfl rfl ?_
  refine aw_invokestatic kX8_211 dX8_work_10 (ct_isP n (mh h0 m A) p) rfl rfl (Nat.le_of_ble_eq_true rfl) ⟨Nat.le_of_ble_eq_true rfl, Nat.le_of_ble_eq_true rfl⟩ ⟨Nat.le_of_ble_eq_true rfl, Nat.le_of_ble_eq_true rfl⟩ ?_
  rintro _ _ _ ⟨rfl, rfl, rfl⟩
  by_cases h1 : isP p = true
  case neg =>
    refine aw_if_eq (tgt := 36) dX8_work_13 (by decide) (fun _ => ?_) (fun c => (c (bI_eq0.mpr (by simpa using h1))).elim)
    exact bad (by simp [h1])
  refine aw_if_eq (tgt := 36) dX8_work_13 (by decide) (fun c => absurd c (bI_ne0.mpr h1)) (fun _ => ?_)
  refine aw_iload_n (i := 3) dX8_work_16 rfl rfl ?_
  refine aw_invokestatic kX8_211 dX8_work_17 (ct_isP n (mh h0 m A) q) rfl rfl (Nat.le_of_ble_eq_true rfl) ⟨Nat.le_of_ble_eq_true rfl, Nat.le_of_ble_eq_true rfl⟩ ⟨Nat.le_of_ble_eq_true rfl, Nat.le_of_ble_eq_true rfl⟩ ?_
  rintro _ _ _ ⟨rfl, rfl, rfl⟩
  by_cases h2 : isP q = true
  case neg =>
    refine aw_if_eq (tgt := 36) dX8_work_20 (by decide) (fun _ => ?_) (fun c => (c (bI_eq0.mpr (by simpa using h2))).elim)
    exact bad (by simp [h2])
  obtain ⟨ea, ea2, -, ha⟩ := rg_N h0a (by decide)
  obtain ⟨ep, hp⟩ := isP_N h1
  obtain ⟨eq, hq⟩ := isP_N h2
  have l2 := hA.2 _ hq
  have hbC : mh h0 m A (m + 8) = some (bar 16 bo) := by rw [mh_no h0 m A rfl]; exact B.2.1
  refine aw_if_eq (tgt := 36) dX8_work_20 (by decide) (fun c => absurd c (bI_ne0.mpr h2)) (fun _ => ?_)
  refine aw_iload_n (i := 1) dX8_work_23 rfl rfl ?_
  refine aw_iconst (v := 3) dX8_work_24 (by decide +kernel) ?_
  -- left lies in 11, 12; right in 13, 14; they are ordered
  have main : ∀ (u d u2 d2 : Nat) (A1 : Nat → Nat → Nat), (0 < d ∧ u < 2 ^ 1024 ∧ d < 2 ^ 1024) → (0 < d2 ∧ u2 < 2 ^ 1024 ∧ d2 < 2 ^ 1024) → (tN a = 3 → u2 = 1 ∧ d2 = 1) → opWork S a p q r = putP S (tN p) (wrkA (tN a) u d u2 d2) (wrkB (tN a) u d u2 d2) → dg (A1 11) u → dg (A1 12) d → dg (A1 13) u2 → dg (A1 14) d2 → (∀ k, k = 6 ∨ k = 7 ∨ k = 19 ∨ k = 20 → A1 k = A k) → AW mX8_work (gq 0 0 Q) 100 [some (.ref m), some (.int a), some (.int p), some (.int q), some (.int r), none] [] 0 0 n (mh h0 m A1) := by
    intro u d u2 d2 A1 i1 i2 i3 hop d11 d12 d13 d14 fr
    rw [hop] at hQ
    have w1 : 2 ^ 1024 * 2 ^ 1024 + 2 ^ 1024 * 2 ^ 1024 < 2 ^ 2688 := by decide +kernel
    have q1 : u * d2 ≤ 2 ^ 1024 * 2 ^ 1024 := Nat.mul_le_mul (Nat.le_of_lt i1.2.1) (Nat.le_of_lt i2.2.2)
    have q2 : u2 * d ≤ 2 ^ 1024 * 2 ^ 1024 := Nat.mul_le_mul (Nat.le_of_lt i2.2.1) (Nat.le_of_lt i1.2.2)
    refine aw_aload_n (i := 0) dX8_work_100 rfl rfl ?_
    refine aw_invokevirtual kX8_252 dX8_work_101 (by rw [mh_0]; exact B.1) (ct_X8_ordered n h0 m A1 u d u2 d2 B.ob d11 d12 d13 d14 (lt48 i1.2.1) (lt48 i1.2.2) (lt48 i2.2.1) (lt48 i2.2.2)) rfl rfl (Nat.le_of_ble_eq_true rfl) ⟨Nat.le_of_ble_eq_true rfl, Nat.le_of_ble_eq_true rfl⟩ ⟨Nat.le_of_ble_eq_true rfl, Nat.le_of_ble_eq_true rfl⟩ ?_
    rintro _ _ _ ⟨rfl, rfl, A2, rfl, d15, d16, f2⟩
    have e11 : dg (A2 11) u := by rw [f2 11 (by decide) (by decide)]; exact d11
    have e12 : dg (A2 12) d := by rw [f2 12 (by decide) (by decide)]; exact d12
    have e13 : dg (A2 13) u2 := by rw [f2 13 (by decide) (by decide)]; exact d13
    have e14 : dg (A2 14) d2 := by rw [f2 14 (by decide) (by decide)]; exact d14
    have fr2 : ∀ k, k = 6 ∨ k = 7 ∨ k = 19 ∨ k = 20 → A2 k = A k := fun k hk => by rw [f2 k (by omega) (by omega)]; exact fr k hk
    -- the end
    have fin : ∀ (A3 : Nat → Nat → Nat), dg (A3 9) (wrkA (tN a) u d u2 d2) → dg (A3 10) (wrkB (tN a) u d u2 d2) → (∀ k, k = 6 ∨ k = 7 ∨ k = 19 ∨ k = 20 → A3 k = A k) → 0 < wrkB (tN a) u d u2 d2 → AW mX8_work (gq 0 0 Q) 300 [some (.ref m), some (.int a), some (.int p), some (.int q), some (.int r), some (.int (cmpI (u * d2) (u2 * d)))] [] 0 0 n (mh h0 m A3) := by
      intro A3 d9 d10 fr3 hpos
      rw [ep]
      have e2 : tN (nI (tN p)) = tN p := by rw [← ep]
      refine aw_aload_n (i := 0) dX8_work_300 rfl rfl ?_
      refine aw_iload_n (i := 2) dX8_work_301 rfl rfl ?_
      refine aw_invokevirtual kX8_214 dX8_work_302 (by rw [mh_0]; exact B.1) (ct_X8_give n h0 m A3 bo (tN p) _ _ hp B.ob B.2.1 d9 d10 hpos) rfl rfl (Nat.le_of_ble_eq_true rfl) ⟨Nat.le_of_ble_eq_true rfl, Nat.le_of_ble_eq_true rfl⟩ ⟨Nat.le_of_ble_eq_true rfl, Nat.le_of_ble_eq_true rfl⟩ ?_
      rintro r' _ h' ⟨rfl, hg⟩
      have hOK := gave_rep (n := n) (h := mh h0 m A) B hA hp fr3 (fun y hy => (mh_fr hy).symm) hg
      obtain ⟨-, hr, -⟩ := id hOK
      subst hr
      refine aw_ireturn dX8_work_305 rfl rfl (Nat.le_of_ble_eq_true rfl) (Nat.le_of_ble_eq_true rfl) ?_
      exact hQ _ _ _ hOK
    refine aw_istore_5 dX8_work_104 (by decide) rfl ?_
    refine aw_iload_n (i := 1) dX8_work_106 rfl rfl ?_
    by_cases a0 : tN a = 0
    · refine aw_tableIn (off := 25) (tgt := 132) dX8_work_107 (by omega) (by omega) (by rw [show a.toInt = 0 by omega]; rfl) (by decide) ?_
      refine aw_aload_n (i := 0) dX8_work_132 rfl rfl ?_
      refine aw_getfield fX8_38 dX8_work_133 (by rw [mh_0]; exact B.1) rfl ?_
      refine aw_aload_n (i := 0) dX8_work_136 rfl rfl ?_
      refine aw_getfield fX8_44 dX8_work_137 (by rw [mh_0]; exact B.1) rfl ?_
      refine aw_aload_n (i := 0) dX8_work_140 rfl rfl ?_
      refine aw_getfield fX8_50 dX8_work_141 (by rw [mh_0]; exact B.1) rfl ?_
      refine aw_invokestatic kX8_174 dX8_work_144 (mc_times n h0 m A2 10 12 14 d d2 48 48 rfl rfl rfl rfl rfl rfl (by decide) (by decide) e12 e14 (lt48 i1.2.2) (lt48 i2.2.2) (by decide)) rfl rfl (Nat.le_of_ble_eq_true rfl) ⟨Nat.le_of_ble_eq_true rfl, Nat.le_of_ble_eq_true rfl⟩ ⟨Nat.le_of_ble_eq_true rfl, Nat.le_of_ble_eq_true rfl⟩ ?_
      rintro _ _ _ ⟨rfl, rfl, A3, rfl, d3, f3⟩
      refine aw_aload_n (i := 0) dX8_work_147 rfl rfl ?_
      refine aw_getfield fX8_35 dX8_work_148 (by rw [mh_0]; exact B.1) rfl ?_
      refine aw_aload_n (i := 0) dX8_work_151 rfl rfl ?_
      refine aw_getfield fX8_53 dX8_work_152 (by rw [mh_0]; exact B.1) rfl ?_
      refine aw_invokestatic kX8_128 dX8_work_155 (mc_copy n h0 m A3 9 15 _ rfl rfl rfl rfl (by decide) (by rw [f3 15 (by decide)]; exact d15)) rfl rfl (Nat.le_of_ble_eq_true rfl) ⟨Nat.le_of_ble_eq_true rfl, Nat.le_of_ble_eq_true rfl⟩ ⟨Nat.le_of_ble_eq_true rfl, Nat.le_of_ble_eq_true rfl⟩ ?_
      rintro _ _ _ ⟨rfl, rfl, A4, rfl, d4, f4⟩
      refine aw_aload_n (i := 0) dX8_work_158 rfl rfl ?_
      refine aw_getfield fX8_35 dX8_work_159 (by rw [mh_0]; exact B.1) rfl ?_
      refine aw_aload_n (i := 0) dX8_work_162 rfl rfl ?_
      refine aw_getfield fX8_56 dX8_work_163 (by rw [mh_0]; exact B.1) rfl ?_
      refine aw_invokestatic kX8_191 dX8_work_166 (mc_plus n h0 m A4 9 16 _ _ rfl rfl rfl rfl (by decide) d4 (by rw [f4 16 (by decide), f3 16 (by decide)]; exact d16) (by omega)) rfl rfl (Nat.le_of_ble_eq_true rfl) ⟨Nat.le_of_ble_eq_true rfl, Nat.le_of_ble_eq_true rfl⟩ ⟨Nat.le_of_ble_eq_true rfl, Nat.le_of_ble_eq_true rfl⟩ ?_
      rintro _ _ _ ⟨rfl, rfl, A5, rfl, d5, f5⟩
      refine aw_goto (tgt := 300) dX8_work_169 (by decide) ?_
      refine fin A5 ?_ ?_ (fun k hk => by rw [f5 k (by omega), f4 k (by omega), f3 k (by omega)]; exact fr2 k hk) ?_
      · unfold wrkA; rw [if_pos a0]; exact d5
      · unfold wrkB; rw [if_pos (Or.inl a0), f5 10 (by decide), f4 10 (by decide)]; exact d3
      · unfold wrkB; rw [if_pos (Or.inl a0)]; exact Nat.mul_pos i1.1 i2.1
    by_cases a1 : tN a = 1
    · refine aw_tableIn (off := 65) (tgt := 172) dX8_work_107 (by omega) (by omega) (by rw [show a.toInt = 1 by omega]; rfl) (by decide) ?_
      refine aw_aload_n (i := 0) dX8_work_172 rfl rfl ?_
      refine aw_getfield fX8_35 dX8_work_173 (by rw [mh_0]; exact B.1) rfl ?_
      refine aw_aload_n (i := 0) dX8_work_176 rfl rfl ?_
      refine aw_getfield fX8_41 dX8_work_177 (by rw [mh_0]; exact B.1) rfl ?_
      refine aw_aload_n (i := 0) dX8_work_180 rfl rfl ?_
      refine aw_getfield fX8_47 dX8_work_181 (by rw [mh_0]; exact B.1) rfl ?_
      refine aw_invokestatic kX8_174 dX8_work_184 (mc_times n h0 m A2 9 11 13 u u2 48 48 rfl rfl rfl rfl rfl rfl (by decide) (by decide) e11 e13 (lt48 i1.2.1) (lt48 i2.2.1) (by decide)) rfl rfl (Nat.le_of_ble_eq_true rfl) ⟨Nat.le_of_ble_eq_true rfl, Nat.le_of_ble_eq_true rfl⟩ ⟨Nat.le_of_ble_eq_true rfl, Nat.le_of_ble_eq_true rfl⟩ ?_
      rintro _ _ _ ⟨rfl, rfl, A3, rfl, d3, f3⟩
      refine aw_aload_n (i := 0) dX8_work_187 rfl rfl ?_
      refine aw_getfield fX8_38 dX8_work_188 (by rw [mh_0]; exact B.1) rfl ?_
      refine aw_aload_n (i := 0) dX8_work_191 rfl rfl ?_
      refine aw_getfield fX8_44 dX8_work_192 (by rw [mh_0]; exact B.1) rfl ?_
      refine aw_aload_n (i := 0) dX8_work_195 rfl rfl ?_
      refine aw_getfield fX8_50 dX8_work_196 (by rw [mh_0]; exact B.1) rfl ?_
      refine aw_invokestatic kX8_174 dX8_work_199 (mc_times n h0 m A3 10 12 14 d d2 48 48 rfl rfl rfl rfl rfl rfl (by decide) (by decide) (by rw [f3 12 (by decide)]; exact e12) (by rw [f3 14 (by decide)]; exact e14) (lt48 i1.2.2) (lt48 i2.2.2) (by decide)) rfl rfl (Nat.le_of_ble_eq_true rfl) ⟨Nat.le_of_ble_eq_true rfl, Nat.le_of_ble_eq_true rfl⟩ ⟨Nat.le_of_ble_eq_true rfl, Nat.le_of_ble_eq_true rfl⟩ ?_
      rintro _ _ _ ⟨rfl, rfl, A4, rfl, d4, f4⟩
      refine aw_goto (tgt := 300) dX8_work_202 (by decide) ?_
      refine fin A4 ?_ ?_ (fun k hk => by rw [f4 k (by omega), f3 k (by omega)]; exact fr2 k hk) ?_
      · unfold wrkA; rw [if_neg a0, if_pos a1, f4 9 (by decide)]; exact d3
      · unfold wrkB; rw [if_pos (Or.inr a1)]; exact d4
      · unfold wrkB; rw [if_pos (Or.inr a1)]; exact Nat.mul_pos i1.1 i2.1
    by_cases a2 : tN a = 2
    · refine aw_tableIn (off := 98) (tgt := 205) dX8_work_107 (by omega) (by omega) (by rw [show a.toInt = 2 by omega]; rfl) (by decide) ?_
      by_cases hc : u * d2 < u2 * d
      · refine aw_aload_n (i := 0) dX8_work_205 rfl rfl ?_
        refine aw_getfield fX8_35 dX8_work_206 (by rw [mh_0]; exact B.1) rfl ?_
        refine aw_iload dX8_work_209 rfl ?_
        refine aw_if_ge (tgt := 221) dX8_work_211 (by decide) (fun c => absurd c (fun q => by have := cmp_ge0.mp q; omega)) (fun _ => ?_)
        refine aw_aload_n (i := 0) dX8_work_214 rfl rfl ?_
        refine aw_getfield fX8_41 dX8_work_215 (by rw [mh_0]; exact B.1) rfl ?_
        refine aw_goto (tgt := 225) dX8_work_218 (by decide) ?_
        refine aw_invokestatic kX8_128 dX8_work_225 (mc_copy n h0 m A2 9 11 _ rfl rfl rfl rfl (by decide) e11) rfl rfl (Nat.le_of_ble_eq_true rfl) ⟨Nat.le_of_ble_eq_true rfl, Nat.le_of_ble_eq_true rfl⟩ ⟨Nat.le_of_ble_eq_true rfl, Nat.le_of_ble_eq_true rfl⟩ ?_
        rintro _ _ _ ⟨rfl, rfl, A3, rfl, d3, f3⟩
        refine aw_aload_n (i := 0) dX8_work_228 rfl rfl ?_
        refine aw_getfield fX8_38 dX8_work_229 (by rw [mh_0]; exact B.1) rfl ?_
        refine aw_iload dX8_work_232 rfl ?_
        refine aw_if_ge (tgt := 244) dX8_work_234 (by decide) (fun c => absurd c (fun q => by have := cmp_ge0.mp q; omega)) (fun _ => ?_)
        refine aw_aload_n (i := 0) dX8_work_237 rfl rfl ?_
        refine aw_getfield fX8_44 dX8_work_238 (by rw [mh_0]; exact B.1) rfl ?_
        refine aw_goto (tgt := 248) dX8_work_241 (by decide) ?_
        refine aw_invokestatic kX8_128 dX8_work_248 (mc_copy n h0 m A3 10 12 _ rfl rfl rfl rfl (by decide) (by rw [f3 12 (by decide)]; exact e12)) rfl rfl (Nat.le_of_ble_eq_true rfl) ⟨Nat.le_of_ble_eq_true rfl, Nat.le_of_ble_eq_true rfl⟩ ⟨Nat.le_of_ble_eq_true rfl, Nat.le_of_ble_eq_true rfl⟩ ?_
        rintro _ _ _ ⟨rfl, rfl, A4, rfl, d4, f4⟩
        refine aw_goto (tgt := 300) dX8_work_251 (by decide) ?_
        refine fin A4 ?_ ?_ (fun k hk => by rw [f4 k (by omega), f3 k (by omega)]; exact fr2 k hk) ?_
        · unfold wrkA; rw [if_neg a0, if_neg a1, if_pos a2, if_pos hc, f4 9 (by decide)]; exact d3
        · unfold wrkB; rw [if_neg (fun q => q.elim a0 a1), if_pos a2, if_pos hc]; exact d4
        · unfold wrkB; rw [if_neg (fun q => q.elim a0 a1), if_pos a2, if_pos hc]; exact i1.1
      · refine aw_aload_n (i := 0) dX8_work_205 rfl rfl ?_
        refine aw_getfield fX8_35 dX8_work_206 (by rw [mh_0]; exact B.1) rfl ?_
        refine aw_iload dX8_work_209 rfl ?_
        refine aw_if_ge (tgt := 221) dX8_work_211 (by decide) (fun _ => ?_) (fun c => (c (cmp_ge0.mpr (by omega))).elim)
        refine aw_aload_n (i := 0) dX8_work_221 rfl rfl ?_
        refine aw_getfield fX8_47 dX8_work_222 (by rw [mh_0]; exact B.1) rfl ?_
        refine aw_invokestatic kX8_128 dX8_work_225 (mc_copy n h0 m A2 9 13 _ rfl rfl rfl rfl (by decide) e13) rfl rfl (Nat.le_of_ble_eq_true rfl) ⟨Nat.le_of_ble_eq_true rfl, Nat.le_of_ble_eq_true rfl⟩ ⟨Nat.le_of_ble_eq_true rfl, Nat.le_of_ble_eq_true rfl⟩ ?_
        rintro _ _ _ ⟨rfl, rfl, A3, rfl, d3, f3⟩
        refine aw_aload_n (i := 0) dX8_work_228 rfl rfl ?_
        refine aw_getfield fX8_38 dX8_work_229 (by rw [mh_0]; exact B.1) rfl ?_
        refine aw_iload dX8_work_232 rfl ?_
        refine aw_if_ge (tgt := 244) dX8_work_234 (by decide) (fun _ => ?_) (fun c => (c (cmp_ge0.mpr (by omega))).elim)
        refine aw_aload_n (i := 0) dX8_work_244 rfl rfl ?_
        refine aw_getfield fX8_50 dX8_work_245 (by rw [mh_0]; exact B.1) rfl ?_
        refine aw_invokestatic kX8_128 dX8_work_248 (mc_copy n h0 m A3 10 14 _ rfl rfl rfl rfl (by decide) (by rw [f3 14 (by decide)]; exact e14)) rfl rfl (Nat.le_of_ble_eq_true rfl) ⟨Nat.le_of_ble_eq_true rfl, Nat.le_of_ble_eq_true rfl⟩ ⟨Nat.le_of_ble_eq_true rfl, Nat.le_of_ble_eq_true rfl⟩ ?_
        rintro _ _ _ ⟨rfl, rfl, A4, rfl, d4, f4⟩
        refine aw_goto (tgt := 300) dX8_work_251 (by decide) ?_
        refine fin A4 ?_ ?_ (fun k hk => by rw [f4 k (by omega), f3 k (by omega)]; exact fr2 k hk) ?_
        · unfold wrkA; rw [if_neg a0, if_neg a1, if_pos a2, if_neg hc, f4 9 (by decide)]; exact d3
        · unfold wrkB; rw [if_neg (fun q => q.elim a0 a1), if_pos a2, if_neg hc]; exact d4
        · unfold wrkB; rw [if_neg (fun q => q.elim a0 a1), if_pos a2, if_neg hc]; exact i2.1
    · have a3 : tN a = 3 := by omega
      obtain ⟨rfl, rfl⟩ := i3 a3
      refine aw_tableOut (tgt := 254) dX8_work_107 (Or.inr (by omega)) (by decide) ?_
      refine aw_aload_n (i := 0) dX8_work_254 rfl rfl ?_
      refine aw_getfield fX8_35 dX8_work_255 (by rw [mh_0]; exact B.1) rfl ?_
      refine aw_lconst (v := 0) dX8_work_258 (by decide) ?_
      refine aw_invokestatic kX8_124 dX8_work_259 (mc_become n h0 m A2 9 0 rfl rfl (by decide)) rfl rfl (Nat.le_of_ble_eq_true rfl) ⟨Nat.le_of_ble_eq_true rfl, Nat.le_of_ble_eq_true rfl⟩ ⟨Nat.le_of_ble_eq_true rfl, Nat.le_of_ble_eq_true rfl⟩ ?_
      rintro _ _ _ ⟨rfl, rfl, A3, rfl, d3, f3⟩
      refine aw_aload_n (i := 0) dX8_work_262 rfl rfl ?_
      refine aw_getfield fX8_38 dX8_work_263 (by rw [mh_0]; exact B.1) rfl ?_
      refine aw_aload_n (i := 0) dX8_work_266 rfl rfl ?_
      refine aw_getfield fX8_44 dX8_work_267 (by rw [mh_0]; exact B.1) rfl ?_
      refine aw_invokestatic kX8_128 dX8_work_270 (mc_copy n h0 m A3 10 12 _ rfl rfl rfl rfl (by decide) (by rw [f3 12 (by decide)]; exact e12)) rfl rfl (Nat.le_of_ble_eq_true rfl) ⟨Nat.le_of_ble_eq_true rfl, Nat.le_of_ble_eq_true rfl⟩ ⟨Nat.le_of_ble_eq_true rfl, Nat.le_of_ble_eq_true rfl⟩ ?_
      rintro _ _ _ ⟨rfl, rfl, A4, rfl, d4, f4⟩
      have eB : wrkB (tN a) u d 1 1 = d := by unfold wrkB; rw [if_neg (fun q => q.elim a0 a1), if_neg a2]
      by_cases hc : u < d
      · have eA : wrkA (tN a) u d 1 1 = d - u := by unfold wrkA; rw [if_neg a0, if_neg a1, if_neg a2, if_pos hc]
        refine aw_iload dX8_work_273 rfl ?_
        refine aw_if_ge (tgt := 300) dX8_work_275 (by decide) (fun c => absurd c (fun q => by have := cmp_ge0.mp q; omega)) (fun _ => ?_)
        refine aw_aload_n (i := 0) dX8_work_278 rfl rfl ?_
        refine aw_getfield fX8_35 dX8_work_279 (by rw [mh_0]; exact B.1) rfl ?_
        refine aw_aload_n (i := 0) dX8_work_282 rfl rfl ?_
        refine aw_getfield fX8_44 dX8_work_283 (by rw [mh_0]; exact B.1) rfl ?_
        refine aw_invokestatic kX8_128 dX8_work_286 (mc_copy n h0 m A4 9 12 _ rfl rfl rfl rfl (by decide) (by rw [f4 12 (by decide), f3 12 (by decide)]; exact e12)) rfl rfl (Nat.le_of_ble_eq_true rfl) ⟨Nat.le_of_ble_eq_true rfl, Nat.le_of_ble_eq_true rfl⟩ ⟨Nat.le_of_ble_eq_true rfl, Nat.le_of_ble_eq_true rfl⟩ ?_
        rintro _ _ _ ⟨rfl, rfl, A5, rfl, d5, f5⟩
        refine aw_aload_n (i := 0) dX8_work_289 rfl rfl ?_
        refine aw_getfield fX8_35 dX8_work_290 (by rw [mh_0]; exact B.1) rfl ?_
        refine aw_aload_n (i := 0) dX8_work_293 rfl rfl ?_
        refine aw_getfield fX8_41 dX8_work_294 (by rw [mh_0]; exact B.1) rfl ?_
        refine aw_invokestatic kX8_140 dX8_work_297 (mc_minus n h0 m A5 9 11 _ _ rfl rfl rfl rfl (by decide) d5 (by rw [f5 11 (by decide), f4 11 (by decide), f3 11 (by decide)]; exact e11) (by omega)) rfl rfl (Nat.le_of_ble_eq_true rfl) ⟨Nat.le_of_ble_eq_true rfl, Nat.le_of_ble_eq_true rfl⟩ ⟨Nat.le_of_ble_eq_true rfl, Nat.le_of_ble_eq_true rfl⟩ ?_
        rintro _ _ _ ⟨rfl, rfl, A6, rfl, d6, f6⟩
        exact fin A6 (by rw [eA]; exact d6) (by rw [eB, f6 10 (by decide), f5 10 (by decide)]; exact d4) (fun k hk => by rw [f6 k (by omega), f5 k (by omega), f4 k (by omega), f3 k (by omega)]; exact fr2 k hk) (by rw [eB]; exact i1.1)
      · have eA : wrkA (tN a) u d 1 1 = 0 := by unfold wrkA; rw [if_neg a0, if_neg a1, if_neg a2, if_neg hc]
        refine aw_iload dX8_work_273 rfl ?_
        refine aw_if_ge (tgt := 300) dX8_work_275 (by decide) (fun _ => ?_) (fun c => (c (cmp_ge0.mpr (by omega))).elim)
        exact fin A4 (by rw [eA, f4 9 (by decide)]; exact d3) (by rw [eB]; exact d4) (fun k hk => by rw [f4 k (by omega), f3 k (by omega)]; exact fr2 k hk) (by rw [eB]; exact i1.1)
  have nothing : opWork S a p q r = (-2, S) → AW mX8_work (gq 0 0 Q) 62 [some (.ref m), some (.int a), some (.int p), some (.int q), some (.int r), none] [] 0 0 n (mh h0 m A) := by
    intro ho
    refine aw_bipush (v := (-2)) dX8_work_62 (by decide +kernel) ?_
    refine aw_ireturn dX8_work_64 rfl rfl (Nat.le_of_ble_eq_true rfl) (Nat.le_of_ble_eq_true rfl) ?_
    exact hQ _ _ _ (by rw [ho]; exact ⟨rfl, rfl, hR, mfr_rf⟩)
  have qT : q.toInt = ((tN q : Nat) : Int) := by rw [eq, nI_toInt (by omega)]; congr 1; rw [← eq]
  -- left is taken
  have left : ∀ (u d : Nat), sP S (tN q) = some (u, d) → (∀ A1 : Nat → Nat → Nat, dg (A1 11) u → dg (A1 12) d → (∀ k, k ≠ 11 → k ≠ 12 → A1 k = A k) → AW mX8_work (gq 0 0 Q) 70 [some (.ref m), some (.int a), some (.int p), some (.int q), some (.int r), none] [] 0 0 n (mh h0 m A1)) → AW mX8_work (gq 0 0 Q) 65 [some (.ref m), some (.int a), some (.int p), some (.int q), some (.int r), none] [] 0 0 n (mh h0 m A) := by
    intro u d o1 hk
    obtain ⟨b1, m1, m2⟩ := plc_some l2 o1
    rw [eq]
    have e2 : tN (nI (tN q)) = tN q := by rw [← eq]
    refine aw_aload_n (i := 0) dX8_work_65 rfl rfl ?_
    refine aw_iload_n (i := 3) dX8_work_66 rfl rfl ?_
    refine aw_invokevirtual kX8_246 dX8_work_67 (by rw [mh_0]; exact B.1) (ct_X8_takeLeft n h0 m A (tN q) u d hq B.ob m1 m2) rfl rfl (Nat.le_of_ble_eq_true rfl) ⟨Nat.le_of_ble_eq_true rfl, Nat.le_of_ble_eq_true rfl⟩ ⟨Nat.le_of_ble_eq_true rfl, Nat.le_of_ble_eq_true rfl⟩ ?_
    rintro _ _ _ ⟨rfl, rfl, A1, rfl, d11, d12, f1⟩
    rw [show nI (tN q) = q from eq.symm]
    exact hk A1 d11 d12 f1
  by_cases a3 : tN a = 3
  · have aT : a.toInt = 3 := by omega
    have hop : opWork S a p q r = (match sP S (tN q), (some (1, 1) : Option (Nat × Nat)) with
      | some (u, d), some (u2, d2) => putP S (tN p) (wrkA (tN a) u d u2 d2) (wrkB (tN a) u d u2 d2)
      | _, _ => (-2, S)) := by unfold opWork; rw [h0a, h1, h2]; simp [aT]; rfl
    refine aw_icmp_ge (tgt := 38) dX8_work_25 (by decide) (fun _ => ?_) (fun c => (c (by rw [ea, a3]; decide)).elim)
    refine aw_aload_n (i := 0) dX8_work_38 rfl rfl ?_
    refine aw_getfield fX8_31 dX8_work_39 (by rw [mh_0]; exact B.1) rfl ?_
    refine aw_iload_n (i := 3) dX8_work_42 rfl rfl ?_
    refine aw_bald dX8_work_43 (tN q) hbC qT hq ?_
    rcases sP_cases (sP S (tN q)) with o1 | ⟨u, d, o1⟩
    · refine aw_if_eq (tgt := 62) dX8_work_44 (by decide) (fun _ => ?_) (fun c => (c (by rw [plc_none l2 o1]; rfl)).elim)
      exact nothing (by rw [hop, o1])
    have i1 := hI.2.2.1 (tN q) u d o1
    refine aw_if_eq (tgt := 62) dX8_work_44 (by decide) (fun c => absurd c (by rw [(plc_some l2 o1).1]; decide)) (fun _ => ?_)
    refine aw_iload_n (i := 1) dX8_work_47 rfl rfl ?_
    refine aw_iconst (v := 3) dX8_work_48 (by decide +kernel) ?_
    refine aw_icmp_ge (tgt := 65) dX8_work_49 (by decide) (fun _ => ?_) (fun c => (c (by rw [ea, a3]; decide)).elim)
    refine left u d o1 (fun A1 d11 d12 f1 => ?_)
    refine aw_iload_n (i := 1) dX8_work_70 rfl rfl ?_
    refine aw_iconst (v := 3) dX8_work_71 (by decide +kernel) ?_
    refine aw_icmp_ne (tgt := 94) dX8_work_72 (by decide) (fun c => absurd c (fun c => c (by rw [ea, a3]; rfl))) (fun _ => ?_)
    refine aw_aload_n (i := 0) dX8_work_75 rfl rfl ?_
    refine aw_getfield fX8_47 dX8_work_76 (by rw [mh_0]; exact B.1) rfl ?_
    refine aw_lconst (v := 1) dX8_work_79 (by decide) ?_
    refine aw_invokestatic kX8_124 dX8_work_80 (mc_become n h0 m A1 13 1 rfl rfl (by decide)) rfl rfl (Nat.le_of_ble_eq_true rfl) ⟨Nat.le_of_ble_eq_true rfl, Nat.le_of_ble_eq_true rfl⟩ ⟨Nat.le_of_ble_eq_true rfl, Nat.le_of_ble_eq_true rfl⟩ ?_
    rintro _ _ _ ⟨rfl, rfl, A2, rfl, d13, f2⟩
    refine aw_aload_n (i := 0) dX8_work_83 rfl rfl ?_
    refine aw_getfield fX8_50 dX8_work_84 (by rw [mh_0]; exact B.1) rfl ?_
    refine aw_lconst (v := 1) dX8_work_87 (by decide) ?_
    refine aw_invokestatic kX8_124 dX8_work_88 (mc_become n h0 m A2 14 1 rfl rfl (by decide)) rfl rfl (Nat.le_of_ble_eq_true rfl) ⟨Nat.le_of_ble_eq_true rfl, Nat.le_of_ble_eq_true rfl⟩ ⟨Nat.le_of_ble_eq_true rfl, Nat.le_of_ble_eq_true rfl⟩ ?_
    rintro _ _ _ ⟨rfl, rfl, A3, rfl, d14, f3⟩
    refine aw_goto (tgt := 100) dX8_work_91 (by decide) ?_
    refine main u d 1 1 A3 ⟨i1.1, i1.2.2.1, i1.2.2.2⟩ ⟨by decide, Nat.one_lt_two_pow (by decide), Nat.one_lt_two_pow (by decide)⟩ (fun _ => ⟨rfl, rfl⟩) (by rw [hop, o1]) ?_ ?_ ?_ d14 (fun k hk => by rw [f3 k (by omega), f2 k (by omega), f1 k (by omega) (by omega)])
    · rw [f3 11 (by decide), f2 11 (by decide)]; exact d11
    · rw [f3 12 (by decide), f2 12 (by decide)]; exact d12
    · rw [f3 13 (by decide)]; exact d13
  · have aT : ¬ a.toInt = 3 := by omega
    have alt : ¬ (3 : Int32) ≤ a := by rw [Int32.le_iff_toInt_le, toInt_3]; omega
    refine aw_icmp_ge (tgt := 38) dX8_work_25 (by decide) (fun c => absurd c alt) (fun _ => ?_)
    refine aw_iload dX8_work_28 rfl ?_
    refine aw_invokestatic kX8_211 dX8_work_30 (ct_isP n (mh h0 m A) r) rfl rfl (Nat.le_of_ble_eq_true rfl) ⟨Nat.le_of_ble_eq_true rfl, Nat.le_of_ble_eq_true rfl⟩ ⟨Nat.le_of_ble_eq_true rfl, Nat.le_of_ble_eq_true rfl⟩ ?_
    rintro _ _ _ ⟨rfl, rfl, rfl⟩
    by_cases h3 : isP r = true
    case neg =>
      refine aw_if_ne (tgt := 38) dX8_work_33 (by decide) (fun c => absurd c (fun c => c (bI_eq0.mpr (by simpa using h3)))) (fun _ => ?_)
      exact bad (by simp [h3, aT])
    obtain ⟨er, hr⟩ := isP_N h3
    have l3 := hA.2 _ hr
    have rT : r.toInt = ((tN r : Nat) : Int) := by rw [er, nI_toInt (by omega)]; congr 1; rw [← er]
    have hop : opWork S a p q r = (match sP S (tN q), sP S (tN r) with
      | some (u, d), some (u2, d2) => putP S (tN p) (wrkA (tN a) u d u2 d2) (wrkB (tN a) u d u2 d2)
      | _, _ => (-2, S)) := by unfold opWork; rw [h0a, h1, h2, h3]; simp [aT]; rfl
    refine aw_if_ne (tgt := 38) dX8_work_33 (by decide) (fun _ => ?_) (fun c => ((bI_ne0.mpr h3) c).elim)
    refine aw_aload_n (i := 0) dX8_work_38 rfl rfl ?_
    refine aw_getfield fX8_31 dX8_work_39 (by rw [mh_0]; exact B.1) rfl ?_
    refine aw_iload_n (i := 3) dX8_work_42 rfl rfl ?_
    refine aw_bald dX8_work_43 (tN q) hbC qT hq ?_
    rcases sP_cases (sP S (tN q)) with o1 | ⟨u, d, o1⟩
    · refine aw_if_eq (tgt := 62) dX8_work_44 (by decide) (fun _ => ?_) (fun c => (c (by rw [plc_none l2 o1]; rfl)).elim)
      exact nothing (by rw [hop, o1])
    have i1 := hI.2.2.1 (tN q) u d o1
    refine aw_if_eq (tgt := 62) dX8_work_44 (by decide) (fun c => absurd c (by rw [(plc_some l2 o1).1]; decide)) (fun _ => ?_)
    refine aw_iload_n (i := 1) dX8_work_47 rfl rfl ?_
    refine aw_iconst (v := 3) dX8_work_48 (by decide +kernel) ?_
    refine aw_icmp_ge (tgt := 65) dX8_work_49 (by decide) (fun c => absurd c alt) (fun _ => ?_)
    refine aw_aload_n (i := 0) dX8_work_52 rfl rfl ?_
    refine aw_getfield fX8_31 dX8_work_53 (by rw [mh_0]; exact B.1) rfl ?_
    refine aw_iload dX8_work_56 rfl ?_
    refine aw_bald dX8_work_58 (tN r) hbC rT hr ?_
    rcases sP_cases (sP S (tN r)) with o2 | ⟨u2, d2, o2⟩
    · refine aw_if_ne (tgt := 65) dX8_work_59 (by decide) (fun c => absurd c (fun c => c (by rw [plc_none l3 o2]; rfl))) (fun _ => ?_)
      exact nothing (by rw [hop, o1, o2])
    have i2 := hI.2.2.1 (tN r) u2 d2 o2
    obtain ⟨b2, m3, m4⟩ := plc_some l3 o2
    refine aw_if_ne (tgt := 65) dX8_work_59 (by decide) (fun _ => ?_) (fun c => ((show ¬ nI (bo (tN r)) = 0 by rw [b2]; decide) c).elim)
    refine left u d o1 (fun A1 d11 d12 f1 => ?_)
    refine aw_iload_n (i := 1) dX8_work_70 rfl rfl ?_
    refine aw_iconst (v := 3) dX8_work_71 (by decide +kernel) ?_
    refine aw_icmp_ne (tgt := 94) dX8_work_72 (by decide) (fun _ => ?_) (fun c => ((fun (c : a = 3) => (aT (by rw [c]; decide +kernel) : False)) c).elim)
    refine aw_aload_n (i := 0) dX8_work_94 rfl rfl ?_
    refine aw_iload dX8_work_95 rfl ?_
    rw [er]
    have e2 : tN (nI (tN r)) = tN r := by rw [← er]
    refine aw_invokevirtual kX8_249 dX8_work_97 (by rw [mh_0]; exact B.1) (ct_X8_takeRight n h0 m A1 (tN r) u2 d2 hr B.ob (by rw [f1 6 (by decide) (by decide)]; exact m3) (by rw [f1 7 (by decide) (by decide)]; exact m4)) rfl rfl (Nat.le_of_ble_eq_true rfl) ⟨Nat.le_of_ble_eq_true rfl, Nat.le_of_ble_eq_true rfl⟩ ⟨Nat.le_of_ble_eq_true rfl, Nat.le_of_ble_eq_true rfl⟩ ?_
    rintro _ _ _ ⟨rfl, rfl, A2, rfl, d13, d14, f2⟩
    rw [show nI (tN r) = r from er.symm]
    exact main u d u2 d2 A2 ⟨i1.1, i1.2.2.1, i1.2.2.2⟩ ⟨i2.1, i2.2.2.1, i2.2.2.2⟩ (fun q => absurd q a3) (by rw [hop, o1, o2]) (by rw [f2 11 (by decide) (by decide)]; exact d11) (by rw [f2 12 (by decide) (by decide)]; exact d12) d13 d14 (fun k hk => by rw [f2 k (by omega) (by omega), f1 k (by omega) (by omega)])
