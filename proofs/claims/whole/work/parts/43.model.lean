theorem ite_lt2 {c : Prop} [Decidable c] {u d N : Nat} (h1 : u < N) (h2 : d < N) : (if c then u else d) < N := by split <;> assumption
/-- what 'asks' answers: below 0, or how many parts of 32 bits; then row 22 holds the number -/
def askR (S : TS) (p part : Int32) : Int32 := (opLimbs S p part).1
theorem ct_X8_asks (n : Nat) (h0 : Hp) (m : Nat) (A : Nat → Nat → Nat) (S : TS) (bo ki mo wt : Nat → Nat) (p part : Int32) (B : MB h0 m S bo ki mo wt) (hA : MA A S bo) (hI : SInv S) : CT mX8_asks 0 0 n (mh h0 m A) [.ref m, .int p, .int part] (fun r n' h' => n = n' ∧ r = some (.int (askR S p part)) ∧ ∃ A', h' = mh h0 m A' ∧ (∀ k, k = 6 ∨ k = 7 ∨ k = 19 ∨ k = 20 → A' k = A k) ∧ ∀ u d, (isP p && rg part 0 1) = true → sP S (tN p) = some (u, d) → dg (A' 22) (if tN part = 0 then u else d)) := by
  refine CT.intro [some (.ref m), some (.int p), some (.int part)] 0 rfl rfl (by decide) ?_
  intro Q hQ
  have bad : (isP p && rg part 0 1) = false → AW mX8_asks (gq 0 0 Q) 16 [some (.ref m), some (.int p), some (.int part)] [] 0 0 n (mh h0 m A) := by
    intro hb
    refine aw_iconst (v := (-1)) dX8_asks_16 (by decide +kernel) ?_
    refine aw_ireturn dX8_asks_17 rfl rfl (Nat.le_of_ble_eq_true rfl) (Nat.le_of_ble_eq_true rfl) ?_
    exact hQ _ _ _ ⟨rfl, by unfold askR opLimbs; rw [hb]; rfl, A, rfl, fun _ _ => rfl, fun u d q => by rw [hb] at q; cases q⟩
  refine aw_iload_n (i := 1) dX8_asks_0 rfl rfl ?_
  refine aw_invokestatic kX8_211 dX8_asks_1 (ct_isP n (mh h0 m A) p) rfl rfl (Nat.le_of_ble_eq_true rfl) ⟨Nat.le_of_ble_eq_true rfl, Nat.le_of_ble_eq_true rfl⟩ ⟨Nat.le_of_ble_eq_true rfl, Nat.le_of_ble_eq_true rfl⟩ ?_
  rintro _ _ _ ⟨rfl, rfl, rfl⟩
  by_cases h1 : isP p = true
  case neg =>
    refine aw_if_eq (tgt := 16) dX8_asks_4 (by decide) (fun _ => ?_) (fun c => (c (bI_eq0.mpr (by simpa using h1))).elim)
    exact bad (by simp [h1])
  refine aw_if_eq (tgt := 16) dX8_asks_4 (by decide) (fun c => absurd c (bI_ne0.mpr h1)) (fun _ => ?_)
  refine aw_iload_n (i := 2) dX8_asks_7 rfl rfl ?_
  refine aw_iconst (v := 0) dX8_asks_8 (by decide +kernel) ?_
  refine aw_iconst (v := 1) dX8_asks_9 (by decide +kernel) ?_
  refine aw_invokestatic kX8_153 dX8_asks_10 (ct_in n (mh h0 m A) part 0 1 toInt_lit0 toInt_1) rfl rfl (Nat.le_of_ble_eq_true rfl) ⟨Nat.le_of_ble_eq_true rfl, Nat.le_of_ble_eq_true rfl⟩ ⟨Nat.le_of_ble_eq_true rfl, Nat.le_of_ble_eq_true rfl⟩ ?_
  rintro _ _ _ ⟨rfl, rfl, rfl⟩
  by_cases h2 : rg part 0 1 = true
  case neg =>
    refine aw_if_ne (tgt := 18) dX8_asks_13 (by decide) (fun c => absurd c (fun c => c (bI_eq0.mpr (by simpa using h2)))) (fun _ => ?_)
    exact bad (by simp [h2])
  obtain ⟨ep, hp⟩ := isP_N h1
  obtain ⟨ea, -, -, ha⟩ := rg_N h2 (by decide)
  have hask : ∀ o, sP S (tN p) = o → askR S p part = (match o with | some (u, d) => nI ((nb (if tN part = 0 then u else d) + 31) / 32) | none => -2) := by
    intro o ho
    unfold askR opLimbs
    rw [h1, h2, ho]
    rcases o with _ | ⟨u, d⟩ <;> rfl
  have hboth : (isP p && rg part 0 1) = true := by rw [h1, h2]; rfl
  have hbC : mh h0 m A (m + 8) = some (bar 16 bo) := by rw [mh_no h0 m A rfl]; exact B.2.1
  have l1 := hA.2 _ hp
  have pT : p.toInt = ((tN p : Nat) : Int) := by rw [ep, nI_toInt (by omega)]; congr 1; rw [← ep]
  refine aw_if_ne (tgt := 18) dX8_asks_13 (by decide) (fun _ => ?_) (fun c => ((bI_ne0.mpr h2) c).elim)
  refine aw_aload_n (i := 0) dX8_asks_18 rfl rfl ?_
  refine aw_getfield fX8_31 dX8_asks_19 (by rw [mh_0]; exact B.1) rfl ?_
  refine aw_iload_n (i := 1) dX8_asks_22 rfl rfl ?_
  refine aw_bald dX8_asks_23 (tN p) hbC pT hp ?_
  rcases sP_cases (sP S (tN p)) with o1 | ⟨u, d, o1⟩
  · refine aw_if_ne (tgt := 30) dX8_asks_24 (by decide) (fun c => absurd c (fun c => c (by rw [plc_none l1 o1]; rfl))) (fun _ => ?_)
    refine aw_bipush (v := (-2)) dX8_asks_27 (by decide +kernel) ?_
    refine aw_ireturn dX8_asks_29 rfl rfl (Nat.le_of_ble_eq_true rfl) (Nat.le_of_ble_eq_true rfl) ?_
    exact hQ _ _ _ ⟨rfl, by rw [hask _ o1], A, rfl, fun _ _ => rfl, fun u d _ q => by rw [o1] at q; cases q⟩
  obtain ⟨b1, m1, m2⟩ := plc_some l1 o1
  have i1 := hI.2.2.1 (tN p) u d o1
  have hres := hask _ o1
  dsimp only at hres
  refine aw_if_ne (tgt := 30) dX8_asks_24 (by decide) (fun _ => ?_) (fun c => ((show ¬ nI (bo (tN p)) = 0 by rw [b1]; decide) c).elim)
  refine aw_aload_n (i := 0) dX8_asks_30 rfl rfl ?_
  refine aw_iload_n (i := 1) dX8_asks_31 rfl rfl ?_
  generalize hp' : tN p = p' at *
  rw [ep]
  refine aw_invokevirtual kX8_246 dX8_asks_32 (by rw [mh_0]; exact B.1) (ct_X8_takeLeft n h0 m A p' u d hp B.ob m1 m2) rfl rfl (Nat.le_of_ble_eq_true rfl) ⟨Nat.le_of_ble_eq_true rfl, Nat.le_of_ble_eq_true rfl⟩ ⟨Nat.le_of_ble_eq_true rfl, Nat.le_of_ble_eq_true rfl⟩ ?_
  rintro _ _ _ ⟨rfl, rfl, A1, rfl, d11, d12, f1⟩
  have fin : ∀ (v : Nat) (A2 : Nat → Nat → Nat), v = (if tN part = 0 then u else d) → dg (A2 22) v → (∀ k, k ≠ 11 → k ≠ 12 → k ≠ 22 → A2 k = A k) → AW mX8_asks (gq 0 0 Q) 57 [some (.ref m), some (.int (nI p')), some (.int part)] [] 0 0 n (mh h0 m A2) := by
    intro v A2 hv d22 f2
    have hnb : nb v ≤ 1024 := nb_le.mpr (by rw [hv]; exact ite_lt2 i1.2.2.1 i1.2.2.2)
    refine aw_aload_n (i := 0) dX8_asks_57 rfl rfl ?_
    refine aw_getfield fX8_75 dX8_asks_58 (by rw [mh_0]; exact B.1) rfl ?_
    refine aw_invokestatic kX8_146 dX8_asks_61 (mc_bits n h0 m A2 22 v rfl rfl d22) rfl rfl (Nat.le_of_ble_eq_true rfl) ⟨Nat.le_of_ble_eq_true rfl, Nat.le_of_ble_eq_true rfl⟩ ⟨Nat.le_of_ble_eq_true rfl, Nat.le_of_ble_eq_true rfl⟩ ?_
    rintro _ _ _ ⟨rfl, rfl, rfl⟩
    refine aw_bipush (v := 31) dX8_asks_64 (by decide +kernel) ?_
    refine aw_iadd dX8_asks_66 ?_
    refine aw_bipush (v := 32) dX8_asks_67 (by decide +kernel) ?_
    refine aw_idiv dX8_asks_69 (by decide +kernel) ?_
    rw [show (31 : Int32) = nI 31 from rfl, show (32 : Int32) = nI 32 from rfl, nI_add, pk_div (by omega) (by decide) (by decide)]
    refine aw_ireturn dX8_asks_70 rfl rfl (Nat.le_of_ble_eq_true rfl) (Nat.le_of_ble_eq_true rfl) ?_
    refine hQ _ _ _ ⟨rfl, by rw [hres, hv], A2, rfl, fun k hk => f2 k (by omega) (by omega) (by omega), fun u' d' _ q => ?_⟩
    have e := o1.symm.trans q
    cases e
    rw [← hv]; exact d22
  refine aw_aload_n (i := 0) dX8_asks_35 rfl rfl ?_
  refine aw_getfield fX8_75 dX8_asks_36 (by rw [mh_0]; exact B.1) rfl ?_
  refine aw_iload_n (i := 2) dX8_asks_39 rfl rfl ?_
  by_cases a0 : tN part = 0
  · refine aw_if_ne (tgt := 50) dX8_asks_40 (by decide) (fun c => absurd c (fun c => c (by rw [ea, a0]; rfl))) (fun _ => ?_)
    refine aw_aload_n (i := 0) dX8_asks_43 rfl rfl ?_
    refine aw_getfield fX8_41 dX8_asks_44 (by rw [mh_0]; exact B.1) rfl ?_
    refine aw_goto (tgt := 54) dX8_asks_47 (by decide) ?_
    refine aw_invokestatic kX8_128 dX8_asks_54 (mc_copy n h0 m A1 22 11 _ rfl rfl rfl rfl (by decide) d11) rfl rfl (Nat.le_of_ble_eq_true rfl) ⟨Nat.le_of_ble_eq_true rfl, Nat.le_of_ble_eq_true rfl⟩ ⟨Nat.le_of_ble_eq_true rfl, Nat.le_of_ble_eq_true rfl⟩ ?_
    rintro _ _ _ ⟨rfl, rfl, A2, rfl, d2, f2⟩
    exact fin u A2 (by rw [if_pos a0]) d2 (fun k k1 k2 k3 => by rw [f2 k k3, f1 k k1 k2])
  · refine aw_if_ne (tgt := 50) dX8_asks_40 (by decide) (fun _ => ?_) (fun c => ((fun c => a0 ((nI_eq (b := 0) (by omega) (by decide)).mp (ea ▸ c))) c).elim)
    refine aw_aload_n (i := 0) dX8_asks_50 rfl rfl ?_
    refine aw_getfield fX8_44 dX8_asks_51 (by rw [mh_0]; exact B.1) rfl ?_
    refine aw_invokestatic kX8_128 dX8_asks_54 (mc_copy n h0 m A1 22 12 _ rfl rfl rfl rfl (by decide) d12) rfl rfl (Nat.le_of_ble_eq_true rfl) ⟨Nat.le_of_ble_eq_true rfl, Nat.le_of_ble_eq_true rfl⟩ ⟨Nat.le_of_ble_eq_true rfl, Nat.le_of_ble_eq_true rfl⟩ ?_
    rintro _ _ _ ⟨rfl, rfl, A2, rfl, d2, f2⟩
    exact fin d A2 (by rw [if_neg a0]) d2 (fun k k1 k2 k3 => by rw [f2 k k3, f1 k k1 k2])
theorem opLimbs_st (S : TS) (p part : Int32) : (opLimbs S p part).2 = S := by
  unfold opLimbs
  split
  · rcases sP_cases (sP S (tN p)) with o | ⟨u, d, o⟩ <;> rw [o]
  · rfl
theorem mt_limbs (n : Nat) (h : Hp) (m : Nat) (S : TS) (p part : Int32) (hR : MRep h m S) (hI : SInv S) : CT mX8_limbs 0 0 n h [.ref m, .int p, .int part] (MOK n m h (opLimbs S p part)) := by
  obtain ⟨h0, A, bo, ki, mo, wt, rfl, B, hA⟩ := id hR
  refine CT.intro [some (.ref m), some (.int p), some (.int part)] 0 rfl rfl (by decide) ?_
  intro Q hQ
  refine aw_aload_n (i := 0) dX8_limbs_0 rfl rfl ?_
  refine aw_iload_n (i := 1) dX8_limbs_1 rfl rfl ?_
  refine aw_iload_n (i := 2) dX8_limbs_2 rfl rfl ?_
  refine aw_invokevirtual kX8_256 dX8_limbs_3 (by rw [mh_0]; exact B.1) (ct_X8_asks n h0 m A S bo ki mo wt p part B hA hI) rfl rfl (Nat.le_of_ble_eq_true rfl) ⟨Nat.le_of_ble_eq_true rfl, Nat.le_of_ble_eq_true rfl⟩ ⟨Nat.le_of_ble_eq_true rfl, Nat.le_of_ble_eq_true rfl⟩ ?_
  rintro _ _ _ ⟨rfl, rfl, A1, rfl, f1, -⟩
  refine aw_ireturn dX8_limbs_6 rfl rfl (Nat.le_of_ble_eq_true rfl) (Nat.le_of_ble_eq_true rfl) ?_
  exact hQ _ _ _ ⟨rfl, rfl, by rw [opLimbs_st]; exact ⟨h0, A1, bo, ki, mo, wt, rfl, B, hA.keep (f1 6 (by decide)) (f1 7 (by decide)) (f1 19 (by decide)) (f1 20 (by decide))⟩, mfr_mh (fun _ _ => rfl)⟩
theorem bits_step (x M : Nat) : x / 2 % M * 2 + x % 2 = x % (2 * M) := by
  rw [Nat.mod_mul]; omega
theorem lN_shl1or {x b : Nat} (hb : b ≤ 1) : lN x <<< ((1 : Int32).toInt64 &&& 63) ||| lN b = lN (x * 2 + b) := by
  rw [lN_shl _ 1 (by decide +kernel)]
  have := lN_or (x := b) (c := x) (k := 1) (by omega)
  rw [show x * 2 + b = b + x * 2 ^ 1 by omega, ← this]
  apply Int64.toBitVec.inj
  rw [Int64.toBitVec_or, Int64.toBitVec_or, BitVec.or_comm]
theorem mt_limb (n : Nat) (h : Hp) (m : Nat) (S : TS) (p part i : Int32) (hR : MRep h m S) (hI : SInv S) : CT mX8_limb 0 0 n h [.ref m, .int p, .int part, .int i] (MOKl n m h (opLimb S p part i)) := by
  obtain ⟨h0, A, bo, ki, mo, wt, rfl, B, hA⟩ := id hR
  refine CT.intro [some (.ref m), some (.int p), some (.int part), some (.int i), none, none, none, none] 4 rfl rfl (by decide) ?_
  intro Q hQ
  refine aw_aload_n (i := 0) dX8_limb_0 rfl rfl ?_
  refine aw_iload_n (i := 1) dX8_limb_1 rfl rfl ?_
  refine aw_iload_n (i := 2) dX8_limb_2 rfl rfl ?_
  refine aw_invokevirtual kX8_256 dX8_limb_3 (by rw [mh_0]; exact B.1) (ct_X8_asks n h0 m A S bo ki mo wt p part B hA hI) rfl rfl (Nat.le_of_ble_eq_true rfl) ⟨Nat.le_of_ble_eq_true rfl, Nat.le_of_ble_eq_true rfl⟩ ⟨Nat.le_of_ble_eq_true rfl, Nat.le_of_ble_eq_true rfl⟩ ?_
  rintro _ _ _ ⟨rfl, rfl, A1, rfl, f1, hd⟩
  have hR1 : MRep (mh h0 m A1) m S := ⟨h0, A1, bo, ki, mo, wt, rfl, B, hA.keep (f1 6 (by decide)) (f1 7 (by decide)) (f1 19 (by decide)) (f1 20 (by decide))⟩
  refine aw_istore_4 dX8_limb_6 (by decide) rfl ?_
  refine aw_iload dX8_limb_8 rfl ?_
  have neg : ∀ (c : Int32) (c' : Int64), askR S p part = c → c < 0 → c.toInt64 = c' → opLimb S p part i = (c', S) → AW mX8_limb (gq 0 0 Q) 10 [some (.ref m), some (.int p), some (.int part), some (.int i), some (.int (askR S p part)), none, none, none] [.int (askR S p part)] 0 0 n (mh h0 m A1) := by
    intro c c' h1 h2 h3 h4
    rw [h1]
    refine aw_if_ge (tgt := 17) dX8_limb_10 (by decide) (fun c => absurd c (Int32.not_le.mpr h2)) (fun _ => ?_)
    refine aw_iload dX8_limb_13 rfl ?_
    refine aw_i2l dX8_limb_15 rfl ?_
    refine aw_lreturn dX8_limb_16 rfl (Nat.le_of_ble_eq_true rfl) (Nat.le_of_ble_eq_true rfl) ?_
    exact hQ _ _ _ (by rw [h4, h3]; exact ⟨rfl, rfl, hR1, mfr_mh (fun _ _ => rfl)⟩)
  by_cases hb : (isP p && rg part 0 1) = true
  case neg =>
    exact neg (-1) (-1) (by unfold askR opLimbs; rw [if_neg hb]) (by decide) (by decide +kernel) (by unfold opLimb; rw [if_neg hb])
  rcases sP_cases (sP S (tN p)) with o1 | ⟨u, d, o1⟩
  · exact neg (-2) (-2) (by unfold askR opLimbs; rw [if_pos hb, o1]) (by decide) (by decide +kernel) (by unfold opLimb; rw [if_pos hb, o1])
  have i1 := hI.2.2.1 (tN p) u d o1
  have d22 := hd u d hb o1
  obtain ⟨v, hv⟩ : ∃ v, v = (if tN part = 0 then u else d) := ⟨_, rfl⟩
  have hvl : v < 2 ^ 1024 := by rw [hv]; exact ite_lt2 i1.2.2.1 i1.2.2.2
  have hnb := nb_le.mpr hvl
  rw [← hv] at d22
  have ha : askR S p part = nI ((nb v + 31) / 32) := by unfold askR opLimbs; rw [if_pos hb, o1, hv]
  have hop : opLimb S p part i = (if rg i 0 (((nb v + 31) / 32 : Nat) - 1) then (lN (v / 2 ^ (32 * tN i) % 2 ^ 32), S) else (-5, S)) := by unfold opLimb; rw [if_pos hb, o1, hv]
  rw [ha]
  rw [hop] at hQ
  refine aw_if_ge (tgt := 17) dX8_limb_10 (by decide) (fun _ => ?_) (fun c => (c (nI_pos' (by omega))).elim)
  refine aw_iload_n (i := 3) dX8_limb_17 rfl rfl ?_
  refine aw_iconst (v := 0) dX8_limb_18 (by decide +kernel) ?_
  refine aw_iload dX8_limb_19 rfl ?_
  refine aw_iconst (v := 1) dX8_limb_21 (by decide +kernel) ?_
  refine aw_isub dX8_limb_22 ?_
  rw [pI_m]
  refine aw_invokestatic kX8_153 dX8_limb_23 (ct_in n (mh h0 m A1) i 0 (pI ((nb v + 31) / 32)) toInt_lit0 (pI_T (by omega))) rfl rfl (Nat.le_of_ble_eq_true rfl) ⟨Nat.le_of_ble_eq_true rfl, Nat.le_of_ble_eq_true rfl⟩ ⟨Nat.le_of_ble_eq_true rfl, Nat.le_of_ble_eq_true rfl⟩ ?_
  rintro _ _ _ ⟨rfl, rfl, rfl⟩
  by_cases hi : rg i 0 (((nb v + 31) / 32 : Nat) - 1) = true
  case neg =>
    refine aw_if_ne (tgt := 33) dX8_limb_26 (by decide) (fun c => absurd c (fun c => c (bI_eq0.mpr (by simpa using hi)))) (fun _ => ?_)
    refine aw_ldc2_w qX8_259 dX8_limb_29 ?_
    refine aw_lreturn dX8_limb_32 rfl (Nat.le_of_ble_eq_true rfl) (Nat.le_of_ble_eq_true rfl) ?_
    exact hQ _ _ _ (by rw [if_neg hi]; exact ⟨rfl, rfl, hR1, mfr_mh (fun _ _ => rfl)⟩)
  rw [if_pos hi] at hQ
  obtain ⟨ei, -, -, hi2⟩ := rg_N hi (by decide)
  generalize tN i = I at *
  subst ei
  refine aw_if_ne (tgt := 33) dX8_limb_26 (by decide) (fun _ => ?_) (fun c => ((bI_ne0.mpr hi) c).elim)
  refine aw_lconst (v := 0) dX8_limb_33 (by decide) ?_
  refine aw_lstore_5 dX8_limb_34 (by decide) rfl ?_
  refine aw_bipush (v := 31) dX8_limb_36 (by decide +kernel) ?_
  refine aw_istore_7 dX8_limb_38 (by decide) rfl ?_
  have loop : ∀ c : Nat, c ≤ 32 → AW mX8_limb (gq 0 0 Q) 40 [some (.ref m), some (.int p), some (.int part), some (.int (nI I)), some (.int (nI ((nb v + 31) / 32))), some (.long (lN (v / 2 ^ (32 * I + c) % 2 ^ (32 - c)))), none, some (.int (pI c))] [] 0 0 n (mh h0 m A1) := by
    intro c
    induction c with
    | zero =>
      intro _
      refine aw_iload dX8_limb_40 rfl ?_
      refine aw_if_lt (tgt := 72) dX8_limb_42 (by decide) (fun _ => ?_) (fun c => (c ((pI_lt0 (by decide)).mpr rfl)).elim)
      refine aw_lload dX8_limb_72 rfl ?_
      refine aw_lreturn dX8_limb_74 rfl (Nat.le_of_ble_eq_true rfl) (Nat.le_of_ble_eq_true rfl) ?_
      exact hQ _ _ _ ⟨rfl, rfl, hR1, mfr_mh (fun _ _ => rfl)⟩
    | succ c ih =>
      intro hc
      rw [pI_s]
      refine aw_iload dX8_limb_40 rfl ?_
      refine aw_if_lt (tgt := 72) dX8_limb_42 (by decide) (fun c => absurd c (nI_pos (by omega))) (fun _ => ?_)
      refine aw_lload dX8_limb_45 rfl ?_
      refine aw_iconst (v := 1) dX8_limb_47 (by decide +kernel) ?_
      refine aw_lshl dX8_limb_48 rfl ?_
      refine aw_aload_n (i := 0) dX8_limb_49 rfl rfl ?_
      refine aw_getfield fX8_75 dX8_limb_50 (by rw [mh_0]; exact B.1) rfl ?_
      refine aw_bipush (v := 32) dX8_limb_53 (by decide +kernel) ?_
      refine aw_iload_n (i := 3) dX8_limb_55 rfl rfl ?_
      refine aw_imul dX8_limb_56 ?_
      refine aw_iload dX8_limb_57 rfl ?_
      refine aw_iadd dX8_limb_59 ?_
      rw [show (32 : Int32) = nI 32 from rfl, pk_mul, nI_add]
      refine aw_invokestatic kX8_149 dX8_limb_60 (mc_bitOf n h0 m A1 22 v (32 * I + c) rfl rfl d22 (by omega)) rfl rfl (Nat.le_of_ble_eq_true rfl) ⟨Nat.le_of_ble_eq_true rfl, Nat.le_of_ble_eq_true rfl⟩ ⟨Nat.le_of_ble_eq_true rfl, Nat.le_of_ble_eq_true rfl⟩ ?_
      rintro _ _ _ ⟨rfl, rfl, rfl⟩
      refine aw_lor dX8_limb_63 ?_
      rw [lN_shl1or (by omega)]
      have e1 : v / 2 ^ (32 * I + (c + 1)) = v / 2 ^ (32 * I + c) / 2 := by rw [← Nat.add_assoc, Nat.pow_succ, Nat.div_div_eq_div_mul]
      have e2 : (2 : Nat) ^ (32 - c) = 2 * 2 ^ (32 - (c + 1)) := by rw [← Nat.pow_succ']; congr 1; omega
      rw [e1, bits_step, ← e2]
      refine aw_lstore_5 dX8_limb_64 (by decide) rfl ?_
      refine aw_iinc_7 (c0 := (-1)) dX8_limb_66 (by decide) (by decide) rfl ?_
      refine aw_goto (tgt := 40) dX8_limb_69 (by decide) ?_
      rw [pI_d]
      exact ih (by omega)
  have := loop 32 (by decide)
  rw [show v / 2 ^ (32 * I + 32) % 2 ^ (32 - 32) = 0 by rw [Nat.sub_self, Nat.pow_zero, Nat.mod_one]] at this
  exact this
theorem lN_or2 {x c k : Nat} (hx : x < 2 ^ k) : lN (c * 2 ^ k) ||| lN x = lN (x + c * 2 ^ k) := by
  rw [← lN_or hx]
  apply Int64.toBitVec.inj
  rw [Int64.toBitVec_or, Int64.toBitVec_or, BitVec.or_comm]
theorem mt_digits (n : Nat) (h : Hp) (m : Nat) (S : TS) (p e : Int32) (hR : MRep h m S) (hI : SInv S) : CT mX8_digits 0 0 n h [.ref m, .int p, .int e] (MOKl n m h (opDigits S p e)) := by
  obtain ⟨h0, A, bo, ki, mo, wt, rfl, B, hA⟩ := id hR
  refine CT.intro [some (.ref m), some (.int p), some (.int e)] 0 rfl rfl (by decide) ?_
  intro Q hQ
  have bad : (isP p && rg e 0 18) = false → AW mX8_digits (gq 0 0 Q) 17 [some (.ref m), some (.int p), some (.int e)] [] 0 0 n (mh h0 m A) := by
    intro hb
    refine aw_ldc2_w qX8_261 dX8_digits_17 ?_
    refine aw_lreturn dX8_digits_20 rfl (Nat.le_of_ble_eq_true rfl) (Nat.le_of_ble_eq_true rfl) ?_
    exact hQ _ _ _ (by unfold opDigits; rw [hb]; exact ⟨rfl, rfl, hR, mfr_rf⟩)
  refine aw_iload_n (i := 1) dX8_digits_0 rfl rfl ?_
  refine aw_invokestatic kX8_211 dX8_digits_1 (ct_isP n (mh h0 m A) p) rfl rfl (Nat.le_of_ble_eq_true rfl) ⟨Nat.le_of_ble_eq_true rfl, Nat.le_of_ble_eq_true rfl⟩ ⟨Nat.le_of_ble_eq_true rfl, Nat.le_of_ble_eq_true rfl⟩ ?_
  rintro _ _ _ ⟨rfl, rfl, rfl⟩
  by_cases h1 : isP p = true
  case neg =>
    refine aw_if_eq (tgt := 17) dX8_digits_4 (by decide) (fun _ => ?_) (fun c => (c (bI_eq0.mpr (by simpa using h1))).elim)
    exact bad (by simp [h1])
  refine aw_if_eq (tgt := 17) dX8_digits_4 (by decide) (fun c => absurd c (bI_ne0.mpr h1)) (fun _ => ?_)
  refine aw_iload_n (i := 2) dX8_digits_7 rfl rfl ?_
  refine aw_iconst (v := 0) dX8_digits_8 (by decide +kernel) ?_
  refine aw_bipush (v := 18) dX8_digits_9 (by decide +kernel) ?_
  refine aw_invokestatic kX8_153 dX8_digits_11 (ct_in n (mh h0 m A) e 0 18 toInt_lit0 toInt_18) rfl rfl (Nat.le_of_ble_eq_true rfl) ⟨Nat.le_of_ble_eq_true rfl, Nat.le_of_ble_eq_true rfl⟩ ⟨Nat.le_of_ble_eq_true rfl, Nat.le_of_ble_eq_true rfl⟩ ?_
  rintro _ _ _ ⟨rfl, rfl, rfl⟩
  by_cases h2 : rg e 0 18 = true
  case neg =>
    refine aw_if_ne (tgt := 21) dX8_digits_14 (by decide) (fun c => absurd c (fun c => c (bI_eq0.mpr (by simpa using h2)))) (fun _ => ?_)
    exact bad (by simp [h2])
  obtain ⟨ep, hp⟩ := isP_N h1
  obtain ⟨ee, -, -, he⟩ := rg_N h2 (by decide)
  have hop : ∀ o, sP S (tN p) = o → opDigits S p e = (match o with | some (u, d) => (if nb (u * 10 ^ tN e / d) ≤ 63 then (lN (u * 10 ^ tN e / d), S) else (-4, S)) | none => (-2, S)) := by
    intro o ho
    unfold opDigits
    rw [h1, h2, ho]
    rcases o with _ | ⟨u, d⟩ <;> rfl
  have hbC : mh h0 m A (m + 8) = some (bar 16 bo) := by rw [mh_no h0 m A rfl]; exact B.2.1
  have l1 := hA.2 _ hp
  generalize tN p = p' at *
  generalize tN e = E at *
  subst ep ee
  refine aw_if_ne (tgt := 21) dX8_digits_14 (by decide) (fun _ => ?_) (fun c => ((bI_ne0.mpr h2) c).elim)
  refine aw_aload_n (i := 0) dX8_digits_21 rfl rfl ?_
  refine aw_getfield fX8_31 dX8_digits_22 (by rw [mh_0]; exact B.1) rfl ?_
  refine aw_iload_n (i := 1) dX8_digits_25 rfl rfl ?_
  refine aw_bald dX8_digits_26 p' hbC (nI_toInt (by omega)) hp ?_
  rcases sP_cases (sP S p') with o1 | ⟨u, d, o1⟩
  · refine aw_if_ne (tgt := 34) dX8_digits_27 (by decide) (fun c => absurd c (fun c => c (by rw [plc_none l1 o1]; rfl))) (fun _ => ?_)
    refine aw_ldc2_w qX8_263 dX8_digits_30 ?_
    refine aw_lreturn dX8_digits_33 rfl (Nat.le_of_ble_eq_true rfl) (Nat.le_of_ble_eq_true rfl) ?_
    exact hQ _ _ _ (by rw [hop _ o1]; exact ⟨rfl, rfl, hR, mfr_rf⟩)
  obtain ⟨b1, m1, m2⟩ := plc_some l1 o1
  have i1 := hI.2.2.1 p' u d o1
  rw [hop _ o1] at hQ
  dsimp only at hQ
  refine aw_if_ne (tgt := 34) dX8_digits_27 (by decide) (fun _ => ?_) (fun c => ((show ¬ nI (bo p') = 0 by rw [b1]; decide) c).elim)
  refine aw_aload_n (i := 0) dX8_digits_34 rfl rfl ?_
  refine aw_iload_n (i := 1) dX8_digits_35 rfl rfl ?_
  refine aw_invokevirtual kX8_246 dX8_digits_36 (by rw [mh_0]; exact B.1) (ct_X8_takeLeft n h0 m A p' u d hp B.ob m1 m2) rfl rfl (Nat.le_of_ble_eq_true rfl) ⟨Nat.le_of_ble_eq_true rfl, Nat.le_of_ble_eq_true rfl⟩ ⟨Nat.le_of_ble_eq_true rfl, Nat.le_of_ble_eq_true rfl⟩ ?_
  rintro _ _ _ ⟨rfl, rfl, A1, rfl, d11, d12, f1⟩
  have hpw : u * 10 ^ E < 2 ^ 2688 := by
    have q1 : 10 ^ E ≤ 10 ^ 18 := Nat.pow_le_pow_right (by decide) (by omega)
    have q2 : u * 10 ^ E ≤ 2 ^ 1024 * 10 ^ 18 := Nat.mul_le_mul (Nat.le_of_lt i1.2.2.1) q1
    have q3 : 2 ^ 1024 * 10 ^ 18 < 2 ^ 2688 := by decide +kernel
    omega
  refine aw_aload_n (i := 0) dX8_digits_39 rfl rfl ?_
  refine aw_aload_n (i := 0) dX8_digits_40 rfl rfl ?_
  refine aw_getfield fX8_41 dX8_digits_41 (by rw [mh_0]; exact B.1) rfl ?_
  refine aw_ldc2_w qX8_265 dX8_digits_44 ?_
  refine aw_iload_n (i := 2) dX8_digits_47 rfl rfl ?_
  refine aw_invokevirtual kX8_198 dX8_digits_48 (by rw [mh_0]; exact B.1) (ct_X8_power n h0 m A1 11 u 10 E rfl rfl d11 (by decide) (by omega) hpw) rfl rfl (Nat.le_of_ble_eq_true rfl) ⟨Nat.le_of_ble_eq_true rfl, Nat.le_of_ble_eq_true rfl⟩ ⟨Nat.le_of_ble_eq_true rfl, Nat.le_of_ble_eq_true rfl⟩ ?_
  rintro _ _ _ ⟨rfl, rfl, A2, rfl, d2, f2⟩
  refine aw_aload_n (i := 0) dX8_digits_51 rfl rfl ?_
  refine aw_aload_n (i := 0) dX8_digits_52 rfl rfl ?_
  refine aw_getfield fX8_41 dX8_digits_53 (by rw [mh_0]; exact B.1) rfl ?_
  refine aw_aload_n (i := 0) dX8_digits_56 rfl rfl ?_
  refine aw_getfield fX8_44 dX8_digits_57 (by rw [mh_0]; exact B.1) rfl ?_
  refine aw_invokevirtual kX8_160 dX8_digits_60 (by rw [mh_0]; exact B.1) (ct_X8_divide n h0 m A2 11 12 _ d B.ob rfl rfl rfl rfl (by decide) (by decide) (by decide) (by decide) d2 (by rw [f2 12 (by decide)]; exact d12) i1.1) rfl rfl (Nat.le_of_ble_eq_true rfl) ⟨Nat.le_of_ble_eq_true rfl, Nat.le_of_ble_eq_true rfl⟩ ⟨Nat.le_of_ble_eq_true rfl, Nat.le_of_ble_eq_true rfl⟩ ?_
  rintro _ _ _ ⟨rfl, rfl, A3, rfl, d4, -, f3⟩
  have ff : ∀ k, k = 6 ∨ k = 7 ∨ k = 19 ∨ k = 20 → A3 k = A k := fun k hk => by rw [f3 k (by omega) (by omega), f2 k (by omega), f1 k (by omega) (by omega)]
  have hR3 : MRep (mh h0 m A3) m S := ⟨h0, A3, bo, ki, mo, wt, rfl, B, hA.keep (ff 6 (by decide)) (ff 7 (by decide)) (ff 19 (by decide)) (ff 20 (by decide))⟩
  generalize u * 10 ^ E / d = q at *
  have hnb := nb_le.mpr (dg_lt d4)
  refine aw_aload_n (i := 0) dX8_digits_63 rfl rfl ?_
  refine aw_getfield fX8_19 dX8_digits_64 (by rw [mh_0]; exact B.1) rfl ?_
  refine aw_invokestatic kX8_146 dX8_digits_67 (mc_bits n h0 m A3 4 q rfl rfl d4) rfl rfl (Nat.le_of_ble_eq_true rfl) ⟨Nat.le_of_ble_eq_true rfl, Nat.le_of_ble_eq_true rfl⟩ ⟨Nat.le_of_ble_eq_true rfl, Nat.le_of_ble_eq_true rfl⟩ ?_
  rintro _ _ _ ⟨rfl, rfl, rfl⟩
  refine aw_bipush (v := 63) dX8_digits_70 (by decide +kernel) ?_
  by_cases h63 : nb q ≤ 63
  case neg =>
    refine aw_icmp_le (tgt := 79) dX8_digits_72 (by decide) (fun c => absurd c (nI_ge (a := 63) (by omega) (by omega))) (fun _ => ?_)
    refine aw_ldc2_w qX8_267 dX8_digits_75 ?_
    refine aw_lreturn dX8_digits_78 rfl (Nat.le_of_ble_eq_true rfl) (Nat.le_of_ble_eq_true rfl) ?_
    exact hQ _ _ _ (by rw [if_neg h63]; exact ⟨rfl, rfl, hR3, mfr_mh (fun _ _ => rfl)⟩)
  rw [if_pos h63] at hQ
  have hq63 := nb_le.mp h63
  have hz := dg_small d4 (k := 3) (by rw [← Nat.pow_mul]; exact Nat.lt_of_lt_of_le hq63 (Nat.pow_le_pow_right (by decide) (by decide)))
  have hval : q = A3 4 0 + A3 4 1 * 2 ^ 28 + A3 4 2 * 2 ^ 56 := by
    rw [← d4.2, bv_high (m := 3) (by decide) hz, bv_s _ _ 2, bv_s _ _ 1, bv_s _ _ 0, bv_0, ← Nat.pow_mul]; omega
  have g0 := d4.1 0 (by decide)
  have g1 := d4.1 1 (by decide)
  refine aw_icmp_le (tgt := 79) dX8_digits_72 (by decide) (fun _ => ?_) (fun c => (c (nI_le (b := 63) h63 (by decide))).elim)
  refine aw_aload_n (i := 0) dX8_digits_79 rfl rfl ?_
  refine aw_getfield fX8_19 dX8_digits_80 (by rw [mh_0]; exact B.1) rfl ?_
  refine aw_iconst (v := 2) dX8_digits_83 (by decide +kernel) ?_
  refine aw_lald dX8_digits_84 2 (mh_96 h0 m A3 rfl rfl) (by decide +kernel) (by decide) ?_
  refine aw_bipush (v := 56) dX8_digits_85 (by decide +kernel) ?_
  refine aw_lshl dX8_digits_87 rfl ?_
  refine aw_aload_n (i := 0) dX8_digits_88 rfl rfl ?_
  refine aw_getfield fX8_19 dX8_digits_89 (by rw [mh_0]; exact B.1) rfl ?_
  refine aw_iconst (v := 1) dX8_digits_92 (by decide +kernel) ?_
  refine aw_lald dX8_digits_93 1 (mh_96 h0 m A3 rfl rfl) (by decide +kernel) (by decide) ?_
  refine aw_bipush (v := 28) dX8_digits_94 (by decide +kernel) ?_
  refine aw_lshl dX8_digits_96 rfl ?_
  refine aw_lor dX8_digits_97 ?_
  rw [lN_shl _ 56 (by decide +kernel), lN_shl _ 28 (by decide +kernel), lN_or2 (show A3 4 1 * 2 ^ 28 < 2 ^ 56 by omega)]
  refine aw_aload_n (i := 0) dX8_digits_98 rfl rfl ?_
  refine aw_getfield fX8_19 dX8_digits_99 (by rw [mh_0]; exact B.1) rfl ?_
  refine aw_iconst (v := 0) dX8_digits_102 (by decide +kernel) ?_
  refine aw_lald dX8_digits_103 0 (mh_96 h0 m A3 rfl rfl) (by decide +kernel) (by decide) ?_
  refine aw_lor dX8_digits_104 ?_
  rw [show A3 4 1 * 2 ^ 28 + A3 4 2 * 2 ^ 56 = (A3 4 1 + A3 4 2 * 2 ^ 28) * 2 ^ 28 by omega, lN_or2 g0, show A3 4 0 + (A3 4 1 + A3 4 2 * 2 ^ 28) * 2 ^ 28 = q by omega]
  refine aw_lreturn dX8_digits_105 rfl (Nat.le_of_ble_eq_true rfl) (Nat.le_of_ble_eq_true rfl) ?_
  exact hQ _ _ _ ⟨rfl, rfl, hR3, mfr_mh (fun _ _ => rfl)⟩
