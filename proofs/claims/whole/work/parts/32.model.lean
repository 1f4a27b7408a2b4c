theorem two_le {a b : Nat} (h : a ≤ b) : (2 : Nat) ^ a ≤ 2 ^ b := Nat.pow_le_pow_right (by decide) h
theorem cnt_le {S : TS} {s v : Nat} (hv : v ≤ sT S s) : sC S s v ≤ stot S s := sg_ge (by omega)
theorem mc_loadC (n : Nat) (h0 : Hp) (m : Nat) (A : Nat → Nat → Nat) (S : TS) (bo : Nat → Nat) (i s v : Nat) (hi : lidx i = true) (li : mlen i = 96) (i19 : 19 ≠ i) (hA : MA A S bo) (hI : SInv S) (hs : s < sN S) (hv : v ≤ sT S s) : CT mX8_load 0 0 n (mh h0 m A) [.ref (m + i), .ref (m + 19), .int (nI (10 * (121 * s + v))), .int (nI 10)] (pv n (fun h' => ∃ A', h' = mh h0 m A' ∧ one A A' i (sC S s v))) := by
  have h1 := (hA.1 s hs).2 v hv
  have h2 := hI.2.1.1
  have h3 := (hI.2.1.2 s hs).2.1
  have := mc_load n h0 m A i 19 (10 * (121 * s + v)) 10 hi li rfl i19 (show 10 * (121 * s + v) + 10 ≤ 19360 by omega) (by decide) h1.1
  rw [h1.2] at this
  exact this
theorem mc_loadT (n : Nat) (h0 : Hp) (m : Nat) (A : Nat → Nat → Nat) (S : TS) (bo : Nat → Nat) (i s : Nat) (hi : lidx i = true) (li : mlen i = 96) (i20 : 20 ≠ i) (hA : MA A S bo) (hI : SInv S) (hs : s < sN S) : CT mX8_load 0 0 n (mh h0 m A) [.ref (m + i), .ref (m + 20), .int (nI (10 * s)), .int (nI 10)] (pv n (fun h' => ∃ A', h' = mh h0 m A' ∧ one A A' i (stot S s))) := by
  have h1 := (hA.1 s hs).1
  have h2 := hI.2.1.1
  have := mc_load n h0 m A i 20 (10 * s) 10 hi li rfl i20 (show 10 * s + 10 ≤ 160 by omega) (by decide) h1.1
  rw [h1.2] at this
  exact this
theorem c10 (p : Nat) : (10 : Int32) * nI p = nI (10 * p) := pk_mul 10 p
theorem mt_wipe (n : Nat) (h : Hp) (m : Nat) (S : TS) (hR : MRep h m S) : CT mX8_wipe 0 0 n h [.ref m] (MOK n m h (opWipe S)) := by
  obtain ⟨h0, A, bo, ki, mo, wt, rfl, B, hA⟩ := id hR
  refine CT.intro [some (.ref m), none] 1 rfl rfl (by decide) ?_
  intro Q hQ
  refine aw_aload_n (i := 0) dX8_wipe_0 rfl rfl ?_
  refine aw_getfield fX8_181 dX8_wipe_1 (by rw [mh_0]; exact B.1) rfl ?_
  refine aw_istore_1 dX8_wipe_4 (by decide) rfl ?_
  refine aw_aload_n (i := 0) dX8_wipe_5 rfl rfl ?_
  refine aw_iconst (v := 0) dX8_wipe_6 (by decide +kernel) ?_
  refine aw_putfield fX8_181 dX8_wipe_7 (by rw [mh_0]; exact B.1) rfl rfl (Nat.le_of_ble_eq_true rfl) ?_
  dsimp only [List.set]
  refine AW.hp (mh_upo _ m A (mobS m ((0, sW S), S.2))) ?_
  refine aw_iload_n (i := 1) dX8_wipe_10 rfl rfl ?_
  refine aw_ireturn dX8_wipe_11 rfl rfl (Nat.le_of_ble_eq_true rfl) (Nat.le_of_ble_eq_true rfl) ?_
  refine hQ _ _ _ ⟨rfl, rfl, ⟨_, A, bo, ki, mo, wt, rfl, ⟨hup_self _ _ _, ?_, ?_, ?_, ?_, fun i hi => absurd hi (Nat.not_lt_zero i), B.2.2.2.2.2.2⟩, hA⟩, mfr_mh (fun y hy => by rw [hup_ne (by omega)])⟩
  · rw [hup_ne (by omega)]; exact B.2.1
  · rw [hup_ne (by omega)]; exact B.2.2.1
  · rw [hup_ne (by omega)]; exact B.2.2.2.1
  · rw [hup_ne (by omega)]; exact B.2.2.2.2.1
theorem ct_X8_comes (n : Nat) (h0 : Hp) (m : Nat) (A : Nat → Nat → Nat) (S : TS) (bo ki mo wt : Nat → Nat) (k t : Nat) (c : Nat → Nat) (B : MB h0 m S bo ki mo wt) (hA : MA A S bo) (hN : sN S < 16) (ht : t ≤ 120) (hc : ∀ v, v ≤ t → mD (A 19) (10 * (121 * sN S + v)) 10 (c v)) (hT : sg c (t + 1) < 2 ^ 256) : CT mX8_comes 0 0 n (mh h0 m A) [.ref m, .int (nI k), .int (nI t)] (fun r n' h' => n = n' ∧ r = some (.int (nI (sN S))) ∧ MRep h' m (addS S k t c) ∧ mfr m (mh h0 m A) h') := by
  refine CT.intro [some (.ref m), some (.int (nI k)), some (.int (nI t)), none] 1 rfl rfl (by decide) ?_
  intro Q hQ
  refine aw_aload_n (i := 0) dX8_comes_0 rfl rfl ?_
  refine aw_getfield fX8_84 dX8_comes_1 (by rw [mh_0]; exact B.1) rfl ?_
  refine aw_lconst (v := 0) dX8_comes_4 (by decide) ?_
  refine aw_invokestatic kX8_124 dX8_comes_5 (mc_become n h0 m A 25 0 rfl rfl (by decide)) rfl rfl (Nat.le_of_ble_eq_true rfl) ⟨Nat.le_of_ble_eq_true rfl, Nat.le_of_ble_eq_true rfl⟩ ⟨Nat.le_of_ble_eq_true rfl, Nat.le_of_ble_eq_true rfl⟩ ?_
  rintro _ _ _ ⟨rfl, rfl, A1, rfl, d1, f1⟩
  refine aw_iconst (v := 0) dX8_comes_8 (by decide +kernel) ?_
  refine aw_istore_3 dX8_comes_9 (by decide) rfl ?_
  have loop : ∀ (j v : Nat) (A' : Nat → Nat → Nat), v + j = t + 1 → dg (A' 25) (sg c v) → (∀ k, k ≠ 22 → k ≠ 25 → A' k = A k) → AW mX8_comes (gq 0 0 Q) 10 [some (.ref m), some (.int (nI k)), some (.int (nI t)), some (.int (nI v))] [] 0 0 n (mh h0 m A') := by
    intro j
    induction j with
    | zero =>
      intro v A' hv d fr
      obtain rfl : v = t + 1 := by omega
      have hs10 : sg c (t + 1) < (2 ^ 28) ^ 10 := by rw [← Nat.pow_mul]; exact Nat.lt_of_lt_of_le hT (two_le (by decide))
      refine aw_iload_n (i := 3) dX8_comes_10 rfl rfl ?_
      refine aw_iload_n (i := 2) dX8_comes_11 rfl rfl ?_
      refine aw_icmp_gt (tgt := 53) dX8_comes_12 (by decide) (fun _ => ?_) (fun c => (c (nI_lt (by omega) (by omega))).elim)
      refine aw_aload_n (i := 0) dX8_comes_53 rfl rfl ?_
      refine aw_getfield fX8_69 dX8_comes_54 (by rw [mh_0]; exact B.1) rfl ?_
      refine aw_bipush (v := 10) dX8_comes_57 (by decide +kernel) ?_
      refine aw_aload_n (i := 0) dX8_comes_59 rfl rfl ?_
      refine aw_getfield fX8_178 dX8_comes_60 (by rw [mh_0]; exact B.1) rfl ?_
      refine aw_imul dX8_comes_63 ?_
      rw [c10]
      refine aw_bipush (v := 10) dX8_comes_64 (by decide +kernel) ?_
      refine aw_aload_n (i := 0) dX8_comes_66 rfl rfl ?_
      refine aw_getfield fX8_84 dX8_comes_67 (by rw [mh_0]; exact B.1) rfl ?_
      refine aw_invokestatic kX8_166 dX8_comes_70 (ct_X8_store n (mh h0 m A') (m + 25) (m + 20) (10 * sN S) 10 160 (A' 20) (A' 25) (mh_at h0 m A' rfl) (mh_96 h0 m A' rfl rfl) (by omega) (by decide) (by omega) (by decide)) rfl rfl (Nat.le_of_ble_eq_true rfl) ⟨Nat.le_of_ble_eq_true rfl, Nat.le_of_ble_eq_true rfl⟩ ⟨Nat.le_of_ble_eq_true rfl, Nat.le_of_ble_eq_true rfl⟩ ?_
      rintro _ _ _ ⟨rfl, rfl, rfl⟩
      rw [show lar 160 (spl (A' 20) (A' 25) (10 * sN S) 10) = lar (mlen 20) (spl (A' 20) (A' 25) (10 * sN S) 10) from rfl, mh_up h0 m A' rfl]
      obtain ⟨A2, hA2⟩ : ∃ A2, A2 = va_up A' 20 (spl (A' 20) (A' 25) (10 * sN S) 10) := ⟨_, rfl⟩
      rw [← hA2]
      have a20 : A2 20 = spl (A 20) (A' 25) (10 * sN S) 10 := by rw [hA2, va_up_at, fr 20 (by decide) (by decide)]
      have f2 : ∀ k, k ≠ 20 → A2 k = A' k := fun k hk => by rw [hA2, va_up_off hk]
      refine aw_aload_n (i := 0) dX8_comes_73 rfl rfl ?_
      refine aw_getfield fX8_59 dX8_comes_74 (by rw [mh_0]; exact B.1) rfl ?_
      refine aw_aload_n (i := 0) dX8_comes_77 rfl rfl ?_
      refine aw_getfield fX8_178 dX8_comes_78 (by rw [mh_0]; exact B.1) rfl ?_
      refine aw_iload_n (i := 1) dX8_comes_81 rfl rfl ?_
      refine aw_iast dX8_comes_82 (sN S) k rfl (by rw [mh_no h0 m A2 rfl]; exact B.2.2.1) (nI_toInt (by omega)) hN ?_
      refine AW.hp (mh_upn h0 m A2 rfl _) ?_
      refine aw_aload_n (i := 0) dX8_comes_83 rfl rfl ?_
      refine aw_getfield fX8_63 dX8_comes_84 (by rw [mh_0, hup_ne (by omega)]; exact B.1) rfl ?_
      refine aw_aload_n (i := 0) dX8_comes_87 rfl rfl ?_
      refine aw_getfield fX8_178 dX8_comes_88 (by rw [mh_0, hup_ne (by omega)]; exact B.1) rfl ?_
      refine aw_iload_n (i := 2) dX8_comes_91 rfl rfl ?_
      refine aw_iast dX8_comes_92 (sN S) t rfl (by rw [mh_no _ m A2 rfl, hup_ne (by omega)]; exact B.2.2.2.1) (nI_toInt (by omega)) hN ?_
      refine AW.hp (mh_upn _ m A2 rfl _) ?_
      refine aw_aload_n (i := 0) dX8_comes_93 rfl rfl ?_
      refine aw_dup dX8_comes_94 rfl ?_
      refine aw_getfield fX8_178 dX8_comes_95 (by rw [mh_0, hup_ne (by omega), hup_ne (by omega)]; exact B.1) rfl ?_
      refine aw_iconst (v := 1) dX8_comes_98 (by decide +kernel) ?_
      refine aw_iadd dX8_comes_99 ?_
      refine aw_putfield fX8_178 dX8_comes_100 (by rw [mh_0, hup_ne (by omega), hup_ne (by omega)]; exact B.1) rfl rfl (Nat.le_of_ble_eq_true rfl) ?_
      dsimp only [List.set]
      rw [nI_1]
      refine AW.hp (mh_upo _ m A2 (mobS m ((sNw S, sW S), (sN S + 1, sK S, sT S, sC S), S.2.2))) ?_
      refine aw_aload_n (i := 0) dX8_comes_103 rfl rfl ?_
      refine aw_getfield fX8_178 dX8_comes_104 (by rw [mh_0]; exact hup_self _ _ _) rfl ?_
      refine aw_iconst (v := 1) dX8_comes_107 (by decide +kernel) ?_
      refine aw_isub dX8_comes_108 ?_
      rw [show nI (sN S + 1) - 1 = nI (sN S) from nI_pred _]
      refine aw_ireturn dX8_comes_109 rfl rfl (Nat.le_of_ble_eq_true rfl) (Nat.le_of_ble_eq_true rfl) ?_
      refine hQ _ _ _ ⟨rfl, rfl, ⟨_, A2, bo, va_up ki (sN S) k, va_up mo (sN S) t, wt, rfl, ⟨hup_self _ _ _, ?_, ?_, ?_, ?_, B.2.2.2.2.2.1, ?_⟩, ?_, ?_⟩, mfr_mh (fun y hy => by rw [hup_ne (by omega), hup_ne (by omega), hup_ne (by omega)])⟩
      · rw [hup_ne (by omega), hup_ne (by omega), hup_ne (by omega)]; exact B.2.1
      · rw [hup_ne (by omega), hup_ne (by omega), hup_self]
      · rw [hup_ne (by omega), hup_self]
      · rw [hup_ne (by omega), hup_ne (by omega), hup_ne (by omega)]; exact B.2.2.2.2.1
      · intro s hs
        have hs : s < sN S + 1 := hs
        show va_up ki (sN S) k s = va_up (sK S) (sN S) k s ∧ va_up mo (sN S) t s = va_up (sT S) (sN S) t s
        by_cases he : s = sN S
        · rw [he, va_up_at, va_up_at, va_up_at, va_up_at]; exact ⟨rfl, rfl⟩
        · rw [va_up_off he, va_up_off he, va_up_off he, va_up_off he]; exact B.2.2.2.2.2.2 s (by omega)
      · intro s hs
        have hs : s < sN S + 1 := hs
        show mD (A2 20) (10 * s) 10 (sg (va_up (sC S) (sN S) c s) (va_up (sT S) (sN S) t s + 1)) ∧ ∀ v, v ≤ va_up (sT S) (sN S) t s → mD (A2 19) (10 * (121 * s + v)) 10 (va_up (sC S) (sN S) c s v)
        rw [a20, f2 19 (by decide), fr 19 (by decide) (by decide)]
        by_cases he : s = sN S
        · rw [he, va_up_at, va_up_at]
          exact ⟨mD_spl (by decide) d hs10, hc⟩
        · rw [va_up_off he, va_up_off he]
          exact ⟨mD_congr (hA.1 s (by omega)).1 (fun i h1 h2 => spl_out (by omega)), (hA.1 s (by omega)).2⟩
      · intro p hp
        have := hA.2 p hp
        unfold plc at this ⊢
        rw [f2 6 (by decide), f2 7 (by decide), fr 6 (by decide) (by decide), fr 7 (by decide) (by decide)]
        exact this
    | succ j ih =>
      intro v A' hv d fr
      have hcv := hc v (by omega)
      have hle := sg_le (f := c) (show v + 1 ≤ t + 1 by omega)
      refine aw_iload_n (i := 3) dX8_comes_10 rfl rfl ?_
      refine aw_iload_n (i := 2) dX8_comes_11 rfl rfl ?_
      refine aw_icmp_gt (tgt := 53) dX8_comes_12 (by decide) (fun c => absurd c (nI_nlt (by omega) (by omega))) (fun _ => ?_)
      refine aw_aload_n (i := 0) dX8_comes_15 rfl rfl ?_
      refine aw_getfield fX8_75 dX8_comes_16 (by rw [mh_0]; exact B.1) rfl ?_
      refine aw_aload_n (i := 0) dX8_comes_19 rfl rfl ?_
      refine aw_getfield fX8_66 dX8_comes_20 (by rw [mh_0]; exact B.1) rfl ?_
      refine aw_aload_n (i := 0) dX8_comes_23 rfl rfl ?_
      refine aw_getfield fX8_178 dX8_comes_24 (by rw [mh_0]; exact B.1) rfl ?_
      refine aw_iload_n (i := 3) dX8_comes_27 rfl rfl ?_
      refine aw_invokestatic kX8_187 dX8_comes_28 (ct_X8_at n (mh h0 m A') (sN S) v) rfl rfl (Nat.le_of_ble_eq_true rfl) ⟨Nat.le_of_ble_eq_true rfl, Nat.le_of_ble_eq_true rfl⟩ ⟨Nat.le_of_ble_eq_true rfl, Nat.le_of_ble_eq_true rfl⟩ ?_
      rintro _ _ _ ⟨rfl, rfl, rfl⟩
      refine aw_bipush (v := 10) dX8_comes_31 (by decide +kernel) ?_
      refine aw_invokestatic kX8_170 dX8_comes_33 (mc_load n h0 m A' 22 19 (10 * (121 * sN S + v)) 10 rfl rfl rfl (by decide) (show 10 * (121 * sN S + v) + 10 ≤ 19360 by omega) (by decide) (by rw [fr 19 (by decide) (by decide)]; exact hcv.1)) rfl rfl (Nat.le_of_ble_eq_true rfl) ⟨Nat.le_of_ble_eq_true rfl, Nat.le_of_ble_eq_true rfl⟩ ⟨Nat.le_of_ble_eq_true rfl, Nat.le_of_ble_eq_true rfl⟩ ?_
      rintro _ _ _ ⟨rfl, rfl, A3, rfl, d3, f3⟩
      rw [fr 19 (by decide) (by decide), hcv.2] at d3
      refine aw_aload_n (i := 0) dX8_comes_36 rfl rfl ?_
      refine aw_getfield fX8_84 dX8_comes_37 (by rw [mh_0]; exact B.1) rfl ?_
      refine aw_aload_n (i := 0) dX8_comes_40 rfl rfl ?_
      refine aw_getfield fX8_75 dX8_comes_41 (by rw [mh_0]; exact B.1) rfl ?_
      refine aw_invokestatic kX8_191 dX8_comes_44 (mc_plus n h0 m A3 25 22 (sg c v) (c v) rfl rfl rfl rfl (by decide) (by rw [f3 25 (by decide)]; exact d) d3 (by have : sg c (v + 1) = sg c v + c v := rfl; have := two_le (show 256 ≤ 2688 by decide); omega)) rfl rfl (Nat.le_of_ble_eq_true rfl) ⟨Nat.le_of_ble_eq_true rfl, Nat.le_of_ble_eq_true rfl⟩ ⟨Nat.le_of_ble_eq_true rfl, Nat.le_of_ble_eq_true rfl⟩ ?_
      rintro _ _ _ ⟨rfl, rfl, A4, rfl, d4, f4⟩
      refine aw_iinc_3 (c0 := 1) dX8_comes_47 (by decide) (by decide) rfl ?_
      refine aw_goto (tgt := 10) dX8_comes_50 (by decide) ?_
      rw [nI_1]
      exact ih (v + 1) A4 (by omega) d4 (fun k k1 k2 => by rw [f4 k k2, f3 k k1]; exact fr k k1 k2)
  exact loop (t + 1) 0 A1 (by omega) d1 (fun k _ k2 => f1 k k2)
