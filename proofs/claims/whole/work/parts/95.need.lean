theorem CS.tos {hc : Hp} {N : NC} {X : Nat} {S : TS} (h : CS hc N X S) (N' : NC) : ∃ td, nh hc (LC X (sN S)) N' (X + 36) = some (tob (X + 36) td) := by
  obtain ⟨td, sh, g, t1, -⟩ := h.2.1.2.2.2.2.2.2.2
  exact ⟨td, by rw [nh_X (c := 36) N' rfl (Or.inr rfl)]; exact t1⟩
theorem ck_needed (h : Hp) (X : Nat) (S : TS) (ho w u v wh : Int32) (hR : CRep h X S) (hI : SInv S) : CT mX7_needed 0 0 (cn X S) h [.ref X, .int ho, .int w, .int u, .int v, .int wh] (COK X h (opNeeded S ho w u v wh)) := by
  obtain ⟨hc, N, rfl, hS⟩ := hR
  refine CT.intro [some (.ref X), some (.int ho), some (.int w), some (.int u), some (.int v), some (.int wh), none, none, none] 3 rfl rfl (by decide) ?_
  intro Q hQ
  have bad : (rg ho 0 1 && (rg w 1 100 && (rg u 0 1000000 && (rg v 1 1000000 && rg wh 0 1)))) = false → COK X (nh hc (LC X (sN S)) N) (opNeeded S ho w u v wh) (some (.int (-1))) (cn X S) (nh hc (LC X (sN S)) N) := fun hb => cbad hS _ (by unfold opNeeded; rw [hb]; rfl)
  refine aw_iload_n (i := 1) dX7_needed_0 rfl rfl ?_
  refine aw_iconst (v := 0) dX7_needed_1 (by decide +kernel) ?_
  refine aw_iconst (v := 1) dX7_needed_2 (by decide +kernel) ?_
  refine aw_invokestatic kX7_88 dX7_needed_3 (ct_out (b := 1) _ (nh hc (LC X (sN S)) N) ho 0 1 toInt_lit0 (by decide +kernel)) rfl rfl (Nat.le_of_ble_eq_true rfl) ⟨Nat.le_of_ble_eq_true rfl, Nat.le_of_ble_eq_true rfl⟩ ⟨Nat.le_of_ble_eq_true rfl, Nat.le_of_ble_eq_true rfl⟩ ?_
  rintro _ _ _ ⟨rfl, rfl, rfl⟩
  by_cases h1 : rg ho 0 1 = true
  case neg =>
    refine aw_if_ne (tgt := 29) dX7_needed_6 (by decide) (fun _ => ?_) (fun c => ((bn0 h1) c).elim)
    refine aw_iconst (v := (-1)) dX7_needed_29 (by decide +kernel) ?_
    refine aw_ireturn dX7_needed_30 rfl rfl (Nat.le_of_ble_eq_true rfl) (Nat.le_of_ble_eq_true rfl) ?_
    exact hQ _ _ _ (bad (by simp [h1]))
  refine aw_if_ne (tgt := 29) dX7_needed_6 (by decide) (fun c => absurd c (fun e => e (bn1 h1))) (fun _ => ?_)
  refine aw_iload_n (i := 2) dX7_needed_9 rfl rfl ?_
  refine aw_iconst (v := 1) dX7_needed_10 (by decide +kernel) ?_
  refine aw_bipush (v := 100) dX7_needed_11 (by decide +kernel) ?_
  refine aw_invokestatic kX7_88 dX7_needed_13 (ct_out (a := 1) (b := 100) _ (nh hc (LC X (sN S)) N) w 1 100 (by decide +kernel) (by decide +kernel)) rfl rfl (Nat.le_of_ble_eq_true rfl) ⟨Nat.le_of_ble_eq_true rfl, Nat.le_of_ble_eq_true rfl⟩ ⟨Nat.le_of_ble_eq_true rfl, Nat.le_of_ble_eq_true rfl⟩ ?_
  rintro _ _ _ ⟨rfl, rfl, rfl⟩
  by_cases h2 : rg w 1 100 = true
  case neg =>
    refine aw_if_ne (tgt := 29) dX7_needed_16 (by decide) (fun _ => ?_) (fun c => ((bn0 h2) c).elim)
    refine aw_iconst (v := (-1)) dX7_needed_29 (by decide +kernel) ?_
    refine aw_ireturn dX7_needed_30 rfl rfl (Nat.le_of_ble_eq_true rfl) (Nat.le_of_ble_eq_true rfl) ?_
    exact hQ _ _ _ (bad (by simp [h2]))
  refine aw_if_ne (tgt := 29) dX7_needed_16 (by decide) (fun c => absurd c (fun e => e (bn1 h2))) (fun _ => ?_)
  refine aw_iload dX7_needed_19 rfl ?_
  refine aw_iconst (v := 0) dX7_needed_21 (by decide +kernel) ?_
  refine aw_iconst (v := 1) dX7_needed_22 (by decide +kernel) ?_
  refine aw_invokestatic kX7_88 dX7_needed_23 (ct_out (b := 1) _ (nh hc (LC X (sN S)) N) wh 0 1 toInt_lit0 (by decide +kernel)) rfl rfl (Nat.le_of_ble_eq_true rfl) ⟨Nat.le_of_ble_eq_true rfl, Nat.le_of_ble_eq_true rfl⟩ ⟨Nat.le_of_ble_eq_true rfl, Nat.le_of_ble_eq_true rfl⟩ ?_
  rintro _ _ _ ⟨rfl, rfl, rfl⟩
  by_cases h5 : rg wh 0 1 = true
  case neg =>
    refine aw_if_eq (tgt := 31) dX7_needed_26 (by decide) (fun c => absurd c (bn0 h5)) (fun _ => ?_)
    refine aw_iconst (v := (-1)) dX7_needed_29 (by decide +kernel) ?_
    refine aw_ireturn dX7_needed_30 rfl rfl (Nat.le_of_ble_eq_true rfl) (Nat.le_of_ble_eq_true rfl) ?_
    exact hQ _ _ _ (bad (by simp [h5]))
  refine aw_if_eq (tgt := 31) dX7_needed_26 (by decide) (fun _ => ?_) (fun c => (c (bn1 h5)).elim)
  refine aw_iload_n (i := 3) dX7_needed_31 rfl rfl ?_
  refine aw_iconst (v := 0) dX7_needed_32 (by decide +kernel) ?_
  refine aw_ldc_w qX7_286 dX7_needed_33 ?_
  refine aw_invokestatic kX7_88 dX7_needed_36 (ct_out (b := 1000000) _ (nh hc (LC X (sN S)) N) u 0 1000000 toInt_lit0 (by decide +kernel)) rfl rfl (Nat.le_of_ble_eq_true rfl) ⟨Nat.le_of_ble_eq_true rfl, Nat.le_of_ble_eq_true rfl⟩ ⟨Nat.le_of_ble_eq_true rfl, Nat.le_of_ble_eq_true rfl⟩ ?_
  rintro _ _ _ ⟨rfl, rfl, rfl⟩
  by_cases h3 : rg u 0 1000000 = true
  case neg =>
    refine aw_if_ne (tgt := 54) dX7_needed_39 (by decide) (fun _ => ?_) (fun c => ((bn0 h3) c).elim)
    refine aw_iconst (v := (-1)) dX7_needed_54 (by decide +kernel) ?_
    refine aw_ireturn dX7_needed_55 rfl rfl (Nat.le_of_ble_eq_true rfl) (Nat.le_of_ble_eq_true rfl) ?_
    exact hQ _ _ _ (bad (by simp [h3]))
  refine aw_if_ne (tgt := 54) dX7_needed_39 (by decide) (fun c => absurd c (fun e => e (bn1 h3))) (fun _ => ?_)
  refine aw_iload dX7_needed_42 rfl ?_
  refine aw_iconst (v := 1) dX7_needed_44 (by decide +kernel) ?_
  refine aw_ldc_w qX7_286 dX7_needed_45 ?_
  refine aw_invokestatic kX7_88 dX7_needed_48 (ct_out (a := 1) (b := 1000000) _ (nh hc (LC X (sN S)) N) v 1 1000000 (by decide +kernel) (by decide +kernel)) rfl rfl (Nat.le_of_ble_eq_true rfl) ⟨Nat.le_of_ble_eq_true rfl, Nat.le_of_ble_eq_true rfl⟩ ⟨Nat.le_of_ble_eq_true rfl, Nat.le_of_ble_eq_true rfl⟩ ?_
  rintro _ _ _ ⟨rfl, rfl, rfl⟩
  by_cases h4 : rg v 1 1000000 = true
  case neg =>
    refine aw_if_eq (tgt := 56) dX7_needed_51 (by decide) (fun c => absurd c (bn0 h4)) (fun _ => ?_)
    refine aw_iconst (v := (-1)) dX7_needed_54 (by decide +kernel) ?_
    refine aw_ireturn dX7_needed_55 rfl rfl (Nat.le_of_ble_eq_true rfl) (Nat.le_of_ble_eq_true rfl) ?_
    exact hQ _ _ _ (bad (by simp [h4]))
  obtain ⟨eo, -, -, ho1⟩ := rg_N h1 (by decide)
  obtain ⟨ew, -, -, hw1⟩ := rg_N h2 (by decide)
  obtain ⟨eu, -, -, hu1⟩ := rg_N h3 (by decide)
  obtain ⟨ev, -, -, hv1⟩ := rg_N h4 (by decide)
  obtain ⟨eh, -, -, hh1⟩ := rg_N h5 (by decide)
  have hop : opNeeded S ho w u v wh = (if tN wh = 0 then leastG (goodN (sCA S) (sCB S) (tN ho) (tN w) (tN u) (tN v)) 40 (-5) else sinceG (goodN (sCA S) (sCB S) (tN ho) (tN w) (tN u) (tN v)) 40 (-5), S) := by unfold opNeeded; rw [h1, h2, h3, h4, h5]; rfl
  rw [hop] at hQ
  clear bad hop
  generalize tN ho = o' at *
  generalize tN w = w' at *
  generalize tN u = u' at *
  generalize tN v = v' at *
  generalize tN wh = wh' at *
  subst eo ew eu ev eh
  obtain ⟨hab, h1b, hb⟩ := hI.2.2.2.2.1
  obtain ⟨td0, htd0⟩ := hS.tos N
  refine aw_if_eq (tgt := 56) dX7_needed_51 (by decide) (fun _ => ?_) (fun c => (c (bn1 h4)).elim)
  refine aw_bipush (v := (-5)) dX7_needed_56 (by decide +kernel) ?_
  refine aw_istore_6 dX7_needed_58 (by decide) rfl ?_
  refine aw_aload_n (i := 0) dX7_needed_60 rfl rfl ?_
  refine aw_getfield fX7_59 dX7_needed_61 (hS.X0 N) rfl ?_
  refine aw_aload_n (i := 0) dX7_needed_64 rfl rfl ?_
  refine aw_getfield fX7_73 dX7_needed_65 (hS.X0 N) rfl ?_
  refine aw_aload_n (i := 0) dX7_needed_68 rfl rfl ?_
  refine aw_getfield fX7_76 dX7_needed_69 (hS.X0 N) rfl ?_
  refine aw_invokevirtual kX7_287 dX7_needed_72 htd0 (ct_X6_start (cn X S) hc N X (sCA S) (sCB S) S hS hab hb) rfl rfl (Nat.le_of_ble_eq_true rfl) ⟨Nat.le_of_ble_eq_true rfl, Nat.le_of_ble_eq_true rfl⟩ ⟨Nat.le_of_ble_eq_true rfl, Nat.le_of_ble_eq_true rfl⟩ ?_
  rintro _ _ _ ⟨rfl, rfl, sh, g0, N1, rfl, hs, hr0, v37, A1, f1⟩
  generalize hG : goodN (sCA S) (sCB S) o' w' u' v' = G at *
  have fin : ∀ (td : Nat) (g : Nat → Nat) (N' : NC) (r : Int32), (if wh' = 0 then leastG G 40 (-5) else sinceG G 40 (-5)) = r → NA (LC X (sN S)) N' → (∀ k, k < X + 6 ∨ X + 46 ≤ k → N' k = N k) → Q (some (.int r)) (cn X S) (nh (th hc X td sh g) (LC X (sN S)) N') := by
    intro td g N' r e A' f'
    rw [e] at hQ
    exact hQ _ _ _ ⟨rfl, rfl, ⟨_, N', rfl, hS.th td sh g A' f'⟩, cfr_nh (fun y h1 h2 => th_x (by omega) (by omega) (by omega))⟩
  have loop : ∀ (z i td : Nat) (sc : Int32) (g : Nat → Nat) (N' : NC) (y8 : Option Value), i + z = 40 → (o' = 0 → td = i ∧ rok 40 8 g (cCoins i (sCA S) (sCB S)) ∧ nv (LC X (sN S)) N' (X + 37) 8 (sCB S ^ i)) → NA (LC X (sN S)) N' → (∀ k, k < X + 6 ∨ X + 46 ≤ k → N' k = N k) → (wh' = 0 → sc = -5 ∧ ∀ k, 1 ≤ k → k ≤ i → G k = false) → (wh' ≠ 0 → sc = fwG G i) → AW mX7_needed (gq 0 0 Q) 78 [some (.ref X), some (.int (nI o')), some (.int (nI w')), some (.int (nI u')), some (.int (nI v')), some (.int (nI wh')), some (.int sc), some (.int (nI (i + 1))), y8] [] 0 0 (cn X S) (nh (th hc X td sh g) (LC X (sN S)) N') := by
    intro z
    induction z with
    | zero =>
      intro i td sc g N' y8 hi h0 A' f' c0 c1
      obtain rfl : i = 40 := by omega
      refine aw_iload dX7_needed_78 rfl ?_
      refine aw_bipush (v := 40) dX7_needed_80 (by decide +kernel) ?_
      refine aw_icmp_gt (tgt := 157) dX7_needed_82 (by decide) (fun _ => ?_) (fun c => (c (by decide +kernel)).elim)
      refine aw_iload dX7_needed_157 rfl ?_
      refine aw_ireturn dX7_needed_159 rfl rfl (Nat.le_of_ble_eq_true rfl) (Nat.le_of_ble_eq_true rfl) ?_
      refine fin td g N' sc ?_ A' f'
      by_cases hw0 : wh' = 0
      · rw [if_pos hw0, (c0 hw0).1]
        exact leastG_none _ (c0 hw0).2
      · rw [if_neg hw0, sinceG_fw 40 _ (Nat.le_refl _), c1 hw0]
        split
        · next e => exact e.symm
        · rfl
    | succ z ih =>
      intro i td sc g N' y8 hi h0 A' f' c0 c1
      have cont : ∀ (td : Nat) (g : Nat → Nat) (N' : NC), (o' = 0 → td = i + 1 ∧ rok 40 8 g (cCoins (i + 1) (sCA S) (sCB S)) ∧ nv (LC X (sN S)) N' (X + 37) 8 (sCB S ^ (i + 1))) → NA (LC X (sN S)) N' → (∀ k, k < X + 6 ∨ X + 46 ≤ k → N' k = N k) → AW mX7_needed (gq 0 0 Q) 113 [some (.ref X), some (.int (nI o')), some (.int (nI w')), some (.int (nI u')), some (.int (nI v')), some (.int (nI wh')), some (.int sc), some (.int (nI (i + 1))), y8] [.int (bI (G (i + 1)))] 0 0 (cn X S) (nh (th hc X td sh g) (LC X (sN S)) N') := by
        intro td g N' h0' A' f'
        by_cases hg : G (i + 1) = true
        · rw [hg]
          by_cases hw0 : wh' = 0
          · refine aw_istore_8 dX7_needed_113 (by decide) rfl ?_
            refine aw_iload dX7_needed_115 rfl ?_
            refine aw_if_eq (tgt := 128) dX7_needed_117 (by decide) (fun c => absurd c (by decide +kernel)) (fun _ => ?_)
            refine aw_iload dX7_needed_120 rfl ?_
            refine aw_if_ne (tgt := 128) dX7_needed_122 (by decide) (fun c => absurd c (fun c => c (by rw [hw0]; rfl))) (fun _ => ?_)
            refine aw_iload dX7_needed_125 rfl ?_
            refine aw_ireturn dX7_needed_127 rfl rfl (Nat.le_of_ble_eq_true rfl) (Nat.le_of_ble_eq_true rfl) ?_
            refine fin td g N' _ ?_ A' f'
            rw [if_pos hw0]
            have := leastG_first (c0 hw0).2 hg (39 - i) (-5)
            rwa [show i + 1 + (39 - i) = 40 by omega] at this
          · have hsc := c1 hw0
            by_cases h5 : sc = -5
            · refine aw_istore_8 dX7_needed_113 (by decide) rfl ?_
              refine aw_iload dX7_needed_115 rfl ?_
              refine aw_if_eq (tgt := 128) dX7_needed_117 (by decide) (fun c => absurd c (by decide +kernel)) (fun _ => ?_)
              refine aw_iload dX7_needed_120 rfl ?_
              refine aw_if_ne (tgt := 128) dX7_needed_122 (by decide) (fun _ => ?_) (fun c => ((fun c => hw0 ((nI_eq (b := 0) (by omega) (by decide)).mp c)) c).elim)
              refine aw_iload dX7_needed_128 rfl ?_
              refine aw_if_ne (tgt := 140) dX7_needed_130 (by decide) (fun _ => ?_) (fun c => ((show ¬ bI true = 0 by decide +kernel) c).elim)
              refine aw_iload dX7_needed_140 rfl ?_
              refine aw_bipush (v := (-5)) dX7_needed_142 (by decide +kernel) ?_
              refine aw_icmp_ne (tgt := 151) dX7_needed_144 (by decide) (fun c => absurd c (fun c => c h5)) (fun _ => ?_)
              refine aw_iload dX7_needed_147 rfl ?_
              refine aw_istore_6 dX7_needed_149 (by decide) rfl ?_
              refine aw_iinc_7 (c0 := 1) dX7_needed_151 (by decide) (by decide) rfl ?_
              refine aw_goto (tgt := 78) dX7_needed_154 (by decide) ?_
              rw [nI_1]
              refine ih (i + 1) td _ g N' _ (by omega) h0' A' f' (fun q => absurd q hw0) (fun _ => ?_)
              show _ = if G (i + 1) then (if fwG G i = -5 then nI (i + 1) else fwG G i) else -5
              rw [if_pos hg, if_pos (by rw [← hsc]; exact h5)]
            · refine aw_istore_8 dX7_needed_113 (by decide) rfl ?_
              refine aw_iload dX7_needed_115 rfl ?_
              refine aw_if_eq (tgt := 128) dX7_needed_117 (by decide) (fun c => absurd c (by decide +kernel)) (fun _ => ?_)
              refine aw_iload dX7_needed_120 rfl ?_
              refine aw_if_ne (tgt := 128) dX7_needed_122 (by decide) (fun _ => ?_) (fun c => ((fun c => hw0 ((nI_eq (b := 0) (by omega) (by decide)).mp c)) c).elim)
              refine aw_iload dX7_needed_128 rfl ?_
              refine aw_if_ne (tgt := 140) dX7_needed_130 (by decide) (fun _ => ?_) (fun c => ((show ¬ bI true = 0 by decide +kernel) c).elim)
              refine aw_iload dX7_needed_140 rfl ?_
              refine aw_bipush (v := (-5)) dX7_needed_142 (by decide +kernel) ?_
              refine aw_icmp_ne (tgt := 151) dX7_needed_144 (by decide) (fun _ => ?_) (fun c => (h5 c).elim)
              refine aw_iinc_7 (c0 := 1) dX7_needed_151 (by decide) (by decide) rfl ?_
              refine aw_goto (tgt := 78) dX7_needed_154 (by decide) ?_
              rw [nI_1]
              refine ih (i + 1) td _ g N' _ (by omega) h0' A' f' (fun q => absurd q hw0) (fun _ => ?_)
              show _ = if G (i + 1) then (if fwG G i = -5 then nI (i + 1) else fwG G i) else -5
              rw [if_pos hg, if_neg (by rw [← hsc]; exact h5)]
              exact hsc
        · rw [Bool.eq_false_iff.mpr hg]
          refine aw_istore_8 dX7_needed_113 (by decide) rfl ?_
          refine aw_iload dX7_needed_115 rfl ?_
          refine aw_if_eq (tgt := 128) dX7_needed_117 (by decide) (fun _ => ?_) (fun c => (c rfl).elim)
          refine aw_iload dX7_needed_128 rfl ?_
          refine aw_if_ne (tgt := 140) dX7_needed_130 (by decide) (fun c => absurd c (fun c => c rfl)) (fun _ => ?_)
          refine aw_bipush (v := (-5)) dX7_needed_133 (by decide +kernel) ?_
          refine aw_istore_6 dX7_needed_135 (by decide) rfl ?_
          refine aw_goto (tgt := 151) dX7_needed_137 (by decide) ?_
          refine aw_iinc_7 (c0 := 1) dX7_needed_151 (by decide) (by decide) rfl ?_
          refine aw_goto (tgt := 78) dX7_needed_154 (by decide) ?_
          rw [nI_1]
          refine ih (i + 1) td _ g N' _ (by omega) h0' A' f' (fun q => ⟨rfl, fun k k1 k2 => ?_⟩) (fun _ => ?_)
          · by_cases e : k = i + 1
            · rw [e]; exact Bool.eq_false_iff.mpr hg
            · exact (c0 q).2 k k1 (by omega)
          · show _ = if G (i + 1) then (if fwG G i = -5 then nI (i + 1) else fwG G i) else -5
            rw [if_neg hg]
      have hSt := hS.th td sh g A' f'
      by_cases ho0 : o' = 0
      · obtain ⟨rfl, r1, r2⟩ := h0 ho0
        have hG1 : G (td + 1) = goodN (sCA S) (sCB S) 0 w' u' v' (td + 1) := by rw [← hG, ho0]
        refine aw_iload dX7_needed_78 rfl ?_
        refine aw_bipush (v := 40) dX7_needed_80 (by decide +kernel) ?_
        refine aw_icmp_gt (tgt := 157) dX7_needed_82 (by decide) (fun c => absurd c (nI_nlt (a := 40) (by omega) (by decide))) (fun _ => ?_)
        refine aw_iload_n (i := 1) dX7_needed_85 rfl rfl ?_
        refine aw_if_ne (tgt := 103) dX7_needed_86 (by decide) (fun c => absurd c (fun c => c (by rw [ho0]; rfl))) (fun _ => ?_)
        refine aw_aload_n (i := 0) dX7_needed_89 rfl rfl ?_
        refine aw_getfield fX7_59 dX7_needed_90 (hSt.X0 N') rfl ?_
        refine aw_iload_n (i := 2) dX7_needed_93 rfl rfl ?_
        refine aw_iload_n (i := 3) dX7_needed_94 rfl rfl ?_
        refine aw_iload dX7_needed_95 rfl ?_
        refine aw_invokevirtual kX7_290 dX7_needed_97 (n36 N') (ct_X6_isRareNext (cn X S) hc N' N X td (sCA S) (sCB S) w' u' v' S sh g hS A' hs hab hb (by omega) r1 r2 (by omega) (by omega) (by omega)) rfl rfl (Nat.le_of_ble_eq_true rfl) ⟨Nat.le_of_ble_eq_true rfl, Nat.le_of_ble_eq_true rfl⟩ ⟨Nat.le_of_ble_eq_true rfl, Nat.le_of_ble_eq_true rfl⟩ ?_
        rintro _ _ _ ⟨rfl, rfl, g', N3, rfl, hr', v3, A3, f3⟩
        rw [← hG1]
        refine aw_goto (tgt := 113) dX7_needed_100 (by decide) ?_
        exact cont (td + 1) g' N3 (fun _ => ⟨rfl, hr', v3⟩) A3 (fun k hk => by rw [f3 k hk, f' k hk])
      · have hG1 : G (i + 1) = goodN (sCA S) (sCB S) 1 w' u' v' (i + 1) := by rw [← hG, show o' = 1 by omega]
        refine aw_iload dX7_needed_78 rfl ?_
        refine aw_bipush (v := 40) dX7_needed_80 (by decide +kernel) ?_
        refine aw_icmp_gt (tgt := 157) dX7_needed_82 (by decide) (fun c => absurd c (nI_nlt (a := 40) (by omega) (by decide))) (fun _ => ?_)
        refine aw_iload_n (i := 1) dX7_needed_85 rfl rfl ?_
        refine aw_if_ne (tgt := 103) dX7_needed_86 (by decide) (fun _ => ?_) (fun c => ((fun c => ho0 ((nI_eq (b := 0) (by omega) (by decide)).mp c)) c).elim)
        refine aw_aload_n (i := 0) dX7_needed_103 rfl rfl ?_
        refine aw_iload dX7_needed_104 rfl ?_
        refine aw_iload_n (i := 2) dX7_needed_106 rfl rfl ?_
        refine aw_iload_n (i := 3) dX7_needed_107 rfl rfl ?_
        refine aw_iload dX7_needed_108 rfl ?_
        refine aw_invokevirtual kX7_293 dX7_needed_110 (hSt.X0 N') (ct_X7_isNarrow (cn X S) _ X (i + 1) w' u' v' S (hSt.X0 N') hI (by omega) (by omega) (by omega) (by omega)) rfl rfl (Nat.le_of_ble_eq_true rfl) ⟨Nat.le_of_ble_eq_true rfl, Nat.le_of_ble_eq_true rfl⟩ ⟨Nat.le_of_ble_eq_true rfl, Nat.le_of_ble_eq_true rfl⟩ ?_
        rintro _ _ _ ⟨rfl, rfl, rfl⟩
        rw [← hG1]
        exact cont td g N' (fun q => absurd q ho0) A' f'
  refine aw_iconst (v := 1) dX7_needed_75 (by decide +kernel) ?_
  refine aw_istore_7 dX7_needed_76 (by decide) rfl ?_
  refine loop 40 0 0 (-5) g0 N1 none rfl (fun _ => ⟨rfl, ?_, v37⟩) A1 (fun k hk => f1 k (by omega)) (fun _ => ⟨rfl, fun k k1 k2 => by omega⟩) (fun _ => rfl)
  refine rok_congr hr0 (fun v _ => ?_)
  rw [cCoins_eq]
  show cho 0 v * sCA S ^ v * (sCB S - sCA S) ^ (0 - v) = _
  cases v with
  | zero => rw [cho_0]; rfl
  | succ v => rw [cho_big (by omega), if_neg (by omega), Nat.zero_mul, Nat.zero_mul]
