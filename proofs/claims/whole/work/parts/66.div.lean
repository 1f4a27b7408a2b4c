/-- every number is well formed -/
def NA (L : Nat → Nat) (N : NC) : Prop := ∀ k, L k ≠ 0 → ∃ v, num (L k) (N k) v
theorem NA.one {L : Nat → Nat} {N N' : NC} {a v : Nat} (h : NA L N) (o : nOne L N N' a v) : NA L N' := fun k hk => by
  by_cases e : k = a
  · rw [e]; exact ⟨v, o.1⟩
  · rw [o.2 k e]; exact h k hk
/-- the divider's own numbers -/
def dn (D k : Nat) : Prop := k = D + 1 ∨ k = D + 3 ∨ k = D + 5 ∨ k = D + 7 ∨ k = D + 9
def DVx (h : Hp) (L : Nat → Nat) (D : Nat) (R H W : Nat) : Prop := (∃ a b c d, DV h L D (D + 1) (D + 3) R H W a b c d) ∧ ∀ k, (k = R ∨ k = H ∨ k = W) ↔ (k = D + 5 ∨ k = D + 7 ∨ k = D + 9)
theorem DVx.up {h : Hp} {L : Nat → Nat} {D R H W : Nat} (x : DVx h L D R H W) (a b c d : Int64) : DV (hup h D (dobj (D + 1) (D + 3) R H W a b c d)) L D (D + 1) (D + 3) R H W a b c d := by
  obtain ⟨⟨a', b', c', d', y⟩, -⟩ := x
  exact ⟨hup_self _ _ _, y.2⟩
theorem DVx.mem {h : Hp} {L : Nat → Nat} {D R H W : Nat} (x : DVx h L D R H W) : dn D R ∧ dn D H ∧ dn D W := by
  have h1 := (x.2 R).mp (Or.inl rfl)
  have h2 := (x.2 H).mp (Or.inr (Or.inl rfl))
  have h3 := (x.2 W).mp (Or.inr (Or.inr rfl))
  unfold dn
  omega
def frD (D : Nat) (N N' : NC) : Prop := ∀ k, ¬ dn D k → N' k = N k
def frO (D : Nat) (h h' : Hp) : Prop := ∀ y, y ≠ D → h' y = h y
theorem frO_up {D : Nat} {h : Hp} {c : AC} : frO D h (hup h D c) := fun _ hy => hup_ne hy
theorem ct_X0_findCommon (n : Nat) (h : Hp) (L : Nat → Nat) (N : NC) (D R H W x y u v : Nat) (w : LW L) (hD : DVx h L D R H W) (hA : NA L N) (hx : L x ≠ 0) (hy : L y ≠ 0) (hxd : ¬ dn D x) (hyd : ¬ dn D y) (hu : num (L x) (N x) u) (hv : num (L y) (N y) v) (hv0 : 0 < v) (hul : u < (2 ^ 32) ^ 70) (hvl : v < (2 ^ 32) ^ 70) : CT mX0_findCommon 0 0 n (nh h L N) [.ref D, .ref x, .ref y] (fun z n' h' => n = n' ∧ z = none ∧ ∃ h2 N' R' H' W', h' = nh h2 L N' ∧ DVx h2 L D R' H' W' ∧ frO D h h2 ∧ NA L N' ∧ frD D N N' ∧ num (L H') (N' H') (Nat.gcd u v)) := by
  refine CT.intro [some (.ref D), some (.ref x), some (.ref y), none, none] 2 rfl rfl (by decide) ?_
  intro Q hQ
  obtain ⟨⟨a, b, c, d, hDV⟩, hperm⟩ := id hD
  obtain ⟨hD0, ⟨hLD, hLD1⟩, ⟨l1, l2, l3, l4, l5⟩, ⟨p1, p2, p3, p4⟩, ⟨p5, p6, p7⟩, ⟨p8, p9⟩, p10⟩ := id hDV
  obtain ⟨dR, dH, dW⟩ := hD.mem
  have hH0 : L H ≠ 0 := by omega
  have hW0 : L W ≠ 0 := by omega
  have nex : ∀ {k k' : Nat}, ¬ dn D k → dn D k' → k ≠ k' := fun h1 h2 e => h1 (e ▸ h2)
  have hDn : ∀ {C : NC}, nh h L C D = some (dobj (D + 1) (D + 3) R H W a b c d) := by intro C; rw [nh_no h _ hLD hLD1]; exact hD0
  obtain ⟨eH, nH⟩ := hA H hH0
  obtain ⟨eW, nW⟩ := hA W hW0
  have bl : ∀ k, L k = 72 → ∀ z, z < (2 ^ 32) ^ 70 → z < (2 ^ 32) ^ L k := fun k hk z hz => by
    rw [hk]; exact Nat.lt_of_lt_of_le hz (Nat.pow_le_pow_right (by decide) (by decide))
  -- the loop
  have loop : ∀ (m st : Nat) (R H W : Nat) (h1 : Hp) (N1 : NC) (hv lv : Nat) (y3 : Int32), DVx h1 L D R H W → frO D h h1 → NA L N1 → frD D N N1 → num (L H) (N1 H) hv → num (L W) (N1 W) lv → lv ≤ hv → 0 < hv → hv < (2 ^ 32) ^ 70 → Nat.gcd hv lv = Nat.gcd u v → nb (hv * lv) ≤ m → st + m ≤ 5000 → AW mX0_findCommon (gq 0 0 Q) 49 [some (.ref D), some (.ref x), some (.ref y), some (.int y3), some (.int (nI st))] [] 0 0 n (nh h1 L N1) := by
    intro m
    induction m with
    | zero =>
      intro st R H W h1 N1 hv lv y3 k1 k2 k3 k4 k5 k6 k7 k8 k9 k10 k11 k12
      have hz : lv = 0 := by
        rcases Nat.eq_zero_or_pos lv with z | z
        · exact z
        · have := nb_pos (v := hv * lv) (Nat.mul_pos k8 z); omega
      subst hz
      rw [Nat.gcd_zero_right] at k10
      rw [k10] at k5
      obtain ⟨⟨a, b, c, d, hDV⟩, hperm⟩ := id k1
      obtain ⟨hD0, ⟨hLD, hLD1⟩, ⟨l1, l2, l3, l4, l5⟩, -⟩ := hDV
      have hDn : nh h1 L N1 D = some (dobj (D + 1) (D + 3) R H W a b c d) := by rw [nh_no h1 _ hLD hLD1]; exact hD0
      have hW0 : L W ≠ 0 := by omega
      refine aw_iload dX0_findCommon_49 rfl ?_
      refine aw_ldc qX0_123 dX0_findCommon_51 ?_
      refine aw_icmp_ge (tgt := 122) dX0_findCommon_53 (by decide) (fun c => absurd c (nI_ge (b := 1000000) (by omega) (by decide))) (fun _ => ?_)
      refine aw_aload_n (i := 0) dX0_findCommon_56 rfl rfl ?_
      refine aw_getfield fX0_29 dX0_findCommon_57 hDn rfl ?_
      refine aw_getfield fX0_72 dX0_findCommon_60 (nh_o h1 N1 hW0) rfl ?_
      refine aw_if_le (tgt := 122) dX0_findCommon_63 (by decide) (fun _ => ?_) (fun c => (c (by rw [(num_0 k6).mpr rfl]; decide)).elim)
      refine aw_return dX0_findCommon_122 rfl (Nat.le_of_ble_eq_true rfl) (Nat.le_of_ble_eq_true rfl) ?_
      exact hQ _ _ _ ⟨rfl, rfl, h1, N1, R, H, W, rfl, k1, k2, k3, k4, k5⟩
    | succ m ih =>
      intro st R H W h1 N1 hv lv y3 k1 k2 k3 k4 k5 k6 k7 k8 k9 k10 k11 k12
      by_cases hz : lv = 0
      · exact ih st R H W h1 N1 hv lv y3 k1 k2 k3 k4 k5 k6 k7 k8 k9 k10 (by rw [hz, Nat.mul_zero, nb_zero]; omega) (by omega)
      obtain ⟨⟨a, b, c, d, hDV⟩, hperm⟩ := id k1
      obtain ⟨hD0, ⟨hLD, hLD1⟩, ⟨l1, l2, l3, l4, l5⟩, ⟨p1, p2, p3, p4⟩, ⟨p5, p6, p7⟩, ⟨p8, p9⟩, p10⟩ := id hDV
      obtain ⟨dR, dH, dW⟩ := k1.mem
      have hH0 : L H ≠ 0 := by omega
      have hW0 : L W ≠ 0 := by omega
      have hDn : nh h1 L N1 D = some (dobj (D + 1) (D + 3) R H W a b c d) := by rw [nh_no h1 _ hLD hLD1]; exact hD0
      have hsW : (N1 W).1 ≠ 0 := fun e => hz ((num_0 k6).mp e)
      have hsW2 := k6.1.1
      have hsH2 := num_le k5 k9
      have hsW3 := num_le k6 (show lv < (2 ^ 32) ^ 70 by omega)
      have hnbH : nb hv ≤ 2304 := by
        have e1 := raw_lt k5.1
        have e2 := k5.1.1
        rw [p32] at e1
        have := nb_le.mpr e1
        omega
      have hmz : 0 < nb (hv * lv) := nb_pos (Nat.mul_pos k8 (by omega))
      refine aw_iload dX0_findCommon_49 rfl ?_
      refine aw_ldc qX0_123 dX0_findCommon_51 ?_
      refine aw_icmp_ge (tgt := 122) dX0_findCommon_53 (by decide) (fun c => absurd c (nI_ge (b := 1000000) (by omega) (by decide))) (fun _ => ?_)
      refine aw_aload_n (i := 0) dX0_findCommon_56 rfl rfl ?_
      refine aw_getfield fX0_29 dX0_findCommon_57 hDn rfl ?_
      refine aw_getfield fX0_72 dX0_findCommon_60 (nh_o h1 N1 hW0) rfl ?_
      refine aw_if_le (tgt := 122) dX0_findCommon_63 (by decide) (fun c => absurd c (nI_nle (by omega) (by omega))) (fun _ => ?_)
      refine aw_aload_n (i := 0) dX0_findCommon_66 rfl rfl ?_
      refine aw_getfield fX0_26 dX0_findCommon_67 hDn rfl ?_
      refine aw_invokevirtual kX0_76 dX0_findCommon_70 (nh_o h1 N1 hH0) (ct_X3_bits n h1 L N1 H hv w hH0 k5) rfl rfl (Nat.le_of_ble_eq_true rfl) ⟨Nat.le_of_ble_eq_true rfl, Nat.le_of_ble_eq_true rfl⟩ ⟨Nat.le_of_ble_eq_true rfl, Nat.le_of_ble_eq_true rfl⟩ ?_
      rintro _ _ _ ⟨rfl, rfl, rfl⟩
      refine aw_bipush (v := 62) dX0_findCommon_73 (by decide +kernel) ?_
      by_cases hb : nb hv ≤ 62
      · refine aw_icmp_gt (tgt := 85) dX0_findCommon_75 (by decide) (fun c => absurd c (nI_nlt (a := 62) (by omega) (by decide))) (fun _ => ?_)
        refine aw_aload_n (i := 0) dX0_findCommon_78 rfl rfl ?_
        refine aw_invokevirtual kX0_124 dX0_findCommon_79 hDn (ct_X0_finish n h1 L N1 D (D + 1) (D + 3) R H W hv lv a b c d w hDV k5 k6 k7 (nb_le.mp hb)) rfl rfl (Nat.le_of_ble_eq_true rfl) ⟨Nat.le_of_ble_eq_true rfl, Nat.le_of_ble_eq_true rfl⟩ ⟨Nat.le_of_ble_eq_true rfl, Nat.le_of_ble_eq_true rfl⟩ ?_
        rintro _ _ _ ⟨rfl, rfl, N2, rfl, d1, d2, f2⟩
        refine aw_goto (tgt := 116) dX0_findCommon_82 (by decide) ?_
        refine aw_iinc_4 (c0 := 1) dX0_findCommon_116 (by decide) (by decide) rfl ?_
        refine aw_goto (tgt := 49) dX0_findCommon_119 (by decide) ?_
        rw [nI_1]
        refine ih (st + 1) R H W h1 N2 (Nat.gcd hv lv) 0 _ k1 k2 ?_ ?_ d1 d2 (Nat.zero_le _) (Nat.gcd_pos_of_pos_left _ k8) (Nat.lt_of_le_of_lt (Nat.gcd_le_left _ k8) k9) (by rw [Nat.gcd_zero_right]; exact k10) (by rw [Nat.mul_zero, nb_zero]; omega) (by omega)
        · intro k hk
          by_cases e1 : k = H
          · rw [e1]; exact ⟨_, d1⟩
          · by_cases e2 : k = W
            · rw [e2]; exact ⟨_, d2⟩
            · rw [f2 k e1 e2]; exact k3 k hk
        · intro k hk
          rw [f2 k (nex hk dH) (nex hk dW)]; exact k4 k hk
      · refine aw_icmp_gt (tgt := 85) dX0_findCommon_75 (by decide) (fun _ => ?_) (fun c => (c (nI_lt (a := 62) (by omega) (by omega))).elim)
        refine aw_aload_n (i := 0) dX0_findCommon_85 rfl rfl ?_
        refine aw_invokevirtual kX0_127 dX0_findCommon_86 hDn (ct_X0_findLeap n h1 L N1 D (D + 1) (D + 3) R H W hv lv a b c d w hDV k5 k6 k7 (by omega) (by omega)) rfl rfl (Nat.le_of_ble_eq_true rfl) ⟨Nat.le_of_ble_eq_true rfl, Nat.le_of_ble_eq_true rfl⟩ ⟨Nat.le_of_ble_eq_true rfl, Nat.le_of_ble_eq_true rfl⟩ ?_
        rintro _ _ _ ⟨rfl, x0, y0, A, B, C, E, xx, yy, rfl, rfl, hl⟩
        have hDV2 := k1.up (lI A) (lI B) (lI C) (lI E)
        have k1b : DVx (hup h1 D (dobj (D + 1) (D + 3) R H W (lI A) (lI B) (lI C) (lI E))) L D R H W := ⟨⟨_, _, _, _, hDV2⟩, hperm⟩
        have k2b : frO D h (hup h1 D (dobj (D + 1) (D + 3) R H W (lI A) (lI B) (lI C) (lI E))) := fun y hy => by rw [hup_ne hy]; exact k2 y hy
        generalize hup h1 D (dobj (D + 1) (D + 3) R H W (lI A) (lI B) (lI C) (lI E)) = h2 at *
        have hDn2 : ∀ {C' : NC}, nh h2 L C' D = some (dobj (D + 1) (D + 3) R H W (lI A) (lI B) (lI C) (lI E)) := by intro C'; rw [nh_no h2 _ hLD hLD1]; exact hDV2.1
        by_cases hB0 : B = 0
        · rw [decide_eq_false (fun e => e hB0)]
          obtain ⟨eq, nq⟩ := k3 (D + 1) (by omega)
          obtain ⟨eV, nV⟩ := k3 (D + 3) (by omega)
          obtain ⟨eR, nR⟩ := k3 R (by omega)
          refine aw_if_eq (tgt := 99) dX0_findCommon_89 (by decide) (fun _ => ?_) (fun c => (c rfl).elim)
          refine aw_aload_n (i := 0) dX0_findCommon_99 rfl rfl ?_
          refine aw_aload_n (i := 0) dX0_findCommon_100 rfl rfl ?_
          refine aw_getfield fX0_26 dX0_findCommon_101 hDn2 rfl ?_
          refine aw_aload_n (i := 0) dX0_findCommon_104 rfl rfl ?_
          refine aw_getfield fX0_29 dX0_findCommon_105 hDn2 rfl ?_
          refine aw_invokevirtual kX0_61 dX0_findCommon_108 hDn2 (ct_X0_divide n h2 L N1 D (D + 1) (D + 3) R H W H W hv lv eq eV eR (lI A) (lI B) (lI C) (lI E) w hDV2.1 hLD hLD1 l1 l2 l3 hH0 hW0 p1 p2 p5 (Ne.symm p3) (Ne.symm p6) (Ne.symm p8) (Ne.symm p4) (Ne.symm p7) (Ne.symm p9) nq nV nR k5 k6 (by omega) hsH2 hsW3) rfl rfl (Nat.le_of_ble_eq_true rfl) ⟨Nat.le_of_ble_eq_true rfl, Nat.le_of_ble_eq_true rfl⟩ ⟨Nat.le_of_ble_eq_true rfl, Nat.le_of_ble_eq_true rfl⟩ ?_
          rintro _ _ _ ⟨rfl, rfl, N2, rfl, d1, d2, ⟨e3, d3⟩, f2⟩
          refine aw_pop dX0_findCommon_111 rfl ?_
          refine aw_aload_n (i := 0) dX0_findCommon_112 rfl rfl ?_
          refine aw_invokevirtual kX0_133 dX0_findCommon_113 hDn2 (ct_X0_moveOn n h2 L N2 D (D + 1) (D + 3) R H W (lI A) (lI B) (lI C) (lI E) hDV2) rfl rfl (Nat.le_of_ble_eq_true rfl) ⟨Nat.le_of_ble_eq_true rfl, Nat.le_of_ble_eq_true rfl⟩ ⟨Nat.le_of_ble_eq_true rfl, Nat.le_of_ble_eq_true rfl⟩ ?_
          rintro _ _ _ ⟨rfl, rfl, rfl⟩
          refine aw_iinc_4 (c0 := 1) dX0_findCommon_116 (by decide) (by decide) rfl ?_
          refine aw_goto (tgt := 49) dX0_findCommon_119 (by decide) ?_
          rw [nI_1]
          have hml := Nat.mod_lt hv (show 0 < lv by omega)
          have heu := euc_half k7 (show 0 < lv by omega)
          refine ih (st + 1) H W R _ N2 lv (hv % lv) _ ⟨⟨_, _, _, _, hup_self _ _ _, ⟨hLD, hLD1⟩, ⟨l1, l2, l4, l5, l3⟩, ⟨p1, p3, p4, p2⟩, ⟨p6, p7, p5⟩, ⟨p10, Ne.symm p8⟩, Ne.symm p9⟩, fun k => ?_⟩ (fun y hy => by rw [hup_ne hy]; exact k2b y hy) ?_ ?_ (by rw [f2 W (Ne.symm p4) (Ne.symm p7) (Ne.symm p9)]; exact k6) d2 (by omega) (by omega) (by omega) (gcd_step.trans k10) (by omega) (by omega)
          · have := hperm k; omega
          · intro k hk
            by_cases e1 : k = D + 1
            · rw [e1]; exact ⟨_, d1⟩
            · by_cases e2 : k = D + 3
              · rw [e2]; exact ⟨_, d3⟩
              · by_cases e3 : k = R
                · rw [e3]; exact ⟨_, d2⟩
                · rw [f2 k e1 e2 e3]; exact k3 k hk
          · intro k hk
            rw [f2 k (fun e => hk (Or.inl e)) (fun e => hk (Or.inr (Or.inl e))) (nex hk dR)]; exact k4 k hk
        · rw [decide_eq_true hB0]
          obtain ⟨-, hsg, hbd, -, Hv, Lv, eqH, eqL, q1, q2, q3, q4, q5, q6⟩ := hl
          have q5' : nb (Hv * Lv) < nb (hv * lv) := by
            rcases q5 with z | z
            · exact absurd z hB0
            · exact z
          refine aw_if_eq (tgt := 99) dX0_findCommon_89 (by decide) (fun c => absurd c (by decide)) (fun _ => ?_)
          refine aw_aload_n (i := 0) dX0_findCommon_92 rfl rfl ?_
          refine aw_invokevirtual kX0_130 dX0_findCommon_93 hDn2 (ct_X0_leap n h2 L N1 D (D + 1) (D + 3) R H W hv lv Hv Lv A B C E w hDV2 k5 k6 k7 hsg hbd eqH eqL q2 (by omega)) rfl rfl (Nat.le_of_ble_eq_true rfl) ⟨Nat.le_of_ble_eq_true rfl, Nat.le_of_ble_eq_true rfl⟩ ⟨Nat.le_of_ble_eq_true rfl, Nat.le_of_ble_eq_true rfl⟩ ?_
          rintro _ _ _ ⟨rfl, rfl, N2, rfl, d1, d2, f2⟩
          refine aw_goto (tgt := 116) dX0_findCommon_96 (by decide) ?_
          refine aw_iinc_4 (c0 := 1) dX0_findCommon_116 (by decide) (by decide) rfl ?_
          refine aw_goto (tgt := 49) dX0_findCommon_119 (by decide) ?_
          rw [nI_1]
          refine ih (st + 1) R H W h2 N2 Hv Lv _ k1b k2b ?_ ?_ d1 d2 q1 q3 (by omega) (q4.trans k10) (by omega) (by omega)
          · intro k hk
            by_cases e1 : k = H
            · rw [e1]; exact ⟨_, d1⟩
            · by_cases e2 : k = W
              · rw [e2]; exact ⟨_, d2⟩
              · rw [f2 k e1 e2]; exact k3 k hk
          · intro k hk
            rw [f2 k (nex hk dH) (nex hk dW)]; exact k4 k hk
  -- high and low at the start
  have start : ∀ (X Y hv lv : Nat) (N1 : NC), (∀ k, k ≠ H → k ≠ W → N1 k = N k) → num (L H) (N1 H) hv → num (L W) (N1 W) lv → lv ≤ hv → 0 < hv → hv < (2 ^ 32) ^ 70 → Nat.gcd hv lv = Nat.gcd u v → nb (hv * lv) ≤ 4480 → ∀ y3 : Int32, AW mX0_findCommon (gq 0 0 Q) 46 [some (.ref D), some (.ref x), some (.ref y), some (.int y3), none] [] 0 0 n (nh h L N1) := by
    intro X Y hv lv N1 f1 d1 d2 k7 k8 k9 k10 k11 y3
    refine aw_iconst (v := 0) dX0_findCommon_46 (by decide +kernel) ?_
    refine aw_istore_4 dX0_findCommon_47 (by decide) rfl ?_
    refine loop 4480 0 R H W h N1 hv lv y3 hD (fun _ _ => rfl) ?_ ?_ d1 d2 k7 k8 k9 k10 k11 (by omega)
    · intro k hk
      by_cases e1 : k = H
      · rw [e1]; exact ⟨_, d1⟩
      · by_cases e2 : k = W
        · rw [e2]; exact ⟨_, d2⟩
        · rw [f1 k e1 e2]; exact hA k hk
    · intro k hk
      exact f1 k (nex hk dH) (nex hk dW)
  have hbits : ∀ s t : Nat, s < (2 ^ 32) ^ 70 → t < (2 ^ 32) ^ 70 → nb (s * t) ≤ 4480 := fun s t h1 h2 => by
    rw [p32] at h1 h2
    exact nb_mul h1 h2
  refine aw_aload_n (i := 1) dX0_findCommon_0 rfl rfl ?_
  refine aw_aload_n (i := 2) dX0_findCommon_1 rfl rfl ?_
  refine aw_invokevirtual kX0_119 dX0_findCommon_2 (nh_o h N hx) (ct_X3_against n h L N x y u v w hx hy hu hv) rfl rfl (Nat.le_of_ble_eq_true rfl) ⟨Nat.le_of_ble_eq_true rfl, Nat.le_of_ble_eq_true rfl⟩ ⟨Nat.le_of_ble_eq_true rfl, Nat.le_of_ble_eq_true rfl⟩ ?_
  rintro _ _ _ ⟨rfl, rfl, rfl⟩
  by_cases huv : u < v
  · rw [cmp_lt huv]
    refine aw_if_lt (tgt := 12) dX0_findCommon_5 (by decide) (fun _ => ?_) (fun c => (c (by decide)).elim)
    refine aw_iconst (v := 0) dX0_findCommon_12 (by decide +kernel) ?_
    refine aw_istore_3 dX0_findCommon_13 (by decide) rfl ?_
    refine aw_aload_n (i := 0) dX0_findCommon_14 rfl rfl ?_
    refine aw_getfield fX0_26 dX0_findCommon_15 hDn rfl ?_
    refine aw_iload_n (i := 3) dX0_findCommon_18 rfl rfl ?_
    refine aw_if_eq (tgt := 26) dX0_findCommon_19 (by decide) (fun _ => ?_) (fun c => (c rfl).elim)
    refine aw_aload_n (i := 2) dX0_findCommon_26 rfl rfl ?_
    refine aw_invokevirtual kX0_65 dX0_findCommon_27 (nh_o h N hH0) (ct_X3_copy n h L N H y eH v w hH0 hy (nex hyd dH) nH hv (bl H l4 v hvl)) rfl rfl (Nat.le_of_ble_eq_true rfl) ⟨Nat.le_of_ble_eq_true rfl, Nat.le_of_ble_eq_true rfl⟩ ⟨Nat.le_of_ble_eq_true rfl, Nat.le_of_ble_eq_true rfl⟩ ?_
    rintro _ _ _ ⟨rfl, rfl, N1, rfl, d1, f1⟩
    refine aw_aload_n (i := 0) dX0_findCommon_30 rfl rfl ?_
    refine aw_getfield fX0_29 dX0_findCommon_31 hDn rfl ?_
    refine aw_iload_n (i := 3) dX0_findCommon_34 rfl rfl ?_
    refine aw_if_eq (tgt := 42) dX0_findCommon_35 (by decide) (fun _ => ?_) (fun c => (c rfl).elim)
    refine aw_aload_n (i := 1) dX0_findCommon_42 rfl rfl ?_
    refine aw_invokevirtual kX0_65 dX0_findCommon_43 (nh_o h N1 hW0) (ct_X3_copy n h L N1 W x eW u w hW0 hx (nex hxd dW) (by rw [f1 W (Ne.symm p10)]; exact nW) (by rw [f1 x (nex hxd dH)]; exact hu) (bl W l5 u hul)) rfl rfl (Nat.le_of_ble_eq_true rfl) ⟨Nat.le_of_ble_eq_true rfl, Nat.le_of_ble_eq_true rfl⟩ ⟨Nat.le_of_ble_eq_true rfl, Nat.le_of_ble_eq_true rfl⟩ ?_
    rintro _ _ _ ⟨rfl, rfl, N2, rfl, d2, f2⟩
    exact start 0 0 v u N2 (fun k e1 e2 => by rw [f2 k e2, f1 k e1]) (by rw [f2 H p10]; exact d1) d2 (Nat.le_of_lt huv) hv0 hvl (Nat.gcd_comm _ _) (hbits _ _ hvl hul) _
  · have hge : ¬ cmpI u v < 0 := by
      unfold cmpI
      rw [if_neg huv]
      split <;> decide
    refine aw_if_lt (tgt := 12) dX0_findCommon_5 (by decide) (fun c => absurd c hge) (fun _ => ?_)
    refine aw_iconst (v := 1) dX0_findCommon_8 (by decide +kernel) ?_
    refine aw_goto (tgt := 13) dX0_findCommon_9 (by decide) ?_
    refine aw_istore_3 dX0_findCommon_13 (by decide) rfl ?_
    refine aw_aload_n (i := 0) dX0_findCommon_14 rfl rfl ?_
    refine aw_getfield fX0_26 dX0_findCommon_15 hDn rfl ?_
    refine aw_iload_n (i := 3) dX0_findCommon_18 rfl rfl ?_
    refine aw_if_eq (tgt := 26) dX0_findCommon_19 (by decide) (fun c => absurd c (by decide)) (fun _ => ?_)
    refine aw_aload_n (i := 1) dX0_findCommon_22 rfl rfl ?_
    refine aw_goto (tgt := 27) dX0_findCommon_23 (by decide) ?_
    refine aw_invokevirtual kX0_65 dX0_findCommon_27 (nh_o h N hH0) (ct_X3_copy n h L N H x eH u w hH0 hx (nex hxd dH) nH hu (bl H l4 u hul)) rfl rfl (Nat.le_of_ble_eq_true rfl) ⟨Nat.le_of_ble_eq_true rfl, Nat.le_of_ble_eq_true rfl⟩ ⟨Nat.le_of_ble_eq_true rfl, Nat.le_of_ble_eq_true rfl⟩ ?_
    rintro _ _ _ ⟨rfl, rfl, N1, rfl, d1, f1⟩
    refine aw_aload_n (i := 0) dX0_findCommon_30 rfl rfl ?_
    refine aw_getfield fX0_29 dX0_findCommon_31 hDn rfl ?_
    refine aw_iload_n (i := 3) dX0_findCommon_34 rfl rfl ?_
    refine aw_if_eq (tgt := 42) dX0_findCommon_35 (by decide) (fun c => absurd c (by decide)) (fun _ => ?_)
    refine aw_aload_n (i := 2) dX0_findCommon_38 rfl rfl ?_
    refine aw_goto (tgt := 43) dX0_findCommon_39 (by decide) ?_
    refine aw_invokevirtual kX0_65 dX0_findCommon_43 (nh_o h N1 hW0) (ct_X3_copy n h L N1 W y eW v w hW0 hy (nex hyd dW) (by rw [f1 W (Ne.symm p10)]; exact nW) (by rw [f1 y (nex hyd dH)]; exact hv) (bl W l5 v hvl)) rfl rfl (Nat.le_of_ble_eq_true rfl) ⟨Nat.le_of_ble_eq_true rfl, Nat.le_of_ble_eq_true rfl⟩ ⟨Nat.le_of_ble_eq_true rfl, Nat.le_of_ble_eq_true rfl⟩ ?_
    rintro _ _ _ ⟨rfl, rfl, N2, rfl, d2, f2⟩
    exact start 0 0 u v N2 (fun k e1 e2 => by rw [f2 k e2, f1 k e1]) (by rw [f2 H p10]; exact d1) d2 (by omega) (by omega) hul rfl (hbits _ _ hul hvl) _
