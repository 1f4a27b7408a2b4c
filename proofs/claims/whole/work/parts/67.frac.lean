/-! fractions -/
def fobj (F f : Nat) : AC := .inr (1, [.ref (F + 1), .ref (F + 3), .int (nI f)])
/-- a fraction and its two numbers -/
def FR (h : Hp) (L : Nat → Nat) (F f : Nat) : Prop := h F = some (fobj F f) ∧ L F = 0 ∧ L (F - 1) = 0 ∧ L (F + 1) ≠ 0 ∧ L (F + 3) ≠ 0
theorem FR.at {h : Hp} {L : Nat → Nat} {F f : Nat} (x : FR h L F f) (N : NC) : nh h L N F = some (fobj F f) := by rw [nh_no h _ x.2.1 x.2.2.1]; exact x.1
theorem FR.frO {h h' : Hp} {L : Nat → Nat} {F f D : Nat} (x : FR h L F f) (e : frO D h h') (hF : F ≠ D) : FR h' L F f := ⟨by rw [e F hF]; exact x.1, x.2⟩
theorem raw_fit {l : Nat} {c : Nat × (Nat → Nat)} {v z : Nat} (h : raw l c v) (hz : z ≤ v) : z < (2 ^ 32) ^ l := Nat.lt_of_le_of_lt hz (Nat.lt_of_lt_of_le (raw_lt h) (Nat.pow_le_pow_right (by decide) h.1))
theorem ct_X0_toLowestTerms (n : Nat) (h : Hp) (L : Nat → Nat) (N : NC) (D R H W F f u v : Nat) (w : LW L) (hD : DVx h L D R H W) (hA : NA L N) (hF : FR h L F f) (hFD : F ≠ D) (d1 : ¬ dn D (F + 1)) (d3 : ¬ dn D (F + 3)) (hu : num (L (F + 1)) (N (F + 1)) u) (hv : num (L (F + 3)) (N (F + 3)) v) (hv0 : 0 < v) (hul : u < (2 ^ 32) ^ 70) (hvl : v < (2 ^ 32) ^ 70) : CT mX0_toLowestTerms 0 0 n (nh h L N) [.ref D, .ref F] (fun z n' h' => n = n' ∧ z = none ∧ ∃ h2 N' R' H' W', h' = nh h2 L N' ∧ DVx h2 L D R' H' W' ∧ frO D h h2 ∧ NA L N' ∧ (∀ k, ¬ dn D k → k ≠ F + 1 → k ≠ F + 3 → N' k = N k) ∧ num (L (F + 1)) (N' (F + 1)) (u / Nat.gcd u v) ∧ num (L (F + 3)) (N' (F + 3)) (v / Nat.gcd u v)) := by
  refine CT.intro [some (.ref D), some (.ref F)] 0 rfl rfl (by decide) ?_
  intro Q hQ
  obtain ⟨-, -, -, hp, hr⟩ := id hF
  have hF' := hF.at
  have hD0 : ∃ a b c d, ∀ N : NC, nh h L N D = some (dobj (D + 1) (D + 3) R H W a b c d) := by
    obtain ⟨⟨a, b, c, d, hDV⟩, -⟩ := hD
    exact ⟨a, b, c, d, fun N => by rw [nh_no h _ hDV.2.1.1 hDV.2.1.2]; exact hDV.1⟩
  obtain ⟨a, b, c, d, hDn⟩ := hD0
  have g0 : 0 < Nat.gcd u v := Nat.gcd_pos_of_pos_right _ hv0
  refine aw_aload_n (i := 0) dX0_toLowestTerms_0 rfl rfl ?_
  refine aw_aload_n (i := 1) dX0_toLowestTerms_1 rfl rfl ?_
  refine aw_getfield fX0_45 dX0_toLowestTerms_2 (hF' _) rfl ?_
  refine aw_aload_n (i := 1) dX0_toLowestTerms_5 rfl rfl ?_
  refine aw_getfield fX0_50 dX0_toLowestTerms_6 (hF' _) rfl ?_
  refine aw_invokevirtual kX0_53 dX0_toLowestTerms_9 (hDn _) (ct_X0_findCommon n h L N D R H W (F + 1) (F + 3) u v w hD hA hp hr d1 d3 hu hv hv0 hul hvl) rfl rfl (Nat.le_of_ble_eq_true rfl) ⟨Nat.le_of_ble_eq_true rfl, Nat.le_of_ble_eq_true rfl⟩ ⟨Nat.le_of_ble_eq_true rfl, Nat.le_of_ble_eq_true rfl⟩ ?_
  rintro _ _ _ ⟨rfl, rfl, h2, N1, R1, H1, W1, rfl, D2, o2, A2, f2, g2⟩
  have F2 := hF.frO o2 hFD
  obtain ⟨⟨a, b, c, d, hDV⟩, hperm⟩ := id D2
  obtain ⟨hD0, ⟨hLD, hLD1⟩, ⟨l1, l2, l3, l4, l5⟩, ⟨p1, p2, p3, p4⟩, ⟨p5, p6, p7⟩, ⟨p8, p9⟩, p10⟩ := id hDV
  obtain ⟨dR, dH, dW⟩ := D2.mem
  have hH0 : L H1 ≠ 0 := by omega
  have nex : ∀ {k k' : Nat}, ¬ dn D k → dn D k' → k ≠ k' := fun h1 h2 e => h1 (e ▸ h2)
  have e1 : N1 (F + 1) = N (F + 1) := f2 _ d1
  have e3 : N1 (F + 3) = N (F + 3) := f2 _ d3
  have hDn2 : ∀ {C : NC}, nh h2 L C D = some (dobj (D + 1) (D + 3) R1 H1 W1 a b c d) := by intro C; rw [nh_no h2 _ hLD hLD1]; exact hD0
  have dq : dn D (D + 1) := Or.inl rfl
  have dV : dn D (D + 3) := Or.inr (Or.inl rfl)
  refine aw_aload_n (i := 0) dX0_toLowestTerms_12 rfl rfl ?_
  refine aw_getfield fX0_26 dX0_toLowestTerms_13 hDn2 rfl ?_
  refine aw_invokevirtual kX0_57 dX0_toLowestTerms_16 (nh_o h2 N1 hH0) (ct_X3_isOne n h2 L N1 H1 _ w hH0 g2) rfl rfl (Nat.le_of_ble_eq_true rfl) ⟨Nat.le_of_ble_eq_true rfl, Nat.le_of_ble_eq_true rfl⟩ ⟨Nat.le_of_ble_eq_true rfl, Nat.le_of_ble_eq_true rfl⟩ ?_
  rintro _ _ _ ⟨rfl, rfl, rfl⟩
  by_cases h1 : Nat.gcd u v = 1
  · rw [decide_eq_true h1]
    refine aw_if_eq (tgt := 23) dX0_toLowestTerms_19 (by decide) (fun c => absurd c (by decide)) (fun _ => ?_)
    refine aw_return dX0_toLowestTerms_22 rfl (Nat.le_of_ble_eq_true rfl) (Nat.le_of_ble_eq_true rfl) ?_
    exact hQ _ _ _ ⟨rfl, rfl, h2, N1, R1, H1, W1, rfl, D2, o2, A2, fun k k1 _ _ => f2 k k1, by rw [h1, Nat.div_one, e1]; exact hu, by rw [h1, Nat.div_one, e3]; exact hv⟩
  · rw [decide_eq_false h1]
    obtain ⟨z1, n1⟩ := A2 (D + 1) (by omega)
    obtain ⟨z2, n2⟩ := A2 (D + 3) (by omega)
    obtain ⟨z3, n3⟩ := A2 R1 (by omega)
    have sg1 := num_le g2 (k := 70) (Nat.lt_of_le_of_lt (Nat.gcd_le_right _ hv0) hvl)
    refine aw_if_eq (tgt := 23) dX0_toLowestTerms_19 (by decide) (fun _ => ?_) (fun c => (c rfl).elim)
    refine aw_aload_n (i := 1) dX0_toLowestTerms_23 rfl rfl ?_
    refine aw_getfield fX0_45 dX0_toLowestTerms_24 (F2.at _) rfl ?_
    refine aw_aload_n (i := 0) dX0_toLowestTerms_27 rfl rfl ?_
    refine aw_aload_n (i := 1) dX0_toLowestTerms_28 rfl rfl ?_
    refine aw_getfield fX0_45 dX0_toLowestTerms_29 (F2.at _) rfl ?_
    refine aw_aload_n (i := 0) dX0_toLowestTerms_32 rfl rfl ?_
    refine aw_getfield fX0_26 dX0_toLowestTerms_33 hDn2 rfl ?_
    refine aw_invokevirtual kX0_61 dX0_toLowestTerms_36 hDn2 (ct_X0_divide n h2 L N1 D (D + 1) (D + 3) R1 H1 W1 (F + 1) H1 u _ z1 z2 z3 a b c d w hD0 hLD hLD1 l1 l2 l3 hp hH0 p1 p2 p5 (nex d1 dq) (nex d1 dV) (nex d1 dR) (Ne.symm p3) (Ne.symm p6) (Ne.symm p8) n1 n2 n3 (by rw [e1]; exact hu) g2 g0 (by rw [e1]; exact num_le hu hul) sg1) rfl rfl (Nat.le_of_ble_eq_true rfl) ⟨Nat.le_of_ble_eq_true rfl, Nat.le_of_ble_eq_true rfl⟩ ⟨Nat.le_of_ble_eq_true rfl, Nat.le_of_ble_eq_true rfl⟩ ?_
    rintro _ _ _ ⟨rfl, rfl, N2, rfl, c1, c2, ⟨cv, c3⟩, f3⟩
    have e1' : N2 (F + 1) = N (F + 1) := by rw [f3 _ (nex d1 dq) (nex d1 dV) (nex d1 dR)]; exact e1
    refine aw_invokevirtual kX0_65 dX0_toLowestTerms_39 (nh_o h2 N2 hp) (ct_X3_copy n h2 L N2 (F + 1) (D + 1) u _ w hp (by omega) (Ne.symm (nex d1 dq)) (by rw [e1']; exact hu) c1 (raw_fit hu.1 (Nat.div_le_self _ _))) rfl rfl (Nat.le_of_ble_eq_true rfl) ⟨Nat.le_of_ble_eq_true rfl, Nat.le_of_ble_eq_true rfl⟩ ⟨Nat.le_of_ble_eq_true rfl, Nat.le_of_ble_eq_true rfl⟩ ?_
    rintro _ _ _ ⟨rfl, rfl, N3, rfl, c4, f4⟩
    have e3' : N3 (F + 3) = N (F + 3) := by rw [f4 _ (by omega), f3 _ (nex d3 dq) (nex d3 dV) (nex d3 dR)]; exact e3
    have hH3 : N3 H1 = N1 H1 := by rw [f4 _ (Ne.symm (nex d1 dH)), f3 _ (Ne.symm p3) (Ne.symm p6) (Ne.symm p8)]
    refine aw_aload_n (i := 1) dX0_toLowestTerms_42 rfl rfl ?_
    refine aw_getfield fX0_50 dX0_toLowestTerms_43 (F2.at _) rfl ?_
    refine aw_aload_n (i := 0) dX0_toLowestTerms_46 rfl rfl ?_
    refine aw_aload_n (i := 1) dX0_toLowestTerms_47 rfl rfl ?_
    refine aw_getfield fX0_50 dX0_toLowestTerms_48 (F2.at _) rfl ?_
    refine aw_aload_n (i := 0) dX0_toLowestTerms_51 rfl rfl ?_
    refine aw_getfield fX0_26 dX0_toLowestTerms_52 hDn2 rfl ?_
    refine aw_invokevirtual kX0_61 dX0_toLowestTerms_55 hDn2 (ct_X0_divide n h2 L N3 D (D + 1) (D + 3) R1 H1 W1 (F + 3) H1 v _ _ cv _ a b c d w hD0 hLD hLD1 l1 l2 l3 hr hH0 p1 p2 p5 (nex d3 dq) (nex d3 dV) (nex d3 dR) (Ne.symm p3) (Ne.symm p6) (Ne.symm p8) (by rw [f4 _ (Ne.symm (nex d1 dq))]; exact c1) (by rw [f4 _ (Ne.symm (nex d1 dV))]; exact c3) (by rw [f4 _ (Ne.symm (nex d1 dR))]; exact c2) (by rw [e3']; exact hv) (by rw [hH3]; exact g2) g0 (by rw [e3']; exact num_le hv hvl) (by rw [hH3]; exact sg1)) rfl rfl (Nat.le_of_ble_eq_true rfl) ⟨Nat.le_of_ble_eq_true rfl, Nat.le_of_ble_eq_true rfl⟩ ⟨Nat.le_of_ble_eq_true rfl, Nat.le_of_ble_eq_true rfl⟩ ?_
    rintro _ _ _ ⟨rfl, rfl, N4, rfl, c5, c6, ⟨cw, c7⟩, f5⟩
    have e3'' : N4 (F + 3) = N (F + 3) := by rw [f5 _ (nex d3 dq) (nex d3 dV) (nex d3 dR)]; exact e3'
    refine aw_invokevirtual kX0_65 dX0_toLowestTerms_58 (nh_o h2 N4 hr) (ct_X3_copy n h2 L N4 (F + 3) (D + 1) v _ w hr (by omega) (Ne.symm (nex d3 dq)) (by rw [e3'']; exact hv) c5 (raw_fit hv.1 (Nat.div_le_self _ _))) rfl rfl (Nat.le_of_ble_eq_true rfl) ⟨Nat.le_of_ble_eq_true rfl, Nat.le_of_ble_eq_true rfl⟩ ⟨Nat.le_of_ble_eq_true rfl, Nat.le_of_ble_eq_true rfl⟩ ?_
    rintro _ _ _ ⟨rfl, rfl, N5, rfl, c8, f6⟩
    refine aw_return dX0_toLowestTerms_61 rfl (Nat.le_of_ble_eq_true rfl) (Nat.le_of_ble_eq_true rfl) ?_
    have r1 : num (L (F + 1)) (N5 (F + 1)) (u / Nat.gcd u v) := by rw [f6 _ (by omega), f5 _ (nex d1 dq) (nex d1 dV) (nex d1 dR)]; exact c4
    refine hQ _ _ _ ⟨rfl, rfl, h2, N5, R1, H1, W1, rfl, D2, o2, ?_, fun k k1 k2 k3 => ?_, r1, c8⟩
    · intro k hk
      by_cases q1 : k = F + 3
      · rw [q1]; exact ⟨_, c8⟩
      · by_cases q2 : k = F + 1
        · rw [q2]; exact ⟨_, r1⟩
        · by_cases q3 : k = D + 1
          · rw [q3, f6 _ (Ne.symm (nex d3 dq))]; exact ⟨_, c5⟩
          · by_cases q4 : k = D + 3
            · rw [q4, f6 _ (Ne.symm (nex d3 dV))]; exact ⟨_, c7⟩
            · by_cases q5 : k = R1
              · rw [q5, f6 _ (Ne.symm (nex d3 dR))]; exact ⟨_, c6⟩
              · rw [f6 k q1, f5 k q3 q4 q5, f4 k q2, f3 k q3 q4 q5]; exact A2 k hk
    · rw [f6 k k3, f5 k (nex k1 dq) (nex k1 dV) (nex k1 dR), f4 k k2, f3 k (nex k1 dq) (nex k1 dV) (nex k1 dR)]; exact f2 k k1
/-- a method that leaves a fraction in F -/
def fto (n : Nat) (h : Hp) (L : Nat → Nat) (N : NC) (F u v : Nat) : Option Value → Nat → Hp → Prop := pv n (fun h' => ∃ N', h' = nh h L N' ∧ num (L (F + 1)) (N' (F + 1)) u ∧ num (L (F + 3)) (N' (F + 3)) v ∧ ∀ k, k ≠ F + 1 → k ≠ F + 3 → N' k = N k)
theorem NA.two {L : Nat → Nat} {N N' : NC} {a b u v : Nat} (h : NA L N) (h1 : num (L a) (N' a) u) (h2 : num (L b) (N' b) v) (f : ∀ k, k ≠ a → k ≠ b → N' k = N k) : NA L N' := fun k hk => by
  by_cases e : k = a
  · rw [e]; exact ⟨u, h1⟩
  · by_cases e2 : k = b
    · rw [e2]; exact ⟨v, h2⟩
    · rw [f k e e2]; exact h k hk
theorem ct_X1_half (n : Nat) (h : Hp) (L : Nat → Nat) (N : NC) (F f p : Nat) (hF : FR h L F f) (hp : p ≤ 1) : CT mX1_half 0 0 n (nh h L N) [.ref F, .int (nI p)] (fun z n' h' => n = n' ∧ nh h L N = h' ∧ z = some (.ref (if p = 0 then F + 1 else F + 3))) := by
  refine CT.intro [some (.ref F), some (.int (nI p))] 0 rfl rfl (by decide) ?_
  intro Q hQ
  refine aw_iload_n (i := 1) dX1_half_0 rfl rfl ?_
  by_cases h0 : p = 0
  · subst h0
    refine aw_if_ne (tgt := 11) dX1_half_1 (by decide) (fun c => absurd c (fun c => c rfl)) (fun _ => ?_)
    refine aw_aload_n (i := 0) dX1_half_4 rfl rfl ?_
    refine aw_getfield fX1_18 dX1_half_5 (hF.at N) rfl ?_
    refine aw_goto (tgt := 15) dX1_half_8 (by decide) ?_
    refine aw_areturn dX1_half_15 rfl (Or.inr ⟨_, rfl⟩) (Nat.le_of_ble_eq_true rfl) (Nat.le_of_ble_eq_true rfl) ?_
    exact hQ _ _ _ ⟨rfl, rfl, rfl⟩
  · obtain rfl : p = 1 := by omega
    refine aw_if_ne (tgt := 11) dX1_half_1 (by decide) (fun _ => ?_) (fun c => ((show ¬ nI 1 = 0 by decide +kernel) c).elim)
    refine aw_aload_n (i := 0) dX1_half_11 rfl rfl ?_
    refine aw_getfield fX1_22 dX1_half_12 (hF.at N) rfl ?_
    refine aw_areturn dX1_half_15 rfl (Or.inr ⟨_, rfl⟩) (Nat.le_of_ble_eq_true rfl) (Nat.le_of_ble_eq_true rfl) ?_
    exact hQ _ _ _ ⟨rfl, rfl, rfl⟩
theorem ct_X1_put (n : Nat) (h : Hp) (L : Nat → Nat) (N : NC) (F f u v : Nat) (w : LW L) (hF : FR h L F f) (hA : NA L N) (hu : u < 2 ^ 31) (hv : v < 2 ^ 31) : CT mX1_put 0 0 n (nh h L N) [.ref F, .int (nI u), .int (nI v)] (fto n h L N F u v) := by
  refine CT.intro [some (.ref F), some (.int (nI u)), some (.int (nI v))] 0 rfl rfl (by decide) ?_
  intro Q hQ
  obtain ⟨-, -, -, hp, hr⟩ := id hF
  obtain ⟨z1, n1⟩ := hA _ hp
  obtain ⟨z3, n3⟩ := hA _ hr
  refine aw_aload_n (i := 0) dX1_put_0 rfl rfl ?_
  refine aw_getfield fX1_18 dX1_put_1 (hF.at _) rfl ?_
  refine aw_iload_n (i := 1) dX1_put_4 rfl rfl ?_
  refine aw_i2l dX1_put_5 rfl ?_
  rw [nI_l hu]
  refine aw_invokevirtual kX1_25 dX1_put_6 (nh_o h N hp) (ct_X3_put n h L N (F + 1) z1 u w hp n1 (by omega)) rfl rfl (Nat.le_of_ble_eq_true rfl) ⟨Nat.le_of_ble_eq_true rfl, Nat.le_of_ble_eq_true rfl⟩ ⟨Nat.le_of_ble_eq_true rfl, Nat.le_of_ble_eq_true rfl⟩ ?_
  rintro _ _ _ ⟨rfl, rfl, N1, rfl, d1, f1⟩
  refine aw_aload_n (i := 0) dX1_put_9 rfl rfl ?_
  refine aw_getfield fX1_22 dX1_put_10 (hF.at _) rfl ?_
  refine aw_iload_n (i := 2) dX1_put_13 rfl rfl ?_
  refine aw_i2l dX1_put_14 rfl ?_
  rw [nI_l hv]
  refine aw_invokevirtual kX1_25 dX1_put_15 (nh_o h N1 hr) (ct_X3_put n h L N1 (F + 3) z3 v w hr (by rw [f1 _ (by omega)]; exact n3) (by omega)) rfl rfl (Nat.le_of_ble_eq_true rfl) ⟨Nat.le_of_ble_eq_true rfl, Nat.le_of_ble_eq_true rfl⟩ ⟨Nat.le_of_ble_eq_true rfl, Nat.le_of_ble_eq_true rfl⟩ ?_
  rintro _ _ _ ⟨rfl, rfl, N2, rfl, d2, f2⟩
  refine aw_return dX1_put_18 rfl (Nat.le_of_ble_eq_true rfl) (Nat.le_of_ble_eq_true rfl) ?_
  exact hQ _ _ _ ⟨rfl, rfl, N2, rfl, by rw [f2 _ (by omega)]; exact d1, d2, fun k k1 k2 => by rw [f2 k k2, f1 k k1]⟩
theorem ct_X1_copy (n : Nat) (h : Hp) (L : Nat → Nat) (N : NC) (F G f g u v : Nat) (w : LW L) (hF : FR h L F f) (hG : FR h L G g) (hA : NA L N) (q1 : G + 1 ≠ F + 1) (q2 : G + 3 ≠ F + 1) (q3 : G + 3 ≠ F + 3) (hu : num (L (G + 1)) (N (G + 1)) u) (hv : num (L (G + 3)) (N (G + 3)) v) (fu : u < (2 ^ 32) ^ L (F + 1)) (fv : v < (2 ^ 32) ^ L (F + 3)) : CT mX1_copy 0 0 n (nh h L N) [.ref F, .ref G] (fto n h L N F u v) := by
  refine CT.intro [some (.ref F), some (.ref G)] 0 rfl rfl (by decide) ?_
  intro Q hQ
  obtain ⟨-, -, -, hp, hr⟩ := id hF
  obtain ⟨-, -, -, hp2, hr2⟩ := id hG
  obtain ⟨z1, n1⟩ := hA _ hp
  obtain ⟨z3, n3⟩ := hA _ hr
  refine aw_aload_n (i := 0) dX1_copy_0 rfl rfl ?_
  refine aw_getfield fX1_18 dX1_copy_1 (hF.at _) rfl ?_
  refine aw_aload_n (i := 1) dX1_copy_4 rfl rfl ?_
  refine aw_getfield fX1_18 dX1_copy_5 (hG.at _) rfl ?_
  refine aw_invokevirtual kX1_29 dX1_copy_8 (nh_o h N hp) (ct_X3_copy n h L N (F + 1) (G + 1) z1 u w hp hp2 q1 n1 hu fu) rfl rfl (Nat.le_of_ble_eq_true rfl) ⟨Nat.le_of_ble_eq_true rfl, Nat.le_of_ble_eq_true rfl⟩ ⟨Nat.le_of_ble_eq_true rfl, Nat.le_of_ble_eq_true rfl⟩ ?_
  rintro _ _ _ ⟨rfl, rfl, N1, rfl, d1, f1⟩
  refine aw_aload_n (i := 0) dX1_copy_11 rfl rfl ?_
  refine aw_getfield fX1_22 dX1_copy_12 (hF.at _) rfl ?_
  refine aw_aload_n (i := 1) dX1_copy_15 rfl rfl ?_
  refine aw_getfield fX1_22 dX1_copy_16 (hG.at _) rfl ?_
  refine aw_invokevirtual kX1_29 dX1_copy_19 (nh_o h N1 hr) (ct_X3_copy n h L N1 (F + 3) (G + 3) z3 v w hr hr2 q3 (by rw [f1 _ (by omega)]; exact n3) (by rw [f1 _ q2]; exact hv) fv) rfl rfl (Nat.le_of_ble_eq_true rfl) ⟨Nat.le_of_ble_eq_true rfl, Nat.le_of_ble_eq_true rfl⟩ ⟨Nat.le_of_ble_eq_true rfl, Nat.le_of_ble_eq_true rfl⟩ ?_
  rintro _ _ _ ⟨rfl, rfl, N2, rfl, d2, f2⟩
  refine aw_return dX1_copy_22 rfl (Nat.le_of_ble_eq_true rfl) (Nat.le_of_ble_eq_true rfl) ?_
  exact hQ _ _ _ ⟨rfl, rfl, N2, rfl, by rw [f2 _ (by omega)]; exact d1, d2, fun k k1 k2 => by rw [f2 k k2, f1 k k1]⟩
theorem ct_X1_capAtOne (n : Nat) (h : Hp) (L : Nat → Nat) (N : NC) (F f u v : Nat) (w : LW L) (hF : FR h L F f) (hA : NA L N) (hu : num (L (F + 1)) (N (F + 1)) u) (hv : num (L (F + 3)) (N (F + 3)) v) : CT mX1_capAtOne 0 0 n (nh h L N) [.ref F] (fto n h L N F (if v < u then 1 else u) (if v < u then 1 else v)) := by
  refine CT.intro [some (.ref F)] 0 rfl rfl (by decide) ?_
  intro Q hQ
  obtain ⟨-, -, -, hp, hr⟩ := id hF
  refine aw_aload_n (i := 0) dX1_capAtOne_0 rfl rfl ?_
  refine aw_getfield fX1_18 dX1_capAtOne_1 (hF.at _) rfl ?_
  refine aw_aload_n (i := 0) dX1_capAtOne_4 rfl rfl ?_
  refine aw_getfield fX1_22 dX1_capAtOne_5 (hF.at _) rfl ?_
  refine aw_invokevirtual kX1_33 dX1_capAtOne_8 (nh_o h N hp) (ct_X3_against n h L N (F + 1) (F + 3) u v w hp hr hu hv) rfl rfl (Nat.le_of_ble_eq_true rfl) ⟨Nat.le_of_ble_eq_true rfl, Nat.le_of_ble_eq_true rfl⟩ ⟨Nat.le_of_ble_eq_true rfl, Nat.le_of_ble_eq_true rfl⟩ ?_
  rintro _ _ _ ⟨rfl, rfl, rfl⟩
  by_cases hc : v < u
  · rw [if_pos hc, if_pos hc] at hQ
    refine aw_if_le (tgt := 20) dX1_capAtOne_11 (by decide) (fun c => absurd c (Int32.not_le.mpr (cmp_gt0.mpr hc))) (fun _ => ?_)
    refine aw_aload_n (i := 0) dX1_capAtOne_14 rfl rfl ?_
    refine aw_iconst (v := 1) dX1_capAtOne_15 (by decide +kernel) ?_
    refine aw_iconst (v := 1) dX1_capAtOne_16 (by decide +kernel) ?_
    refine aw_invokevirtual kX1_37 dX1_capAtOne_17 (hF.at _) (ct_X1_put n h L N F f 1 1 w hF hA (by decide) (by decide)) rfl rfl (Nat.le_of_ble_eq_true rfl) ⟨Nat.le_of_ble_eq_true rfl, Nat.le_of_ble_eq_true rfl⟩ ⟨Nat.le_of_ble_eq_true rfl, Nat.le_of_ble_eq_true rfl⟩ ?_
    rintro _ _ _ ⟨rfl, rfl, hC⟩
    refine aw_return dX1_capAtOne_20 rfl (Nat.le_of_ble_eq_true rfl) (Nat.le_of_ble_eq_true rfl) ?_
    exact hQ _ _ _ ⟨rfl, rfl, hC⟩
  · rw [if_neg hc, if_neg hc] at hQ
    refine aw_if_le (tgt := 20) dX1_capAtOne_11 (by decide) (fun _ => ?_) (fun c => (c (Int32.not_lt.mp fun q => hc (cmp_gt0.mp q))).elim)
    refine aw_return dX1_capAtOne_20 rfl (Nat.le_of_ble_eq_true rfl) (Nat.le_of_ble_eq_true rfl) ?_
    exact hQ _ _ _ ⟨rfl, rfl, N, rfl, hu, hv, fun _ _ _ => rfl⟩
theorem ct_X1_multiply (n : Nat) (h : Hp) (L : Nat → Nat) (N : NC) (F G K f g k u v u2 v2 : Nat) (w : LW L) (hF : FR h L F f) (hG : FR h L G g) (hK : FR h L K k) (hA : NA L N) (q : (G + 1 ≠ F + 1 ∧ G + 3 ≠ F + 1 ∧ G + 3 ≠ F + 3) ∧ (K + 1 ≠ F + 1 ∧ K + 3 ≠ F + 1 ∧ K + 3 ≠ F + 3)) (l1 : L (F + 1) = 72) (l3 : L (F + 3) = 72) (hu : num (L (G + 1)) (N (G + 1)) u) (hv : num (L (G + 3)) (N (G + 3)) v) (hu2 : num (L (K + 1)) (N (K + 1)) u2) (hv2 : num (L (K + 3)) (N (K + 3)) v2) (ls : L (G + 1) ≤ 32 ∧ L (G + 3) ≤ 32 ∧ L (K + 1) ≤ 32 ∧ L (K + 3) ≤ 32) : CT mX1_multiply 0 0 n (nh h L N) [.ref F, .ref G, .ref K] (fto n h L N F (u * u2) (v * v2)) := by
  refine CT.intro [some (.ref F), some (.ref G), some (.ref K)] 0 rfl rfl (by decide) ?_
  intro Q hQ
  obtain ⟨-, -, -, hp, hr⟩ := id hF
  obtain ⟨-, -, -, hp2, hr2⟩ := id hG
  obtain ⟨-, -, -, hp3, hr3⟩ := id hK
  obtain ⟨z1, n1⟩ := hA _ hp
  obtain ⟨z3, n3⟩ := hA _ hr
  have a1 := hu.1.1
  have a2 := hv.1.1
  have a3 := hu2.1.1
  have a4 := hv2.1.1
  refine aw_aload_n (i := 0) dX1_multiply_0 rfl rfl ?_
  refine aw_getfield fX1_18 dX1_multiply_1 (hF.at _) rfl ?_
  refine aw_aload_n (i := 1) dX1_multiply_4 rfl rfl ?_
  refine aw_getfield fX1_18 dX1_multiply_5 (hG.at _) rfl ?_
  refine aw_aload_n (i := 2) dX1_multiply_8 rfl rfl ?_
  refine aw_getfield fX1_18 dX1_multiply_9 (hK.at _) rfl ?_
  refine aw_invokevirtual kX1_40 dX1_multiply_12 (nh_o h N hp) (ct_X3_product n h L N (F + 1) (G + 1) (K + 1) u u2 z1 w hp hp2 hp3 q.1.1 q.2.1 n1 hu hu2 (by omega)) rfl rfl (Nat.le_of_ble_eq_true rfl) ⟨Nat.le_of_ble_eq_true rfl, Nat.le_of_ble_eq_true rfl⟩ ⟨Nat.le_of_ble_eq_true rfl, Nat.le_of_ble_eq_true rfl⟩ ?_
  rintro _ _ _ ⟨rfl, rfl, N1, rfl, d1, f1⟩
  have g1 := f1 (G + 3) q.1.2.1
  have g2 := f1 (K + 3) q.2.2.1
  refine aw_aload_n (i := 0) dX1_multiply_15 rfl rfl ?_
  refine aw_getfield fX1_22 dX1_multiply_16 (hF.at _) rfl ?_
  refine aw_aload_n (i := 1) dX1_multiply_19 rfl rfl ?_
  refine aw_getfield fX1_22 dX1_multiply_20 (hG.at _) rfl ?_
  refine aw_aload_n (i := 2) dX1_multiply_23 rfl rfl ?_
  refine aw_getfield fX1_22 dX1_multiply_24 (hK.at _) rfl ?_
  refine aw_invokevirtual kX1_40 dX1_multiply_27 (nh_o h N1 hr) (ct_X3_product n h L N1 (F + 3) (G + 3) (K + 3) v v2 z3 w hr hr2 hr3 q.1.2.2 q.2.2.2 (by rw [f1 _ (by omega)]; exact n3) (by rw [g1]; exact hv) (by rw [g2]; exact hv2) (by rw [g1, g2]; omega)) rfl rfl (Nat.le_of_ble_eq_true rfl) ⟨Nat.le_of_ble_eq_true rfl, Nat.le_of_ble_eq_true rfl⟩ ⟨Nat.le_of_ble_eq_true rfl, Nat.le_of_ble_eq_true rfl⟩ ?_
  rintro _ _ _ ⟨rfl, rfl, N2, rfl, d2, f2⟩
  refine aw_return dX1_multiply_30 rfl (Nat.le_of_ble_eq_true rfl) (Nat.le_of_ble_eq_true rfl) ?_
  exact hQ _ _ _ ⟨rfl, rfl, N2, rfl, by rw [f2 _ (by omega)]; exact d1, d2, fun k k1 k2 => by rw [f2 k k2, f1 k k1]⟩
theorem ct_X1_addUp (n : Nat) (h : Hp) (L : Nat → Nat) (N : NC) (F G K P f g k u v u2 v2 : Nat) (w : LW L) (hF : FR h L F f) (hG : FR h L G g) (hK : FR h L K k) (hA : NA L N) (q : (G + 1 ≠ F + 1 ∧ G + 3 ≠ F + 1 ∧ G + 3 ≠ F + 3) ∧ (K + 1 ≠ F + 1 ∧ K + 3 ≠ F + 1 ∧ K + 3 ≠ F + 3)) (hP : P ≠ F + 1 ∧ P ≠ F + 3 ∧ P ≠ G + 1 ∧ P ≠ G + 3 ∧ P ≠ K + 1 ∧ P ≠ K + 3) (l1 : L (F + 1) = 72) (l3 : L (F + 3) = 72) (lP : L P = 72) (hu : num (L (G + 1)) (N (G + 1)) u) (hv : num (L (G + 3)) (N (G + 3)) v) (hu2 : num (L (K + 1)) (N (K + 1)) u2) (hv2 : num (L (K + 3)) (N (K + 3)) v2) (ls : L (G + 1) ≤ 32 ∧ L (G + 3) ≤ 32 ∧ L (K + 1) ≤ 32 ∧ L (K + 3) ≤ 32) : CT mX1_addUp 0 0 n (nh h L N) [.ref F, .ref G, .ref K, .ref P] (pv n (fun h' => ∃ N', h' = nh h L N' ∧ num (L (F + 1)) (N' (F + 1)) (u * v2 + u2 * v) ∧ num (L (F + 3)) (N' (F + 3)) (v * v2) ∧ NA L N' ∧ ∀ k, k ≠ F + 1 → k ≠ F + 3 → k ≠ P → N' k = N k)) := by
  refine CT.intro [some (.ref F), some (.ref G), some (.ref K), some (.ref P)] 0 rfl rfl (by decide) ?_
  intro Q hQ
  obtain ⟨-, -, -, hp, hr⟩ := id hF
  obtain ⟨-, -, -, hp2, hr2⟩ := id hG
  obtain ⟨-, -, -, hp3, hr3⟩ := id hK
  obtain ⟨q1, q2⟩ := q
  obtain ⟨P1, P2, P3, P4, P5, P6⟩ := hP
  have hP0 : L P ≠ 0 := by omega
  obtain ⟨z1, n1⟩ := hA _ hp
  obtain ⟨z3, n3⟩ := hA _ hr
  obtain ⟨zP, nP⟩ := hA _ hP0
  have a1 := hu.1.1
  have a2 := hv.1.1
  have a3 := hu2.1.1
  have a4 := hv2.1.1
  have qa : K + 3 ≠ F + 1 := q2.2.1
  have qb : G + 3 ≠ F + 1 := q1.2.1
  have lim : ∀ {l : Nat} {c : Nat × (Nat → Nat)} {z : Nat}, num l c z → l ≤ 32 → z < (2 ^ 32) ^ 32 := fun h1 h2 => Nat.lt_of_lt_of_le (raw_lt h1.1) (Nat.pow_le_pow_right (by decide) (Nat.le_trans h1.1.1 h2))
  have m1 : u * v2 ≤ (2 ^ 32) ^ 32 * (2 ^ 32) ^ 32 := Nat.mul_le_mul (Nat.le_of_lt (lim hu ls.1)) (Nat.le_of_lt (lim hv2 ls.2.2.2))
  have m2 : u2 * v ≤ (2 ^ 32) ^ 32 * (2 ^ 32) ^ 32 := Nat.mul_le_mul (Nat.le_of_lt (lim hu2 ls.2.2.1)) (Nat.le_of_lt (lim hv ls.2.1))
  have m3 : (2 ^ 32) ^ 32 * (2 ^ 32) ^ 32 + (2 ^ 32) ^ 32 * (2 ^ 32) ^ 32 < (2 ^ 32) ^ 72 := by decide +kernel
  have mm : u * v2 + u2 * v < (2 ^ 32) ^ L (F + 1) := by rw [l1]; exact Nat.lt_of_le_of_lt (Nat.add_le_add m1 m2) m3
  clear m1 m2 m3
  refine aw_aload_n (i := 0) dX1_addUp_0 rfl rfl ?_
  refine aw_getfield fX1_18 dX1_addUp_1 (hF.at _) rfl ?_
  refine aw_aload_n (i := 1) dX1_addUp_4 rfl rfl ?_
  refine aw_getfield fX1_18 dX1_addUp_5 (hG.at _) rfl ?_
  refine aw_aload_n (i := 2) dX1_addUp_8 rfl rfl ?_
  refine aw_getfield fX1_22 dX1_addUp_9 (hK.at _) rfl ?_
  refine aw_invokevirtual kX1_40 dX1_addUp_12 (nh_o h N hp) (ct_X3_product n h L N (F + 1) (G + 1) (K + 3) u v2 z1 w hp hp2 hr3 q1.1 qa n1 hu hv2 (by omega)) rfl rfl (Nat.le_of_ble_eq_true rfl) ⟨Nat.le_of_ble_eq_true rfl, Nat.le_of_ble_eq_true rfl⟩ ⟨Nat.le_of_ble_eq_true rfl, Nat.le_of_ble_eq_true rfl⟩ ?_
  rintro _ _ _ ⟨rfl, rfl, N1, rfl, d1, f1⟩
  have g1 := f1 (K + 1) q2.1
  have g2 := f1 (G + 3) qb
  refine aw_aload_n (i := 3) dX1_addUp_15 rfl rfl ?_
  refine aw_aload_n (i := 2) dX1_addUp_16 rfl rfl ?_
  refine aw_getfield fX1_18 dX1_addUp_17 (hK.at _) rfl ?_
  refine aw_aload_n (i := 1) dX1_addUp_20 rfl rfl ?_
  refine aw_getfield fX1_22 dX1_addUp_21 (hG.at _) rfl ?_
  refine aw_invokevirtual kX1_40 dX1_addUp_24 (nh_o h N1 hP0) (ct_X3_product n h L N1 P (K + 1) (G + 3) u2 v zP w hP0 hp3 hr2 (Ne.symm P5) (Ne.symm P4) (by rw [f1 P P1]; exact nP) (by rw [g1]; exact hu2) (by rw [g2]; exact hv) (by rw [g1, g2]; omega)) rfl rfl (Nat.le_of_ble_eq_true rfl) ⟨Nat.le_of_ble_eq_true rfl, Nat.le_of_ble_eq_true rfl⟩ ⟨Nat.le_of_ble_eq_true rfl, Nat.le_of_ble_eq_true rfl⟩ ?_
  rintro _ _ _ ⟨rfl, rfl, N2, rfl, d2, f2⟩
  refine aw_aload_n (i := 0) dX1_addUp_27 rfl rfl ?_
  refine aw_getfield fX1_18 dX1_addUp_28 (hF.at _) rfl ?_
  refine aw_aload_n (i := 3) dX1_addUp_31 rfl rfl ?_
  refine aw_invokevirtual kX1_44 dX1_addUp_32 (nh_o h N2 hp) (ct_X3_add n h L N2 (F + 1) P _ _ w hp hP0 P1 (by rw [f2 _ (Ne.symm P1)]; exact d1) d2 mm) rfl rfl (Nat.le_of_ble_eq_true rfl) ⟨Nat.le_of_ble_eq_true rfl, Nat.le_of_ble_eq_true rfl⟩ ⟨Nat.le_of_ble_eq_true rfl, Nat.le_of_ble_eq_true rfl⟩ ?_
  rintro _ _ _ ⟨rfl, rfl, N3, rfl, d3, f3⟩
  have g3 : N3 (G + 3) = N (G + 3) := by rw [f3 _ qb, f2 _ (Ne.symm P4), g2]
  have g4 : N3 (K + 3) = N (K + 3) := by rw [f3 _ qa, f2 _ (Ne.symm P6), f1 _ qa]
  refine aw_aload_n (i := 0) dX1_addUp_35 rfl rfl ?_
  refine aw_getfield fX1_22 dX1_addUp_36 (hF.at _) rfl ?_
  refine aw_aload_n (i := 1) dX1_addUp_39 rfl rfl ?_
  refine aw_getfield fX1_22 dX1_addUp_40 (hG.at _) rfl ?_
  refine aw_aload_n (i := 2) dX1_addUp_43 rfl rfl ?_
  refine aw_getfield fX1_22 dX1_addUp_44 (hK.at _) rfl ?_
  refine aw_invokevirtual kX1_40 dX1_addUp_47 (nh_o h N3 hr) (ct_X3_product n h L N3 (F + 3) (G + 3) (K + 3) v v2 z3 w hr hr2 hr3 q1.2.2 q2.2.2 (by rw [f3 _ (by omega), f2 _ (Ne.symm P2), f1 _ (by omega)]; exact n3) (by rw [g3]; exact hv) (by rw [g4]; exact hv2) (by rw [g3, g4]; omega)) rfl rfl (Nat.le_of_ble_eq_true rfl) ⟨Nat.le_of_ble_eq_true rfl, Nat.le_of_ble_eq_true rfl⟩ ⟨Nat.le_of_ble_eq_true rfl, Nat.le_of_ble_eq_true rfl⟩ ?_
  rintro _ _ _ ⟨rfl, rfl, N4, rfl, d4, f4⟩
  refine aw_return dX1_addUp_50 rfl (Nat.le_of_ble_eq_true rfl) (Nat.le_of_ble_eq_true rfl) ?_
  have r1 : num (L (F + 1)) (N4 (F + 1)) (u * v2 + u2 * v) := by rw [f4 _ (by omega)]; exact d3
  have fr : ∀ k, k ≠ F + 1 → k ≠ F + 3 → k ≠ P → N4 k = N k := fun k k1 k2 k3 => by rw [f4 k k2, f3 k k1, f2 k k3, f1 k k1]
  refine hQ _ _ _ ⟨rfl, rfl, N4, rfl, r1, d4, ?_, fr⟩
  intro k hk
  by_cases e1 : k = F + 1
  · rw [e1]; exact ⟨_, r1⟩
  · by_cases e2 : k = F + 3
    · rw [e2]; exact ⟨_, d4⟩
    · by_cases e3 : k = P
      · rw [e3, f4 _ P2, f3 _ P1]; exact ⟨_, d2⟩
      · rw [fr k e1 e2 e3]; exact hA k hk
theorem ct_X1_lessThanOne (n : Nat) (h : Hp) (L : Nat → Nat) (N : NC) (F G f g u v : Nat) (w : LW L) (hF : FR h L F f) (hG : FR h L G g) (hA : NA L N) (q : G + 1 ≠ F + 1 ∧ G + 1 ≠ F + 3 ∧ G + 3 ≠ F + 1 ∧ G + 3 ≠ F + 3) (hu : num (L (G + 1)) (N (G + 1)) u) (hv : num (L (G + 3)) (N (G + 3)) v) (fv : v < (2 ^ 32) ^ L (F + 3)) (fv1 : v < (2 ^ 32) ^ L (F + 1)) : CT mX1_lessThanOne 0 0 n (nh h L N) [.ref F, .ref G] (fto n h L N F (if u < v then v - u else 0) v) := by
  refine CT.intro [some (.ref F), some (.ref G)] 0 rfl rfl (by decide) ?_
  intro Q hQ
  obtain ⟨-, -, -, hp, hr⟩ := id hF
  obtain ⟨-, -, -, hp2, hr2⟩ := id hG
  obtain ⟨q1, q2, q3, q4⟩ := q
  obtain ⟨z1, n1⟩ := hA _ hp
  obtain ⟨z3, n3⟩ := hA _ hr
  refine aw_aload_n (i := 0) dX1_lessThanOne_0 rfl rfl ?_
  refine aw_getfield fX1_22 dX1_lessThanOne_1 (hF.at _) rfl ?_
  refine aw_aload_n (i := 1) dX1_lessThanOne_4 rfl rfl ?_
  refine aw_getfield fX1_22 dX1_lessThanOne_5 (hG.at _) rfl ?_
  refine aw_invokevirtual kX1_29 dX1_lessThanOne_8 (nh_o h N hr) (ct_X3_copy n h L N (F + 3) (G + 3) z3 v w hr hr2 q4 n3 hv fv) rfl rfl (Nat.le_of_ble_eq_true rfl) ⟨Nat.le_of_ble_eq_true rfl, Nat.le_of_ble_eq_true rfl⟩ ⟨Nat.le_of_ble_eq_true rfl, Nat.le_of_ble_eq_true rfl⟩ ?_
  rintro _ _ _ ⟨rfl, rfl, N1, rfl, d1, f1⟩
  refine aw_aload_n (i := 0) dX1_lessThanOne_11 rfl rfl ?_
  refine aw_getfield fX1_18 dX1_lessThanOne_12 (hF.at _) rfl ?_
  refine aw_invokevirtual kX1_47 dX1_lessThanOne_15 (nh_o h N1 hp) (ct_X3_clear n h L N1 (F + 1) z1 w hp (by rw [f1 _ (by omega)]; exact n1)) rfl rfl (Nat.le_of_ble_eq_true rfl) ⟨Nat.le_of_ble_eq_true rfl, Nat.le_of_ble_eq_true rfl⟩ ⟨Nat.le_of_ble_eq_true rfl, Nat.le_of_ble_eq_true rfl⟩ ?_
  rintro _ _ _ ⟨rfl, rfl, N2, rfl, d2, f2⟩
  have g1 : N2 (G + 1) = N (G + 1) := by rw [f2 _ q1, f1 _ q2]
  have g3 : N2 (G + 3) = N (G + 3) := by rw [f2 _ q3, f1 _ q4]
  refine aw_aload_n (i := 1) dX1_lessThanOne_18 rfl rfl ?_
  refine aw_getfield fX1_18 dX1_lessThanOne_19 (hG.at _) rfl ?_
  refine aw_aload_n (i := 1) dX1_lessThanOne_22 rfl rfl ?_
  refine aw_getfield fX1_22 dX1_lessThanOne_23 (hG.at _) rfl ?_
  refine aw_invokevirtual kX1_33 dX1_lessThanOne_26 (nh_o h N2 hp2) (ct_X3_against n h L N2 (G + 1) (G + 3) u v w hp2 hr2 (by rw [g1]; exact hu) (by rw [g3]; exact hv)) rfl rfl (Nat.le_of_ble_eq_true rfl) ⟨Nat.le_of_ble_eq_true rfl, Nat.le_of_ble_eq_true rfl⟩ ⟨Nat.le_of_ble_eq_true rfl, Nat.le_of_ble_eq_true rfl⟩ ?_
  rintro _ _ _ ⟨rfl, rfl, rfl⟩
  by_cases hc : u < v
  · rw [if_pos hc] at hQ
    rw [cmp_lt hc]
    refine aw_if_ge (tgt := 54) dX1_lessThanOne_29 (by decide) (fun c => absurd c (by decide)) (fun _ => ?_)
    refine aw_aload_n (i := 0) dX1_lessThanOne_32 rfl rfl ?_
    refine aw_getfield fX1_18 dX1_lessThanOne_33 (hF.at _) rfl ?_
    refine aw_aload_n (i := 1) dX1_lessThanOne_36 rfl rfl ?_
    refine aw_getfield fX1_22 dX1_lessThanOne_37 (hG.at _) rfl ?_
    refine aw_invokevirtual kX1_29 dX1_lessThanOne_40 (nh_o h N2 hp) (ct_X3_copy n h L N2 (F + 1) (G + 3) 0 v w hp hr2 q3 d2 (by rw [g3]; exact hv) fv1) rfl rfl (Nat.le_of_ble_eq_true rfl) ⟨Nat.le_of_ble_eq_true rfl, Nat.le_of_ble_eq_true rfl⟩ ⟨Nat.le_of_ble_eq_true rfl, Nat.le_of_ble_eq_true rfl⟩ ?_
    rintro _ _ _ ⟨rfl, rfl, N3, rfl, d3, f3⟩
    refine aw_aload_n (i := 0) dX1_lessThanOne_43 rfl rfl ?_
    refine aw_getfield fX1_18 dX1_lessThanOne_44 (hF.at _) rfl ?_
    refine aw_aload_n (i := 1) dX1_lessThanOne_47 rfl rfl ?_
    refine aw_getfield fX1_18 dX1_lessThanOne_48 (hG.at _) rfl ?_
    refine aw_invokevirtual kX1_50 dX1_lessThanOne_51 (nh_o h N3 hp) (ct_X3_subtract n h L N3 (F + 1) (G + 1) v u w hp hp2 q1 d3 (by rw [f3 _ q1, g1]; exact hu) (Nat.le_of_lt hc)) rfl rfl (Nat.le_of_ble_eq_true rfl) ⟨Nat.le_of_ble_eq_true rfl, Nat.le_of_ble_eq_true rfl⟩ ⟨Nat.le_of_ble_eq_true rfl, Nat.le_of_ble_eq_true rfl⟩ ?_
    rintro _ _ _ ⟨rfl, rfl, N4, rfl, d4, f4⟩
    refine aw_return dX1_lessThanOne_54 rfl (Nat.le_of_ble_eq_true rfl) (Nat.le_of_ble_eq_true rfl) ?_
    exact hQ _ _ _ ⟨rfl, rfl, N4, rfl, d4, by rw [f4 _ (by omega), f3 _ (by omega), f2 _ (by omega)]; exact d1, fun k k1 k2 => by rw [f4 k k1, f3 k k1, f2 k k1, f1 k k2]⟩
  · rw [if_neg hc] at hQ
    have hge : 0 ≤ cmpI u v := by
      unfold cmpI
      rw [if_neg hc]
      split <;> decide
    refine aw_if_ge (tgt := 54) dX1_lessThanOne_29 (by decide) (fun _ => ?_) (fun c => (c hge).elim)
    refine aw_return dX1_lessThanOne_54 rfl (Nat.le_of_ble_eq_true rfl) (Nat.le_of_ble_eq_true rfl) ?_
    exact hQ _ _ _ ⟨rfl, rfl, N2, rfl, d2, by rw [f2 _ (by omega)]; exact d1, fun k k1 k2 => by rw [f2 k k1, f1 k k2]⟩
