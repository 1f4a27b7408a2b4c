theorem ct_X4_addAllPairs (n : Nat) (h : Hp) (r p q t t1 t2 w w1 w2 : Nat) (g c g1 c1 g2 c2 : Nat → Nat) (hR : Row h r t w g) (hc : rok t w g c) (hP : Row h p t1 w1 g1) (hc1 : rok t1 w1 g1 c1) (hQ' : Row h q t2 w2 g2) (hc2 : rok t2 w2 g2 c2) (hp1 : p ≠ r + 1) (hp2 : p ≠ r) (hq1 : q ≠ r + 1) (hq2 : q ≠ r) (hij : t1 + t2 ≤ t) (hw : w1 ≤ w) (hfit : ∀ v, c v + cBoth c1 c2 t1 t2 v < (2 ^ 32) ^ w) : CT mX4_addAllPairs 0 0 n h [.ref r, .ref p, .ref q] (rto n h r t w (fun v => c v + cBoth c1 c2 t1 t2 v)) := by
  refine CT.intro [some (.ref r), some (.ref p), some (.ref q), none, none] 2 rfl rfl (by decide) ?_
  intro Q hQ
  obtain ⟨hr, hcl, ht, hw1, hw8⟩ := id hR
  have ht1 := hP.2.2.1
  have ht2 := hQ'.2.2.1
  have hP' : ∀ {g' : Nat → Nat}, Row (rh h r t w g') p t1 w1 g1 := by
    intro g'
    exact ⟨by rw [rh_x hp1]; exact hP.1, by rw [rh_x (by omega)]; exact hP.2.1, hP.2.2⟩
  have hQ2 : ∀ {g' : Nat → Nat}, Row (rh h r t w g') q t2 w2 g2 := by
    intro g'
    exact ⟨by rw [rh_x hq1]; exact hQ'.1, by rw [rh_x (by omega)]; exact hQ'.2.1, hQ'.2.2⟩
  refine AW.hp (rh_id hR) ?_
  obtain ⟨F, hF⟩ : ∃ F : Nat → Nat → Nat, F = fun v i => if i ≤ v ∧ v - i ≤ t2 then c1 i * c2 (v - i) else 0 := ⟨_, rfl⟩
  have hFt : ∀ v, sg (F v) (t1 + 1) = cBoth c1 c2 t1 t2 v := fun v => by rw [hF]; rfl
  refine aw_iconst (v := 0) dX4_addAllPairs_0 (by decide +kernel) ?_
  refine aw_istore_3 dX4_addAllPairs_1 (by decide) rfl ?_
  have outer : ∀ (m i : Nat) (g' : Nat → Nat) (y4 : Option Value), i + m = t1 + 1 → rok t w g' (fun v => c v + sg (F v) i) → AW mX4_addAllPairs (gq 0 0 Q) 2 [some (.ref r), some (.ref p), some (.ref q), some (.int (nI i)), y4] [] 0 0 n (rh h r t w g') := by
    intro m
    induction m with
    | zero =>
      intro i g' y4 hi hr2
      obtain rfl : i = t1 + 1 := by omega
      refine aw_iload_n (i := 3) dX4_addAllPairs_2 rfl rfl ?_
      refine aw_aload_n (i := 1) dX4_addAllPairs_3 rfl rfl ?_
      refine aw_getfield fX4_18 dX4_addAllPairs_4 hP'.1 rfl ?_
      refine aw_icmp_gt (tgt := 51) dX4_addAllPairs_7 (by decide) (fun _ => ?_) (fun c => (c (nI_lt (by omega) (by omega))).elim)
      refine aw_return dX4_addAllPairs_51 rfl (Nat.le_of_ble_eq_true rfl) (Nat.le_of_ble_eq_true rfl) ?_
      exact hQ _ _ _ ⟨rfl, rfl, _, rfl, rok_congr hr2 (fun v _ => by rw [hFt])⟩
    | succ m ihm =>
      intro i g' y4 hi hr2
      refine aw_iload_n (i := 3) dX4_addAllPairs_2 rfl rfl ?_
      refine aw_aload_n (i := 1) dX4_addAllPairs_3 rfl rfl ?_
      refine aw_getfield fX4_18 dX4_addAllPairs_4 hP'.1 rfl ?_
      refine aw_icmp_gt (tgt := 51) dX4_addAllPairs_7 (by decide) (fun c => absurd c (nI_nlt (by omega) (by omega))) (fun _ => ?_)
      refine aw_iconst (v := 0) dX4_addAllPairs_10 (by decide +kernel) ?_
      refine aw_istore_4 dX4_addAllPairs_11 (by decide) rfl ?_
      -- behind the inner loop
      have nxt : ∀ (g3 : Nat → Nat) (y4 : Option Value), rok t w g3 (fun v => c v + sg (F v) (i + 1)) → AW mX4_addAllPairs (gq 0 0 Q) 45 [some (.ref r), some (.ref p), some (.ref q), some (.int (nI i)), y4] [] 0 0 n (rh h r t w g3) := by
        intro g3 y4 h3
        refine aw_iinc_3 (c0 := 1) dX4_addAllPairs_45 (by decide) (by decide) rfl ?_
        refine aw_goto (tgt := 2) dX4_addAllPairs_48 (by decide) ?_
        rw [nI_1]
        exact ihm (i + 1) g3 _ (by omega) h3
      have inner : ∀ (z j : Nat) (g3 : Nat → Nat), j + z = t2 + 1 → rok t w g3 (fun v => c v + sg (F v) i + (if i ≤ v ∧ v - i < j then c1 i * c2 (v - i) else 0)) → AW mX4_addAllPairs (gq 0 0 Q) 13 [some (.ref r), some (.ref p), some (.ref q), some (.int (nI i)), some (.int (nI j))] [] 0 0 n (rh h r t w g3) := by
        intro z
        induction z with
        | zero =>
          intro j g3 hj h3
          obtain rfl : j = t2 + 1 := by omega
          refine aw_iload dX4_addAllPairs_13 rfl ?_
          refine aw_aload_n (i := 2) dX4_addAllPairs_15 rfl rfl ?_
          refine aw_getfield fX4_18 dX4_addAllPairs_16 hQ2.1 rfl ?_
          refine aw_icmp_gt (tgt := 45) dX4_addAllPairs_19 (by decide) (fun _ => ?_) (fun c => (c (nI_lt (by omega) (by omega))).elim)
          refine nxt g3 _ (rok_congr h3 (fun v _ => ?_))
          rw [sg_s, ← Nat.add_assoc]
          congr 1
          rw [hF]
          show (if i ≤ v ∧ v - i ≤ t2 then _ else _) = _
          by_cases hh : i ≤ v ∧ v - i ≤ t2
          · rw [if_pos hh, if_pos (by omega)]
          · rw [if_neg hh, if_neg (by omega)]
        | succ z ihz =>
          intro j g3 hj h3
          refine aw_iload dX4_addAllPairs_13 rfl ?_
          refine aw_aload_n (i := 2) dX4_addAllPairs_15 rfl rfl ?_
          refine aw_getfield fX4_18 dX4_addAllPairs_16 hQ2.1 rfl ?_
          refine aw_icmp_gt (tgt := 45) dX4_addAllPairs_19 (by decide) (fun c => absurd c (nI_nlt (by omega) (by omega))) (fun _ => ?_)
          refine aw_aload_n (i := 1) dX4_addAllPairs_22 rfl rfl ?_
          refine aw_iload_n (i := 3) dX4_addAllPairs_23 rfl rfl ?_
          refine aw_invokevirtual kX4_47 dX4_addAllPairs_24 hP'.1 (ct_X4_isZero n (rh h r t w g3) p t1 w1 i g1 c1 hP' hc1 (by omega)) rfl rfl (Nat.le_of_ble_eq_true rfl) ⟨Nat.le_of_ble_eq_true rfl, Nat.le_of_ble_eq_true rfl⟩ ⟨Nat.le_of_ble_eq_true rfl, Nat.le_of_ble_eq_true rfl⟩ ?_
          rintro _ _ _ ⟨rfl, rfl, rfl⟩
          by_cases hz : c1 i = 0
          · rw [decide_eq_true hz]
            refine aw_if_ne (tgt := 45) dX4_addAllPairs_27 (by decide) (fun _ => ?_) (fun c => ((show ¬ bI true = 0 by decide) c).elim)
            refine nxt g3 _ (rok_congr h3 (fun v _ => ?_))
            rw [sg_s, ← Nat.add_assoc]
            congr 1
            rw [hF]
            show (if i ≤ v ∧ v - i ≤ t2 then _ else _) = _
            rw [hz, Nat.zero_mul]
            split <;> split <;> rfl
          · rw [decide_eq_false hz]
            have hval : c (i + j) + sg (F (i + j)) i + (if i ≤ i + j ∧ i + j - i < j then c1 i * c2 (i + j - i) else 0) = c (i + j) + sg (F (i + j)) i := by rw [if_neg (by omega), Nat.add_zero]
            have hfit2 : c (i + j) + sg (F (i + j)) i + (if i ≤ i + j ∧ i + j - i < j then c1 i * c2 (i + j - i) else 0) + c1 i * c2 j < (2 ^ 32) ^ w := by
              rw [hval]
              have e1 : sg (F (i + j)) (i + 1) ≤ sg (F (i + j)) (t1 + 1) := sg_le (by omega)
              rw [hFt, sg_s] at e1
              have e2 : F (i + j) i = c1 i * c2 j := by
                rw [hF]
                show (if i ≤ i + j ∧ i + j - i ≤ t2 then c1 i * c2 (i + j - i) else 0) = _
                rw [if_pos (by omega), Nat.add_sub_cancel_left]
              have := hfit (i + j)
              omega
            refine aw_if_ne (tgt := 45) dX4_addAllPairs_27 (by decide) (fun c => absurd c (fun e => e rfl)) (fun _ => ?_)
            refine aw_aload_n (i := 0) dX4_addAllPairs_30 rfl rfl ?_
            refine aw_aload_n (i := 1) dX4_addAllPairs_31 rfl rfl ?_
            refine aw_iload_n (i := 3) dX4_addAllPairs_32 rfl rfl ?_
            refine aw_aload_n (i := 2) dX4_addAllPairs_33 rfl rfl ?_
            refine aw_iload dX4_addAllPairs_34 rfl ?_
            refine aw_invokevirtual kX4_56 dX4_addAllPairs_36 (rh_o hr) (ct_X4_addPair n (rh h r t w g3) r p q t t1 t2 w w1 w2 i j g3 _ g1 c1 g2 c2 hR.rh h3 hP' hc1 hQ2 hc2 hp1 hp2 hq1 hq2 (by omega) (by omega) (by omega) hw hfit2) rfl rfl (Nat.le_of_ble_eq_true rfl) ⟨Nat.le_of_ble_eq_true rfl, Nat.le_of_ble_eq_true rfl⟩ ⟨Nat.le_of_ble_eq_true rfl, Nat.le_of_ble_eq_true rfl⟩ ?_
            rintro _ _ _ ⟨rfl, rfl, g4, rfl, h4⟩
            refine AW.hp (show _ = rh h r t w g4 from hup_hup _ _ _ _) ?_
            refine aw_iinc_4 (c0 := 1) dX4_addAllPairs_39 (by decide) (by decide) rfl ?_
            refine aw_goto (tgt := 13) dX4_addAllPairs_42 (by decide) ?_
            rw [nI_1]
            refine ihz (j + 1) g4 (by omega) (rok_congr h4 (fun v _ => ?_))
            by_cases hv : v = i + j
            · rw [hv, va_up_at, hval, if_pos (by omega), Nat.add_sub_cancel_left]
            · rw [va_up_off hv]
              congr 1
              by_cases hh : i ≤ v ∧ v - i < j
              · rw [if_pos hh, if_pos (by omega)]
              · rw [if_neg hh, if_neg (by omega)]
      exact inner (t2 + 1) 0 g' (by omega) (rok_congr hr2 (fun v _ => by rw [if_neg (by omega), Nat.add_zero]))
  exact outer (t1 + 1) 0 g none (by omega) (rok_congr hc (fun v _ => by rw [sg_0, Nat.add_zero]))
/-! new ones -/
theorem ra_int : ∀ (s : State) (cA : ClassId), s.vm.findClass ("[" ++ (FieldType.int).toString) = some cA → va_RA s cA .int := fun _ _ q => q
theorem ra_long : ∀ (s : State) (cA : ClassId), s.vm.findClass ("[" ++ (FieldType.long).toString) = some cA → va_RA s cA .long := fun _ _ q => q
theorem ra_bool : ∀ (s : State) (cA : ClassId), s.vm.findClass ("[" ++ (FieldType.boolean).toString) = some cA → va_RA s cA .boolean := fun _ _ q => q
theorem aw_newint {M : MI} {G : AG} {pc kc ks n : Nat} {lv : List (Option Value)} {h : Hp} {rest : List Value} {x : Int32} (hdg : decode M.2.1 pc = .ok (.newarray .int, 2)) (N : Nat) (hx : x.toInt = (N : Int)) (hb : N ≤ 100000) (hcells : kc + 1 ≤ G.1.1) (hslots : ks + N ≤ G.1.2) (kk : AW M G (pc + 2) lv (.ref n :: rest) (kc + 1) (ks + N) (n + 1) (hup h n (iar N (fun _ => 0)))) : AW M G pc lv (.int x :: rest) kc ks n h :=
  aw_newarray (atype := .int) (a0 := (N, .inl (fun _ => nI 0))) ac_int rfl ra_int hdg (fun _ => rfl) hx (show N * 4 ≤ 536870912 by omega) hcells hslots kk
theorem aw_newlong {M : MI} {G : AG} {pc kc ks n : Nat} {lv : List (Option Value)} {h : Hp} {rest : List Value} {x : Int32} (hdg : decode M.2.1 pc = .ok (.newarray .long, 2)) (N : Nat) (hx : x.toInt = (N : Int)) (hb : N ≤ 100000) (hcells : kc + 1 ≤ G.1.1) (hslots : ks + N ≤ G.1.2) (kk : AW M G (pc + 2) lv (.ref n :: rest) (kc + 1) (ks + N) (n + 1) (hup h n (lar N (fun _ => 0)))) : AW M G pc lv (.int x :: rest) kc ks n h :=
  aw_newarray (atype := .long) (a0 := (N, .inr (.inl (fun _ => lN 0)))) ac_long rfl ra_long hdg (fun _ => rfl) hx (show N * 8 ≤ 536870912 by omega) hcells hslots kk
theorem aw_newbool {M : MI} {G : AG} {pc kc ks n : Nat} {lv : List (Option Value)} {h : Hp} {rest : List Value} {x : Int32} (hdg : decode M.2.1 pc = .ok (.newarray .boolean, 2)) (N : Nat) (hx : x.toInt = (N : Int)) (hb : N ≤ 100000) (hcells : kc + 1 ≤ G.1.1) (hslots : ks + N ≤ G.1.2) (kk : AW M G (pc + 2) lv (.ref n :: rest) (kc + 1) (ks + N) (n + 1) (hup h n (bar N (fun _ => 0)))) : AW M G pc lv (.int x :: rest) kc ks n h :=
  aw_newarray (atype := .boolean) (a0 := (N, .inl (fun _ => nI 0))) ac_boolean rfl ra_bool hdg (fun _ => rfl) hx (show N * 1 ≤ 536870912 by omega) hcells hslots kk
theorem ct_X3_init (n : Nat) (h : Hp) (a room : Nat) (ha : h a = some (.inr (3, [.null, .int 0]))) (han : a ≠ n) (h2 : 2 ≤ room) (hl : room ≤ 72) : CT mX3_init 1 room n h [.ref a, .int (nI room)] (fun r n' h' => r = none ∧ n + 1 = n' ∧ h' = hup (hup h n (iar room (fun _ => 0))) a (.inr (3, [.ref n, .int (nI 0)]))) := by
  refine CT.intro [some (.ref a), some (.int (nI room))] 0 rfl rfl (by decide) ?_
  intro Q hQ
  refine aw_aload_n (i := 0) dX3_init_0 rfl rfl ?_
  refine aw_objinit kX3_3 obj_i obj_c dX3_init_1 (by decide) (Nat.le_of_ble_eq_true rfl) ?_
  refine aw_aload_n (i := 0) dX3_init_4 rfl rfl ?_
  refine aw_iconst (v := 0) dX3_init_5 (by decide +kernel) ?_
  refine aw_putfield fX3_9 dX3_init_6 ha rfl rfl (Nat.le_of_ble_eq_true rfl) ?_
  dsimp only [List.set]
  refine aw_aload_n (i := 0) dX3_init_9 rfl rfl ?_
  refine aw_iload_n (i := 1) dX3_init_10 rfl rfl ?_
  refine aw_iconst (v := 2) dX3_init_11 (by decide +kernel) ?_
  refine aw_mmax kX3_15 mathmax_s math_i mathmax_c dX3_init_12 (by decide) (Nat.le_of_ble_eq_true rfl) (Nat.le_of_ble_eq_true rfl) (Nat.le_of_ble_eq_true rfl) ?_
  refine AW.hp (hup_id ha) ?_
  rw [show (if nI room < 2 then (2 : Int32) else nI room) = nI room from if_neg (nI_nlt (b := 2) h2 (by omega))]
  refine aw_newint dX3_init_15 room (nI_toInt (by omega)) (by omega) (Nat.le_of_ble_eq_true rfl) (by show 0 + room ≤ room; omega) ?_
  refine aw_putfinal fX3_21 rfl dX3_init_17 (by rw [hup_ne han]; exact ha) rfl rfl (Nat.le_of_ble_eq_true rfl) ?_
  dsimp only [List.set]
  refine AW.widen (k2 := 1) (s2 := room) (by omega) (by omega) ?_
  refine aw_return dX3_init_20 rfl (Nat.le_refl _) (Nat.le_refl _) ?_
  exact hQ _ _ _ ⟨rfl, rfl, rfl⟩
theorem ct_X4_init (n : Nat) (h : Hp) (a hi pa : Nat) (ha : h a = some (.inr (4, [.int 0, .int 0, .null]))) (han : a ≠ n) (h1 : hi ≤ 120) (h2 : 1 ≤ pa) (h3 : pa ≤ 8) : CT mX4_init 1 968 n h [.ref a, .int (nI hi), .int (nI pa)] (fun r n' h' => r = none ∧ n + 1 = n' ∧ h' = hup (hup h n (iar ((hi + 1) * pa) (fun _ => 0))) a (.inr (4, [.int (nI hi), .int (nI pa), .ref n]))) := by
  refine CT.intro [some (.ref a), some (.int (nI hi)), some (.int (nI pa))] 0 rfl rfl (by decide) ?_
  intro Q hQ
  have hlen := row_len h1 h3
  refine aw_aload_n (i := 0) dX4_init_0 rfl rfl ?_
  refine aw_objinit kX4_3 obj_i obj_c dX4_init_1 (by decide) (Nat.le_of_ble_eq_true rfl) ?_
  refine aw_aload_n (i := 0) dX4_init_4 rfl rfl ?_
  refine aw_iconst (v := 0) dX4_init_5 (by decide +kernel) ?_
  refine aw_iload_n (i := 1) dX4_init_6 rfl rfl ?_
  refine aw_bipush (v := 120) dX4_init_7 (by decide +kernel) ?_
  refine aw_mmin kX4_9 mathmin_s math_i mathmin_c dX4_init_9 (by decide) (Nat.le_of_ble_eq_true rfl) (Nat.le_of_ble_eq_true rfl) (Nat.le_of_ble_eq_true rfl) ?_
  refine aw_mmax kX4_15 mathmax_s math_i mathmax_c dX4_init_12 (by decide) (Nat.le_of_ble_eq_true rfl) (Nat.le_of_ble_eq_true rfl) (Nat.le_of_ble_eq_true rfl) ?_
  rw [show (if (120 : Int32) < nI hi then (120 : Int32) else nI hi) = nI hi from if_neg (nI_nlt (a := 120) (b := hi) h1 (by decide))]
  rw [show (if (0 : Int32) < nI hi then nI hi else (0 : Int32)) = nI hi by rw [show (0 : Int32) = nI 0 from rfl, mmaxN (by decide) (by omega), Nat.zero_max]]
  refine aw_putfinal fX4_18 rfl dX4_init_15 ha rfl rfl (Nat.le_of_ble_eq_true rfl) ?_
  dsimp only [List.set]
  refine aw_aload_n (i := 0) dX4_init_18 rfl rfl ?_
  refine aw_iconst (v := 1) dX4_init_19 (by decide +kernel) ?_
  refine aw_iload_n (i := 2) dX4_init_20 rfl rfl ?_
  refine aw_bipush (v := 8) dX4_init_21 (by decide +kernel) ?_
  refine aw_mmin kX4_9 mathmin_s math_i mathmin_c dX4_init_23 (by decide) (Nat.le_of_ble_eq_true rfl) (Nat.le_of_ble_eq_true rfl) (Nat.le_of_ble_eq_true rfl) ?_
  refine aw_mmax kX4_15 mathmax_s math_i mathmax_c dX4_init_26 (by decide) (Nat.le_of_ble_eq_true rfl) (Nat.le_of_ble_eq_true rfl) (Nat.le_of_ble_eq_true rfl) ?_
  rw [show (if (8 : Int32) < nI pa then (8 : Int32) else nI pa) = nI pa from if_neg (nI_nlt (a := 8) (b := pa) h3 (by decide))]
  rw [show (if (1 : Int32) < nI pa then nI pa else (1 : Int32)) = nI pa by rw [show (1 : Int32) = nI 1 from rfl, mmaxN (by decide) (by omega), Nat.max_eq_right h2]]
  refine aw_putfinal fX4_24 rfl dX4_init_29 (hup_self _ _ _) rfl rfl (Nat.le_of_ble_eq_true rfl) ?_
  dsimp only [List.set]
  refine AW.hp (hup_hup _ _ _ _) ?_
  refine aw_aload_n (i := 0) dX4_init_32 rfl rfl ?_
  refine aw_aload_n (i := 0) dX4_init_33 rfl rfl ?_
  refine aw_getfield fX4_18 dX4_init_34 (hup_self _ _ _) rfl ?_
  refine aw_iconst (v := 1) dX4_init_37 (by decide +kernel) ?_
  refine aw_iadd dX4_init_38 ?_
  refine aw_aload_n (i := 0) dX4_init_39 rfl rfl ?_
  refine aw_getfield fX4_24 dX4_init_40 (hup_self _ _ _) rfl ?_
  refine aw_imul dX4_init_43 ?_
  rw [nI_1, pk_mul]
  refine aw_newint dX4_init_44 ((hi + 1) * pa) (nI_toInt (by omega)) (by omega) (Nat.le_of_ble_eq_true rfl) (by show 0 + (hi + 1) * pa ≤ 968; omega) ?_
  refine AW.hp (hup_comm han) ?_
  refine aw_putfinal fX4_27 rfl dX4_init_46 (hup_self _ _ _) rfl rfl (Nat.le_of_ble_eq_true rfl) ?_
  dsimp only [List.set]
  refine AW.hp (hup_hup _ _ _ _) ?_
  refine AW.widen (k2 := 1) (s2 := 968) (by omega) (by omega) ?_
  refine aw_return dX4_init_49 rfl (Nat.le_refl _) (Nat.le_refl _) ?_
  exact hQ _ _ _ ⟨rfl, rfl, rfl⟩
