def storeP (S : TS) (p u d : Nat) : Int32 × TS := if nb u ≤ 1024 ∧ nb d ≤ 1024 then (1, setP S p (some (u, d))) else (-4, S)
theorem putP_store (S : TS) (p u d : Nat) : putP S p u d = storeP S p (u / Nat.gcd u d) (d / Nat.gcd u d) := rfl
theorem plb_ne {X p q : Nat} (h : p ≠ q) : plb X p ≠ plb X q ∧ plb X p + 1 ≠ plb X q + 1 ∧ plb X p + 1 ≠ plb X q + 3 ∧ plb X p + 3 ≠ plb X q + 1 ∧ plb X p + 3 ≠ plb X q + 3 := by unfold plb; omega
theorem CS.putx {hc : Hp} {N N' : NC} {X p : Nat} {S : TS} (h : CS hc N X S) (hp : p < 16) (o : Option (Nat × Nat)) (hA : NA (LC X (sN S)) N') (h1 : ∀ u d, o = some (u, d) → num 32 (N' (plb X p + 1)) u ∧ num 32 (N' (plb X p + 3)) d) (hN : ∀ k, k ≠ plb X p + 1 → k ≠ plb X p + 3 → N' k = N k) : CS (hup hc (plb X p) (fobj (plb X p) (if o.isSome then 1 else 0))) N' X (setP S p o) := by
  obtain ⟨g1, g2, g3, g4, R, H, W, g5, g6⟩ := h
  have e : plb X p = X + (46 + 5 * p) := rfl
  have hx : ∀ y, y < X + 46 → hup hc (plb X p) (fobj (plb X p) (if o.isSome then 1 else 0)) y = hc y := fun y hy => hup_ne (by omega)
  have hz : ∀ y, X + 126 ≤ y → hup hc (plb X p) (fobj (plb X p) (if o.isSome then 1 else 0)) y = hc y := fun y hy => hup_ne (by omega)
  obtain ⟨o1, ⟨wt, o2, o3⟩, ⟨fs, o4, o5⟩, ⟨fp, o6, o7⟩, ⟨od, o8⟩, o9, o10, td, sh, g, o11, o12, o13⟩ := g2
  refine ⟨hA, ⟨by rw [hx _ (by omega)]; exact o1, ⟨wt, by rw [hx _ (by omega)]; exact o2, o3⟩, ⟨fs, by rw [hx _ (by omega)]; exact o4, o5⟩, ⟨fp, by rw [hx _ (by omega)]; exact o6, o7⟩, ⟨od, by rw [hx _ (by omega)]; exact o8⟩, by rw [hx _ (by omega)]; exact o9, by rw [hx _ (by omega)]; exact o10, td, sh, g, by rw [hx _ (by omega)]; exact o11, by rw [hx _ (by omega)]; exact o12, by rw [hx _ (by omega)]; exact o13.1, by rw [hx _ (by omega)]; exact o13.2.1, o13.2.2⟩, fun q hq => ?_, fun j hj => ?_, R, H, W, ?_, g6⟩
  · show hup hc (plb X p) (fobj (plb X p) (if o.isSome then 1 else 0)) (plb X q) = some (fobj (plb X q) (if (va_up (sP S) p o q).isSome then 1 else 0)) ∧ ∀ u d, va_up (sP S) p o q = some (u, d) → _
    by_cases hqp : q = p
    · subst hqp
      rw [va_up_at, hup_self]
      exact ⟨rfl, h1⟩
    · obtain ⟨n0, n1, n2, n3, n4⟩ := plb_ne (X := X) hqp
      rw [va_up_off hqp, hup_ne n0]
      refine ⟨(g3 q hq).1, fun u d hs => ?_⟩
      rw [hN _ n1 n2, hN _ n3 n4]
      exact (g3 q hq).2 u d hs
  · obtain ⟨a1, ⟨g', a2, a3⟩, a4, a5, a6, a7⟩ := g4 j hj
    have e2 : sob X j = X + (158 + 10 * j) := rfl
    refine ⟨by rw [hz _ (by omega)]; exact a1, ⟨g', ⟨by rw [hz _ (by omega)]; exact a2.1, by rw [hz _ (by omega)]; exact a2.2.1, a2.2.2⟩, a3⟩, by rw [hz _ (by omega)]; exact a4, by rw [hN _ (by omega) (by omega)]; exact a5, by rw [hN _ (by omega) (by omega)]; exact a6, by rw [hN _ (by omega) (by omega)]; exact a7⟩
  · obtain ⟨a, b, c, d, z⟩ := g5
    exact ⟨a, b, c, d, by rw [hx _ (by omega)]; exact z.1, z.2⟩
theorem plb_lo {X k p : Nat} (hp : p < 16) (N : NC) (hc : Hp) (ac : AC) : hup (nh hc (LC X k) N) (plb X p) ac = nh (hup hc (plb X p) ac) (LC X k) N := by
  obtain ⟨l0, l1, -⟩ := Lo_pl (k := k) hp
  exact upn_X N l0 (Or.inr l1) ac
theorem ct_X7_store (n : Nat) (hc : Hp) (N : NC) (X : Nat) (S : TS) (p u v : Nat) (h : CS hc N X S) (hp : p < 16) (hu : num 72 (N (X + 6)) u) (hv : num 72 (N (X + 8)) v) : CT mX7_store 0 0 n (nh hc (LC X (sN S)) N) [.ref X, .ref (plb X p)] (fun r n' h' => n = n' ∧ r = some (.int (storeP S p u v).1) ∧ CRep h' X (storeP S p u v).2 ∧ cfr X (nh hc (LC X (sN S)) N) h') := by
  refine CT.intro [some (.ref X), some (.ref (plb X p))] 0 rfl rfl (by decide) ?_
  intro Q hQ
  have w := LC_W X (sN S)
  have l6 : LC X (sN S) (X + 6) = 72 := L72 rfl
  have l8 : LC X (sN S) (X + 8) = 72 := L72 rfl
  have hO := h.ou
  have hP := h.pl hp
  obtain ⟨m1, m3⟩ := L32 (X := X) (k := sN S) hp
  have bad : ¬ (nb u ≤ 1024 ∧ nb v ≤ 1024) → AW mX7_store (gq 0 0 Q) 32 [some (.ref X), some (.ref (plb X p))] [] 0 0 n (nh hc (LC X (sN S)) N) := by
    intro hb
    refine aw_bipush (v := (-4)) dX7_store_32 (by decide +kernel) ?_
    refine aw_ireturn dX7_store_34 rfl rfl (Nat.le_of_ble_eq_true rfl) (Nat.le_of_ble_eq_true rfl) ?_
    refine hQ _ _ _ ?_
    unfold storeP
    rw [if_neg hb]
    exact ⟨rfl, rfl, ⟨hc, N, rfl, h⟩, cfr_rf⟩
  have nbl : ∀ {c : Nat × (Nat → Nat)} {z : Nat}, num 72 c z → nb z ≤ 2304 := fun {c z} q => by
    have e1 := raw_lt q.1
    have e2 := q.1.1
    rw [p32] at e1
    have := nb_le.mpr e1
    omega
  have b1 := nbl hu
  have b2 := nbl hv
  refine aw_aload_n (i := 0) dX7_store_0 rfl rfl ?_
  refine aw_getfield fX7_31 dX7_store_1 (h.X0 N) rfl ?_
  refine aw_getfield fX7_108 dX7_store_4 (hO.at N) rfl ?_
  refine aw_invokevirtual kX7_153 dX7_store_7 (nh_o hc N (by rw [l6]; decide)) (ct_X3_bits n hc (LC X (sN S)) N (X + 6) u w (by rw [l6]; decide) (by rw [l6]; exact hu)) rfl rfl (Nat.le_of_ble_eq_true rfl) ⟨Nat.le_of_ble_eq_true rfl, Nat.le_of_ble_eq_true rfl⟩ ⟨Nat.le_of_ble_eq_true rfl, Nat.le_of_ble_eq_true rfl⟩ ?_
  rintro _ _ _ ⟨rfl, rfl, rfl⟩
  refine aw_sipush (v := 1024) dX7_store_10 (by decide +kernel) ?_
  by_cases h1 : nb u ≤ 1024
  case neg =>
    refine aw_icmp_gt (tgt := 32) dX7_store_13 (by decide) (fun _ => ?_) (fun c => (c (nI_lt (a := 1024) (by omega) (by omega))).elim)
    exact bad (fun q => h1 q.1)
  refine aw_icmp_gt (tgt := 32) dX7_store_13 (by decide) (fun c => absurd c (nI_nlt (a := 1024) h1 (by decide))) (fun _ => ?_)
  refine aw_aload_n (i := 0) dX7_store_16 rfl rfl ?_
  refine aw_getfield fX7_31 dX7_store_17 (h.X0 N) rfl ?_
  refine aw_getfield fX7_273 dX7_store_20 (hO.at N) rfl ?_
  refine aw_invokevirtual kX7_153 dX7_store_23 (nh_o hc N (by rw [l8]; decide)) (ct_X3_bits n hc (LC X (sN S)) N (X + 8) v w (by rw [l8]; decide) (by rw [l8]; exact hv)) rfl rfl (Nat.le_of_ble_eq_true rfl) ⟨Nat.le_of_ble_eq_true rfl, Nat.le_of_ble_eq_true rfl⟩ ⟨Nat.le_of_ble_eq_true rfl, Nat.le_of_ble_eq_true rfl⟩ ?_
  rintro _ _ _ ⟨rfl, rfl, rfl⟩
  refine aw_sipush (v := 1024) dX7_store_26 (by decide +kernel) ?_
  by_cases h2 : nb v ≤ 1024
  case neg =>
    refine aw_icmp_le (tgt := 35) dX7_store_29 (by decide) (fun c => absurd c (nI_ge (a := 1024) (by omega) (by omega))) (fun _ => ?_)
    exact bad (fun q => h2 q.2)
  have hop : storeP S p u v = (1, setP S p (some (u, v))) := if_pos ⟨h1, h2⟩
  rw [hop] at hQ
  have e : plb X p = X + (46 + 5 * p) := rfl
  refine aw_icmp_le (tgt := 35) dX7_store_29 (by decide) (fun _ => ?_) (fun c => (c (nI_le (b := 1024) h2 (by decide))).elim)
  refine aw_aload_n (i := 1) dX7_store_35 rfl rfl ?_
  refine aw_aload_n (i := 0) dX7_store_36 rfl rfl ?_
  refine aw_getfield fX7_31 dX7_store_37 (h.X0 N) rfl ?_
  refine aw_invokevirtual kX7_204 dX7_store_40 (hP.at N) (ct_X1_copy n hc (LC X (sN S)) N (plb X p) (X + 5) _ 0 u v w hP hO h.1 (by omega) (by omega) (by omega) (by rw [l6]; exact hu) (by rw [l8]; exact hv) (by rw [m1, p32]; exact nb_le.mp h1) (by rw [m3, p32]; exact nb_le.mp h2)) rfl rfl (Nat.le_of_ble_eq_true rfl) ⟨Nat.le_of_ble_eq_true rfl, Nat.le_of_ble_eq_true rfl⟩ ⟨Nat.le_of_ble_eq_true rfl, Nat.le_of_ble_eq_true rfl⟩ ?_
  rintro _ _ _ ⟨rfl, rfl, N1, rfl, d1, d3, f1⟩
  rw [m1] at d1
  rw [m3] at d3
  refine aw_aload_n (i := 1) dX7_store_43 rfl rfl ?_
  refine aw_iconst (v := 1) dX7_store_44 (by decide +kernel) ?_
  refine aw_putfield fX7_236 dX7_store_45 (hP.at N1) rfl rfl (Nat.le_of_ble_eq_true rfl) ?_
  dsimp only [List.set]
  refine AW.hp (plb_lo hp N1 hc (fobj (plb X p) 1)) ?_
  refine aw_iconst (v := 1) dX7_store_48 (by decide +kernel) ?_
  refine aw_ireturn dX7_store_49 rfl rfl (Nat.le_of_ble_eq_true rfl) (Nat.le_of_ble_eq_true rfl) ?_
  refine hQ _ _ _ ⟨rfl, rfl, ⟨_, N1, rfl, ?_⟩, cfr_nh (fun y h1 h2 => by rw [hup_ne (by omega)])⟩
  refine h.putx hp (some (u, v)) (h.1.two (a := plb X p + 1) (b := plb X p + 3) (by rw [m1]; exact d1) (by rw [m3]; exact d3) f1) (fun u' d' hh => by cases hh; exact ⟨d1, d3⟩) f1
theorem dn_X {X k : Nat} (h : dn (X + 12) k) : X + 6 ≤ k ∧ k < X + 46 := by unfold dn at h; omega
theorem ct_X7_settle (n : Nat) (hc : Hp) (N : NC) (X : Nat) (S : TS) (p A B : Nat) (h : CS hc N X S) (hp : p < 16) (hA : num 72 (N (X + 6)) A) (hB : num 72 (N (X + 8)) B) (hB0 : 0 < B) (lA : A < (2 ^ 32) ^ 70) (lB : B < (2 ^ 32) ^ 70) : CT mX7_settle 0 0 n (nh hc (LC X (sN S)) N) [.ref X, .ref (plb X p)] (fun r n' h' => n = n' ∧ r = some (.int (putP S p A B).1) ∧ CRep h' X (putP S p A B).2 ∧ cfr X (nh hc (LC X (sN S)) N) h') := by
  refine CT.intro [some (.ref X), some (.ref (plb X p))] 0 rfl rfl (by decide) ?_
  intro Q hQ
  have w := LC_W X (sN S)
  have l6 : LC X (sN S) (X + 6) = 72 := L72 rfl
  have l8 : LC X (sN S) (X + 8) = 72 := L72 rfl
  have hO := h.ou
  obtain ⟨R, H, W, hD⟩ := h.2.2.2.2
  obtain ⟨a, b, c, d, hDV⟩ := hD.1
  refine aw_aload_n (i := 0) dX7_settle_0 rfl rfl ?_
  refine aw_getfield fX7_45 dX7_settle_1 (h.X0 _) rfl ?_
  refine aw_aload_n (i := 0) dX7_settle_4 rfl rfl ?_
  refine aw_getfield fX7_31 dX7_settle_5 (h.X0 _) rfl ?_
  refine aw_invokevirtual kX7_328 dX7_settle_8 (by rw [nh_no hc N hDV.2.1.1 hDV.2.1.2]; exact hDV.1) (ct_X0_toLowestTerms n hc (LC X (sN S)) N (X + 12) R H W (X + 5) 0 A B w hD h.1 hO (by omega) (by unfold dn; omega) (by unfold dn; omega) (by rw [l6]; exact hA) (by rw [l8]; exact hB) hB0 lA lB) rfl rfl (Nat.le_of_ble_eq_true rfl) ⟨Nat.le_of_ble_eq_true rfl, Nat.le_of_ble_eq_true rfl⟩ ⟨Nat.le_of_ble_eq_true rfl, Nat.le_of_ble_eq_true rfl⟩ ?_
  rintro _ _ _ ⟨rfl, rfl, h2, N1, R1, H1, W1, rfl, D2, o2, A2, f2, g1, g3⟩
  have hS := h.scr A2 (fun k hk => f2 k (fun q => by have := dn_X q; omega) (by omega) (by omega)) o2 D2
  rw [l6] at g1
  rw [l8] at g3
  refine aw_aload_n (i := 0) dX7_settle_11 rfl rfl ?_
  refine aw_aload_n (i := 1) dX7_settle_12 rfl rfl ?_
  refine aw_invokevirtual kX7_208 dX7_settle_13 (hS.X0 _) (ct_X7_store n h2 N1 X S p _ _ hS hp g1 g3) rfl rfl (Nat.le_of_ble_eq_true rfl) ⟨Nat.le_of_ble_eq_true rfl, Nat.le_of_ble_eq_true rfl⟩ ⟨Nat.le_of_ble_eq_true rfl, Nat.le_of_ble_eq_true rfl⟩ ?_
  rintro r _ h' ⟨rfl, rfl, hR, hF⟩
  refine aw_ireturn dX7_settle_16 rfl rfl (Nat.le_of_ble_eq_true rfl) (Nat.le_of_ble_eq_true rfl) ?_
  refine hQ _ _ _ ⟨rfl, rfl, hR, fun y h1 h2 => ?_⟩
  rw [hF y h1 h2]
  exact cfr_nh (hc := hc) (hc' := _) (fun y h1 h2 => o2 y (by omega)) y h1 h2
