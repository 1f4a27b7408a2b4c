theorem ct_X5_init (n : Nat) (hc : Hp) (L : Nat → Nat) (N : NC) (s r : Nat) (kd : Int32) (hs : hc s = some (.inr (5, [.int 0, .null, .null, .null]))) (hL : ∀ c, c ≤ 8 → L (s + c) = 0) (hL1 : L (s - 1) = 0) (hn : n = s + 1) : CT mX5_init 7 35 n (nh hc L N) [.ref s, .int kd, .ref r] (fun z n' h' => z = none ∧ s + 8 = n' ∧ h' = nh (hup (hup hc (s + 3) (fobj (s + 3) 0)) s (.inr (5, [.int kd, .ref r, .ref (s + 1), .ref (s + 3)]))) (va_up (va_up (va_up L (s + 1) 8) (s + 4) 9) (s + 6) 9) (va_up (va_up (va_up N (s + 1) zn) (s + 4) zn) (s + 6) zn)) := by
  refine CT.intro [some (.ref s), some (.int kd), some (.ref r)] 0 rfl rfl (by decide) ?_
  intro Q hQ
  subst hn
  have L0 : L s = 0 := by have := hL 0 (by decide); rwa [Nat.add_zero] at this
  have l1 : ∀ c, c ≤ 8 → c ≠ 1 → va_up L (s + 1) 8 (s + c) = 0 := fun c h1 h2 => by rw [va_up_off (by omega)]; exact hL c h1
  have l1m : va_up L (s + 1) 8 (s - 1) = 0 := by rw [va_up_off (by omega)]; exact hL1
  have l10 : va_up L (s + 1) 8 s = 0 := by rw [va_up_off (by omega)]; exact L0
  refine aw_aload_n (i := 0) dX5_init_0 rfl rfl ?_
  refine aw_objinit kX5_3 obj_i obj_c dX5_init_1 (by decide) (Nat.le_of_ble_eq_true rfl) ?_
  refine aw_aload_n (i := 0) dX5_init_4 rfl rfl ?_
  refine aw_new nX5_9 dX5_init_5 (Nat.le_of_ble_eq_true rfl) (Nat.le_of_ble_eq_true rfl) ?_
  refine aw_dup dX5_init_8 rfl ?_
  refine aw_bipush (v := 8) dX5_init_9 (by decide +kernel) ?_
  refine aw_invokespecial kX5_11 dX5_init_11 (ct_X3_init (s + 1 + 1) (hup (nh hc L N) (s + 1) (.inr (3, [.null, .int 0]))) (s + 1) 8 (hup_self _ _ _) (by omega) (by decide) (by decide)) rfl rfl (Nat.le_of_ble_eq_true rfl) ⟨Nat.le_of_ble_eq_true rfl, Nat.le_of_ble_eq_true rfl⟩ ⟨Nat.le_of_ble_eq_true rfl, Nat.le_of_ble_eq_true rfl⟩ ?_
  rintro _ _ _ ⟨rfl, rfl, rfl⟩
  refine AW.hp (nh_new _ (hL 1 (by decide)) (hL 2 (by decide)) L0 (by decide)) ?_
  refine aw_putfinal fX5_14 rfl dX5_init_14 (by rw [nh_no _ _ l10 l1m]; exact hs) rfl rfl (Nat.le_of_ble_eq_true rfl) ?_
  dsimp only [List.set]
  refine AW.hp (nh_upn _ _ l10 l1m _) ?_
  refine aw_aload_n (i := 0) dX5_init_17 rfl rfl ?_
  refine aw_new nX5_20 dX5_init_18 (Nat.le_of_ble_eq_true rfl) (Nat.le_of_ble_eq_true rfl) ?_
  refine AW.hp (nh_upn (x := s + 1 + 1 + 1) _ _ (l1 3 (by decide) (by decide)) (by rw [show s + 1 + 1 + 1 - 1 = s + 2 from rfl]; exact l1 2 (by decide) (by decide)) (.inr (1, [.null, .null, .int 0]))) ?_
  refine aw_dup dX5_init_21 rfl ?_
  refine aw_bipush (v := 9) dX5_init_22 (by decide +kernel) ?_
  refine aw_invokespecial kX5_22 dX5_init_24 (ct_X1_init (s + 1 + 1 + 1 + 1) (hup (hup hc s (.inr (5, [.int 0, .null, .ref (s + 1), .null]))) (s + 1 + 1 + 1) (.inr (1, [.null, .null, .int 0]))) (va_up L (s + 1) 8) (va_up N (s + 1) zn) (s + 3) 9 (hup_self _ _ _) (fun c h1 => by rw [Nat.add_assoc]; exact l1 (3 + c) (by omega) (by omega)) (by rw [show s + 3 - 1 = s + 2 from rfl]; exact l1 2 (by decide) (by decide)) rfl (by decide) (by decide)) rfl rfl (Nat.le_of_ble_eq_true rfl) ⟨Nat.le_of_ble_eq_true rfl, Nat.le_of_ble_eq_true rfl⟩ ⟨Nat.le_of_ble_eq_true rfl, Nat.le_of_ble_eq_true rfl⟩ ?_
  rintro _ _ _ ⟨rfl, rfl, rfl⟩
  have m0 : va_up (va_up (va_up L (s + 1) 8) (s + 3 + 1) 9) (s + 3 + 3) 9 s = 0 := by rw [va_up_off (by omega), va_up_off (by omega)]; exact l10
  have mm : va_up (va_up (va_up L (s + 1) 8) (s + 3 + 1) 9) (s + 3 + 3) 9 (s - 1) = 0 := by rw [va_up_off (by omega), va_up_off (by omega)]; exact l1m
  rw [hup_hup]
  refine aw_putfinal fX5_23 rfl dX5_init_27 (by rw [nh_no _ _ m0 mm, hup_ne (by omega)]; exact hup_self _ _ _) rfl rfl (Nat.le_of_ble_eq_true rfl) ?_
  dsimp only [List.set]
  refine AW.hp (nh_upn _ _ m0 mm _) ?_
  refine aw_aload_n (i := 0) dX5_init_30 rfl rfl ?_
  refine aw_iload_n (i := 1) dX5_init_31 rfl rfl ?_
  refine aw_putfinal fX5_27 rfl dX5_init_32 (by rw [nh_no _ _ m0 mm]; exact hup_self _ _ _) rfl rfl (Nat.le_of_ble_eq_true rfl) ?_
  dsimp only [List.set]
  refine AW.hp (nh_upn _ _ m0 mm _) ?_
  rw [hup_hup]
  refine aw_aload_n (i := 0) dX5_init_35 rfl rfl ?_
  refine aw_aload_n (i := 2) dX5_init_36 rfl rfl ?_
  refine aw_putfinal fX5_31 rfl dX5_init_37 (by rw [nh_no _ _ m0 mm]; exact hup_self _ _ _) rfl rfl (Nat.le_of_ble_eq_true rfl) ?_
  dsimp only [List.set]
  refine AW.hp (nh_upn _ _ m0 mm _) ?_
  rw [hup_hup]
  refine aw_return dX5_init_40 rfl (Nat.le_of_ble_eq_true rfl) (Nat.le_of_ble_eq_true rfl) ?_
  refine hQ _ _ _ ⟨rfl, rfl, ?_⟩
  congr 1
  funext y
  unfold hup
  by_cases e1 : y = s
  · rw [if_pos e1, if_pos e1]
  · rw [if_neg e1, if_neg e1]
    by_cases e2 : y = s + 3
    · rw [if_pos e2, if_neg e1]
    · rw [if_neg e2, if_neg e1]
theorem LC_next (X k : Nat) : va_up (va_up (va_up (LC X k) (sob X k + 2 + 1) 8) (sob X k + 2 + 4) 9) (sob X k + 2 + 6) 9 = LC X (k + 1) := by
  funext a
  unfold va_up
  have e : sob X k = X + (158 + 10 * k) := rfl
  by_cases hX : a < X
  · rw [if_neg (by omega), if_neg (by omega), if_neg (by omega), LC_lt hX, LC_lt hX]
  · obtain ⟨o, rfl⟩ : ∃ o, a = X + o := ⟨a - X, by omega⟩
    rw [LC_at, LC_at]
    by_cases h1 : o < 158 + 10 * k
    · rw [if_neg (by omega), if_neg (by omega), if_neg (by omega)]
      unfold Lo
      by_cases q1 : o < 46
      · rw [if_pos q1, if_pos q1]
      · rw [if_neg q1, if_neg q1]
        by_cases q2 : o < 126
        · rw [if_pos q2, if_pos q2]
        · rw [if_neg q2, if_neg q2]
          by_cases q3 : o < 158
          · rw [if_pos q3, if_pos q3]
          · rw [if_neg q3, if_neg q3, if_pos (show o - 158 < 10 * k by omega), if_pos (show o - 158 < 10 * (k + 1) by omega)]
    · rw [Lo_out (by omega)]
      by_cases h2 : o < 158 + 10 * (k + 1)
      · obtain ⟨c, rfl⟩ : ∃ c, o = 158 + 10 * k + c := ⟨o - (158 + 10 * k), by omega⟩
        rw [Lo_so (by omega) (show c < 10 by omega)]
        by_cases c8 : c = 8
        · rw [if_pos (by omega), if_neg (by omega), if_pos (by omega)]
        · rw [if_neg (by omega)]
          by_cases c6 : c = 6
          · rw [if_pos (by omega), if_neg (by omega), if_pos (by omega)]
          · rw [if_neg (by omega)]
            by_cases c3 : c = 3
            · rw [if_pos (by omega), if_pos c3]
            · rw [if_neg (by omega), if_neg c3, if_neg (by omega)]
      · rw [if_neg (by omega), if_neg (by omega), if_neg (by omega), Lo_out (by omega)]
theorem LC_old {X k a : Nat} (h : a < sob X k) : LC X (k + 1) a = LC X k a := by
  rw [← LC_next]
  rw [va_up_off (by omega), va_up_off (by omega), va_up_off (by omega)]
theorem DVx.next {h h' : Hp} {X k R H W : Nat} (x : DVx h (LC X k) (X + 12) R H W) (e : h' (X + 12) = h (X + 12)) : DVx h' (LC X (k + 1)) (X + 12) R H W := by
  obtain ⟨⟨a, b, c, d, y⟩, z⟩ := id x
  obtain ⟨y1, ⟨y2, y3⟩, ⟨y4, y5, y6, y7, y8⟩, y9⟩ := y
  obtain ⟨dR, dH, dW⟩ := x.mem
  have e0 : sob X k = X + (158 + 10 * k) := rfl
  have q1 := dn_X dR
  have q2 := dn_X dH
  have q3 := dn_X dW
  exact ⟨⟨a, b, c, d, by rw [e]; exact y1, ⟨by rw [LC_old (by omega)]; exact y2, by rw [LC_old (by omega)]; exact y3⟩, ⟨by rw [LC_old (by omega)]; exact y4, by rw [LC_old (by omega)]; exact y5, by rw [LC_old (by omega)]; exact y6, by rw [LC_old (by omega)]; exact y7, by rw [LC_old (by omega)]; exact y8⟩, y9⟩, z⟩
/-- a source more -/
theorem CS.addx {hc hc' : Hp} {N N' : NC} {X kd t : Nat} {S : TS} {c : Nat → Nat} (h : CS hc N X S) (hN16 : sN S < 16) (hA : NA (LC X (sN S + 1)) N') (hN : ∀ k, k < sob X (sN S) → (k < X + 6 ∨ X + 46 ≤ k) → N' k = N k) (h0 : hc' X = some (cob X (addS S kd t c))) (h2 : ∃ fs, hc' (X + 2) = some (oar "TailBounds$Source" 16 fs) ∧ ∀ j, j < sN S + 1 → fs j = some (sob X j + 2)) (ho : ∀ y, y < sob X (sN S) → y ≠ X → y ≠ X + 2 → y ≠ X + 12 → hc' y = hc y) (hD : ∃ R H W, DVx hc' (LC X (sN S + 1)) (X + 12) R H W) (hs : SRC hc' N' (sob X (sN S)) kd t c (sg c (t + 1)) (sg (fun v => c v * v) (t + 1))) : CS hc' N' X (addS S kd t c) := by
  obtain ⟨g1, g2, g3, g4, -⟩ := h
  have eb : sob X (sN S) = X + (158 + 10 * sN S) := rfl
  obtain ⟨o1, ⟨wt, o2, o3⟩, -, ⟨fp, o6, o7⟩, ⟨od, o8⟩, o9, o10, td, sh, g, o11, o12, o13⟩ := g2
  refine ⟨hA, ⟨h0, ⟨wt, by rw [ho _ (by omega) (by omega) (by omega) (by omega)]; exact o2, o3⟩, h2, ⟨fp, by rw [ho _ (by omega) (by omega) (by omega) (by omega)]; exact o6, o7⟩, ⟨od, by rw [ho _ (by omega) (by omega) (by omega) (by omega)]; exact o8⟩, by rw [ho _ (by omega) (by omega) (by omega) (by omega)]; exact o9, by rw [ho _ (by omega) (by omega) (by omega) (by omega)]; exact o10, td, sh, g, by rw [ho _ (by omega) (by omega) (by omega) (by omega)]; exact o11, by rw [ho _ (by omega) (by omega) (by omega) (by omega)]; exact o12, by rw [ho _ (by omega) (by omega) (by omega) (by omega)]; exact o13.1, by rw [ho _ (by omega) (by omega) (by omega) (by omega)]; exact o13.2.1, o13.2.2⟩, fun q hq => ?_, fun j hj => ?_, hD⟩
  · have e : plb X q = X + (46 + 5 * q) := rfl
    show hc' (plb X q) = some (fobj (plb X q) (if (sP S q).isSome then 1 else 0)) ∧ ∀ u d, sP S q = some (u, d) → _
    rw [ho _ (by omega) (by omega) (by omega) (by omega)]
    refine ⟨(g3 q hq).1, fun u d hs => ?_⟩
    rw [hN _ (by omega) (by omega), hN _ (by omega) (by omega)]
    exact (g3 q hq).2 u d hs
  · have hj' : j < sN S + 1 := hj
    have ev : ∀ {α : Type} (f : Nat → α) (x : α), j ≠ sN S → va_up f (sN S) x j = f j := fun f x hne => va_up_off hne
    by_cases hjn : j = sN S
    · subst hjn
      unfold stot smean
      show SRC hc' N' (sob X (sN S)) (va_up (sK S) (sN S) kd (sN S)) (va_up (sT S) (sN S) t (sN S)) (va_up (sC S) (sN S) c (sN S)) (sg (va_up (sC S) (sN S) c (sN S)) (va_up (sT S) (sN S) t (sN S) + 1)) (sg (fun v => va_up (sC S) (sN S) c (sN S) v * v) (va_up (sT S) (sN S) t (sN S) + 1))
      rw [va_up_at, va_up_at, va_up_at]
      exact hs
    · unfold stot smean
      show SRC hc' N' (sob X j) (va_up (sK S) (sN S) kd j) (va_up (sT S) (sN S) t j) (va_up (sC S) (sN S) c j) (sg (va_up (sC S) (sN S) c j) (va_up (sT S) (sN S) t j + 1)) (sg (fun v => va_up (sC S) (sN S) c j v * v) (va_up (sT S) (sN S) t j + 1))
      rw [ev _ _ hjn, ev _ _ hjn, ev _ _ hjn]
      obtain ⟨a1, ⟨g', a2, a3⟩, a4, a5, a6, a7⟩ := g4 j (by omega)
      have e : sob X j = X + (158 + 10 * j) := rfl
      refine ⟨by rw [ho _ (by omega) (by omega) (by omega) (by omega)]; exact a1, ⟨g', ⟨by rw [ho _ (by omega) (by omega) (by omega) (by omega)]; exact a2.1, by rw [ho _ (by omega) (by omega) (by omega) (by omega)]; exact a2.2.1, a2.2.2⟩, a3⟩, by rw [ho _ (by omega) (by omega) (by omega) (by omega)]; exact a4, by rw [hN _ (by omega) (by omega)]; exact a5, by rw [hN _ (by omega) (by omega)]; exact a6, by rw [hN _ (by omega) (by omega)]; exact a7⟩
