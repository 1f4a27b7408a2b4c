/-! new objects -/
def zn : Nat × (Nat → Nat) := (0, fun _ => 0)
theorem num_zn (l : Nat) : num l zn 0 := ⟨⟨Nat.zero_le _, fun _ _ => by show (0 : Nat) < 2 ^ 32; decide, bv_0 _ _⟩, fun q => absurd q (Nat.lt_irrefl 0)⟩
theorem nh_new {hc : Hp} {L : Nat → Nat} {N : NC} {a room : Nat} (c : AC) (h0 : L a = 0) (h1 : L (a + 1) = 0) (hm : L (a - 1) = 0) (hr : room ≠ 0) : hup (hup (hup (nh hc L N) a c) (a + 1) (iar room (fun _ => 0))) a (.inr (3, [.ref (a + 1), .int (nI 0)])) = nh hc (va_up L a room) (va_up N a zn) := by
  funext y
  unfold nh
  by_cases e1 : y = a
  · rw [e1, hup_self, va_up_at, va_up_at, if_pos hr]; rfl
  · rw [hup_ne e1, va_up_off e1, va_up_off e1]
    by_cases e2 : y = a + 1
    · rw [e2, hup_self, h1, if_neg (by decide), Nat.add_sub_cancel, va_up_at, va_up_at, if_pos ⟨by omega, hr⟩]; rfl
    · rw [hup_ne e2, hup_ne e1]
      by_cases e3 : y = 0
      · subst e3
        rw [if_neg (fun q => q.1 rfl : ¬ ((0 : Nat) ≠ 0 ∧ L (0 - 1) ≠ 0)), if_neg (fun q => q.1 rfl : ¬ ((0 : Nat) ≠ 0 ∧ va_up L a room (0 - 1) ≠ 0))]
      · rw [va_up_off (show y - 1 ≠ a by omega), va_up_off (show y - 1 ≠ a by omega)]
theorem ct_X1_init (n : Nat) (hc : Hp) (L : Nat → Nat) (N : NC) (F room : Nat) (hF : hc F = some (.inr (1, [.null, .null, .int 0]))) (hL : ∀ c, c ≤ 5 → L (F + c) = 0) (hL1 : L (F - 1) = 0) (hn : n = F + 1) (r2 : 2 ≤ room) (r72 : room ≤ 72) : CT mX1_init 4 (4 + 2 * room) n (nh hc L N) [.ref F, .int (nI room)] (fun r n' h' => r = none ∧ F + 5 = n' ∧ h' = nh (hup hc F (fobj F 0)) (va_up (va_up L (F + 1) room) (F + 3) room) (va_up (va_up N (F + 1) zn) (F + 3) zn)) := by
  refine CT.intro [some (.ref F), some (.int (nI room))] 0 rfl rfl (by decide) ?_
  intro Q hQ
  subst hn
  have hF0 : nh hc L N F = some (.inr (1, [.null, .null, .int 0])) := by rw [nh_no hc N (by have := hL 0 (by decide); rwa [Nat.add_zero] at this) hL1]; exact hF
  have L0 : L F = 0 := by have := hL 0 (by decide); rwa [Nat.add_zero] at this
  refine aw_aload_n (i := 0) dX1_init_0 rfl rfl ?_
  refine aw_objinit kX1_1 obj_i obj_c dX1_init_1 (by decide) (Nat.le_of_ble_eq_true rfl) ?_
  refine aw_aload_n (i := 0) dX1_init_4 rfl rfl ?_
  refine aw_iconst (v := 0) dX1_init_5 (by decide +kernel) ?_
  refine aw_putfield fX1_7 dX1_init_6 hF0 rfl rfl (Nat.le_of_ble_eq_true rfl) ?_
  dsimp only [List.set]
  refine AW.hp (hup_id hF0) ?_
  refine aw_aload_n (i := 0) dX1_init_9 rfl rfl ?_
  refine aw_new nX1_13 dX1_init_10 (Nat.le_add_left _ _) (by show 0 + 2 ≤ 4 + 2 * room; omega) ?_
  refine aw_dup dX1_init_13 rfl ?_
  refine aw_iload_n (i := 1) dX1_init_14 rfl rfl ?_
  refine aw_invokespecial kX1_15 dX1_init_15 (ct_X3_init (F + 1 + 1) (hup (nh hc L N) (F + 1) (.inr (3, [.null, .int 0]))) (F + 1) room (hup_self _ _ _) (by omega) r2 r72) rfl rfl (Nat.le_of_ble_eq_true rfl) ⟨Nat.le_of_ble_eq_true rfl, Nat.le_of_ble_eq_true rfl⟩ ⟨Nat.le_of_ble_eq_true rfl, by show 0 + 2 + room ≤ 4 + 2 * room; omega⟩ ?_
  rintro _ _ _ ⟨rfl, rfl, rfl⟩
  refine AW.hp (nh_new _ (hL 1 (by decide)) (hL 2 (by decide)) L0 (by omega)) ?_
  have L1a : va_up L (F + 1) room F = 0 := by rw [va_up_off (by omega)]; exact L0
  have L1b : va_up L (F + 1) room (F - 1) = 0 := by rw [va_up_off (by omega)]; exact hL1
  refine aw_putfinal fX1_18 rfl dX1_init_18 (by rw [nh_no _ _ L1a L1b]; exact hF) rfl rfl (Nat.le_of_ble_eq_true rfl) ?_
  dsimp only [List.set]
  refine AW.hp (nh_upn _ _ L1a L1b _) ?_
  refine aw_aload_n (i := 0) dX1_init_21 rfl rfl ?_
  refine aw_new nX1_13 dX1_init_22 (Nat.le_of_ble_eq_true rfl) (by show 0 + 2 + room + 2 ≤ 4 + 2 * room; omega) ?_
  refine aw_dup dX1_init_25 rfl ?_
  refine aw_iload_n (i := 1) dX1_init_26 rfl rfl ?_
  refine aw_invokespecial kX1_15 dX1_init_27 (ct_X3_init (F + 1 + 1 + 1 + 1) (hup (nh (hup hc F (.inr (1, [.ref (F + 1), .null, .int 0]))) (va_up L (F + 1) room) (va_up N (F + 1) zn)) (F + 1 + 1 + 1) (.inr (3, [.null, .int 0]))) (F + 3) room (hup_self _ _ _) (by omega) r2 r72) rfl rfl (Nat.le_of_ble_eq_true rfl) ⟨Nat.le_of_ble_eq_true rfl, Nat.le_of_ble_eq_true rfl⟩ ⟨Nat.le_of_ble_eq_true rfl, by show 0 + 2 + room + 2 + room ≤ 4 + 2 * room; omega⟩ ?_
  rintro _ _ _ ⟨rfl, rfl, rfl⟩
  refine AW.hp (nh_new (a := F + 3) _ (by rw [va_up_off (by omega)]; exact hL 3 (by decide)) (by rw [va_up_off (by omega)]; exact hL 4 (by decide)) (by rw [show F + 3 - 1 = F + 2 from rfl, va_up_off (by omega)]; exact hL 2 (by decide)) (by omega)) ?_
  have L2a : va_up (va_up L (F + 1) room) (F + 3) room F = 0 := by rw [va_up_off (by omega)]; exact L1a
  have L2b : va_up (va_up L (F + 1) room) (F + 3) room (F - 1) = 0 := by rw [va_up_off (by omega)]; exact L1b
  refine aw_putfinal fX1_22 rfl dX1_init_30 (by rw [nh_no _ _ L2a L2b]; exact hup_self _ _ _) rfl rfl (Nat.le_of_ble_eq_true rfl) ?_
  dsimp only [List.set]
  refine AW.hp (nh_upn _ _ L2a L2b _) ?_
  rw [hup_hup]
  refine AW.widen (k2 := 4) (s2 := 4 + 2 * room) (by omega) (by omega) ?_
  refine aw_return dX1_init_33 rfl (Nat.le_refl _) (Nat.le_refl _) ?_
  exact hQ _ _ _ ⟨rfl, rfl, rfl⟩
