/-! the tosser -/
def th (hc : Hp) (X td : Nat) (sh g : Nat → Nat) : Hp := hup (hup (hup hc (X + 36) (tob (X + 36) td)) (X + 45) (iar 2 sh)) (X + 40) (iar 328 g)
theorem th_40 {hc : Hp} {X td : Nat} {sh g : Nat → Nat} : th hc X td sh g (X + 40) = some (iar 328 g) := hup_self _ _ _
theorem th_45 {hc : Hp} {X td : Nat} {sh g : Nat → Nat} : th hc X td sh g (X + 45) = some (iar 2 sh) := by unfold th; rw [hup_ne (by omega)]; exact hup_self _ _ _
theorem th_36 {hc : Hp} {X td : Nat} {sh g : Nat → Nat} : th hc X td sh g (X + 36) = some (tob (X + 36) td) := by unfold th; rw [hup_ne (by omega), hup_ne (by omega)]; exact hup_self _ _ _
theorem th_x {hc : Hp} {X td y : Nat} {sh g : Nat → Nat} (h1 : y ≠ X + 36) (h2 : y ≠ X + 40) (h3 : y ≠ X + 45) : th hc X td sh g y = hc y := by unfold th; rw [hup_ne h2, hup_ne h3, hup_ne h1]
theorem th_id {hc : Hp} {X td : Nat} {sh g : Nat → Nat} (h1 : hc (X + 36) = some (tob (X + 36) td)) (h2 : hc (X + 45) = some (iar 2 sh)) (h3 : hc (X + 40) = some (iar 328 g)) : hc = th hc X td sh g := by unfold th; rw [hup_id h1, hup_id h2, hup_id h3]
theorem u40 {hc : Hp} {X td k : Nat} {sh g g' : Nat → Nat} {N : NC} : hup (nh (th hc X td sh g) (LC X k) N) (X + 40) (iar 328 g') = nh (th hc X td sh g') (LC X k) N := by
  rw [upn_X (c := 40) N rfl (Or.inr rfl)]; unfold th; rw [hup_hup]
theorem u45 {hc : Hp} {X td k : Nat} {sh sh' g : Nat → Nat} {N : NC} : hup (nh (th hc X td sh g) (LC X k) N) (X + 45) (iar 2 sh') = nh (th hc X td sh' g) (LC X k) N := by
  rw [upn_X (c := 45) N rfl (Or.inr rfl)]; unfold th; rw [hup_comm (show X + 40 ≠ X + 45 by omega), hup_hup]
theorem u36 {hc : Hp} {X td td' k : Nat} {sh g : Nat → Nat} {N : NC} : hup (nh (th hc X td sh g) (LC X k) N) (X + 36) (tob (X + 36) td') = nh (th hc X td' sh g) (LC X k) N := by
  rw [upn_X (c := 36) N rfl (Or.inr rfl)]; unfold th; rw [hup_comm (show X + 40 ≠ X + 36 by omega), hup_comm (show X + 45 ≠ X + 36 by omega), hup_hup]
theorem n36 {hc : Hp} {X td k : Nat} {sh g : Nat → Nat} (N : NC) : nh (th hc X td sh g) (LC X k) N (X + 36) = some (tob (X + 36) td) := by rw [nh_X (c := 36) N rfl (Or.inr rfl)]; exact th_36
theorem n45 {hc : Hp} {X td k : Nat} {sh g : Nat → Nat} (N : NC) : nh (th hc X td sh g) (LC X k) N (X + 45) = some (iar 2 sh) := by rw [nh_X (c := 45) N rfl (Or.inr rfl)]; exact th_45
theorem nr_39 (X k : Nat) : nr (LC X k) (X + 39) := ⟨by show LC X k (X + 38) = 0; rw [LC_at]; rfl, by rw [LC_at]; rfl, by show LC X k (X + 40) = 0; rw [LC_at]; rfl⟩
theorem CS.tro {hc : Hp} {N : NC} {X : Nat} {S : TS} (h : CS hc N X S) : hc (X + 39) = some (robj (X + 39) 40 8) := by
  obtain ⟨td, sh, g, -, -, q⟩ := h.2.1.2.2.2.2.2.2.2
  exact q.1
theorem CS.trow {hc : Hp} {N : NC} {X : Nat} {S : TS} (h : CS hc N X S) (td : Nat) (sh g : Nat → Nat) : Row (th hc X td sh g) (X + 39) 40 8 g := ⟨by rw [th_x (by omega) (by omega) (by omega)]; exact h.tro, th_40, by decide, by decide, by decide⟩
theorem CS.th {hc : Hp} {N N' : NC} {X : Nat} {S : TS} (h : CS hc N X S) (td : Nat) (sh g : Nat → Nat) (hA : NA (LC X (sN S)) N') (hN : ∀ k, k < X + 6 ∨ X + 46 ≤ k → N' k = N k) : CS (th hc X td sh g) N' X S := by
  obtain ⟨od, ho4⟩ := h.2.1.2.2.2.2.1
  obtain ⟨R, H, W, ⟨a, b, c0, d, y1, y2⟩, z⟩ := h.2.2.2.2
  exact h.fr2 hA (fun k _ hk => hN k hk) (fun y _ _ _ h3 h4 h5 => th_x h3 h4 h5) ⟨od, by rw [th_x (by omega) (by omega) (by omega)]; exact ho4⟩ ⟨td, sh, g, th_36, th_45, h.trow td sh g⟩ ⟨R, H, W, ⟨a, b, c0, d, by rw [th_x (by omega) (by omega) (by omega)]; exact y1, y2⟩, z⟩
theorem ct_X6_start (n : Nat) (hc : Hp) (N : NC) (X a b : Nat) (S : TS) (h : CS hc N X S) (hab : a ≤ b) (hb : b ≤ 60) : CT mX6_start 0 0 n (nh hc (LC X (sN S)) N) [.ref (X + 36), .int (nI a), .int (nI b)] (pv n (fun h' => ∃ sh g N', h' = nh (th hc X 0 sh g) (LC X (sN S)) N' ∧ (sh 0 = b - a ∧ sh 1 = a) ∧ rok 40 8 g (fun v => if v = 0 then 1 else 0) ∧ nv (LC X (sN S)) N' (X + 37) 8 1 ∧ NA (LC X (sN S)) N' ∧ ∀ k, k ≠ X + 37 → N' k = N k)) := by
  refine CT.intro [some (.ref (X + 36)), some (.int (nI a)), some (.int (nI b))] 0 rfl rfl (by decide) ?_
  intro Q hQ
  have W := LC_W X (sN S)
  obtain ⟨td0, sh0, g0, t1, t2, t3⟩ := h.2.1.2.2.2.2.2.2.2
  have l37 : LC X (sN S) (X + 37) = 8 := by rw [LC_at]; rfl
  have z37 : LC X (sN S) (X + 37) ≠ 0 := by rw [l37]; decide
  obtain ⟨z, hz⟩ := h.1 (X + 37) z37
  refine AW.hp (show nh hc (LC X (sN S)) N = nh (th hc X td0 sh0 g0) (LC X (sN S)) N by rw [← th_id t1 t2 t3.2.1]) ?_
  refine aw_aload_n (i := 0) dX6_start_0 rfl rfl ?_
  refine aw_getfield fX6_35 dX6_start_1 (n36 N) rfl ?_
  refine aw_iconst (v := 0) dX6_start_4 (by decide +kernel) ?_
  refine aw_iload_n (i := 2) dX6_start_5 rfl rfl ?_
  refine aw_iload_n (i := 1) dX6_start_6 rfl rfl ?_
  refine aw_isub dX6_start_7 ?_
  refine aw_iast dX6_start_8 0 (b - a) (nI_sb hab) (n45 N) (by decide +kernel) (by decide) ?_
  refine AW.hp u45 ?_
  refine aw_aload_n (i := 0) dX6_start_9 rfl rfl ?_
  refine aw_getfield fX6_35 dX6_start_10 (n36 N) rfl ?_
  refine aw_iconst (v := 1) dX6_start_13 (by decide +kernel) ?_
  refine aw_iload_n (i := 1) dX6_start_14 rfl rfl ?_
  refine aw_iast dX6_start_15 1 a rfl (n45 N) (by decide +kernel) (by decide) ?_
  refine AW.hp u45 ?_
  have s0 : va_up (va_up sh0 0 (b - a)) 1 a 0 = b - a := by rw [va_up_off (by decide), va_up_at]
  have s1 : va_up (va_up sh0 0 (b - a)) 1 a 1 = a := va_up_at _ _ _
  generalize va_up (va_up sh0 0 (b - a)) 1 a = sh at *
  refine aw_aload_n (i := 0) dX6_start_16 rfl rfl ?_
  refine aw_iconst (v := 0) dX6_start_17 (by decide +kernel) ?_
  refine aw_putfield fX6_39 dX6_start_18 (n36 N) rfl rfl (Nat.le_of_ble_eq_true rfl) ?_
  dsimp only [List.set]
  refine AW.hp (u36 (td' := 0)) ?_
  refine aw_aload_n (i := 0) dX6_start_21 rfl rfl ?_
  refine aw_getfield fX6_14 dX6_start_22 (n36 N) rfl ?_
  refine aw_lconst (v := 1) dX6_start_25 (by decide) ?_
  refine aw_invokevirtual kX6_43 dX6_start_26 (nh_o _ N z37) (npo_of (p := 8) h.1 z37 (by decide +kernel) (ct_X3_put n (th hc X 0 sh g0) (LC X (sN S)) N (X + 37) z 1 W z37 hz (by decide))) rfl rfl (Nat.le_of_ble_eq_true rfl) ⟨Nat.le_of_ble_eq_true rfl, Nat.le_of_ble_eq_true rfl⟩ ⟨Nat.le_of_ble_eq_true rfl, Nat.le_of_ble_eq_true rfl⟩ ?_
  rintro _ _ _ ⟨rfl, rfl, N1, rfl, v1, A1, f1⟩
  refine aw_aload_n (i := 0) dX6_start_29 rfl rfl ?_
  refine aw_getfield fX6_25 dX6_start_30 (n36 N1) rfl ?_
  refine aw_invokevirtual kX6_47 dX6_start_33 ((h.trow 0 sh g0).nh (nr_39 X (sN S)) N1).1 (ct_X4_startAnew n _ (X + 39) 40 8 g0 ((h.trow 0 sh g0).nh (nr_39 X (sN S)) N1)) rfl rfl (Nat.le_of_ble_eq_true rfl) ⟨Nat.le_of_ble_eq_true rfl, Nat.le_of_ble_eq_true rfl⟩ ⟨Nat.le_of_ble_eq_true rfl, Nat.le_of_ble_eq_true rfl⟩ ?_
  rintro _ _ _ ⟨rfl, rfl, g', rfl, hr⟩
  refine AW.hp (show _ = nh (th hc X 0 sh g') (LC X (sN S)) N1 from u40) ?_
  refine aw_return dX6_start_36 rfl (Nat.le_of_ble_eq_true rfl) (Nat.le_of_ble_eq_true rfl) ?_
  exact hQ _ _ _ ⟨rfl, rfl, sh, g', N1, rfl, ⟨s0, s1⟩, hr, v1, A1, f1⟩
def stepC (a b : Nat) (c : Nat → Nat) (v : Nat) : Nat := c v * (b - a) + (if v = 0 then 0 else c (v - 1) * a)
theorem rnd_step {a b : Nat} {sh c : Nat → Nat} (h : sh 0 = b - a ∧ sh 1 = a) (v : Nat) : rnd c sh 2 v = stepC a b c v := by
  show 0 + (if 0 ≤ v then c (v - 0) * sh 0 else 0) + (if 1 ≤ v then c (v - 1) * sh 1 else 0) = _
  rw [h.1, h.2, if_pos (Nat.zero_le _), Nat.sub_zero, Nat.zero_add]
  unfold stepC
  by_cases e : v = 0
  · rw [if_neg (by omega), if_pos e]
  · rw [if_pos (by omega), if_neg e]
theorem ct_X6_tossNext (n : Nat) (hc : Hp) (N N0 : NC) (X td a b A : Nat) (S : TS) (sh g c : Nat → Nat) (h : CS hc N0 X S) (hA : NA (LC X (sN S)) N) (hs : sh 0 = b - a ∧ sh 1 = a) (hab : a ≤ b) (hb : b ≤ 60) (htd : td < 40) (hr : rok 40 8 g c) (hsup : ∀ v, td < v → c v = 0) (hfit : ∀ v, stepC a b c v < (2 ^ 32) ^ 8) (nA : nv (LC X (sN S)) N (X + 37) 8 A) (hAb : A * b < (2 ^ 32) ^ 8) : CT mX6_tossNext 0 0 n (nh (th hc X td sh g) (LC X (sN S)) N) [.ref (X + 36)] (pv n (fun h' => ∃ g' N', h' = nh (th hc X (td + 1) sh g') (LC X (sN S)) N' ∧ rok 40 8 g' (stepC a b c) ∧ nv (LC X (sN S)) N' (X + 37) 8 (A * b) ∧ NA (LC X (sN S)) N' ∧ ∀ k, k ≠ X + 37 → N' k = N k)) := by
  refine CT.intro [some (.ref (X + 36))] 0 rfl rfl (by decide) ?_
  intro Q hQ
  have W := LC_W X (sN S)
  have l37 : LC X (sN S) (X + 37) = 8 := by rw [LC_at]; rfl
  refine aw_aload_n (i := 0) dX6_tossNext_0 rfl rfl ?_
  refine aw_dup dX6_tossNext_1 rfl ?_
  refine aw_getfield fX6_39 dX6_tossNext_2 (n36 N) rfl ?_
  refine aw_iconst (v := 1) dX6_tossNext_5 (by decide +kernel) ?_
  refine aw_iadd dX6_tossNext_6 ?_
  rw [nI_1]
  refine aw_putfield fX6_39 dX6_tossNext_7 (n36 N) rfl rfl (Nat.le_of_ble_eq_true rfl) ?_
  dsimp only [List.set]
  refine AW.hp (u36 (td' := td + 1)) ?_
  have hR := (h.trow (td + 1) sh g).nh (nr_39 X (sN S)) N
  refine aw_aload_n (i := 0) dX6_tossNext_10 rfl rfl ?_
  refine aw_getfield fX6_25 dX6_tossNext_11 (n36 N) rfl ?_
  refine aw_aload_n (i := 0) dX6_tossNext_14 rfl rfl ?_
  refine aw_getfield fX6_35 dX6_tossNext_15 (n36 N) rfl ?_
  refine aw_iconst (v := 2) dX6_tossNext_18 (by decide +kernel) ?_
  refine aw_aload_n (i := 0) dX6_tossNext_19 rfl rfl ?_
  refine aw_getfield fX6_39 dX6_tossNext_20 (n36 N) rfl ?_
  refine aw_invokevirtual kX6_50 dX6_tossNext_23 hR.1 (ct_X4_addRound n _ (X + 39) 40 8 (X + 45) 2 2 (td + 1) g c sh hR hr (n45 N) (by omega) (by decide) (by decide) (fun i hi => by rcases (show i = 0 ∨ i = 1 by omega) with rfl | rfl <;> omega) (by omega) (fun v _ => by rw [rnd_step hs]; exact hfit v)) rfl rfl (Nat.le_of_ble_eq_true rfl) ⟨Nat.le_of_ble_eq_true rfl, Nat.le_of_ble_eq_true rfl⟩ ⟨Nat.le_of_ble_eq_true rfl, Nat.le_of_ble_eq_true rfl⟩ ?_
  rintro _ _ _ ⟨rfl, rfl, g', rfl, hr'⟩
  refine AW.hp (show _ = nh (th hc X (td + 1) sh g') (LC X (sN S)) N from u40) ?_
  refine aw_aload_n (i := 0) dX6_tossNext_26 rfl rfl ?_
  refine aw_getfield fX6_14 dX6_tossNext_27 (n36 N) rfl ?_
  refine aw_aload_n (i := 0) dX6_tossNext_30 rfl rfl ?_
  refine aw_getfield fX6_35 dX6_tossNext_31 (n36 N) rfl ?_
  refine aw_iconst (v := 0) dX6_tossNext_34 (by decide +kernel) ?_
  refine aw_iald dX6_tossNext_35 0 (n45 N) (by decide +kernel) (by decide) ?_
  refine aw_aload_n (i := 0) dX6_tossNext_36 rfl rfl ?_
  refine aw_getfield fX6_35 dX6_tossNext_37 (n36 N) rfl ?_
  refine aw_iconst (v := 1) dX6_tossNext_40 (by decide +kernel) ?_
  refine aw_iald dX6_tossNext_41 1 (n45 N) (by decide +kernel) (by decide) ?_
  refine aw_iadd dX6_tossNext_42 ?_
  refine aw_i2l dX6_tossNext_43 rfl ?_
  rw [nI_add, hs.1, hs.2, Nat.sub_add_cancel hab, nI_l (by omega)]
  refine aw_invokevirtual kX6_54 dX6_tossNext_44 (nh_o _ N nA.1) (npo_of hA nA.1 hAb (ct_X3_scale n (th hc X (td + 1) sh g') (LC X (sN S)) N (X + 37) A b W nA.1 nA.2.1 (by omega) (by rw [l37]; exact hAb))) rfl rfl (Nat.le_of_ble_eq_true rfl) ⟨Nat.le_of_ble_eq_true rfl, Nat.le_of_ble_eq_true rfl⟩ ⟨Nat.le_of_ble_eq_true rfl, Nat.le_of_ble_eq_true rfl⟩ ?_
  rintro _ _ _ ⟨rfl, rfl, N1, rfl, v1, A1, f1⟩
  refine aw_return dX6_tossNext_47 rfl (Nat.le_of_ble_eq_true rfl) (Nat.le_of_ble_eq_true rfl) ?_
  refine hQ _ _ _ ⟨rfl, rfl, g', N1, rfl, rok_congr hr' (fun v hv => ?_), v1, A1, f1⟩
  by_cases e : v ≤ td + 1
  · rw [if_pos e, rnd_step hs]
  · rw [if_neg e, hsup v (by omega)]
    unfold stepC
    rw [hsup v (by omega), if_neg (by omega), hsup (v - 1) (by omega), Nat.zero_mul, Nat.zero_mul]
theorem ct_X6_addFrom (n : Nat) (hc : Hp) (N N0 : NC) (X td le u p : Nat) (tk : Bool) (S : TS) (sh g c : Nat → Nat) (h : CS hc N0 X S) (hA : NA (LC X (sN S)) N) (htd : td ≤ 40) (hle : le < 2 ^ 30) (hr : rok 40 8 g c) (nu : nv (LC X (sN S)) N (X + 6) p u) (hp : p ≤ 72) (hfit : u + sg (fun x => if le ≤ x then c x else 0) (td + 1) < (2 ^ 32) ^ p) : CT mX6_addFrom 0 0 n (nh (th hc X td sh g) (LC X (sN S)) N) [.ref (X + 36), .int (nI le), .int (bI tk), .ref (X + 6)] (pv n (fun h' => ∃ g' N', h' = nh (th hc X td sh g') (LC X (sN S)) N' ∧ rok 40 8 g' (fun x => if tk = true ∧ le ≤ x ∧ x ≤ td then 0 else c x) ∧ nv (LC X (sN S)) N' (X + 6) p (u + sg (fun x => if le ≤ x then c x else 0) (td + 1)) ∧ NA (LC X (sN S)) N' ∧ ∀ k, k ≠ X + 6 → N' k = N k)) := by
  refine CT.intro [some (.ref (X + 36)), some (.int (nI le)), some (.int (bI tk)), some (.ref (X + 6)), none] 1 rfl rfl (by decide) ?_
  intro Q hQ
  have W := LC_W X (sN S)
  have l6 : LC X (sN S) (X + 6) = 72 := L72 rfl
  have sz : sg (fun x => if le ≤ x then c x else 0) le = 0 := sg_zero (fun i hi => by rw [if_neg (by omega)])
  have mx : (if nI le < 0 then (0 : Int32) else nI le) = nI le := if_neg (nI_pos (by omega))
  by_cases hlt : td < le
  · have e0 : sg (fun x => if le ≤ x then c x else 0) (td + 1) = 0 := sg_zero (fun i hi => by rw [if_neg (by omega)])
    refine aw_iload_n (i := 1) dX6_addFrom_0 rfl rfl ?_
    refine aw_iconst (v := 0) dX6_addFrom_1 (by decide +kernel) ?_
    refine aw_mmax kX6_57 mathmax_s math_i mathmax_c dX6_addFrom_2 (by decide) (Nat.le_of_ble_eq_true rfl) (Nat.le_of_ble_eq_true rfl) (Nat.le_of_ble_eq_true rfl) ?_
    rw [mx]
    refine aw_istore_4 dX6_addFrom_5 (by decide) rfl ?_
    refine aw_iload dX6_addFrom_7 rfl ?_
    refine aw_aload_n (i := 0) dX6_addFrom_9 rfl rfl ?_
    refine aw_getfield fX6_39 dX6_addFrom_10 (n36 _) rfl ?_
    refine aw_icmp_gt (tgt := 46) dX6_addFrom_13 (by decide) (fun _ => ?_) (fun c => (c (nI_lt hlt (by omega))).elim)
    refine aw_return dX6_addFrom_46 rfl (Nat.le_of_ble_eq_true rfl) (Nat.le_of_ble_eq_true rfl) ?_
    refine hQ _ _ _ ⟨rfl, rfl, g, N, rfl, rok_congr hr (fun y hy => by rw [if_neg (by omega)]), ?_, hA, fun _ _ => rfl⟩
    rw [e0, Nat.add_zero]; exact nu
  have loop : ∀ (z x : Nat) (g' : Nat → Nat) (N' : NC), x + z = td + 1 → le ≤ x → rok 40 8 g' (fun y => if tk = true ∧ le ≤ y ∧ y < x then 0 else c y) → nv (LC X (sN S)) N' (X + 6) p (u + sg (fun x => if le ≤ x then c x else 0) x) → NA (LC X (sN S)) N' → (∀ k, k ≠ X + 6 → N' k = N k) → AW mX6_addFrom (gq 0 0 Q) 7 [some (.ref (X + 36)), some (.int (nI le)), some (.int (bI tk)), some (.ref (X + 6)), some (.int (nI x))] [] 0 0 n (nh (th hc X td sh g') (LC X (sN S)) N') := by
    intro z
    induction z with
    | zero =>
      intro x g' N' hx hlx hr' nv' A' f'
      obtain rfl : x = td + 1 := by omega
      refine aw_iload dX6_addFrom_7 rfl ?_
      refine aw_aload_n (i := 0) dX6_addFrom_9 rfl rfl ?_
      refine aw_getfield fX6_39 dX6_addFrom_10 (n36 _) rfl ?_
      refine aw_icmp_gt (tgt := 46) dX6_addFrom_13 (by decide) (fun _ => ?_) (fun c => (c (nI_lt (by omega) (by omega))).elim)
      refine aw_return dX6_addFrom_46 rfl (Nat.le_of_ble_eq_true rfl) (Nat.le_of_ble_eq_true rfl) ?_
      refine hQ _ _ _ ⟨rfl, rfl, g', N', rfl, rok_congr hr' (fun y hy => ?_), nv', A', f'⟩
      by_cases q : tk = true ∧ le ≤ y ∧ y ≤ td
      · rw [if_pos q, if_pos ⟨q.1, q.2.1, by omega⟩]
      · rw [if_neg q, if_neg (fun q2 => q ⟨q2.1, q2.2.1, by omega⟩)]
    | succ z ih =>
      intro x g' N' hx hlx hr' nv' A' f'
      have hR := (h.trow td sh g').nh (nr_39 X (sN S)) N'
      have hcx : (if tk = true ∧ le ≤ x ∧ x < x then 0 else c x) = c x := if_neg (by omega)
      have hs1 : sg (fun x => if le ≤ x then c x else 0) (x + 1) = sg (fun x => if le ≤ x then c x else 0) x + c x := by rw [sg_s, if_pos hlx]
      have hle2 := sg_le (f := fun x => if le ≤ x then c x else 0) (show x + 1 ≤ td + 1 by omega)
      have hf2 : u + sg (fun x => if le ≤ x then c x else 0) x + c x * 1 < (2 ^ 32) ^ p := by omega
      have hto := ct_X4_addTo n (th hc X td sh g') (LC X (sN S)) N' (X + 39) 40 8 x (X + 6) _ 1 g' _ W (h.trow td sh g') (nr_39 X (sN S)) hr' (by omega) nv'.1 nv'.2.1 (by rw [l6]; decide) (by decide) (by rw [hcx, l6]; exact Nat.lt_of_lt_of_le hf2 (Bp_le hp))
      rw [hcx] at hto
      refine aw_iload dX6_addFrom_7 rfl ?_
      refine aw_aload_n (i := 0) dX6_addFrom_9 rfl rfl ?_
      refine aw_getfield fX6_39 dX6_addFrom_10 (n36 _) rfl ?_
      refine aw_icmp_gt (tgt := 46) dX6_addFrom_13 (by decide) (fun c => absurd c (nI_nlt (by omega) (by omega))) (fun _ => ?_)
      refine aw_aload_n (i := 0) dX6_addFrom_16 rfl rfl ?_
      refine aw_getfield fX6_25 dX6_addFrom_17 (n36 _) rfl ?_
      refine aw_aload_n (i := 3) dX6_addFrom_20 rfl rfl ?_
      refine aw_iload dX6_addFrom_21 rfl ?_
      refine aw_iconst (v := 1) dX6_addFrom_23 (by decide +kernel) ?_
      refine aw_invokevirtual kX6_63 dX6_addFrom_24 hR.1 (npo_of A' nv'.1 hf2 hto) rfl rfl (Nat.le_of_ble_eq_true rfl) ⟨Nat.le_of_ble_eq_true rfl, Nat.le_of_ble_eq_true rfl⟩ ⟨Nat.le_of_ble_eq_true rfl, Nat.le_of_ble_eq_true rfl⟩ ?_
      rintro _ _ _ ⟨rfl, rfl, N2, rfl, v2, A2, f2⟩
      rw [Nat.mul_one, Nat.add_assoc, ← hs1] at v2
      cases tk with
      | false =>
        refine aw_iload_n (i := 2) dX6_addFrom_27 rfl rfl ?_
        refine aw_if_eq (tgt := 40) dX6_addFrom_28 (by decide) (fun _ => ?_) (fun c => (c rfl).elim)
        refine aw_iinc_4 (c0 := 1) dX6_addFrom_40 (by decide) (by decide) rfl ?_
        refine aw_goto (tgt := 7) dX6_addFrom_43 (by decide) ?_
        rw [nI_1]
        exact ih (x + 1) g' N2 (by omega) (by omega) (rok_congr hr' (fun y hy => by rw [if_neg (fun q => absurd q.1 (by decide)), if_neg (fun q => absurd q.1 (by decide))])) v2 A2 (fun k hk => by rw [f2 k hk, f' k hk])
      | true =>
        have hR2 := (h.trow td sh g').nh (nr_39 X (sN S)) N2
        refine aw_iload_n (i := 2) dX6_addFrom_27 rfl rfl ?_
        refine aw_if_eq (tgt := 40) dX6_addFrom_28 (by decide) (fun c => absurd c (by decide +kernel)) (fun _ => ?_)
        refine aw_aload_n (i := 0) dX6_addFrom_31 rfl rfl ?_
        refine aw_getfield fX6_25 dX6_addFrom_32 (n36 _) rfl ?_
        refine aw_iload dX6_addFrom_35 rfl ?_
        refine aw_invokevirtual kX6_67 dX6_addFrom_37 hR2.1 (ct_X4_erase n _ (X + 39) 40 8 x g' _ hR2 hr' (by omega)) rfl rfl (Nat.le_of_ble_eq_true rfl) ⟨Nat.le_of_ble_eq_true rfl, Nat.le_of_ble_eq_true rfl⟩ ⟨Nat.le_of_ble_eq_true rfl, Nat.le_of_ble_eq_true rfl⟩ ?_
        rintro _ _ _ ⟨rfl, rfl, g2, rfl, hr2⟩
        refine AW.hp (show _ = nh (th hc X td sh g2) (LC X (sN S)) N2 from u40) ?_
        refine aw_iinc_4 (c0 := 1) dX6_addFrom_40 (by decide) (by decide) rfl ?_
        refine aw_goto (tgt := 7) dX6_addFrom_43 (by decide) ?_
        rw [nI_1]
        refine ih (x + 1) g2 N2 (by omega) (by omega) (rok_congr hr2 (fun y hy => ?_)) v2 A2 (fun k hk => by rw [f2 k hk, f' k hk])
        by_cases e : y = x
        · rw [e, va_up_at, if_pos ⟨rfl, hlx, Nat.lt_succ_self x⟩]
        · rw [va_up_off e]
          by_cases q : le ≤ y ∧ y < x
          · rw [if_pos ⟨rfl, q.1, by omega⟩, if_pos ⟨rfl, q⟩]
          · rw [if_neg (fun z => q ⟨z.2.1, by omega⟩), if_neg (fun z => q z.2)]
  refine aw_iload_n (i := 1) dX6_addFrom_0 rfl rfl ?_
  refine aw_iconst (v := 0) dX6_addFrom_1 (by decide +kernel) ?_
  refine aw_mmax kX6_57 mathmax_s math_i mathmax_c dX6_addFrom_2 (by decide) (Nat.le_of_ble_eq_true rfl) (Nat.le_of_ble_eq_true rfl) (Nat.le_of_ble_eq_true rfl) ?_
  rw [mx]
  refine aw_istore_4 dX6_addFrom_5 (by decide) rfl ?_
  refine loop (td + 1 - le) le g N (by omega) (Nat.le_refl _) (rok_congr hr (fun y hy => by rw [if_neg (by omega)])) ?_ hA (fun _ _ => rfl)
  rw [sz, Nat.add_zero]; exact nu
