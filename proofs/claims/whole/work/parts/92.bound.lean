theorem capP_eq {S : TS} {p u d u2 d2 : Nat} (hd : 0 < d) (hd2 : 0 < d2) (e : u * d2 = u2 * d) : capP S p u d = capP S p u2 d2 := by
  have iff : d < u ↔ d2 < u2 := by
    constructor
    · intro h
      have := Nat.mul_lt_mul_of_pos_right h hd2
      rw [e, Nat.mul_comm d d2] at this
      exact Nat.lt_of_mul_lt_mul_right this
    · intro h
      have := Nat.mul_lt_mul_of_pos_right h hd
      rw [← e, Nat.mul_comm d2 d] at this
      exact Nat.lt_of_mul_lt_mul_right this
  unfold capP
  by_cases h : d < u
  · rw [if_pos h, if_pos (iff.mp h)]
  · rw [if_neg h, if_neg (fun q => h (iff.mpr q)), putP_eq hd hd2 e]
theorem capP_put (S : TS) (p u d : Nat) : putP S p (if d < u then 1 else u) (if d < u then 1 else d) = capP S p u d := by
  unfold capP
  by_cases h : d < u
  · rw [if_pos h, if_pos h, if_pos h]
  · rw [if_neg h, if_neg h, if_neg h]
theorem putP_1 (S : TS) (p u d : Nat) : (putP S p u d).1 = 1 ∨ (putP S p u d).1 = -4 := by unfold putP; split <;> simp
theorem capP_1 (S : TS) (p u d : Nat) : (capP S p u d).1 = 1 ∨ (capP S p u d).1 = -4 := by unfold capP; split <;> exact putP_1 _ _ _ _
theorem capP_N (S : TS) (p u d : Nat) : sN (capP S p u d).2 = sN S := by unfold capP; split <;> exact putP_N _ _ _ _
theorem above_iff {S : TS} {j k : Nat} (h : 0 < stot S j) : smean S j < stot S j * k ↔ sS S j < tS S j * k := by
  rw [sS_m S j, tS_m S j, Nat.mul_right_comm]
  exact Nat.mul_lt_mul_right (gS_pos h)
theorem bnd_1 {S : TS} {j k : Nat} (h : 0 < stot S j) (hk : ¬ sS S j < tS S j * k) (kd : Nat) : bndA S j k kd = 1 ∧ bndB S j k kd = 1 ∧ bndBase S j k kd = 0 := by
  have : ¬ smean S j < stot S j * k := fun q => hk ((above_iff h).mp q)
  unfold bndA bndB bndBase
  rw [if_neg this, if_neg this, if_neg this]
  exact ⟨rfl, rfl, rfl⟩
theorem bnd_0 {S : TS} {j k : Nat} (h : 0 < stot S j) (hk : sS S j < tS S j * k) (p : Nat) : capP S p (sS S j) (tS S j * k) = capP S p (bndA S j k 0) (bndB S j k 0) := by
  have q := (above_iff h).mpr hk
  have ea : bndA S j k 0 = smean S j := by unfold bndA; rw [if_pos q, if_pos rfl]
  have eb : bndB S j k 0 = stot S j * k := by unfold bndB; rw [if_pos q, if_pos rfl]
  rw [ea, eb]
  refine capP_eq (by omega) (by omega) ?_
  rw [← Nat.mul_assoc, st_x, Nat.mul_assoc]
theorem bnd_4 {S : TS} {j k : Nat} (hI : SInv S) (hj : j < sN S) (hk : sS S j < tS S j * k) (p : Nat) : 0 < raL S j k 8 ^ k * stot S j * 2 ^ (2 * (sT S j - k)) ∧ capP S p (wsm S j (raL S j k 8) * 2 ^ (2 * (k - sT S j))) (raL S j k 8 ^ k * stot S j * 2 ^ (2 * (sT S j - k))) = capP S p (bndA S j k 4) (bndB S j k 4) ∧ bndBase S j k 4 = raL S j k 8 := by
  have h := (hI.2.1.2 j hj).2.2.1
  have q := (above_iff h).mpr hk
  have ea : bndA S j k 4 = wsm S j (raL S j k 8) * 4 ^ k := by unfold bndA; rw [if_pos q, if_neg (by decide), if_pos rfl]; rfl
  have eb : bndB S j k 4 = stot S j * raL S j k 8 ^ k * 4 ^ sT S j := by unfold bndB; rw [if_pos q, if_neg (by decide), if_pos rfl]; rfl
  have ec : bndBase S j k 4 = raL S j k 8 := by unfold bndBase; rw [if_pos q, if_pos rfl]
  have hB := bnd_pos (k := k) (kd := 4) hI hj
  rw [eb] at hB
  have hm : 0 < raL S j k 8 ^ k := by
    rcases Nat.eq_zero_or_pos (raL S j k 8 ^ k) with e | e
    · rw [e, Nat.mul_zero, Nat.zero_mul] at hB; exact absurd hB (by decide)
    · exact e
  have hP : 0 < raL S j k 8 ^ k * stot S j * 2 ^ (2 * (sT S j - k)) := Nat.mul_pos (Nat.mul_pos hm h) (Nat.two_pow_pos _)
  refine ⟨hP, ?_, ec⟩
  rw [ea, eb]
  refine capP_eq hP hB ?_
  rw [Nat.pow_mul, Nat.pow_mul]
  have e4 : (2 ^ 2) ^ (k - sT S j) * 4 ^ sT S j = 4 ^ k * (2 ^ 2) ^ (sT S j - k) := by
    rw [show (2 : Nat) ^ 2 = 4 from rfl, ← Nat.pow_add, ← Nat.pow_add]
    congr 1
    omega
  generalize (2 ^ 2) ^ (k - sT S j) = a1 at *
  generalize 4 ^ sT S j = a2 at *
  generalize 4 ^ k = a3 at *
  generalize (2 ^ 2) ^ (sT S j - k) = a4 at *
  generalize wsm S j (raL S j k 8) = w1 at *
  generalize raL S j k 8 ^ k = w2 at *
  calc w1 * a1 * (stot S j * w2 * a2) = w1 * (stot S j * w2) * (a1 * a2) := by simp only [Nat.mul_assoc, Nat.mul_comm, Nat.mul_left_comm]
    _ = w1 * (stot S j * w2) * (a3 * a4) := by rw [e4]
    _ = w1 * a3 * (w2 * stot S j * a4) := by simp only [Nat.mul_assoc, Nat.mul_comm, Nat.mul_left_comm]
theorem bnd_m {S : TS} {j k kd e : Nat} (h : 0 < stot S j) (hk : sS S j < tS S j * k) (k0 : kd ≠ 0) (k4 : kd ≠ 4) (he : e = if kd = 2 then 4 else 2) (p : Nat) : 0 < (tS S j * k - sS S j) ^ e * stot S j + (if kd = 3 then spr S j e else 0) ∧ capP S p (spr S j e) ((tS S j * k - sS S j) ^ e * stot S j + (if kd = 3 then spr S j e else 0)) = capP S p (bndA S j k kd) (bndB S j k kd) := by
  have q := (above_iff h).mpr hk
  have hg := gS_pos h
  have ea : bndA S j k kd = gS S j ^ e * spr S j e := by unfold bndA; rw [if_pos q, if_neg k0, if_neg k4, ← he, smom_spr h]
  have ew : awayN S j k = gS S j * (tS S j * k - sS S j) := by rw [away_dv h]; unfold dvn; rw [if_pos hk]
  have eb : bndB S j k kd = gS S j ^ e * ((tS S j * k - sS S j) ^ e * stot S j + (if kd = 3 then spr S j e else 0)) := by
    unfold bndB
    rw [if_pos q, if_neg k0, if_neg k4]
    by_cases k3 : kd = 3
    · have e2 : e = 2 := by rw [he, if_neg (by omega)]
      rw [if_pos k3, if_pos k3, ew, smom_spr h, e2, Nat.mul_pow, Nat.mul_add, Nat.mul_assoc]
    · rw [if_neg k3, if_neg k3, ← he, ew, Nat.mul_pow, Nat.mul_assoc, Nat.add_zero]
  have hP : 0 < (tS S j * k - sS S j) ^ e * stot S j + (if kd = 3 then spr S j e else 0) := Nat.lt_of_lt_of_le (Nat.mul_pos (Nat.pow_pos (show 0 < tS S j * k - sS S j by omega)) h) (Nat.le_add_right _ _)
  refine ⟨hP, ?_⟩
  rw [ea, eb]
  refine capP_eq hP (Nat.mul_pos (Nat.pow_pos hg) hP) ?_
  simp only [Nat.mul_assoc, Nat.mul_comm, Nat.mul_left_comm]
theorem one_lt70 {c : Prop} [Decidable c] {u p : Nat} (h : u < (2 ^ 32) ^ p) (hp : p ≤ 70) : (if c then 1 else u) < (2 ^ 32) ^ 70 := by
  split
  · decide +kernel
  · exact Nat.lt_of_lt_of_le h (Bp_le hp)
theorem ck_bound (h : Hp) (X : Nat) (S : TS) (p s k kd : Int32) (hR : CRep h X S) (hI : SInv S) : CT mX7_bound 0 0 (cn X S) h [.ref X, .int p, .int s, .int k, .int kd] (COK X h (opBound S p s k kd)) := by
  obtain ⟨hc, N, rfl, hS⟩ := hR
  refine CT.intro [some (.ref X), some (.int p), some (.int s), some (.int k), some (.int kd), none, none, none, none] 4 rfl rfl (by decide) ?_
  intro Q hQ
  have bad : ∀ y5 y6 : Option Value, (isP p && (isS S s && (rg k 0 120 && rg kd 0 4))) = false → AW mX7_bound (gq 0 0 Q) 44 [some (.ref X), some (.int p), some (.int s), some (.int k), some (.int kd), y5, y6, none, none] [] 0 0 (cn X S) (nh hc (LC X (sN S)) N) := by
    intro y5 y6 hb
    refine aw_iconst (v := (-1)) dX7_bound_44 (by decide +kernel) ?_
    refine aw_ireturn dX7_bound_45 rfl rfl (Nat.le_of_ble_eq_true rfl) (Nat.le_of_ble_eq_true rfl) ?_
    exact hQ _ _ _ (cbad hS _ (by unfold opBound; rw [hb]; rfl))
  refine aw_aload_n (i := 0) dX7_bound_0 rfl rfl ?_
  refine aw_iload_n (i := 1) dX7_bound_1 rfl rfl ?_
  refine aw_invokevirtual kX7_191 dX7_bound_2 (hS.X0 N) (hS.placeAt (cn X S) N p) rfl rfl (Nat.le_of_ble_eq_true rfl) ⟨Nat.le_of_ble_eq_true rfl, Nat.le_of_ble_eq_true rfl⟩ ⟨Nat.le_of_ble_eq_true rfl, Nat.le_of_ble_eq_true rfl⟩ ?_
  rintro _ _ _ ⟨rfl, rfl, rfl⟩
  by_cases h1 : isP p = true
  case neg =>
    rw [if_neg h1]
    refine aw_astore_5N dX7_bound_5 (by decide) rfl ?_
    refine aw_aload_n (i := 0) dX7_bound_7 rfl rfl ?_
    refine aw_iload_n (i := 2) dX7_bound_8 rfl rfl ?_
    refine aw_invokevirtual kX7_135 dX7_bound_9 (hS.X0 N) (hS.sourceAt hI (cn X S) N s) rfl rfl (Nat.le_of_ble_eq_true rfl) ⟨Nat.le_of_ble_eq_true rfl, Nat.le_of_ble_eq_true rfl⟩ ⟨Nat.le_of_ble_eq_true rfl, Nat.le_of_ble_eq_true rfl⟩ ?_
    rintro _ _ _ ⟨rfl, rfl, rfl⟩
    by_cases h2 : isS S s = true
    · rw [if_pos h2]
      refine aw_astore_6 dX7_bound_12 (by decide) rfl ?_
      refine aw_aloadN dX7_bound_14 rfl ?_
      refine aw_ifnullN (tgt := 44) dX7_bound_16 (by decide) ?_
      exact bad _ _ (by simp [h1])
    · rw [if_neg h2]
      refine aw_astore_6N dX7_bound_12 (by decide) rfl ?_
      refine aw_aloadN dX7_bound_14 rfl ?_
      refine aw_ifnullN (tgt := 44) dX7_bound_16 (by decide) ?_
      exact bad _ _ (by simp [h1])
  rw [if_pos h1]
  refine aw_astore_5 dX7_bound_5 (by decide) rfl ?_
  refine aw_aload_n (i := 0) dX7_bound_7 rfl rfl ?_
  refine aw_iload_n (i := 2) dX7_bound_8 rfl rfl ?_
  refine aw_invokevirtual kX7_135 dX7_bound_9 (hS.X0 N) (hS.sourceAt hI (cn X S) N s) rfl rfl (Nat.le_of_ble_eq_true rfl) ⟨Nat.le_of_ble_eq_true rfl, Nat.le_of_ble_eq_true rfl⟩ ⟨Nat.le_of_ble_eq_true rfl, Nat.le_of_ble_eq_true rfl⟩ ?_
  rintro _ _ _ ⟨rfl, rfl, rfl⟩
  by_cases h2 : isS S s = true
  case neg =>
    rw [if_neg h2]
    refine aw_astore_6N dX7_bound_12 (by decide) rfl ?_
    refine aw_aload dX7_bound_14 rfl ?_
    refine aw_ifnull dX7_bound_16 ?_
    refine aw_aloadN dX7_bound_19 rfl ?_
    refine aw_ifnullN (tgt := 44) dX7_bound_21 (by decide) ?_
    exact bad _ _ (by simp [h2])
  rw [if_pos h2]
  refine aw_astore_6 dX7_bound_12 (by decide) rfl ?_
  refine aw_aload dX7_bound_14 rfl ?_
  refine aw_ifnull dX7_bound_16 ?_
  refine aw_aload dX7_bound_19 rfl ?_
  refine aw_ifnull dX7_bound_21 ?_
  refine aw_iload_n (i := 3) dX7_bound_24 rfl rfl ?_
  refine aw_iconst (v := 0) dX7_bound_25 (by decide +kernel) ?_
  refine aw_bipush (v := 120) dX7_bound_26 (by decide +kernel) ?_
  refine aw_invokestatic kX7_88 dX7_bound_28 (ct_out (b := 120) _ (nh hc (LC X (sN S)) N) k 0 120 toInt_lit0 (by decide +kernel)) rfl rfl (Nat.le_of_ble_eq_true rfl) ⟨Nat.le_of_ble_eq_true rfl, Nat.le_of_ble_eq_true rfl⟩ ⟨Nat.le_of_ble_eq_true rfl, Nat.le_of_ble_eq_true rfl⟩ ?_
  rintro _ _ _ ⟨rfl, rfl, rfl⟩
  by_cases h3 : rg k 0 120 = true
  case neg =>
    refine aw_if_ne (tgt := 44) dX7_bound_31 (by decide) (fun _ => ?_) (fun c => ((bn0 h3) c).elim)
    exact bad _ _ (by simp [h3])
  refine aw_if_ne (tgt := 44) dX7_bound_31 (by decide) (fun c => absurd c (fun e => e (bn1 h3))) (fun _ => ?_)
  refine aw_iload dX7_bound_34 rfl ?_
  refine aw_iconst (v := 0) dX7_bound_36 (by decide +kernel) ?_
  refine aw_iconst (v := 4) dX7_bound_37 (by decide +kernel) ?_
  refine aw_invokestatic kX7_88 dX7_bound_38 (ct_out (b := 4) _ (nh hc (LC X (sN S)) N) kd 0 4 toInt_lit0 (by decide +kernel)) rfl rfl (Nat.le_of_ble_eq_true rfl) ⟨Nat.le_of_ble_eq_true rfl, Nat.le_of_ble_eq_true rfl⟩ ⟨Nat.le_of_ble_eq_true rfl, Nat.le_of_ble_eq_true rfl⟩ ?_
  rintro _ _ _ ⟨rfl, rfl, rfl⟩
  by_cases h4 : rg kd 0 4 = true
  case neg =>
    refine aw_if_eq (tgt := 46) dX7_bound_41 (by decide) (fun c => absurd c (bn0 h4)) (fun _ => ?_)
    exact bad _ _ (by simp [h4])
  obtain ⟨ep, hp⟩ := isP_N h1
  obtain ⟨es, -, -, hs⟩ := rg_N h2 (by decide)
  obtain ⟨ek, -, -, hk⟩ := rg_N h3 (by decide)
  obtain ⟨ed, -, -, hd⟩ := rg_N h4 (by decide)
  have hj : tN s < sN S := by omega
  have p1 := (hI.2.1.2 _ hj).2.2.1
  have hop : opBound S p s k kd = (if tN kd = 4 ∧ (capP S (tN p) (bndA S (tN s) (tN k) (tN kd)) (bndB S (tN s) (tN k) (tN kd))).1 = 1 then ((capP S (tN p) (bndA S (tN s) (tN k) (tN kd)) (bndB S (tN s) (tN k) (tN kd))).1, setB (capP S (tN p) (bndA S (tN s) (tN k) (tN kd)) (bndB S (tN s) (tN k) (tN kd))).2 (bndBase S (tN s) (tN k) 4)) else capP S (tN p) (bndA S (tN s) (tN k) (tN kd)) (bndB S (tN s) (tN k) (tN kd))) := by unfold opBound; rw [h1, h2, h3, h4]; rfl
  rw [hop] at hQ
  clear bad hop
  generalize tN s = j at *
  generalize tN p = p' at *
  generalize tN k = k' at *
  generalize tN kd = kd' at *
  subst ek ed
  have hO := hS.ou
  have W := LC_W X (sN S)
  have fin : ∀ (A B fd pa pb : Nat) (N1 : NC), CS hc N1 X S → nv (LC X (sN S)) N1 (X + 6) pa A → nv (LC X (sN S)) N1 (X + 8) pb B → 0 < B → pa ≤ 70 → pb ≤ 70 → capP S p' A B = capP S p' (bndA S j k' kd') (bndB S j k' kd') → (kd' = 4 → fd = bndBase S j k' 4) → AW mX7_bound (gq 0 0 Q) 137 [some (.ref X), some (.int p), some (.int s), some (.int (nI k')), some (.int (nI kd')), some (.ref (plb X p')), some (.ref (sob X j + 2)), some (.int (nI fd)), none] [] 0 0 (cn X S) (nh hc (LC X (sN S)) N1) := by
    intro A B fd pa pb N1 hS1 nA nB hB la lb hcap hfd
    rw [← hcap] at hQ
    refine aw_aload_n (i := 0) dX7_bound_137 rfl rfl ?_
    refine aw_getfield fX7_31 dX7_bound_138 (hS1.X0 N1) rfl ?_
    refine aw_invokevirtual kX7_233 dX7_bound_141 (hO.at N1) (ct_X1_capAtOne (cn X S) hc (LC X (sN S)) N1 (X + 5) 0 A B W hO hS1.1 nA.2.1 nB.2.1) rfl rfl (Nat.le_of_ble_eq_true rfl) ⟨Nat.le_of_ble_eq_true rfl, Nat.le_of_ble_eq_true rfl⟩ ⟨Nat.le_of_ble_eq_true rfl, Nat.le_of_ble_eq_true rfl⟩ ?_
    rintro _ _ _ ⟨rfl, rfl, N2, rfl, d6, d8, f2⟩
    have hS2 := hS1.numK (hS1.1.two d6 d8 f2) (fun a ha => f2 a (by omega) (by omega))
    refine aw_aload_n (i := 0) dX7_bound_144 rfl rfl ?_
    refine aw_aload dX7_bound_145 rfl ?_
    refine aw_invokevirtual kX7_197 dX7_bound_147 (hS2.X0 N2) (cp_settle (cn X S) hc N2 X S p' _ _ 70 70 hS2 hp ⟨nA.1, d6, one_lt70 nA.2.2 la⟩ ⟨nB.1, d8, one_lt70 nB.2.2 lb⟩ (by split <;> omega) (by decide) (by decide)) rfl rfl (Nat.le_of_ble_eq_true rfl) ⟨Nat.le_of_ble_eq_true rfl, Nat.le_of_ble_eq_true rfl⟩ ⟨Nat.le_of_ble_eq_true rfl, Nat.le_of_ble_eq_true rfl⟩ ?_
    rintro _ _ h' ⟨rfl, rfl, hR', hF⟩
    rw [capP_put] at hR' ⊢
    have hF' : cfr X (nh hc (LC X (sN S)) N) h' := fun y h1 h2 => by rw [hF y h1 h2]; exact cfr_nh (fun _ _ _ => rfl) y h1 h2
    refine aw_istore_8 dX7_bound_150 (by decide) rfl ?_
    refine aw_iload dX7_bound_152 rfl ?_
    rcases capP_1 S p' A B with e1 | e1
    · rw [e1]
      rw [e1] at hQ
      refine aw_if_le (tgt := 169) dX7_bound_154 (by decide) (fun c => absurd c (by decide +kernel)) (fun _ => ?_)
      refine aw_iload dX7_bound_157 rfl ?_
      refine aw_iconst (v := 4) dX7_bound_159 (by decide +kernel) ?_
      by_cases k4 : kd' = 4
      · rw [if_pos ⟨k4, rfl⟩] at hQ
        rw [hfd k4]
        obtain ⟨hc3, N3, rfl, hS3⟩ := hR'
        generalize hS' : (capP S p' A B).2 = S' at *
        obtain ⟨wt, o2, o3⟩ := hS3.2.1.2.1
        refine aw_icmp_ne (tgt := 169) dX7_bound_160 (by decide) (fun c => absurd c (fun c => c (by rw [k4]; rfl))) (fun _ => ?_)
        refine aw_aload_n (i := 0) dX7_bound_163 rfl rfl ?_
        refine aw_iload dX7_bound_164 rfl ?_
        refine aw_putfield fX7_70 dX7_bound_166 (hS3.X0 N3) rfl rfl (Nat.le_of_ble_eq_true rfl) ?_
        dsimp only [List.set]
        refine AW.hp (upo_X N3 (cob X (setB S' (bndBase S j k' 4)))) ?_
        refine aw_iload dX7_bound_169 rfl ?_
        refine aw_ireturn dX7_bound_171 rfl rfl (Nat.le_of_ble_eq_true rfl) (Nat.le_of_ble_eq_true rfl) ?_
        refine hQ _ _ _ ⟨?_, rfl, ⟨_, N3, rfl, hS3.obj (S' := setB S' (bndBase S j k' 4)) rfl rfl ⟨wt, o2, o3⟩ (fun y _ _ => rfl)⟩, fun y h1 h2 => ?_⟩
        · show cn X S' = cn X S
          rw [← hS']; unfold cn; rw [capP_N]
        · rw [← hF' y h1 h2]
          exact cfr_nh (fun y h1 h2 => by rw [hup_ne (by omega)]) y h1 h2
      · rw [if_neg (fun q => k4 q.1)] at hQ
        refine aw_icmp_ne (tgt := 169) dX7_bound_160 (by decide) (fun _ => ?_) (fun c => ((fun c => k4 ((nI_eq (b := 4) (by omega) (by decide)).mp c)) c).elim)
        refine aw_iload dX7_bound_169 rfl ?_
        refine aw_ireturn dX7_bound_171 rfl rfl (Nat.le_of_ble_eq_true rfl) (Nat.le_of_ble_eq_true rfl) ?_
        refine hQ _ _ _ ⟨?_, by rw [e1], hR', hF'⟩
        unfold cn; rw [capP_N]
    · rw [e1]
      rw [if_neg (fun q => absurd (q.2.symm.trans e1) (by decide))] at hQ
      refine aw_if_le (tgt := 169) dX7_bound_154 (by decide) (fun _ => ?_) (fun c => (c (by decide +kernel)).elim)
      refine aw_iload dX7_bound_169 rfl ?_
      refine aw_ireturn dX7_bound_171 rfl rfl (Nat.le_of_ble_eq_true rfl) (Nat.le_of_ble_eq_true rfl) ?_
      refine hQ _ _ _ ⟨?_, by rw [e1], hR', hF'⟩
      unfold cn; rw [capP_N]
  refine aw_if_eq (tgt := 46) dX7_bound_41 (by decide) (fun _ => ?_) (fun c => (c (bn1 h4)).elim)
  refine aw_iconst (v := 0) dX7_bound_46 (by decide +kernel) ?_
  refine aw_istore_7 dX7_bound_47 (by decide) rfl ?_
  refine aw_aload_n (i := 0) dX7_bound_49 rfl rfl ?_
  refine aw_getfield fX7_52 dX7_bound_50 (hS.X0 N) rfl ?_
  refine aw_aload dX7_bound_53 rfl ?_
  refine aw_iload_n (i := 3) dX7_bound_55 rfl rfl ?_
  refine aw_invokevirtual kX7_219 dX7_bound_56 (hS.mm N) (ct_X2_isAboveMean (cn X S) hc N X j k' S hS hI hj (by omega)) rfl rfl (Nat.le_of_ble_eq_true rfl) ⟨Nat.le_of_ble_eq_true rfl, Nat.le_of_ble_eq_true rfl⟩ ⟨Nat.le_of_ble_eq_true rfl, Nat.le_of_ble_eq_true rfl⟩ ?_
  rintro _ _ _ ⟨rfl, rfl, N1, rfl, A1, f1⟩
  have hS1 := hS.numK A1 f1
  by_cases ha : sS S j < tS S j * k'
  case neg =>
    rw [decide_eq_false ha]
    obtain ⟨b1, b2, b3⟩ := bnd_1 p1 ha kd'
    have b4 := (bnd_1 p1 ha 4).2.2
    refine aw_if_ne (tgt := 74) dX7_bound_59 (by decide) (fun c => absurd c (fun c => c rfl)) (fun _ => ?_)
    refine aw_aload_n (i := 0) dX7_bound_62 rfl rfl ?_
    refine aw_getfield fX7_31 dX7_bound_63 (hS1.X0 _) rfl ?_
    refine aw_iconst (v := 1) dX7_bound_66 (by decide +kernel) ?_
    refine aw_iconst (v := 1) dX7_bound_67 (by decide +kernel) ?_
    refine aw_invokevirtual kX7_195 dX7_bound_68 (hO.at N1) (ct_X1_put (cn X S) hc (LC X (sN S)) N1 (X + 5) 0 1 1 W hO A1 (by decide) (by decide)) rfl rfl (Nat.le_of_ble_eq_true rfl) ⟨Nat.le_of_ble_eq_true rfl, Nat.le_of_ble_eq_true rfl⟩ ⟨Nat.le_of_ble_eq_true rfl, Nat.le_of_ble_eq_true rfl⟩ ?_
    rintro _ _ _ ⟨rfl, rfl, N2, rfl, d6, d8, f2⟩
    refine aw_goto (tgt := 137) dX7_bound_71 (by decide) ?_
    have hS2 := hS1.numK (hS1.1.two d6 d8 f2) (fun a ha => f2 a (by omega) (by omega))
    exact fin 1 1 0 1 1 N2 hS2 ⟨hO.2.2.2.1, d6, by decide⟩ ⟨hO.2.2.2.2, d8, by decide⟩ (by decide) (by decide) (by decide) (by rw [b1, b2]) (fun _ => b4.symm)
  rw [decide_eq_true ha]
  by_cases k0 : kd' = 0
  · refine aw_if_ne (tgt := 74) dX7_bound_59 (by decide) (fun _ => ?_) (fun c => ((show ¬ bI true = 0 by decide +kernel) c).elim)
    refine aw_iload dX7_bound_74 rfl ?_
    refine aw_if_ne (tgt := 96) dX7_bound_76 (by decide) (fun c => absurd c (fun c => c (by rw [k0]; rfl))) (fun _ => ?_)
    refine aw_aload_n (i := 0) dX7_bound_79 rfl rfl ?_
    refine aw_getfield fX7_52 dX7_bound_80 (hS1.X0 _) rfl ?_
    refine aw_aload dX7_bound_83 rfl ?_
    refine aw_iload_n (i := 3) dX7_bound_85 rfl rfl ?_
    refine aw_aload_n (i := 0) dX7_bound_86 rfl rfl ?_
    refine aw_getfield fX7_31 dX7_bound_87 (hS1.X0 _) rfl ?_
    refine aw_invokevirtual kX7_223 dX7_bound_90 (hS.mm _) (ct_X2_boundByMean (cn X S) hc N1 X j k' S hS1 hI hj (by omega)) rfl rfl (Nat.le_of_ble_eq_true rfl) ⟨Nat.le_of_ble_eq_true rfl, Nat.le_of_ble_eq_true rfl⟩ ⟨Nat.le_of_ble_eq_true rfl, Nat.le_of_ble_eq_true rfl⟩ ?_
    rintro _ _ _ ⟨rfl, rfl, N2, rfl, ⟨v6, v8⟩, A2, f2⟩
    refine aw_goto (tgt := 137) dX7_bound_93 (by decide) ?_
    exact fin _ _ 0 9 9 N2 (hS1.numK A2 f2) v6 v8 (by omega) (by decide) (by decide) (by rw [k0]; exact bnd_0 p1 ha p') (fun q => by omega)
  · by_cases k4 : kd' = 4
    · obtain ⟨b1, b2, b3⟩ := bnd_4 hI hj ha p'
      refine aw_if_ne (tgt := 74) dX7_bound_59 (by decide) (fun _ => ?_) (fun c => ((show ¬ bI true = 0 by decide +kernel) c).elim)
      refine aw_iload dX7_bound_74 rfl ?_
      refine aw_if_ne (tgt := 96) dX7_bound_76 (by decide) (fun _ => ?_) (fun c => ((fun c => k0 ((nI_eq (b := 0) (by omega) (by decide)).mp c)) c).elim)
      refine aw_iload dX7_bound_96 rfl ?_
      refine aw_iconst (v := 4) dX7_bound_98 (by decide +kernel) ?_
      refine aw_icmp_ne (tgt := 121) dX7_bound_99 (by decide) (fun c => absurd c (fun c => c (by rw [k4]; rfl))) (fun _ => ?_)
      refine aw_aload_n (i := 0) dX7_bound_102 rfl rfl ?_
      refine aw_getfield fX7_52 dX7_bound_103 (hS1.X0 _) rfl ?_
      refine aw_aload dX7_bound_106 rfl ?_
      refine aw_iload_n (i := 3) dX7_bound_108 rfl rfl ?_
      refine aw_aload_n (i := 0) dX7_bound_109 rfl rfl ?_
      refine aw_getfield fX7_31 dX7_bound_110 (hS1.X0 _) rfl ?_
      refine aw_invokevirtual kX7_226 dX7_bound_113 (hS.mm _) (ct_X2_boundByPowers (cn X S) hc N1 X j k' S hS1 hI hj (by omega)) rfl rfl (Nat.le_of_ble_eq_true rfl) ⟨Nat.le_of_ble_eq_true rfl, Nat.le_of_ble_eq_true rfl⟩ ⟨Nat.le_of_ble_eq_true rfl, Nat.le_of_ble_eq_true rfl⟩ ?_
      rintro _ _ _ ⟨rfl, rfl, N2, rfl, ⟨v6, v8⟩, A2, f2⟩
      refine aw_istore_7 dX7_bound_116 (by decide) rfl ?_
      refine aw_goto (tgt := 137) dX7_bound_118 (by decide) ?_
      exact fin _ _ _ 30 30 N2 (hS1.numK A2 f2) v6 v8 b1 (by decide) (by decide) (by rw [k4]; exact b2) (fun _ => b3.symm)
    · obtain ⟨b1, b2⟩ := bnd_m (e := if kd' = 2 then 4 else 2) p1 ha k0 k4 rfl p'
      refine aw_if_ne (tgt := 74) dX7_bound_59 (by decide) (fun _ => ?_) (fun c => ((show ¬ bI true = 0 by decide +kernel) c).elim)
      refine aw_iload dX7_bound_74 rfl ?_
      refine aw_if_ne (tgt := 96) dX7_bound_76 (by decide) (fun _ => ?_) (fun c => ((fun c => k0 ((nI_eq (b := 0) (by omega) (by decide)).mp c)) c).elim)
      refine aw_iload dX7_bound_96 rfl ?_
      refine aw_iconst (v := 4) dX7_bound_98 (by decide +kernel) ?_
      refine aw_icmp_ne (tgt := 121) dX7_bound_99 (by decide) (fun _ => ?_) (fun c => ((fun c => k4 ((nI_eq (b := 4) (by omega) (by decide)).mp c)) c).elim)
      refine aw_aload_n (i := 0) dX7_bound_121 rfl rfl ?_
      refine aw_getfield fX7_52 dX7_bound_122 (hS1.X0 _) rfl ?_
      refine aw_aload dX7_bound_125 rfl ?_
      refine aw_iload_n (i := 3) dX7_bound_127 rfl rfl ?_
      refine aw_iload dX7_bound_128 rfl ?_
      refine aw_aload_n (i := 0) dX7_bound_130 rfl rfl ?_
      refine aw_getfield fX7_31 dX7_bound_131 (hS1.X0 _) rfl ?_
      refine aw_invokevirtual kX7_230 dX7_bound_134 (hS.mm _) (ct_X2_boundByMoment (cn X S) hc N1 X j k' kd' _ S hS1 hI hj (by omega) (by omega) rfl ha) rfl rfl (Nat.le_of_ble_eq_true rfl) ⟨Nat.le_of_ble_eq_true rfl, Nat.le_of_ble_eq_true rfl⟩ ⟨Nat.le_of_ble_eq_true rfl, Nat.le_of_ble_eq_true rfl⟩ ?_
      rintro _ _ _ ⟨rfl, rfl, N2, rfl, ⟨v6, v8⟩, A2, f2⟩
      exact fin _ _ 0 45 46 N2 (hS1.numK A2 f2) v6 v8 b1 (by decide) (by decide) b2 (fun q => absurd q k4)
