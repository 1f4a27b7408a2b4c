/-- a row lies beside the numbers -/
def nr (L : Nat → Nat) (r : Nat) : Prop := L (r - 1) = 0 ∧ L r = 0 ∧ L (r + 1) = 0
theorem Row.nh {h : Hp} {L : Nat → Nat} {r t w : Nat} {g : Nat → Nat} (hR : Row h r t w g) (hn : nr L r) (C : NC) : Row (nh h L C) r t w g := ⟨by rw [nh_no h C hn.2.1 hn.1]; exact hR.1, by rw [nh_no h C hn.2.2 (by rw [Nat.add_sub_cancel]; exact hn.2.1)]; exact hR.2.1, hR.2.2⟩
theorem nu_row {h : Hp} {L : Nat → Nat} {r t w : Nat} {g : Nat → Nat} (hR : Row h r t w g) (hn : nr L r) (C : NC) (a s : Nat) (gg : Nat → Nat) : nu h L C a s gg (r + 1) = some (iar ((t + 1) * w) g) := (hR.nh hn (va_up C a (s, gg))).2.1
theorem nh_rh {h : Hp} {L : Nat → Nat} {r t w : Nat} {g : Nat → Nat} (hn : nr L r) (C : NC) : rh (nh h L C) r t w g = nh (rh h r t w g) L C := nh_upn h C hn.2.2 (by rw [Nat.add_sub_cancel]; exact hn.2.1) _
theorem ct_X4_addTo (n : Nat) (h : Hp) (L : Nat → Nat) (C : NC) (r t w v a u f : Nat) (g c : Nat → Nat) (W : LW L) (hR : Row h r t w g) (hn : nr L r) (hc : rok t w g c) (hv : v ≤ t) (ha : L a ≠ 0) (hu : num (L a) (C a) u) (hl : w ≤ L a) (hf : f < 2 ^ 31) (hT : u + c v * f < (2 ^ 32) ^ L a) : CT mX4_addTo 0 0 n (nh h L C) [.ref r, .ref a, .int (nI v), .int (nI f)] (nto n h L C a (u + c v * f)) := by
  refine CT.intro [some (.ref r), some (.ref a), some (.int (nI v)), some (.int (nI f))] 0 rfl rfl (by decide) ?_
  intro Q hQ
  obtain ⟨hr, hcl, ht, hw1, hw8⟩ := hR.nh hn C
  have hlen := row_len ht hw8
  have hx := row_ix hv (show w - 1 < w by omega)
  have key := ct_X3_addScaled n h L C a u 0 (r + 1) ((t + 1) * w) (v * w) w f (c v) g W ha hu (fun s gg => nu_row hR hn C a s gg) (by omega) (by omega) (by omega) (fun i hi => hc.1 _ (row_ix hv hi)) (hc.2 v hv) (by omega) (by rw [Nat.pow_zero, Nat.mul_one]; exact hT)
  rw [Nat.pow_zero, Nat.mul_one] at key
  refine aw_aload_n (i := 0) dX4_addTo_0 rfl rfl ?_
  refine aw_iload_n (i := 2) dX4_addTo_1 rfl rfl ?_
  refine aw_invokevirtual kX4_31 dX4_addTo_2 hr (ct_X4_lacks n (nh h L C) r t w v hr (by omega) (by omega)) rfl rfl (Nat.le_of_ble_eq_true rfl) ⟨Nat.le_of_ble_eq_true rfl, Nat.le_of_ble_eq_true rfl⟩ ⟨Nat.le_of_ble_eq_true rfl, Nat.le_of_ble_eq_true rfl⟩ ?_
  rintro _ _ _ ⟨rfl, rfl, rfl⟩
  rw [decide_eq_false (show ¬ t < v by omega)]
  refine aw_if_ne (tgt := 29) dX4_addTo_5 (by decide) (fun c => absurd c (fun q => q rfl)) (fun _ => ?_)
  refine aw_aload_n (i := 1) dX4_addTo_8 rfl rfl ?_
  refine aw_iconst (v := 0) dX4_addTo_9 (by decide +kernel) ?_
  refine aw_aload_n (i := 0) dX4_addTo_10 rfl rfl ?_
  refine aw_getfield fX4_27 dX4_addTo_11 hr rfl ?_
  refine aw_iload_n (i := 2) dX4_addTo_14 rfl rfl ?_
  refine aw_aload_n (i := 0) dX4_addTo_15 rfl rfl ?_
  refine aw_getfield fX4_24 dX4_addTo_16 hr rfl ?_
  refine aw_imul dX4_addTo_19 ?_
  rw [pk_mul]
  refine aw_aload_n (i := 0) dX4_addTo_20 rfl rfl ?_
  refine aw_getfield fX4_24 dX4_addTo_21 hr rfl ?_
  refine aw_iload_n (i := 3) dX4_addTo_24 rfl rfl ?_
  refine aw_i2l dX4_addTo_25 rfl ?_
  rw [nI_l hf]
  refine aw_invokevirtual kX4_50 dX4_addTo_26 (nh_o h C ha) key rfl rfl (Nat.le_of_ble_eq_true rfl) ⟨Nat.le_of_ble_eq_true rfl, Nat.le_of_ble_eq_true rfl⟩ ⟨Nat.le_of_ble_eq_true rfl, Nat.le_of_ble_eq_true rfl⟩ ?_
  rintro _ _ _ ⟨rfl, rfl, hC⟩
  refine aw_return dX4_addTo_29 rfl (Nat.le_of_ble_eq_true rfl) (Nat.le_of_ble_eq_true rfl) ?_
  exact hQ _ _ _ ⟨rfl, rfl, hC⟩
theorem lsh1 {R : Nat} (hR : R < 32) : (1 : Int64) <<< ((nI R).toInt64 &&& 63) = lN (2 ^ R) := by
  have := lshlN 1 (show R < 64 by omega)
  rw [Nat.one_mul] at this
  exact this
theorem ct_X4_addShiftedTo (n : Nat) (h : Hp) (L : Nat → Nat) (C : NC) (r t w v a u sh : Nat) (g c : Nat → Nat) (W : LW L) (hR : Row h r t w g) (hn : nr L r) (hc : rok t w g c) (hv : v ≤ t) (ha : L a ≠ 0) (hu : num (L a) (C a) u) (hsh : sh < 2304) (hl : sh / 32 + w ≤ L a) (hT : u + c v * 2 ^ sh < (2 ^ 32) ^ L a) : CT mX4_addShiftedTo 0 0 n (nh h L C) [.ref r, .ref a, .int (nI v), .int (nI sh)] (nto n h L C a (u + c v * 2 ^ sh)) := by
  refine CT.intro [some (.ref r), some (.ref a), some (.int (nI v)), some (.int (nI sh))] 0 rfl rfl (by decide) ?_
  intro Q hQ
  obtain ⟨hr, hcl, ht, hw1, hw8⟩ := hR.nh hn C
  have hlen := row_len ht hw8
  have hx := row_ix hv (show w - 1 < w by omega)
  have e : c v * 2 ^ (sh % 32) * (2 ^ 32) ^ (sh / 32) = c v * 2 ^ sh := by
    rw [p32, Nat.mul_assoc, ← Nat.pow_add]; congr 2; omega
  have hp : 2 ^ (sh % 32) ≤ 2 ^ 31 := Nat.pow_le_pow_right (by decide) (by omega)
  have key := ct_X3_addScaled n h L C a u (sh / 32) (r + 1) ((t + 1) * w) (v * w) w (2 ^ (sh % 32)) (c v) g W ha hu (fun s gg => nu_row hR hn C a s gg) (by omega) (by omega) hl (fun i hi => hc.1 _ (row_ix hv hi)) (hc.2 v hv) hp (by rw [e]; exact hT)
  rw [e] at key
  refine aw_aload_n (i := 0) dX4_addShiftedTo_0 rfl rfl ?_
  refine aw_iload_n (i := 2) dX4_addShiftedTo_1 rfl rfl ?_
  refine aw_invokevirtual kX4_31 dX4_addShiftedTo_2 hr (ct_X4_lacks n (nh h L C) r t w v hr (by omega) (by omega)) rfl rfl (Nat.le_of_ble_eq_true rfl) ⟨Nat.le_of_ble_eq_true rfl, Nat.le_of_ble_eq_true rfl⟩ ⟨Nat.le_of_ble_eq_true rfl, Nat.le_of_ble_eq_true rfl⟩ ?_
  rintro _ _ _ ⟨rfl, rfl, rfl⟩
  rw [decide_eq_false (show ¬ t < v by omega)]
  refine aw_if_ne (tgt := 35) dX4_addShiftedTo_5 (by decide) (fun c => absurd c (fun q => q rfl)) (fun _ => ?_)
  refine aw_aload_n (i := 1) dX4_addShiftedTo_8 rfl rfl ?_
  refine aw_iload_n (i := 3) dX4_addShiftedTo_9 rfl rfl ?_
  refine aw_iconst (v := 5) dX4_addShiftedTo_10 (by decide +kernel) ?_
  refine aw_ishr dX4_addShiftedTo_11 ?_
  rw [ishr5 (by omega)]
  refine aw_aload_n (i := 0) dX4_addShiftedTo_12 rfl rfl ?_
  refine aw_getfield fX4_27 dX4_addShiftedTo_13 hr rfl ?_
  refine aw_iload_n (i := 2) dX4_addShiftedTo_16 rfl rfl ?_
  refine aw_aload_n (i := 0) dX4_addShiftedTo_17 rfl rfl ?_
  refine aw_getfield fX4_24 dX4_addShiftedTo_18 hr rfl ?_
  refine aw_imul dX4_addShiftedTo_21 ?_
  rw [pk_mul]
  refine aw_aload_n (i := 0) dX4_addShiftedTo_22 rfl rfl ?_
  refine aw_getfield fX4_24 dX4_addShiftedTo_23 hr rfl ?_
  refine aw_lconst (v := 1) dX4_addShiftedTo_26 (by decide) ?_
  refine aw_iload_n (i := 3) dX4_addShiftedTo_27 rfl rfl ?_
  refine aw_bipush (v := 31) dX4_addShiftedTo_28 (by decide +kernel) ?_
  refine aw_iand dX4_addShiftedTo_30 ?_
  rw [iand31 (by omega)]
  refine aw_lshl dX4_addShiftedTo_31 rfl ?_
  rw [lsh1 (show sh % 32 < 32 from Nat.mod_lt _ (by decide))]
  refine aw_invokevirtual kX4_50 dX4_addShiftedTo_32 (nh_o h C ha) key rfl rfl (Nat.le_of_ble_eq_true rfl) ⟨Nat.le_of_ble_eq_true rfl, Nat.le_of_ble_eq_true rfl⟩ ⟨Nat.le_of_ble_eq_true rfl, Nat.le_of_ble_eq_true rfl⟩ ?_
  rintro _ _ _ ⟨rfl, rfl, hC⟩
  refine aw_return dX4_addShiftedTo_35 rfl (Nat.le_of_ble_eq_true rfl) (Nat.le_of_ble_eq_true rfl) ?_
  exact hQ _ _ _ ⟨rfl, rfl, hC⟩
/-- one round more: the first k shares -/
def rnd (c sh : Nat → Nat) (k v : Nat) : Nat := sg (fun i => if i ≤ v then c (v - i) * sh i else 0) k
/-- a sum of digits, digit by digit -/
theorem bv_sg {B : Nat} (f : Nat → Nat → Nat) (k : Nat) : ∀ n, bv B (fun j => sg (fun i => f i j) k) n = sg (fun i => bv B (f i) n) k
  | 0 => by rw [bv_0]; exact (sg_zero (fun i _ => bv_0 _ _)).symm
  | n + 1 => by
    rw [bv_s, bv_sg f k n, ← sg_mul, ← sg_add]
    exact sg_congr (fun i _ => (bv_s _ _ _).symm)
theorem bv_mul {B : Nat} (g : Nat → Nat) (m : Nat) : ∀ n, bv B (fun j => g j * m) n = bv B g n * m
  | 0 => by rw [bv_0, bv_0, Nat.zero_mul]
  | n + 1 => by
    rw [bv_s, bv_s, bv_mul g m n, Nat.add_mul]
    congr 1
    ac_rfl
theorem ct_X4_addRound (n : Nat) (h : Hp) (r t w q ls k rc : Nat) (g c sh : Nat → Nat) (hR : Row h r t w g) (hc : rok t w g c) (hq : h q = some (iar ls sh)) (hqr : q ≠ r + 1) (hk : k ≤ ls) (hls : ls ≤ 8) (hsh : ∀ i, i < k → sh i ≤ 1000) (hrc : rc ≤ t) (hfit : ∀ v, v ≤ rc → rnd c sh k v < (2 ^ 32) ^ w) : CT mX4_addRound 0 0 n h [.ref r, .ref q, .int (nI k), .int (nI rc)] (rto n h r t w (fun v => if v ≤ rc then rnd c sh k v else c v)) := by
  refine CT.intro [some (.ref r), some (.ref q), some (.int (nI k)), some (.int (nI rc)), none, none, none, none, none, none] 6 rfl rfl (by decide) ?_
  intro Q hQ
  obtain ⟨hr, hcl, ht, hw1, hw8⟩ := id hR
  have hlen := row_len ht hw8
  refine AW.hp (rh_id hR) ?_
  have hq' : ∀ {g : Nat → Nat}, rh h r t w g q = some (iar ls sh) := by intro g; rw [rh_x hqr]; exact hq
  refine aw_iload_n (i := 2) dX4_addRound_0 rfl rfl ?_
  refine aw_aload_n (i := 1) dX4_addRound_1 rfl rfl ?_
  refine aw_arraylength dX4_addRound_2 hq' ?_
  refine aw_mmin kX4_9 mathmin_s math_i mathmin_c dX4_addRound_3 (by decide) (Nat.le_of_ble_eq_true rfl) (Nat.le_of_ble_eq_true rfl) (Nat.le_of_ble_eq_true rfl) ?_
  dsimp only
  rw [mminN (by omega) (by omega), Nat.min_eq_left hk]
  refine aw_istore_4 dX4_addRound_6 (by decide) rfl ?_
  refine aw_iload_n (i := 3) dX4_addRound_8 rfl rfl ?_
  refine aw_aload_n (i := 0) dX4_addRound_9 rfl rfl ?_
  refine aw_getfield fX4_18 dX4_addRound_10 (rh_o hr) rfl ?_
  refine aw_mmin kX4_9 mathmin_s math_i mathmin_c dX4_addRound_13 (by decide) (Nat.le_of_ble_eq_true rfl) (Nat.le_of_ble_eq_true rfl) (Nat.le_of_ble_eq_true rfl) ?_
  rw [mminN (by omega) (by omega), Nat.min_eq_left hrc]
  refine aw_istore_5 dX4_addRound_16 (by decide) rfl ?_
  -- from the highest value down
  have outer : ∀ (m : Nat) (g' : Nat → Nat) (y6 y8 y9 : Option Value), m ≤ rc + 1 → rok t w g' (fun v => if m ≤ v ∧ v ≤ rc then rnd c sh k v else c v) → AW mX4_addRound (gq 0 0 Q) 18 [some (.ref r), some (.ref q), some (.int (nI k)), some (.int (nI rc)), some (.int (nI k)), some (.int (pI m)), y6, none, y8, y9] [] 0 0 n (rh h r t w g') := by
    intro m
    induction m with
    | zero =>
      intro g' y6 y8 y9 hm hr2
      refine aw_iload dX4_addRound_18 rfl ?_
      refine aw_if_lt (tgt := 132) dX4_addRound_20 (by decide) (fun _ => ?_) (fun c => (c ((pI_lt0 (by decide)).mpr rfl)).elim)
      refine aw_return dX4_addRound_132 rfl (Nat.le_of_ble_eq_true rfl) (Nat.le_of_ble_eq_true rfl) ?_
      exact hQ _ _ _ ⟨rfl, rfl, _, rfl, rok_congr hr2 (fun v hv => by simp)⟩
    | succ m ihm =>
      intro g' y6 y8 y9 hm hr2
      rw [pI_s]
      refine aw_iload dX4_addRound_18 rfl ?_
      refine aw_if_lt (tgt := 132) dX4_addRound_20 (by decide) (fun c => absurd c (nI_pos (by omega))) (fun _ => ?_)
      refine aw_lconst (v := 0) dX4_addRound_23 (by decide) ?_
      refine aw_lstore_6 dX4_addRound_24 (by decide) rfl ?_
      refine aw_iconst (v := 0) dX4_addRound_26 (by decide +kernel) ?_
      refine aw_istore_8 dX4_addRound_27 (by decide) rfl ?_
      -- old digits of the values up to m
      have old : ∀ v, v ≤ m → bv (2 ^ 32) (fun i => g' (v * w + i)) w = c v := fun v hv => by
        have := hr2.2 v (by omega)
        dsimp only at this
        rw [if_neg (by omega)] at this
        exact this
      have hT := hfit m (by omega)
      obtain ⟨S, hS⟩ : ∃ S : Nat → Nat, S = fun j => sg (fun i => if i ≤ m then g' ((m - i) * w + j) * sh i else 0) k := ⟨_, rfl⟩
      have hSv : bv (2 ^ 32) S w = rnd c sh k m := by
        rw [hS, bv_sg (fun i j => if i ≤ m then g' ((m - i) * w + j) * sh i else 0) k]
        refine sg_congr (fun i hi => ?_)
        by_cases him : i ≤ m
        · simp only [if_pos him]
          rw [bv_mul (fun j => g' ((m - i) * w + j)) (sh i), old _ (by omega)]
        · simp only [if_neg him]
          exact bv_zero (fun _ _ => rfl)
      have hterm : ∀ j i, j < w → i < k → (if i ≤ m then g' ((m - i) * w + j) * sh i else 0) ≤ 2 ^ 32 * 1000 := fun j i hj hi => by
        split
        · have := hr2.1 _ (row_ix (show m - i ≤ t by omega) hj)
          exact Nat.mul_le_mul (by omega) (hsh i hi)
        · exact Nat.zero_le _
      have mid : ∀ (p j : Nat) (g2 : Nat → Nat) (x : Nat) (y9 : Option Value), j + p = w → (∀ i, i < (t + 1) * w → g2 i < 2 ^ 32) → (∀ u, u ≠ m → ∀ i, i < w → g2 (u * w + i) = g' (u * w + i)) → (∀ i, j ≤ i → i < w → g2 (m * w + i) = g' (m * w + i)) → x < 2 ^ 32 → bv (2 ^ 32) (fun i => g2 (m * w + i)) j + x * (2 ^ 32) ^ j = bv (2 ^ 32) S j → AW mX4_addRound (gq 0 0 Q) 29 [some (.ref r), some (.ref q), some (.int (nI k)), some (.int (nI rc)), some (.int (nI k)), some (.int (nI m)), some (.long (lN x)), none, some (.int (nI j)), y9] [] 0 0 n (rh h r t w g2) := by
        intro p
        induction p with
        | zero =>
          intro j g2 x y9 hj h1 h2 h3 hx hb
          obtain rfl : j = w := by omega
          have hx0 : x = 0 := by
            rcases Nat.eq_zero_or_pos x with z | z
            · exact z
            · have h4 : ((2 : Nat) ^ 32) ^ j ≤ x * (2 ^ 32) ^ j := Nat.le_mul_of_pos_left _ z
              omega
          rw [hx0, Nat.zero_mul, Nat.add_zero, hSv] at hb
          refine aw_iload dX4_addRound_29 rfl ?_
          refine aw_aload_n (i := 0) dX4_addRound_31 rfl rfl ?_
          refine aw_getfield fX4_24 dX4_addRound_32 (rh_o hr) rfl ?_
          refine aw_icmp_ge (tgt := 126) dX4_addRound_35 (by decide) (fun _ => ?_) (fun c => (c (nI_le (Nat.le_refl _) (by omega))).elim)
          refine aw_iinc_5 (c0 := (-1)) dX4_addRound_126 (by decide) (by decide) rfl ?_
          refine aw_goto (tgt := 18) dX4_addRound_129 (by decide) ?_
          rw [pI_d]
          refine ihm g2 _ _ _ (by omega) ⟨h1, fun v hv => ?_⟩
          show _ = if m ≤ v ∧ v ≤ rc then rnd c sh k v else c v
          by_cases hvm : v = m
          · rw [hvm, if_pos (by omega)]; exact hb
          · rw [bv_congr (fun i hi => h2 v hvm i hi), hr2.2 v hv]
            show (if m + 1 ≤ v ∧ v ≤ rc then rnd c sh k v else c v) = _
            by_cases hh : m ≤ v ∧ v ≤ rc
            · rw [if_pos hh, if_pos (by omega)]
            · rw [if_neg hh, if_neg (by omega)]
        | succ p ihp =>
          intro j g2 x y9 hj h1 h2 h3 hx hb
          have hSj : S j ≤ 2 ^ 32 * 1000 * k := by rw [hS]; exact sg_bound (fun i hi => hterm j i (by omega) hi)
          have hSj2 : S j ≤ 2 ^ 32 * 1000 * 8 := Nat.le_trans hSj (Nat.mul_le_mul_left _ (by omega))
          refine aw_iload dX4_addRound_29 rfl ?_
          refine aw_aload_n (i := 0) dX4_addRound_31 rfl rfl ?_
          refine aw_getfield fX4_24 dX4_addRound_32 (rh_o hr) rfl ?_
          refine aw_icmp_ge (tgt := 126) dX4_addRound_35 (by decide) (fun c => absurd c (nI_ge (by omega) (by omega))) (fun _ => ?_)
          refine aw_iconst (v := 0) dX4_addRound_38 (by decide +kernel) ?_
          refine aw_istore_9 dX4_addRound_39 (by decide) rfl ?_
          have inner : ∀ (z i : Nat), i + z = k → AW mX4_addRound (gq 0 0 Q) 41 [some (.ref r), some (.ref q), some (.int (nI k)), some (.int (nI rc)), some (.int (nI k)), some (.int (nI m)), some (.long (lN (x + sg (fun i => if i ≤ m then g' ((m - i) * w + j) * sh i else 0) i))), none, some (.int (nI j)), some (.int (nI i))] [] 0 0 n (rh h r t w g2) := by
            -- the digit is written
            have wr : ∀ (y : Nat) (y9 : Option Value), y = x + S j → AW mX4_addRound (gq 0 0 Q) 95 [some (.ref r), some (.ref q), some (.int (nI k)), some (.int (nI rc)), some (.int (nI k)), some (.int (nI m)), some (.long (lN y)), none, some (.int (nI j)), y9] [] 0 0 n (rh h r t w g2) := by
              intro y y9 hy
              have hy2 : y < 2 ^ 64 := by omega
              have hx2 := row_ix (show m ≤ t by omega) (show j < w by omega)
              refine aw_aload_n (i := 0) dX4_addRound_95 rfl rfl ?_
              refine aw_getfield fX4_27 dX4_addRound_96 (rh_o hr) rfl ?_
              refine aw_iload dX4_addRound_99 rfl ?_
              refine aw_aload_n (i := 0) dX4_addRound_101 rfl rfl ?_
              refine aw_getfield fX4_24 dX4_addRound_102 (rh_o hr) rfl ?_
              refine aw_imul dX4_addRound_105 ?_
              refine aw_iload dX4_addRound_106 rfl ?_
              refine aw_iadd dX4_addRound_108 ?_
              rw [pk_mul, nI_add]
              refine aw_lload dX4_addRound_109 rfl ?_
              refine aw_l2i dX4_addRound_111 rfl ?_
              rw [lN_l2i]
              refine aw_iast dX4_addRound_112 (m * w + j) _ rfl rh_a (nI_toInt (by omega)) hx2 ?_
              refine AW.hp rh_up ?_
              refine aw_lload dX4_addRound_113 rfl ?_
              refine aw_bipush (v := 32) dX4_addRound_115 (by decide +kernel) ?_
              refine aw_lushr dX4_addRound_117 rfl ?_
              rw [lN_u32 hy2]
              refine aw_lstore_6 dX4_addRound_118 (by decide) rfl ?_
              refine aw_iinc_8 (c0 := 1) dX4_addRound_120 (by decide) (by decide) rfl ?_
              refine aw_goto (tgt := 29) dX4_addRound_123 (by decide) ?_
              rw [nI_1]
              refine ihp (j + 1) _ _ _ (by omega) (raw_up (s := 0) h1 (Nat.mod_lt _ (by decide))) (fun u hu i hi => by rw [va_up_off (row_ne hu hi (by omega))]; exact h2 u hu i hi) (fun i i1 i2 => by rw [va_up_off (by omega)]; exact h3 i (by omega) i2) (by omega) ?_
              have e1 : bv (2 ^ 32) (fun i => va_up g2 (m * w + j) (y % 2 ^ 32) (m * w + i)) j = bv (2 ^ 32) (fun i => g2 (m * w + i)) j := bv_congr (fun i hi => va_up_off (by omega))
              have e2 := carry_step (B := 2 ^ 32) (P := (2 ^ 32) ^ j) (s := y) rfl rfl
              rw [bv_s, bv_s, va_up_at, e1, p32s, Nat.add_assoc, e2, hy, Nat.add_mul]
              omega
            intro z
            induction z with
            | zero =>
              intro i hi
              obtain rfl : i = k := by omega
              refine aw_iload dX4_addRound_41 rfl ?_
              refine aw_iload dX4_addRound_43 rfl ?_
              refine aw_icmp_ge (tgt := 95) dX4_addRound_45 (by decide) (fun _ => ?_) (fun c => (c (nI_le (Nat.le_refl _) (by omega))).elim)
              exact wr _ _ (by rw [hS])
            | succ z ihz =>
              intro i hi
              have hs := ihz (i + 1) (by omega)
              rw [sg_s] at hs
              refine aw_iload dX4_addRound_41 rfl ?_
              refine aw_iload dX4_addRound_43 rfl ?_
              refine aw_icmp_ge (tgt := 95) dX4_addRound_45 (by decide) (fun c => absurd c (nI_ge (by omega) (by omega))) (fun _ => ?_)
              refine aw_iload dX4_addRound_48 rfl ?_
              refine aw_iload dX4_addRound_50 rfl ?_
              by_cases him : i ≤ m
              · rw [if_pos him, ← Nat.add_assoc] at hs
                have hx3 := row_ix (show m - i ≤ t by omega) (show j < w by omega)
                have hdig : g2 ((m - i) * w + j) = g' ((m - i) * w + j) := by
                  by_cases hi0 : i = 0
                  · rw [hi0, Nat.sub_zero]; exact h3 j (Nat.le_refl _) (by omega)
                  · exact h2 (m - i) (by omega) j (by omega)
                have hsi := hsh i (by omega)
                refine aw_icmp_gt (tgt := 95) dX4_addRound_52 (by decide) (fun c => absurd c (nI_nlt (by omega) (by omega))) (fun _ => ?_)
                refine aw_lload dX4_addRound_55 rfl ?_
                refine aw_aload_n (i := 0) dX4_addRound_57 rfl rfl ?_
                refine aw_getfield fX4_27 dX4_addRound_58 (rh_o hr) rfl ?_
                refine aw_iload dX4_addRound_61 rfl ?_
                refine aw_iload dX4_addRound_63 rfl ?_
                refine aw_isub dX4_addRound_65 ?_
                refine aw_aload_n (i := 0) dX4_addRound_66 rfl rfl ?_
                refine aw_getfield fX4_24 dX4_addRound_67 (rh_o hr) rfl ?_
                refine aw_imul dX4_addRound_70 ?_
                refine aw_iload dX4_addRound_71 rfl ?_
                refine aw_iadd dX4_addRound_73 ?_
                rw [pk_sub him, pk_mul, nI_add]
                refine aw_iald dX4_addRound_74 ((m - i) * w + j) rh_a (nI_toInt (by omega)) hx3 ?_
                refine aw_i2l dX4_addRound_75 rfl ?_
                refine aw_ldc2_w qX4_35 dX4_addRound_76 ?_
                refine aw_land dX4_addRound_79 ?_
                rw [hdig, lo32 (hr2.1 _ hx3)]
                refine aw_aload_n (i := 1) dX4_addRound_80 rfl rfl ?_
                refine aw_iload dX4_addRound_81 rfl ?_
                refine aw_iald dX4_addRound_83 i hq' (nI_toInt (by omega)) (by omega) ?_
                refine aw_i2l dX4_addRound_84 rfl ?_
                rw [nI_l (show sh i < 2 ^ 31 by omega)]
                refine aw_lmul dX4_addRound_85 ?_
                refine aw_ladd dX4_addRound_86 ?_
                rw [lN_mul, lN_add]
                refine aw_lstore_6 dX4_addRound_87 (by decide) rfl ?_
                refine aw_iinc_9 (c0 := 1) dX4_addRound_89 (by decide) (by decide) rfl ?_
                refine aw_goto (tgt := 41) dX4_addRound_92 (by decide) ?_
                rw [nI_1]
                exact hs
              · refine aw_icmp_gt (tgt := 95) dX4_addRound_52 (by decide) (fun _ => ?_) (fun c => (c (nI_lt (by omega) (by omega))).elim)
                refine wr _ _ ?_
                rw [hS]
                congr 1
                exact (sg_high (by omega) (fun i' h5 _ => if_neg (by omega))).symm
          have := inner k 0 (by omega)
          rw [sg_0, Nat.add_zero] at this
          exact this
      refine AW.forget [some (.ref r), some (.ref q), some (.int (nI k)), some (.int (nI rc)), some (.int (nI k)), some (.int (nI m)), some (.long (lN 0)), none, some (.int (nI 0)), y9] ?_ ?_
      · exact ⟨rfl, rfl, rfl, rfl, rfl, rfl, rfl, rfl, by cases y9 <;> first | trivial | exact ⟨rfl, trivial⟩⟩
      · exact mid w 0 g' 0 y9 (by omega) hr2.1 (fun _ _ _ _ => rfl) (fun _ _ _ => rfl) (by decide) (by simp [bv_0])
  have := outer (rc + 1) g none none none (by omega) (rok_congr hc (fun v hv => if_neg (by omega)))
  rw [pI_s] at this
  exact this
